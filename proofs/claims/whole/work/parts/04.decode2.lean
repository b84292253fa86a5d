theorem dX7_cut_0 : decode cX7_cut 0 = .ok (.iload_n 1, 1) := by decide +kernel
theorem dX7_cut_1 : decode cX7_cut 1 = .ok (.invokestatic 128, 3) := by decide +kernel
theorem dX7_cut_4 : decode cX7_cut 4 = .ok (.ifCond .eq 19, 3) := by decide +kernel
theorem dX7_cut_7 : decode cX7_cut 7 = .ok (.aload_n 0, 1) := by decide +kernel
theorem dX7_cut_8 : decode cX7_cut 8 = .ok (.iload_n 1, 1) := by decide +kernel
theorem dX7_cut_9 : decode cX7_cut 9 = .ok (.iconst 1, 1) := by decide +kernel
theorem dX7_cut_10 : decode cX7_cut 10 = .ok (.aload_n 0, 1) := by decide +kernel
theorem dX7_cut_11 : decode cX7_cut 11 = .ok (.invokevirtual 87, 3) := by decide +kernel
theorem dX7_cut_14 : decode cX7_cut 14 = .ok (.bipush (-2), 2) := by decide +kernel
theorem dX7_cut_16 : decode cX7_cut 16 = .ok (.iand, 1) := by decide +kernel
theorem dX7_cut_17 : decode cX7_cut 17 = .ok (.invokevirtual 159, 3) := by decide +kernel
theorem dX7_cut_20 : decode cX7_cut 20 = .ok (.goto 4, 3) := by decide +kernel
theorem dX7_cut_23 : decode cX7_cut 23 = .ok (.iconst (-1), 1) := by decide +kernel
theorem dX7_cut_24 : decode cX7_cut 24 = .ok (.ireturn, 1) := by decide +kernel
theorem dX7_cover_0 : decode cX7_cover 0 = .ok (.iload_n 1, 1) := by decide +kernel
theorem dX7_cover_1 : decode cX7_cover 1 = .ok (.invokestatic 128, 3) := by decide +kernel
theorem dX7_cover_4 : decode cX7_cover 4 = .ok (.ifCond .eq 16, 3) := by decide +kernel
theorem dX7_cover_7 : decode cX7_cover 7 = .ok (.aload_n 0, 1) := by decide +kernel
theorem dX7_cover_8 : decode cX7_cover 8 = .ok (.iload_n 1, 1) := by decide +kernel
theorem dX7_cover_9 : decode cX7_cover 9 = .ok (.iconst 2, 1) := by decide +kernel
theorem dX7_cover_10 : decode cX7_cover 10 = .ok (.aload_n 0, 1) := by decide +kernel
theorem dX7_cover_11 : decode cX7_cover 11 = .ok (.invokevirtual 87, 3) := by decide +kernel
theorem dX7_cover_14 : decode cX7_cover 14 = .ok (.invokevirtual 159, 3) := by decide +kernel
theorem dX7_cover_17 : decode cX7_cover 17 = .ok (.goto 4, 3) := by decide +kernel
theorem dX7_cover_20 : decode cX7_cover 20 = .ok (.iconst (-1), 1) := by decide +kernel
theorem dX7_cover_21 : decode cX7_cover 21 = .ok (.ireturn, 1) := by decide +kernel
theorem dX7_capped_0 : decode cX7_capped 0 = .ok (.iload_n 1, 1) := by decide +kernel
theorem dX7_capped_1 : decode cX7_capped 1 = .ok (.invokestatic 128, 3) := by decide +kernel
theorem dX7_capped_4 : decode cX7_capped 4 = .ok (.ifCond .eq 16, 3) := by decide +kernel
theorem dX7_capped_7 : decode cX7_capped 7 = .ok (.aload_n 0, 1) := by decide +kernel
theorem dX7_capped_8 : decode cX7_capped 8 = .ok (.iload_n 1, 1) := by decide +kernel
theorem dX7_capped_9 : decode cX7_capped 9 = .ok (.iconst 3, 1) := by decide +kernel
theorem dX7_capped_10 : decode cX7_capped 10 = .ok (.aload_n 0, 1) := by decide +kernel
theorem dX7_capped_11 : decode cX7_capped 11 = .ok (.invokevirtual 87, 3) := by decide +kernel
theorem dX7_capped_14 : decode cX7_capped 14 = .ok (.invokevirtual 159, 3) := by decide +kernel
theorem dX7_capped_17 : decode cX7_capped 17 = .ok (.goto 4, 3) := by decide +kernel
theorem dX7_capped_20 : decode cX7_capped 20 = .ok (.iconst (-1), 1) := by decide +kernel
theorem dX7_capped_21 : decode cX7_capped 21 = .ok (.ireturn, 1) := by decide +kernel
theorem dX7_weighed_0 : decode cX7_weighed 0 = .ok (.iload_n 1, 1) := by decide +kernel
theorem dX7_weighed_1 : decode cX7_weighed 1 = .ok (.invokestatic 128, 3) := by decide +kernel
theorem dX7_weighed_4 : decode cX7_weighed 4 = .ok (.ifCond .eq 20, 3) := by decide +kernel
theorem dX7_weighed_7 : decode cX7_weighed 7 = .ok (.aload_n 0, 1) := by decide +kernel
theorem dX7_weighed_8 : decode cX7_weighed 8 = .ok (.iload_n 1, 1) := by decide +kernel
theorem dX7_weighed_9 : decode cX7_weighed 9 = .ok (.iconst 4, 1) := by decide +kernel
theorem dX7_weighed_10 : decode cX7_weighed 10 = .ok (.aload_n 0, 1) := by decide +kernel
theorem dX7_weighed_11 : decode cX7_weighed 11 = .ok (.invokevirtual 87, 3) := by decide +kernel
theorem dX7_weighed_14 : decode cX7_weighed 14 = .ok (.invokevirtual 159, 3) := by decide +kernel
theorem dX7_weighed_17 : decode cX7_weighed 17 = .ok (.sipush 1000, 3) := by decide +kernel
theorem dX7_weighed_20 : decode cX7_weighed 20 = .ok (.iadd, 1) := by decide +kernel
theorem dX7_weighed_21 : decode cX7_weighed 21 = .ok (.goto 4, 3) := by decide +kernel
theorem dX7_weighed_24 : decode cX7_weighed 24 = .ok (.iconst (-1), 1) := by decide +kernel
theorem dX7_weighed_25 : decode cX7_weighed 25 = .ok (.ireturn, 1) := by decide +kernel
theorem dX7_sum_0 : decode cX7_sum 0 = .ok (.iload_n 1, 1) := by decide +kernel
theorem dX7_sum_1 : decode cX7_sum 1 = .ok (.invokestatic 128, 3) := by decide +kernel
theorem dX7_sum_4 : decode cX7_sum 4 = .ok (.ifCond .eq 17, 3) := by decide +kernel
theorem dX7_sum_7 : decode cX7_sum 7 = .ok (.iload_n 2, 1) := by decide +kernel
theorem dX7_sum_8 : decode cX7_sum 8 = .ok (.invokestatic 128, 3) := by decide +kernel
theorem dX7_sum_11 : decode cX7_sum 11 = .ok (.ifCond .eq 10, 3) := by decide +kernel
theorem dX7_sum_14 : decode cX7_sum 14 = .ok (.iload_n 3, 1) := by decide +kernel
theorem dX7_sum_15 : decode cX7_sum 15 = .ok (.invokestatic 128, 3) := by decide +kernel
theorem dX7_sum_18 : decode cX7_sum 18 = .ok (.ifCond .ne 5, 3) := by decide +kernel
theorem dX7_sum_21 : decode cX7_sum 21 = .ok (.iconst (-1), 1) := by decide +kernel
theorem dX7_sum_22 : decode cX7_sum 22 = .ok (.ireturn, 1) := by decide +kernel
theorem dX7_sum_23 : decode cX7_sum 23 = .ok (.aload_n 0, 1) := by decide +kernel
theorem dX7_sum_24 : decode cX7_sum 24 = .ok (.iload_n 1, 1) := by decide +kernel
theorem dX7_sum_25 : decode cX7_sum 25 = .ok (.invokevirtual 163, 3) := by decide +kernel
theorem dX7_sum_28 : decode cX7_sum 28 = .ok (.ifCond .eq 11, 3) := by decide +kernel
theorem dX7_sum_31 : decode cX7_sum 31 = .ok (.aload_n 0, 1) := by decide +kernel
theorem dX7_sum_32 : decode cX7_sum 32 = .ok (.iload_n 2, 1) := by decide +kernel
theorem dX7_sum_33 : decode cX7_sum 33 = .ok (.invokevirtual 163, 3) := by decide +kernel
theorem dX7_sum_36 : decode cX7_sum 36 = .ok (.ifCond .ne 6, 3) := by decide +kernel
theorem dX7_sum_39 : decode cX7_sum 39 = .ok (.bipush (-11), 2) := by decide +kernel
theorem dX7_sum_41 : decode cX7_sum 41 = .ok (.ireturn, 1) := by decide +kernel
theorem dX7_sum_42 : decode cX7_sum 42 = .ok (.iconst 0, 1) := by decide +kernel
theorem dX7_sum_43 : decode cX7_sum 43 = .ok (.istore 4, 2) := by decide +kernel
theorem dX7_sum_45 : decode cX7_sum 45 = .ok (.iload 4, 2) := by decide +kernel
theorem dX7_sum_47 : decode cX7_sum 47 = .ok (.aload_n 0, 1) := by decide +kernel
theorem dX7_sum_48 : decode cX7_sum 48 = .ok (.invokevirtual 83, 3) := by decide +kernel
theorem dX7_sum_51 : decode cX7_sum 51 = .ok (.if_icmp .ge 35, 3) := by decide +kernel
theorem dX7_sum_54 : decode cX7_sum 54 = .ok (.aload_n 0, 1) := by decide +kernel
theorem dX7_sum_55 : decode cX7_sum 55 = .ok (.getfield 42, 3) := by decide +kernel
theorem dX7_sum_58 : decode cX7_sum 58 = .ok (.iload 4, 2) := by decide +kernel
theorem dX7_sum_60 : decode cX7_sum 60 = .ok (.aload_n 0, 1) := by decide +kernel
theorem dX7_sum_61 : decode cX7_sum 61 = .ok (.getfield 39, 3) := by decide +kernel
theorem dX7_sum_64 : decode cX7_sum 64 = .ok (.iload_n 1, 1) := by decide +kernel
theorem dX7_sum_65 : decode cX7_sum 65 = .ok (.aaload, 1) := by decide +kernel
theorem dX7_sum_66 : decode cX7_sum 66 = .ok (.iload 4, 2) := by decide +kernel
theorem dX7_sum_68 : decode cX7_sum 68 = .ok (.iaload, 1) := by decide +kernel
theorem dX7_sum_69 : decode cX7_sum 69 = .ok (.aload_n 0, 1) := by decide +kernel
theorem dX7_sum_70 : decode cX7_sum 70 = .ok (.getfield 39, 3) := by decide +kernel
theorem dX7_sum_73 : decode cX7_sum 73 = .ok (.iload_n 2, 1) := by decide +kernel
theorem dX7_sum_74 : decode cX7_sum 74 = .ok (.aaload, 1) := by decide +kernel
theorem dX7_sum_75 : decode cX7_sum 75 = .ok (.iload 4, 2) := by decide +kernel
theorem dX7_sum_77 : decode cX7_sum 77 = .ok (.iaload, 1) := by decide +kernel
theorem dX7_sum_78 : decode cX7_sum 78 = .ok (.iadd, 1) := by decide +kernel
theorem dX7_sum_79 : decode cX7_sum 79 = .ok (.iastore, 1) := by decide +kernel
theorem dX7_sum_80 : decode cX7_sum 80 = .ok (.iinc 4 1, 3) := by decide +kernel
theorem dX7_sum_83 : decode cX7_sum 83 = .ok (.goto (-38), 3) := by decide +kernel
theorem dX7_sum_86 : decode cX7_sum 86 = .ok (.aload_n 0, 1) := by decide +kernel
theorem dX7_sum_87 : decode cX7_sum 87 = .ok (.iload_n 3, 1) := by decide +kernel
theorem dX7_sum_88 : decode cX7_sum 88 = .ok (.invokevirtual 166, 3) := by decide +kernel
theorem dX7_sum_91 : decode cX7_sum 91 = .ok (.ireturn, 1) := by decide +kernel
theorem dX7_turn_0 : decode cX7_turn 0 = .ok (.iload_n 1, 1) := by decide +kernel
theorem dX7_turn_1 : decode cX7_turn 1 = .ok (.invokestatic 128, 3) := by decide +kernel
theorem dX7_turn_4 : decode cX7_turn 4 = .ok (.ifCond .eq 10, 3) := by decide +kernel
theorem dX7_turn_7 : decode cX7_turn 7 = .ok (.iload_n 2, 1) := by decide +kernel
theorem dX7_turn_8 : decode cX7_turn 8 = .ok (.invokestatic 128, 3) := by decide +kernel
theorem dX7_turn_11 : decode cX7_turn 11 = .ok (.ifCond .ne 5, 3) := by decide +kernel
theorem dX7_turn_14 : decode cX7_turn 14 = .ok (.iconst (-1), 1) := by decide +kernel
theorem dX7_turn_15 : decode cX7_turn 15 = .ok (.ireturn, 1) := by decide +kernel
theorem dX7_turn_16 : decode cX7_turn 16 = .ok (.aload_n 0, 1) := by decide +kernel
theorem dX7_turn_17 : decode cX7_turn 17 = .ok (.iload_n 1, 1) := by decide +kernel
theorem dX7_turn_18 : decode cX7_turn 18 = .ok (.invokevirtual 163, 3) := by decide +kernel
theorem dX7_turn_21 : decode cX7_turn 21 = .ok (.ifCond .ne 6, 3) := by decide +kernel
theorem dX7_turn_24 : decode cX7_turn 24 = .ok (.bipush (-11), 2) := by decide +kernel
theorem dX7_turn_26 : decode cX7_turn 26 = .ok (.ireturn, 1) := by decide +kernel
theorem dX7_turn_27 : decode cX7_turn 27 = .ok (.iconst 0, 1) := by decide +kernel
theorem dX7_turn_28 : decode cX7_turn 28 = .ok (.istore_n 3, 1) := by decide +kernel
theorem dX7_turn_29 : decode cX7_turn 29 = .ok (.iload_n 3, 1) := by decide +kernel
theorem dX7_turn_30 : decode cX7_turn 30 = .ok (.aload_n 0, 1) := by decide +kernel
theorem dX7_turn_31 : decode cX7_turn 31 = .ok (.invokevirtual 83, 3) := by decide +kernel
theorem dX7_turn_34 : decode cX7_turn 34 = .ok (.if_icmp .ge 28, 3) := by decide +kernel
theorem dX7_turn_37 : decode cX7_turn 37 = .ok (.aload_n 0, 1) := by decide +kernel
theorem dX7_turn_38 : decode cX7_turn 38 = .ok (.getfield 42, 3) := by decide +kernel
theorem dX7_turn_41 : decode cX7_turn 41 = .ok (.iload_n 3, 1) := by decide +kernel
theorem dX7_turn_42 : decode cX7_turn 42 = .ok (.aload_n 0, 1) := by decide +kernel
theorem dX7_turn_43 : decode cX7_turn 43 = .ok (.getfield 39, 3) := by decide +kernel
theorem dX7_turn_46 : decode cX7_turn 46 = .ok (.iload_n 1, 1) := by decide +kernel
theorem dX7_turn_47 : decode cX7_turn 47 = .ok (.aaload, 1) := by decide +kernel
theorem dX7_turn_48 : decode cX7_turn 48 = .ok (.aload_n 0, 1) := by decide +kernel
theorem dX7_turn_49 : decode cX7_turn 49 = .ok (.invokevirtual 87, 3) := by decide +kernel
theorem dX7_turn_52 : decode cX7_turn 52 = .ok (.iload_n 3, 1) := by decide +kernel
theorem dX7_turn_53 : decode cX7_turn 53 = .ok (.isub, 1) := by decide +kernel
theorem dX7_turn_54 : decode cX7_turn 54 = .ok (.iaload, 1) := by decide +kernel
theorem dX7_turn_55 : decode cX7_turn 55 = .ok (.iastore, 1) := by decide +kernel
theorem dX7_turn_56 : decode cX7_turn 56 = .ok (.iinc 3 1, 3) := by decide +kernel
theorem dX7_turn_59 : decode cX7_turn 59 = .ok (.goto (-30), 3) := by decide +kernel
theorem dX7_turn_62 : decode cX7_turn 62 = .ok (.aload_n 0, 1) := by decide +kernel
theorem dX7_turn_63 : decode cX7_turn 63 = .ok (.iload_n 2, 1) := by decide +kernel
theorem dX7_turn_64 : decode cX7_turn 64 = .ok (.invokevirtual 166, 3) := by decide +kernel
theorem dX7_turn_67 : decode cX7_turn 67 = .ok (.ireturn, 1) := by decide +kernel
theorem dX7_cutBack_0 : decode cX7_cutBack 0 = .ok (.iload_n 1, 1) := by decide +kernel
theorem dX7_cutBack_1 : decode cX7_cutBack 1 = .ok (.invokestatic 128, 3) := by decide +kernel
theorem dX7_cutBack_4 : decode cX7_cutBack 4 = .ok (.ifCond .eq 10, 3) := by decide +kernel
theorem dX7_cutBack_7 : decode cX7_cutBack 7 = .ok (.iload_n 2, 1) := by decide +kernel
theorem dX7_cutBack_8 : decode cX7_cutBack 8 = .ok (.invokestatic 128, 3) := by decide +kernel
theorem dX7_cutBack_11 : decode cX7_cutBack 11 = .ok (.ifCond .ne 5, 3) := by decide +kernel
theorem dX7_cutBack_14 : decode cX7_cutBack 14 = .ok (.iconst (-1), 1) := by decide +kernel
theorem dX7_cutBack_15 : decode cX7_cutBack 15 = .ok (.ireturn, 1) := by decide +kernel
theorem dX7_cutBack_16 : decode cX7_cutBack 16 = .ok (.aload_n 0, 1) := by decide +kernel
theorem dX7_cutBack_17 : decode cX7_cutBack 17 = .ok (.iload_n 1, 1) := by decide +kernel
theorem dX7_cutBack_18 : decode cX7_cutBack 18 = .ok (.invokevirtual 163, 3) := by decide +kernel
theorem dX7_cutBack_21 : decode cX7_cutBack 21 = .ok (.ifCond .ne 6, 3) := by decide +kernel
theorem dX7_cutBack_24 : decode cX7_cutBack 24 = .ok (.bipush (-11), 2) := by decide +kernel
theorem dX7_cutBack_26 : decode cX7_cutBack 26 = .ok (.ireturn, 1) := by decide +kernel
theorem dX7_cutBack_27 : decode cX7_cutBack 27 = .ok (.iconst 0, 1) := by decide +kernel
theorem dX7_cutBack_28 : decode cX7_cutBack 28 = .ok (.istore_n 3, 1) := by decide +kernel
theorem dX7_cutBack_29 : decode cX7_cutBack 29 = .ok (.iload_n 3, 1) := by decide +kernel
theorem dX7_cutBack_30 : decode cX7_cutBack 30 = .ok (.aload_n 0, 1) := by decide +kernel
theorem dX7_cutBack_31 : decode cX7_cutBack 31 = .ok (.invokevirtual 83, 3) := by decide +kernel
theorem dX7_cutBack_34 : decode cX7_cutBack 34 = .ok (.if_icmp .ge 82, 3) := by decide +kernel
theorem dX7_cutBack_37 : decode cX7_cutBack 37 = .ok (.aload_n 0, 1) := by decide +kernel
theorem dX7_cutBack_38 : decode cX7_cutBack 38 = .ok (.getfield 42, 3) := by decide +kernel
theorem dX7_cutBack_41 : decode cX7_cutBack 41 = .ok (.iload_n 3, 1) := by decide +kernel
theorem dX7_cutBack_42 : decode cX7_cutBack 42 = .ok (.aload_n 0, 1) := by decide +kernel
theorem dX7_cutBack_43 : decode cX7_cutBack 43 = .ok (.getfield 39, 3) := by decide +kernel
theorem dX7_cutBack_46 : decode cX7_cutBack 46 = .ok (.iload_n 1, 1) := by decide +kernel
theorem dX7_cutBack_47 : decode cX7_cutBack 47 = .ok (.aaload, 1) := by decide +kernel
theorem dX7_cutBack_48 : decode cX7_cutBack 48 = .ok (.iload_n 3, 1) := by decide +kernel
theorem dX7_cutBack_49 : decode cX7_cutBack 49 = .ok (.iaload, 1) := by decide +kernel
theorem dX7_cutBack_50 : decode cX7_cutBack 50 = .ok (.iastore, 1) := by decide +kernel
theorem dX7_cutBack_51 : decode cX7_cutBack 51 = .ok (.iconst 0, 1) := by decide +kernel
theorem dX7_cutBack_52 : decode cX7_cutBack 52 = .ok (.istore 4, 2) := by decide +kernel
theorem dX7_cutBack_54 : decode cX7_cutBack 54 = .ok (.iload 4, 2) := by decide +kernel
theorem dX7_cutBack_56 : decode cX7_cutBack 56 = .ok (.iload_n 3, 1) := by decide +kernel
theorem dX7_cutBack_57 : decode cX7_cutBack 57 = .ok (.if_icmp .ge 53, 3) := by decide +kernel
theorem dX7_cutBack_60 : decode cX7_cutBack 60 = .ok (.iload 4, 2) := by decide +kernel
theorem dX7_cutBack_62 : decode cX7_cutBack 62 = .ok (.iload_n 3, 1) := by decide +kernel
theorem dX7_cutBack_63 : decode cX7_cutBack 63 = .ok (.iand, 1) := by decide +kernel
theorem dX7_cutBack_64 : decode cX7_cutBack 64 = .ok (.iload 4, 2) := by decide +kernel
theorem dX7_cutBack_66 : decode cX7_cutBack 66 = .ok (.if_icmp .ne 38, 3) := by decide +kernel
theorem dX7_cutBack_69 : decode cX7_cutBack 69 = .ok (.aload_n 0, 1) := by decide +kernel
theorem dX7_cutBack_70 : decode cX7_cutBack 70 = .ok (.getfield 42, 3) := by decide +kernel
theorem dX7_cutBack_73 : decode cX7_cutBack 73 = .ok (.iload_n 3, 1) := by decide +kernel
theorem dX7_cutBack_74 : decode cX7_cutBack 74 = .ok (.aload_n 0, 1) := by decide +kernel
theorem dX7_cutBack_75 : decode cX7_cutBack 75 = .ok (.getfield 42, 3) := by decide +kernel
theorem dX7_cutBack_78 : decode cX7_cutBack 78 = .ok (.iload_n 3, 1) := by decide +kernel
theorem dX7_cutBack_79 : decode cX7_cutBack 79 = .ok (.iaload, 1) := by decide +kernel
theorem dX7_cutBack_80 : decode cX7_cutBack 80 = .ok (.aload_n 0, 1) := by decide +kernel
theorem dX7_cutBack_81 : decode cX7_cutBack 81 = .ok (.getfield 39, 3) := by decide +kernel
theorem dX7_cutBack_84 : decode cX7_cutBack 84 = .ok (.iload_n 1, 1) := by decide +kernel
theorem dX7_cutBack_85 : decode cX7_cutBack 85 = .ok (.aaload, 1) := by decide +kernel
theorem dX7_cutBack_86 : decode cX7_cutBack 86 = .ok (.iload 4, 2) := by decide +kernel
theorem dX7_cutBack_88 : decode cX7_cutBack 88 = .ok (.iaload, 1) := by decide +kernel
theorem dX7_cutBack_89 : decode cX7_cutBack 89 = .ok (.aload_n 0, 1) := by decide +kernel
theorem dX7_cutBack_90 : decode cX7_cutBack 90 = .ok (.iload_n 3, 1) := by decide +kernel
theorem dX7_cutBack_91 : decode cX7_cutBack 91 = .ok (.iload 4, 2) := by decide +kernel
theorem dX7_cutBack_93 : decode cX7_cutBack 93 = .ok (.iconst (-1), 1) := by decide +kernel
theorem dX7_cutBack_94 : decode cX7_cutBack 94 = .ok (.ixor, 1) := by decide +kernel
theorem dX7_cutBack_95 : decode cX7_cutBack 95 = .ok (.iand, 1) := by decide +kernel
theorem dX7_cutBack_96 : decode cX7_cutBack 96 = .ok (.invokevirtual 156, 3) := by decide +kernel
theorem dX7_cutBack_99 : decode cX7_cutBack 99 = .ok (.iadd, 1) := by decide +kernel
theorem dX7_cutBack_100 : decode cX7_cutBack 100 = .ok (.invokestatic 122, 3) := by decide +kernel
theorem dX7_cutBack_103 : decode cX7_cutBack 103 = .ok (.iastore, 1) := by decide +kernel
theorem dX7_cutBack_104 : decode cX7_cutBack 104 = .ok (.iinc 4 1, 3) := by decide +kernel
theorem dX7_cutBack_107 : decode cX7_cutBack 107 = .ok (.goto (-53), 3) := by decide +kernel
theorem dX7_cutBack_110 : decode cX7_cutBack 110 = .ok (.iinc 3 1, 3) := by decide +kernel
theorem dX7_cutBack_113 : decode cX7_cutBack 113 = .ok (.goto (-84), 3) := by decide +kernel
theorem dX7_cutBack_116 : decode cX7_cutBack 116 = .ok (.aload_n 0, 1) := by decide +kernel
theorem dX7_cutBack_117 : decode cX7_cutBack 117 = .ok (.iload_n 2, 1) := by decide +kernel
theorem dX7_cutBack_118 : decode cX7_cutBack 118 = .ok (.invokevirtual 166, 3) := by decide +kernel
theorem dX7_cutBack_121 : decode cX7_cutBack 121 = .ok (.ireturn, 1) := by decide +kernel
theorem dX7_part_0 : decode cX7_part 0 = .ok (.iload_n 1, 1) := by decide +kernel
theorem dX7_part_1 : decode cX7_part 1 = .ok (.invokestatic 128, 3) := by decide +kernel
theorem dX7_part_4 : decode cX7_part 4 = .ok (.ifCond .eq 11, 3) := by decide +kernel
theorem dX7_part_7 : decode cX7_part 7 = .ok (.iload 4, 2) := by decide +kernel
theorem dX7_part_9 : decode cX7_part 9 = .ok (.invokestatic 128, 3) := by decide +kernel
theorem dX7_part_12 : decode cX7_part 12 = .ok (.ifCond .ne 5, 3) := by decide +kernel
theorem dX7_part_15 : decode cX7_part 15 = .ok (.iconst (-1), 1) := by decide +kernel
theorem dX7_part_16 : decode cX7_part 16 = .ok (.ireturn, 1) := by decide +kernel
theorem dX7_part_17 : decode cX7_part 17 = .ok (.aload_n 0, 1) := by decide +kernel
theorem dX7_part_18 : decode cX7_part 18 = .ok (.iload_n 2, 1) := by decide +kernel
theorem dX7_part_19 : decode cX7_part 19 = .ok (.invokevirtual 106, 3) := by decide +kernel
theorem dX7_part_22 : decode cX7_part 22 = .ok (.ifCond .eq 13, 3) := by decide +kernel
theorem dX7_part_25 : decode cX7_part 25 = .ok (.iload_n 3, 1) := by decide +kernel
theorem dX7_part_26 : decode cX7_part 26 = .ok (.i2l, 1) := by decide +kernel
theorem dX7_part_27 : decode cX7_part 27 = .ok (.lconst 0, 1) := by decide +kernel
theorem dX7_part_28 : decode cX7_part 28 = .ok (.lconst 1, 1) := by decide +kernel
theorem dX7_part_29 : decode cX7_part 29 = .ok (.invokestatic 79, 3) := by decide +kernel
theorem dX7_part_32 : decode cX7_part 32 = .ok (.ifCond .ne 6, 3) := by decide +kernel
theorem dX7_part_35 : decode cX7_part 35 = .ok (.bipush (-2), 2) := by decide +kernel
theorem dX7_part_37 : decode cX7_part 37 = .ok (.ireturn, 1) := by decide +kernel
theorem dX7_part_38 : decode cX7_part 38 = .ok (.aload_n 0, 1) := by decide +kernel
theorem dX7_part_39 : decode cX7_part 39 = .ok (.iload_n 1, 1) := by decide +kernel
theorem dX7_part_40 : decode cX7_part 40 = .ok (.invokevirtual 163, 3) := by decide +kernel
theorem dX7_part_43 : decode cX7_part 43 = .ok (.ifCond .ne 6, 3) := by decide +kernel
theorem dX7_part_46 : decode cX7_part 46 = .ok (.bipush (-11), 2) := by decide +kernel
theorem dX7_part_48 : decode cX7_part 48 = .ok (.ireturn, 1) := by decide +kernel
theorem dX7_part_49 : decode cX7_part 49 = .ok (.iconst 0, 1) := by decide +kernel
theorem dX7_part_50 : decode cX7_part 50 = .ok (.istore 5, 2) := by decide +kernel
theorem dX7_part_52 : decode cX7_part 52 = .ok (.iload 5, 2) := by decide +kernel
theorem dX7_part_54 : decode cX7_part 54 = .ok (.aload_n 0, 1) := by decide +kernel
theorem dX7_part_55 : decode cX7_part 55 = .ok (.invokevirtual 83, 3) := by decide +kernel
theorem dX7_part_58 : decode cX7_part 58 = .ok (.if_icmp .ge 54, 3) := by decide +kernel
theorem dX7_part_61 : decode cX7_part 61 = .ok (.aload_n 0, 1) := by decide +kernel
theorem dX7_part_62 : decode cX7_part 62 = .ok (.getfield 42, 3) := by decide +kernel
theorem dX7_part_65 : decode cX7_part 65 = .ok (.iload 5, 2) := by decide +kernel
theorem dX7_part_67 : decode cX7_part 67 = .ok (.iload_n 3, 1) := by decide +kernel
theorem dX7_part_68 : decode cX7_part 68 = .ok (.ifCond .ne 17, 3) := by decide +kernel
theorem dX7_part_71 : decode cX7_part 71 = .ok (.aload_n 0, 1) := by decide +kernel
theorem dX7_part_72 : decode cX7_part 72 = .ok (.getfield 39, 3) := by decide +kernel
theorem dX7_part_75 : decode cX7_part 75 = .ok (.iload_n 1, 1) := by decide +kernel
theorem dX7_part_76 : decode cX7_part 76 = .ok (.aaload, 1) := by decide +kernel
theorem dX7_part_77 : decode cX7_part 77 = .ok (.iload 5, 2) := by decide +kernel
theorem dX7_part_79 : decode cX7_part 79 = .ok (.iload_n 2, 1) := by decide +kernel
theorem dX7_part_80 : decode cX7_part 80 = .ok (.iand, 1) := by decide +kernel
theorem dX7_part_81 : decode cX7_part 81 = .ok (.iaload, 1) := by decide +kernel
theorem dX7_part_82 : decode cX7_part 82 = .ok (.goto 23, 3) := by decide +kernel
theorem dX7_part_85 : decode cX7_part 85 = .ok (.aload_n 0, 1) := by decide +kernel
theorem dX7_part_86 : decode cX7_part 86 = .ok (.getfield 39, 3) := by decide +kernel
theorem dX7_part_89 : decode cX7_part 89 = .ok (.iload_n 1, 1) := by decide +kernel
theorem dX7_part_90 : decode cX7_part 90 = .ok (.aaload, 1) := by decide +kernel
theorem dX7_part_91 : decode cX7_part 91 = .ok (.iload 5, 2) := by decide +kernel
theorem dX7_part_93 : decode cX7_part 93 = .ok (.iload_n 2, 1) := by decide +kernel
theorem dX7_part_94 : decode cX7_part 94 = .ok (.ior, 1) := by decide +kernel
theorem dX7_part_95 : decode cX7_part 95 = .ok (.iaload, 1) := by decide +kernel
theorem dX7_part_96 : decode cX7_part 96 = .ok (.aload_n 0, 1) := by decide +kernel
theorem dX7_part_97 : decode cX7_part 97 = .ok (.getfield 39, 3) := by decide +kernel
theorem dX7_part_100 : decode cX7_part 100 = .ok (.iload_n 1, 1) := by decide +kernel
theorem dX7_part_101 : decode cX7_part 101 = .ok (.aaload, 1) := by decide +kernel
theorem dX7_part_102 : decode cX7_part 102 = .ok (.iload_n 2, 1) := by decide +kernel
theorem dX7_part_103 : decode cX7_part 103 = .ok (.iaload, 1) := by decide +kernel
theorem dX7_part_104 : decode cX7_part 104 = .ok (.isub, 1) := by decide +kernel
theorem dX7_part_105 : decode cX7_part 105 = .ok (.iastore, 1) := by decide +kernel
theorem dX7_part_106 : decode cX7_part 106 = .ok (.iinc 5 1, 3) := by decide +kernel
theorem dX7_part_109 : decode cX7_part 109 = .ok (.goto (-57), 3) := by decide +kernel
theorem dX7_part_112 : decode cX7_part 112 = .ok (.aload_n 0, 1) := by decide +kernel
theorem dX7_part_113 : decode cX7_part 113 = .ok (.iload 4, 2) := by decide +kernel
theorem dX7_part_115 : decode cX7_part 115 = .ok (.invokevirtual 166, 3) := by decide +kernel
theorem dX7_part_118 : decode cX7_part 118 = .ok (.ireturn, 1) := by decide +kernel
theorem dX7_held_0 : decode cX7_held 0 = .ok (.iload_n 1, 1) := by decide +kernel
theorem dX7_held_1 : decode cX7_held 1 = .ok (.invokestatic 128, 3) := by decide +kernel
theorem dX7_held_4 : decode cX7_held 4 = .ok (.ifCond .eq 10, 3) := by decide +kernel
theorem dX7_held_7 : decode cX7_held 7 = .ok (.iload_n 3, 1) := by decide +kernel
theorem dX7_held_8 : decode cX7_held 8 = .ok (.invokestatic 128, 3) := by decide +kernel
theorem dX7_held_11 : decode cX7_held 11 = .ok (.ifCond .ne 5, 3) := by decide +kernel
theorem dX7_held_14 : decode cX7_held 14 = .ok (.iconst (-1), 1) := by decide +kernel
theorem dX7_held_15 : decode cX7_held 15 = .ok (.ireturn, 1) := by decide +kernel
theorem dX7_held_16 : decode cX7_held 16 = .ok (.iload_n 2, 1) := by decide +kernel
theorem dX7_held_17 : decode cX7_held 17 = .ok (.i2l, 1) := by decide +kernel
theorem dX7_held_18 : decode cX7_held 18 = .ok (.invokestatic 135, 3) := by decide +kernel
theorem dX7_held_21 : decode cX7_held 21 = .ok (.ifCond .ne 6, 3) := by decide +kernel
theorem dX7_held_24 : decode cX7_held 24 = .ok (.bipush (-2), 2) := by decide +kernel
theorem dX7_held_26 : decode cX7_held 26 = .ok (.ireturn, 1) := by decide +kernel
theorem dX7_held_27 : decode cX7_held 27 = .ok (.aload_n 0, 1) := by decide +kernel
theorem dX7_held_28 : decode cX7_held 28 = .ok (.iload_n 1, 1) := by decide +kernel
theorem dX7_held_29 : decode cX7_held 29 = .ok (.invokevirtual 163, 3) := by decide +kernel
theorem dX7_held_32 : decode cX7_held 32 = .ok (.ifCond .ne 6, 3) := by decide +kernel
theorem dX7_held_35 : decode cX7_held 35 = .ok (.bipush (-11), 2) := by decide +kernel
theorem dX7_held_37 : decode cX7_held 37 = .ok (.ireturn, 1) := by decide +kernel
theorem dX7_held_38 : decode cX7_held 38 = .ok (.iconst 0, 1) := by decide +kernel
theorem dX7_held_39 : decode cX7_held 39 = .ok (.istore 4, 2) := by decide +kernel
theorem dX7_held_41 : decode cX7_held 41 = .ok (.iload 4, 2) := by decide +kernel
theorem dX7_held_43 : decode cX7_held 43 = .ok (.aload_n 0, 1) := by decide +kernel
theorem dX7_held_44 : decode cX7_held 44 = .ok (.invokevirtual 83, 3) := by decide +kernel
theorem dX7_held_47 : decode cX7_held 47 = .ok (.if_icmp .ge 29, 3) := by decide +kernel
theorem dX7_held_50 : decode cX7_held 50 = .ok (.aload_n 0, 1) := by decide +kernel
theorem dX7_held_51 : decode cX7_held 51 = .ok (.getfield 42, 3) := by decide +kernel
theorem dX7_held_54 : decode cX7_held 54 = .ok (.iload 4, 2) := by decide +kernel
theorem dX7_held_56 : decode cX7_held 56 = .ok (.aload_n 0, 1) := by decide +kernel
theorem dX7_held_57 : decode cX7_held 57 = .ok (.getfield 39, 3) := by decide +kernel
theorem dX7_held_60 : decode cX7_held 60 = .ok (.iload_n 1, 1) := by decide +kernel
theorem dX7_held_61 : decode cX7_held 61 = .ok (.aaload, 1) := by decide +kernel
theorem dX7_held_62 : decode cX7_held 62 = .ok (.iload 4, 2) := by decide +kernel
theorem dX7_held_64 : decode cX7_held 64 = .ok (.iaload, 1) := by decide +kernel
theorem dX7_held_65 : decode cX7_held 65 = .ok (.iload_n 2, 1) := by decide +kernel
theorem dX7_held_66 : decode cX7_held 66 = .ok (.invokestatic 122, 3) := by decide +kernel
theorem dX7_held_69 : decode cX7_held 69 = .ok (.iastore, 1) := by decide +kernel
theorem dX7_held_70 : decode cX7_held 70 = .ok (.iinc 4 1, 3) := by decide +kernel
theorem dX7_held_73 : decode cX7_held 73 = .ok (.goto (-32), 3) := by decide +kernel
theorem dX7_held_76 : decode cX7_held 76 = .ok (.aload_n 0, 1) := by decide +kernel
theorem dX7_held_77 : decode cX7_held 77 = .ok (.iload_n 3, 1) := by decide +kernel
theorem dX7_held_78 : decode cX7_held 78 = .ok (.invokevirtual 166, 3) := by decide +kernel
theorem dX7_held_81 : decode cX7_held 81 = .ok (.ireturn, 1) := by decide +kernel
theorem dX7_clear_0 : decode cX7_clear 0 = .ok (.iload_n 1, 1) := by decide +kernel
theorem dX7_clear_1 : decode cX7_clear 1 = .ok (.invokestatic 128, 3) := by decide +kernel
theorem dX7_clear_4 : decode cX7_clear 4 = .ok (.ifCond .ne 5, 3) := by decide +kernel
theorem dX7_clear_7 : decode cX7_clear 7 = .ok (.iconst (-1), 1) := by decide +kernel
theorem dX7_clear_8 : decode cX7_clear 8 = .ok (.ireturn, 1) := by decide +kernel
theorem dX7_clear_9 : decode cX7_clear 9 = .ok (.aload_n 0, 1) := by decide +kernel
theorem dX7_clear_10 : decode cX7_clear 10 = .ok (.iload_n 1, 1) := by decide +kernel
theorem dX7_clear_11 : decode cX7_clear 11 = .ok (.invokevirtual 163, 3) := by decide +kernel
theorem dX7_clear_14 : decode cX7_clear 14 = .ok (.ifCond .ne 6, 3) := by decide +kernel
theorem dX7_clear_17 : decode cX7_clear 17 = .ok (.bipush (-11), 2) := by decide +kernel
theorem dX7_clear_19 : decode cX7_clear 19 = .ok (.ireturn, 1) := by decide +kernel
theorem dX7_clear_20 : decode cX7_clear 20 = .ok (.aload_n 0, 1) := by decide +kernel
theorem dX7_clear_21 : decode cX7_clear 21 = .ok (.getfield 34, 3) := by decide +kernel
theorem dX7_clear_24 : decode cX7_clear 24 = .ok (.iload_n 1, 1) := by decide +kernel
theorem dX7_clear_25 : decode cX7_clear 25 = .ok (.iaload, 1) := by decide +kernel
theorem dX7_clear_26 : decode cX7_clear 26 = .ok (.istore_n 2, 1) := by decide +kernel
theorem dX7_clear_27 : decode cX7_clear 27 = .ok (.aload_n 0, 1) := by decide +kernel
theorem dX7_clear_28 : decode cX7_clear 28 = .ok (.getfield 34, 3) := by decide +kernel
theorem dX7_clear_31 : decode cX7_clear 31 = .ok (.iload_n 1, 1) := by decide +kernel
theorem dX7_clear_32 : decode cX7_clear 32 = .ok (.iconst (-1), 1) := by decide +kernel
theorem dX7_clear_33 : decode cX7_clear 33 = .ok (.iastore, 1) := by decide +kernel
theorem dX7_clear_34 : decode cX7_clear 34 = .ok (.iload_n 2, 1) := by decide +kernel
theorem dX7_clear_35 : decode cX7_clear 35 = .ok (.ireturn, 1) := by decide +kernel
theorem dX7_gainOf_0 : decode cX7_gainOf 0 = .ok (.aload_n 0, 1) := by decide +kernel
theorem dX7_gainOf_1 : decode cX7_gainOf 1 = .ok (.getfield 39, 3) := by decide +kernel
theorem dX7_gainOf_4 : decode cX7_gainOf 4 = .ok (.iload_n 1, 1) := by decide +kernel
theorem dX7_gainOf_5 : decode cX7_gainOf 5 = .ok (.aaload, 1) := by decide +kernel
theorem dX7_gainOf_6 : decode cX7_gainOf 6 = .ok (.iload_n 2, 1) := by decide +kernel
theorem dX7_gainOf_7 : decode cX7_gainOf 7 = .ok (.iconst 1, 1) := by decide +kernel
theorem dX7_gainOf_8 : decode cX7_gainOf 8 = .ok (.iload_n 3, 1) := by decide +kernel
theorem dX7_gainOf_9 : decode cX7_gainOf 9 = .ok (.ishl, 1) := by decide +kernel
theorem dX7_gainOf_10 : decode cX7_gainOf 10 = .ok (.ior, 1) := by decide +kernel
theorem dX7_gainOf_11 : decode cX7_gainOf 11 = .ok (.iaload, 1) := by decide +kernel
theorem dX7_gainOf_12 : decode cX7_gainOf 12 = .ok (.aload_n 0, 1) := by decide +kernel
theorem dX7_gainOf_13 : decode cX7_gainOf 13 = .ok (.getfield 39, 3) := by decide +kernel
theorem dX7_gainOf_16 : decode cX7_gainOf 16 = .ok (.iload_n 1, 1) := by decide +kernel
theorem dX7_gainOf_17 : decode cX7_gainOf 17 = .ok (.aaload, 1) := by decide +kernel
theorem dX7_gainOf_18 : decode cX7_gainOf 18 = .ok (.iload_n 2, 1) := by decide +kernel
theorem dX7_gainOf_19 : decode cX7_gainOf 19 = .ok (.iaload, 1) := by decide +kernel
theorem dX7_gainOf_20 : decode cX7_gainOf 20 = .ok (.isub, 1) := by decide +kernel
theorem dX7_gainOf_21 : decode cX7_gainOf 21 = .ok (.ireturn, 1) := by decide +kernel
theorem dX7_lessens_0 : decode cX7_lessens 0 = .ok (.iload_n 2, 1) := by decide +kernel
theorem dX7_lessens_1 : decode cX7_lessens 1 = .ok (.iload_n 3, 1) := by decide +kernel
theorem dX7_lessens_2 : decode cX7_lessens 2 = .ok (.invokestatic 118, 3) := by decide +kernel
theorem dX7_lessens_5 : decode cX7_lessens 5 = .ok (.ifCond .ne 40, 3) := by decide +kernel
theorem dX7_lessens_8 : decode cX7_lessens 8 = .ok (.iload_n 2, 1) := by decide +kernel
theorem dX7_lessens_9 : decode cX7_lessens 9 = .ok (.iload 4, 2) := by decide +kernel
theorem dX7_lessens_11 : decode cX7_lessens 11 = .ok (.invokestatic 118, 3) := by decide +kernel
theorem dX7_lessens_14 : decode cX7_lessens 14 = .ok (.ifCond .ne 31, 3) := by decide +kernel
theorem dX7_lessens_17 : decode cX7_lessens 17 = .ok (.iload_n 3, 1) := by decide +kernel
theorem dX7_lessens_18 : decode cX7_lessens 18 = .ok (.iload 4, 2) := by decide +kernel
theorem dX7_lessens_20 : decode cX7_lessens 20 = .ok (.if_icmp .eq 25, 3) := by decide +kernel
theorem dX7_lessens_23 : decode cX7_lessens 23 = .ok (.aload_n 0, 1) := by decide +kernel
theorem dX7_lessens_24 : decode cX7_lessens 24 = .ok (.iload_n 1, 1) := by decide +kernel
theorem dX7_lessens_25 : decode cX7_lessens 25 = .ok (.iload_n 2, 1) := by decide +kernel
theorem dX7_lessens_26 : decode cX7_lessens 26 = .ok (.iload_n 3, 1) := by decide +kernel
theorem dX7_lessens_27 : decode cX7_lessens 27 = .ok (.invokevirtual 169, 3) := by decide +kernel
theorem dX7_lessens_30 : decode cX7_lessens 30 = .ok (.aload_n 0, 1) := by decide +kernel
theorem dX7_lessens_31 : decode cX7_lessens 31 = .ok (.iload_n 1, 1) := by decide +kernel
theorem dX7_lessens_32 : decode cX7_lessens 32 = .ok (.iload_n 2, 1) := by decide +kernel
theorem dX7_lessens_33 : decode cX7_lessens 33 = .ok (.iconst 1, 1) := by decide +kernel
theorem dX7_lessens_34 : decode cX7_lessens 34 = .ok (.iload 4, 2) := by decide +kernel
theorem dX7_lessens_36 : decode cX7_lessens 36 = .ok (.ishl, 1) := by decide +kernel
theorem dX7_lessens_37 : decode cX7_lessens 37 = .ok (.ior, 1) := by decide +kernel
theorem dX7_lessens_38 : decode cX7_lessens 38 = .ok (.iload_n 3, 1) := by decide +kernel
theorem dX7_lessens_39 : decode cX7_lessens 39 = .ok (.invokevirtual 169, 3) := by decide +kernel
theorem dX7_lessens_42 : decode cX7_lessens 42 = .ok (.if_icmp .lt 7, 3) := by decide +kernel
theorem dX7_lessens_45 : decode cX7_lessens 45 = .ok (.iconst 1, 1) := by decide +kernel
theorem dX7_lessens_46 : decode cX7_lessens 46 = .ok (.goto 4, 3) := by decide +kernel
theorem dX7_lessens_49 : decode cX7_lessens 49 = .ok (.iconst 0, 1) := by decide +kernel
theorem dX7_lessens_50 : decode cX7_lessens 50 = .ok (.ireturn, 1) := by decide +kernel
theorem dX7_failing_0 : decode cX7_failing 0 = .ok (.iconst 0, 1) := by decide +kernel
theorem dX7_failing_1 : decode cX7_failing 1 = .ok (.istore_n 2, 1) := by decide +kernel
theorem dX7_failing_2 : decode cX7_failing 2 = .ok (.iload_n 2, 1) := by decide +kernel
theorem dX7_failing_3 : decode cX7_failing 3 = .ok (.aload_n 0, 1) := by decide +kernel
theorem dX7_failing_4 : decode cX7_failing 4 = .ok (.invokevirtual 83, 3) := by decide +kernel
theorem dX7_failing_7 : decode cX7_failing 7 = .ok (.if_icmp .ge 68, 3) := by decide +kernel
theorem dX7_failing_10 : decode cX7_failing 10 = .ok (.iconst 0, 1) := by decide +kernel
theorem dX7_failing_11 : decode cX7_failing 11 = .ok (.istore_n 3, 1) := by decide +kernel
theorem dX7_failing_12 : decode cX7_failing 12 = .ok (.iload_n 3, 1) := by decide +kernel
theorem dX7_failing_13 : decode cX7_failing 13 = .ok (.aload_n 0, 1) := by decide +kernel
theorem dX7_failing_14 : decode cX7_failing 14 = .ok (.getfield 9, 3) := by decide +kernel
theorem dX7_failing_17 : decode cX7_failing 17 = .ok (.if_icmp .ge 52, 3) := by decide +kernel
theorem dX7_failing_20 : decode cX7_failing 20 = .ok (.iconst 0, 1) := by decide +kernel
theorem dX7_failing_21 : decode cX7_failing 21 = .ok (.istore 4, 2) := by decide +kernel
theorem dX7_failing_23 : decode cX7_failing 23 = .ok (.iload 4, 2) := by decide +kernel
theorem dX7_failing_25 : decode cX7_failing 25 = .ok (.aload_n 0, 1) := by decide +kernel
theorem dX7_failing_26 : decode cX7_failing 26 = .ok (.getfield 9, 3) := by decide +kernel
theorem dX7_failing_29 : decode cX7_failing 29 = .ok (.if_icmp .ge 34, 3) := by decide +kernel
theorem dX7_failing_32 : decode cX7_failing 32 = .ok (.aload_n 0, 1) := by decide +kernel
theorem dX7_failing_33 : decode cX7_failing 33 = .ok (.iload_n 1, 1) := by decide +kernel
theorem dX7_failing_34 : decode cX7_failing 34 = .ok (.iload_n 2, 1) := by decide +kernel
theorem dX7_failing_35 : decode cX7_failing 35 = .ok (.iload_n 3, 1) := by decide +kernel
theorem dX7_failing_36 : decode cX7_failing 36 = .ok (.iload 4, 2) := by decide +kernel
theorem dX7_failing_38 : decode cX7_failing 38 = .ok (.invokevirtual 172, 3) := by decide +kernel
theorem dX7_failing_41 : decode cX7_failing 41 = .ok (.ifCond .ne 16, 3) := by decide +kernel
theorem dX7_failing_44 : decode cX7_failing 44 = .ok (.bipush 100, 2) := by decide +kernel
theorem dX7_failing_46 : decode cX7_failing 46 = .ok (.iload_n 2, 1) := by decide +kernel
theorem dX7_failing_47 : decode cX7_failing 47 = .ok (.imul, 1) := by decide +kernel
theorem dX7_failing_48 : decode cX7_failing 48 = .ok (.bipush 10, 2) := by decide +kernel
theorem dX7_failing_50 : decode cX7_failing 50 = .ok (.iload_n 3, 1) := by decide +kernel
theorem dX7_failing_51 : decode cX7_failing 51 = .ok (.imul, 1) := by decide +kernel
theorem dX7_failing_52 : decode cX7_failing 52 = .ok (.iadd, 1) := by decide +kernel
theorem dX7_failing_53 : decode cX7_failing 53 = .ok (.iload 4, 2) := by decide +kernel
theorem dX7_failing_55 : decode cX7_failing 55 = .ok (.iadd, 1) := by decide +kernel
theorem dX7_failing_56 : decode cX7_failing 56 = .ok (.ireturn, 1) := by decide +kernel
theorem dX7_failing_57 : decode cX7_failing 57 = .ok (.iinc 4 1, 3) := by decide +kernel
theorem dX7_failing_60 : decode cX7_failing 60 = .ok (.goto (-37), 3) := by decide +kernel
theorem dX7_failing_63 : decode cX7_failing 63 = .ok (.iinc 3 1, 3) := by decide +kernel
theorem dX7_failing_66 : decode cX7_failing 66 = .ok (.goto (-54), 3) := by decide +kernel
theorem dX7_failing_69 : decode cX7_failing 69 = .ok (.iinc 2 1, 3) := by decide +kernel
theorem dX7_failing_72 : decode cX7_failing 72 = .ok (.goto (-70), 3) := by decide +kernel
theorem dX7_failing_75 : decode cX7_failing 75 = .ok (.bipush (-5), 2) := by decide +kernel
theorem dX7_failing_77 : decode cX7_failing 77 = .ok (.ireturn, 1) := by decide +kernel
theorem dX7_isRising_0 : decode cX7_isRising 0 = .ok (.iconst 0, 1) := by decide +kernel
theorem dX7_isRising_1 : decode cX7_isRising 1 = .ok (.istore_n 2, 1) := by decide +kernel
theorem dX7_isRising_2 : decode cX7_isRising 2 = .ok (.iload_n 2, 1) := by decide +kernel
theorem dX7_isRising_3 : decode cX7_isRising 3 = .ok (.aload_n 0, 1) := by decide +kernel
theorem dX7_isRising_4 : decode cX7_isRising 4 = .ok (.invokevirtual 83, 3) := by decide +kernel
theorem dX7_isRising_7 : decode cX7_isRising 7 = .ok (.if_icmp .ge 45, 3) := by decide +kernel
theorem dX7_isRising_10 : decode cX7_isRising 10 = .ok (.iconst 0, 1) := by decide +kernel
theorem dX7_isRising_11 : decode cX7_isRising 11 = .ok (.istore_n 3, 1) := by decide +kernel
theorem dX7_isRising_12 : decode cX7_isRising 12 = .ok (.iload_n 3, 1) := by decide +kernel
theorem dX7_isRising_13 : decode cX7_isRising 13 = .ok (.aload_n 0, 1) := by decide +kernel
theorem dX7_isRising_14 : decode cX7_isRising 14 = .ok (.getfield 9, 3) := by decide +kernel
theorem dX7_isRising_17 : decode cX7_isRising 17 = .ok (.if_icmp .ge 29, 3) := by decide +kernel
theorem dX7_isRising_20 : decode cX7_isRising 20 = .ok (.iload_n 2, 1) := by decide +kernel
theorem dX7_isRising_21 : decode cX7_isRising 21 = .ok (.iload_n 3, 1) := by decide +kernel
theorem dX7_isRising_22 : decode cX7_isRising 22 = .ok (.invokestatic 118, 3) := by decide +kernel
theorem dX7_isRising_25 : decode cX7_isRising 25 = .ok (.ifCond .ne 15, 3) := by decide +kernel
theorem dX7_isRising_28 : decode cX7_isRising 28 = .ok (.aload_n 0, 1) := by decide +kernel
theorem dX7_isRising_29 : decode cX7_isRising 29 = .ok (.iload_n 1, 1) := by decide +kernel
theorem dX7_isRising_30 : decode cX7_isRising 30 = .ok (.iload_n 2, 1) := by decide +kernel
theorem dX7_isRising_31 : decode cX7_isRising 31 = .ok (.iload_n 3, 1) := by decide +kernel
theorem dX7_isRising_32 : decode cX7_isRising 32 = .ok (.invokevirtual 169, 3) := by decide +kernel
theorem dX7_isRising_35 : decode cX7_isRising 35 = .ok (.ifCond .ge 5, 3) := by decide +kernel
theorem dX7_isRising_38 : decode cX7_isRising 38 = .ok (.iconst 0, 1) := by decide +kernel
theorem dX7_isRising_39 : decode cX7_isRising 39 = .ok (.ireturn, 1) := by decide +kernel
theorem dX7_isRising_40 : decode cX7_isRising 40 = .ok (.iinc 3 1, 3) := by decide +kernel
theorem dX7_isRising_43 : decode cX7_isRising 43 = .ok (.goto (-31), 3) := by decide +kernel
theorem dX7_isRising_46 : decode cX7_isRising 46 = .ok (.iinc 2 1, 3) := by decide +kernel
theorem dX7_isRising_49 : decode cX7_isRising 49 = .ok (.goto (-47), 3) := by decide +kernel
theorem dX7_isRising_52 : decode cX7_isRising 52 = .ok (.iconst 1, 1) := by decide +kernel
theorem dX7_isRising_53 : decode cX7_isRising 53 = .ok (.ireturn, 1) := by decide +kernel
theorem dX7_isEven_0 : decode cX7_isEven 0 = .ok (.iconst 0, 1) := by decide +kernel
theorem dX7_isEven_1 : decode cX7_isEven 1 = .ok (.istore_n 2, 1) := by decide +kernel
theorem dX7_isEven_2 : decode cX7_isEven 2 = .ok (.iload_n 2, 1) := by decide +kernel
theorem dX7_isEven_3 : decode cX7_isEven 3 = .ok (.aload_n 0, 1) := by decide +kernel
theorem dX7_isEven_4 : decode cX7_isEven 4 = .ok (.invokevirtual 83, 3) := by decide +kernel
theorem dX7_isEven_7 : decode cX7_isEven 7 = .ok (.if_icmp .ge 35, 3) := by decide +kernel
theorem dX7_isEven_10 : decode cX7_isEven 10 = .ok (.aload_n 0, 1) := by decide +kernel
theorem dX7_isEven_11 : decode cX7_isEven 11 = .ok (.getfield 39, 3) := by decide +kernel
theorem dX7_isEven_14 : decode cX7_isEven 14 = .ok (.iload_n 1, 1) := by decide +kernel
theorem dX7_isEven_15 : decode cX7_isEven 15 = .ok (.aaload, 1) := by decide +kernel
theorem dX7_isEven_16 : decode cX7_isEven 16 = .ok (.iload_n 2, 1) := by decide +kernel
theorem dX7_isEven_17 : decode cX7_isEven 17 = .ok (.iaload, 1) := by decide +kernel
theorem dX7_isEven_18 : decode cX7_isEven 18 = .ok (.aload_n 0, 1) := by decide +kernel
theorem dX7_isEven_19 : decode cX7_isEven 19 = .ok (.getfield 39, 3) := by decide +kernel
theorem dX7_isEven_22 : decode cX7_isEven 22 = .ok (.iload_n 1, 1) := by decide +kernel
theorem dX7_isEven_23 : decode cX7_isEven 23 = .ok (.aaload, 1) := by decide +kernel
theorem dX7_isEven_24 : decode cX7_isEven 24 = .ok (.aload_n 0, 1) := by decide +kernel
theorem dX7_isEven_25 : decode cX7_isEven 25 = .ok (.invokevirtual 87, 3) := by decide +kernel
theorem dX7_isEven_28 : decode cX7_isEven 28 = .ok (.iload_n 2, 1) := by decide +kernel
theorem dX7_isEven_29 : decode cX7_isEven 29 = .ok (.isub, 1) := by decide +kernel
theorem dX7_isEven_30 : decode cX7_isEven 30 = .ok (.iaload, 1) := by decide +kernel
theorem dX7_isEven_31 : decode cX7_isEven 31 = .ok (.if_icmp .eq 5, 3) := by decide +kernel
theorem dX7_isEven_34 : decode cX7_isEven 34 = .ok (.iconst 0, 1) := by decide +kernel
theorem dX7_isEven_35 : decode cX7_isEven 35 = .ok (.ireturn, 1) := by decide +kernel
theorem dX7_isEven_36 : decode cX7_isEven 36 = .ok (.iinc 2 1, 3) := by decide +kernel
theorem dX7_isEven_39 : decode cX7_isEven 39 = .ok (.goto (-37), 3) := by decide +kernel
theorem dX7_isEven_42 : decode cX7_isEven 42 = .ok (.iconst 1, 1) := by decide +kernel
theorem dX7_isEven_43 : decode cX7_isEven 43 = .ok (.ireturn, 1) := by decide +kernel
theorem dX7_isPlain_0 : decode cX7_isPlain 0 = .ok (.iconst 0, 1) := by decide +kernel
theorem dX7_isPlain_1 : decode cX7_isPlain 1 = .ok (.istore_n 2, 1) := by decide +kernel
theorem dX7_isPlain_2 : decode cX7_isPlain 2 = .ok (.iload_n 2, 1) := by decide +kernel
theorem dX7_isPlain_3 : decode cX7_isPlain 3 = .ok (.aload_n 0, 1) := by decide +kernel
theorem dX7_isPlain_4 : decode cX7_isPlain 4 = .ok (.invokevirtual 83, 3) := by decide +kernel
theorem dX7_isPlain_7 : decode cX7_isPlain 7 = .ok (.if_icmp .ge 52, 3) := by decide +kernel
theorem dX7_isPlain_10 : decode cX7_isPlain 10 = .ok (.iconst 0, 1) := by decide +kernel
theorem dX7_isPlain_11 : decode cX7_isPlain 11 = .ok (.istore_n 3, 1) := by decide +kernel
theorem dX7_isPlain_12 : decode cX7_isPlain 12 = .ok (.iload_n 3, 1) := by decide +kernel
theorem dX7_isPlain_13 : decode cX7_isPlain 13 = .ok (.aload_n 0, 1) := by decide +kernel
theorem dX7_isPlain_14 : decode cX7_isPlain 14 = .ok (.getfield 9, 3) := by decide +kernel
theorem dX7_isPlain_17 : decode cX7_isPlain 17 = .ok (.if_icmp .ge 36, 3) := by decide +kernel
theorem dX7_isPlain_20 : decode cX7_isPlain 20 = .ok (.iload_n 2, 1) := by decide +kernel
theorem dX7_isPlain_21 : decode cX7_isPlain 21 = .ok (.iload_n 3, 1) := by decide +kernel
theorem dX7_isPlain_22 : decode cX7_isPlain 22 = .ok (.invokestatic 118, 3) := by decide +kernel
theorem dX7_isPlain_25 : decode cX7_isPlain 25 = .ok (.ifCond .ne 22, 3) := by decide +kernel
theorem dX7_isPlain_28 : decode cX7_isPlain 28 = .ok (.aload_n 0, 1) := by decide +kernel
theorem dX7_isPlain_29 : decode cX7_isPlain 29 = .ok (.iload_n 1, 1) := by decide +kernel
theorem dX7_isPlain_30 : decode cX7_isPlain 30 = .ok (.iload_n 2, 1) := by decide +kernel
theorem dX7_isPlain_31 : decode cX7_isPlain 31 = .ok (.iload_n 3, 1) := by decide +kernel
theorem dX7_isPlain_32 : decode cX7_isPlain 32 = .ok (.invokevirtual 169, 3) := by decide +kernel
theorem dX7_isPlain_35 : decode cX7_isPlain 35 = .ok (.aload_n 0, 1) := by decide +kernel
theorem dX7_isPlain_36 : decode cX7_isPlain 36 = .ok (.iload_n 1, 1) := by decide +kernel
theorem dX7_isPlain_37 : decode cX7_isPlain 37 = .ok (.iconst 0, 1) := by decide +kernel
theorem dX7_isPlain_38 : decode cX7_isPlain 38 = .ok (.iload_n 3, 1) := by decide +kernel
theorem dX7_isPlain_39 : decode cX7_isPlain 39 = .ok (.invokevirtual 169, 3) := by decide +kernel
theorem dX7_isPlain_42 : decode cX7_isPlain 42 = .ok (.if_icmp .eq 5, 3) := by decide +kernel
theorem dX7_isPlain_45 : decode cX7_isPlain 45 = .ok (.iconst 0, 1) := by decide +kernel
theorem dX7_isPlain_46 : decode cX7_isPlain 46 = .ok (.ireturn, 1) := by decide +kernel
theorem dX7_isPlain_47 : decode cX7_isPlain 47 = .ok (.iinc 3 1, 3) := by decide +kernel
theorem dX7_isPlain_50 : decode cX7_isPlain 50 = .ok (.goto (-38), 3) := by decide +kernel
theorem dX7_isPlain_53 : decode cX7_isPlain 53 = .ok (.iinc 2 1, 3) := by decide +kernel
theorem dX7_isPlain_56 : decode cX7_isPlain 56 = .ok (.goto (-54), 3) := by decide +kernel
theorem dX7_isPlain_59 : decode cX7_isPlain 59 = .ok (.iconst 1, 1) := by decide +kernel
theorem dX7_isPlain_60 : decode cX7_isPlain 60 = .ok (.ireturn, 1) := by decide +kernel
theorem dX7_bit_0 : decode cX7_bit 0 = .ok (.iload_n 0, 1) := by decide +kernel
theorem dX7_bit_1 : decode cX7_bit 1 = .ok (.ifCond .eq 7, 3) := by decide +kernel
theorem dX7_bit_4 : decode cX7_bit 4 = .ok (.iconst 1, 1) := by decide +kernel
theorem dX7_bit_5 : decode cX7_bit 5 = .ok (.goto 4, 3) := by decide +kernel
theorem dX7_bit_8 : decode cX7_bit 8 = .ok (.iconst 0, 1) := by decide +kernel
theorem dX7_bit_9 : decode cX7_bit 9 = .ok (.ireturn, 1) := by decide +kernel
theorem dX7_of_0 : decode cX7_of 0 = .ok (.iload_n 1, 1) := by decide +kernel
theorem dX7_of_1 : decode cX7_of 1 = .ok (.invokestatic 128, 3) := by decide +kernel
theorem dX7_of_4 : decode cX7_of 4 = .ok (.ifCond .eq 15, 3) := by decide +kernel
theorem dX7_of_7 : decode cX7_of 7 = .ok (.iload_n 2, 1) := by decide +kernel
theorem dX7_of_8 : decode cX7_of 8 = .ok (.i2l, 1) := by decide +kernel
theorem dX7_of_9 : decode cX7_of 9 = .ok (.lconst 0, 1) := by decide +kernel
theorem dX7_of_10 : decode cX7_of 10 = .ok (.ldc2_w 176, 3) := by decide +kernel
theorem dX7_of_13 : decode cX7_of 13 = .ok (.invokestatic 79, 3) := by decide +kernel
theorem dX7_of_16 : decode cX7_of 16 = .ok (.ifCond .ne 5, 3) := by decide +kernel
theorem dX7_of_19 : decode cX7_of 19 = .ok (.iconst (-1), 1) := by decide +kernel
theorem dX7_of_20 : decode cX7_of 20 = .ok (.ireturn, 1) := by decide +kernel
theorem dX7_of_21 : decode cX7_of 21 = .ok (.aload_n 0, 1) := by decide +kernel
theorem dX7_of_22 : decode cX7_of 22 = .ok (.iload_n 1, 1) := by decide +kernel
theorem dX7_of_23 : decode cX7_of 23 = .ok (.invokevirtual 163, 3) := by decide +kernel
theorem dX7_of_26 : decode cX7_of 26 = .ok (.ifCond .ne 6, 3) := by decide +kernel
theorem dX7_of_29 : decode cX7_of 29 = .ok (.bipush (-11), 2) := by decide +kernel
theorem dX7_of_31 : decode cX7_of 31 = .ok (.ireturn, 1) := by decide +kernel
theorem dX7_of_32 : decode cX7_of 32 = .ok (.iload_n 2, 1) := by decide +kernel
theorem dX7_of_33 : decode cX7_of 33 = .ok (.tableswitch 73 0 3 #[31, 38, 55, 64], 31) := by decide +kernel
theorem dX7_of_64 : decode cX7_of 64 = .ok (.aload_n 0, 1) := by decide +kernel
theorem dX7_of_65 : decode cX7_of 65 = .ok (.getfield 34, 3) := by decide +kernel
theorem dX7_of_68 : decode cX7_of 68 = .ok (.iload_n 1, 1) := by decide +kernel
theorem dX7_of_69 : decode cX7_of 69 = .ok (.iaload, 1) := by decide +kernel
theorem dX7_of_70 : decode cX7_of 70 = .ok (.ireturn, 1) := by decide +kernel
theorem dX7_of_71 : decode cX7_of 71 = .ok (.aload_n 0, 1) := by decide +kernel
theorem dX7_of_72 : decode cX7_of 72 = .ok (.iload_n 1, 1) := by decide +kernel
theorem dX7_of_73 : decode cX7_of 73 = .ok (.invokevirtual 178, 3) := by decide +kernel
theorem dX7_of_76 : decode cX7_of 76 = .ok (.ifCond .ge 7, 3) := by decide +kernel
theorem dX7_of_79 : decode cX7_of 79 = .ok (.iconst 1, 1) := by decide +kernel
theorem dX7_of_80 : decode cX7_of 80 = .ok (.goto 4, 3) := by decide +kernel
theorem dX7_of_83 : decode cX7_of 83 = .ok (.iconst 0, 1) := by decide +kernel
theorem dX7_of_84 : decode cX7_of 84 = .ok (.invokestatic 181, 3) := by decide +kernel
theorem dX7_of_87 : decode cX7_of 87 = .ok (.ireturn, 1) := by decide +kernel
theorem dX7_of_88 : decode cX7_of 88 = .ok (.aload_n 0, 1) := by decide +kernel
theorem dX7_of_89 : decode cX7_of 89 = .ok (.iload_n 1, 1) := by decide +kernel
theorem dX7_of_90 : decode cX7_of 90 = .ok (.invokevirtual 185, 3) := by decide +kernel
theorem dX7_of_93 : decode cX7_of 93 = .ok (.invokestatic 181, 3) := by decide +kernel
theorem dX7_of_96 : decode cX7_of 96 = .ok (.ireturn, 1) := by decide +kernel
theorem dX7_of_97 : decode cX7_of 97 = .ok (.aload_n 0, 1) := by decide +kernel
theorem dX7_of_98 : decode cX7_of 98 = .ok (.iload_n 1, 1) := by decide +kernel
theorem dX7_of_99 : decode cX7_of 99 = .ok (.invokevirtual 188, 3) := by decide +kernel
theorem dX7_of_102 : decode cX7_of 102 = .ok (.invokestatic 181, 3) := by decide +kernel
theorem dX7_of_105 : decode cX7_of 105 = .ok (.ireturn, 1) := by decide +kernel
theorem dX7_of_106 : decode cX7_of 106 = .ok (.aload_n 0, 1) := by decide +kernel
theorem dX7_of_107 : decode cX7_of 107 = .ok (.iload_n 1, 1) := by decide +kernel
theorem dX7_of_108 : decode cX7_of 108 = .ok (.invokevirtual 191, 3) := by decide +kernel
theorem dX7_of_111 : decode cX7_of 111 = .ok (.invokestatic 181, 3) := by decide +kernel
theorem dX7_of_114 : decode cX7_of 114 = .ok (.ireturn, 1) := by decide +kernel
theorem dX7_isUnder_0 : decode cX7_isUnder 0 = .ok (.iload_n 1, 1) := by decide +kernel
theorem dX7_isUnder_1 : decode cX7_isUnder 1 = .ok (.ifCond .eq 28, 3) := by decide +kernel
theorem dX7_isUnder_4 : decode cX7_isUnder 4 = .ok (.iload_n 0, 1) := by decide +kernel
theorem dX7_isUnder_5 : decode cX7_isUnder 5 = .ok (.iload_n 1, 1) := by decide +kernel
theorem dX7_isUnder_6 : decode cX7_isUnder 6 = .ok (.if_icmp .eq 23, 3) := by decide +kernel
theorem dX7_isUnder_9 : decode cX7_isUnder 9 = .ok (.iload_n 0, 1) := by decide +kernel
theorem dX7_isUnder_10 : decode cX7_isUnder 10 = .ok (.iconst 4, 1) := by decide +kernel
theorem dX7_isUnder_11 : decode cX7_isUnder 11 = .ok (.if_icmp .ne 8, 3) := by decide +kernel
theorem dX7_isUnder_14 : decode cX7_isUnder 14 = .ok (.iload_n 1, 1) := by decide +kernel
theorem dX7_isUnder_15 : decode cX7_isUnder 15 = .ok (.iconst 3, 1) := by decide +kernel
theorem dX7_isUnder_16 : decode cX7_isUnder 16 = .ok (.if_icmp .eq 13, 3) := by decide +kernel
theorem dX7_isUnder_19 : decode cX7_isUnder 19 = .ok (.iload_n 0, 1) := by decide +kernel
theorem dX7_isUnder_20 : decode cX7_isUnder 20 = .ok (.iconst 5, 1) := by decide +kernel
theorem dX7_isUnder_21 : decode cX7_isUnder 21 = .ok (.if_icmp .ne 12, 3) := by decide +kernel
theorem dX7_isUnder_24 : decode cX7_isUnder 24 = .ok (.iload_n 1, 1) := by decide +kernel
theorem dX7_isUnder_25 : decode cX7_isUnder 25 = .ok (.iconst 1, 1) := by decide +kernel
theorem dX7_isUnder_26 : decode cX7_isUnder 26 = .ok (.if_icmp .ne 7, 3) := by decide +kernel
theorem dX7_isUnder_29 : decode cX7_isUnder 29 = .ok (.iconst 1, 1) := by decide +kernel
theorem dX7_isUnder_30 : decode cX7_isUnder 30 = .ok (.goto 4, 3) := by decide +kernel
theorem dX7_isUnder_33 : decode cX7_isUnder 33 = .ok (.iconst 0, 1) := by decide +kernel
theorem dX7_isUnder_34 : decode cX7_isUnder 34 = .ok (.ireturn, 1) := by decide +kernel
theorem dX7_taken_0 : decode cX7_taken 0 = .ok (.iload_n 1, 1) := by decide +kernel
theorem dX7_taken_1 : decode cX7_taken 1 = .ok (.invokestatic 128, 3) := by decide +kernel
theorem dX7_taken_4 : decode cX7_taken 4 = .ok (.ifCond .eq 15, 3) := by decide +kernel
theorem dX7_taken_7 : decode cX7_taken 7 = .ok (.iload_n 2, 1) := by decide +kernel
theorem dX7_taken_8 : decode cX7_taken 8 = .ok (.i2l, 1) := by decide +kernel
theorem dX7_taken_9 : decode cX7_taken 9 = .ok (.lconst 0, 1) := by decide +kernel
theorem dX7_taken_10 : decode cX7_taken 10 = .ok (.ldc2_w 109, 3) := by decide +kernel
theorem dX7_taken_13 : decode cX7_taken 13 = .ok (.invokestatic 79, 3) := by decide +kernel
theorem dX7_taken_16 : decode cX7_taken 16 = .ok (.ifCond .ne 5, 3) := by decide +kernel
theorem dX7_taken_19 : decode cX7_taken 19 = .ok (.iconst (-1), 1) := by decide +kernel
theorem dX7_taken_20 : decode cX7_taken 20 = .ok (.ireturn, 1) := by decide +kernel
theorem dX7_taken_21 : decode cX7_taken 21 = .ok (.aload_n 0, 1) := by decide +kernel
theorem dX7_taken_22 : decode cX7_taken 22 = .ok (.iload_n 1, 1) := by decide +kernel
theorem dX7_taken_23 : decode cX7_taken 23 = .ok (.invokevirtual 163, 3) := by decide +kernel
theorem dX7_taken_26 : decode cX7_taken 26 = .ok (.ifCond .ne 6, 3) := by decide +kernel
theorem dX7_taken_29 : decode cX7_taken 29 = .ok (.bipush (-11), 2) := by decide +kernel
theorem dX7_taken_31 : decode cX7_taken 31 = .ok (.ireturn, 1) := by decide +kernel
theorem dX7_taken_32 : decode cX7_taken 32 = .ok (.aload_n 0, 1) := by decide +kernel
theorem dX7_taken_33 : decode cX7_taken 33 = .ok (.getfield 34, 3) := by decide +kernel
theorem dX7_taken_36 : decode cX7_taken 36 = .ok (.iload_n 1, 1) := by decide +kernel
theorem dX7_taken_37 : decode cX7_taken 37 = .ok (.iaload, 1) := by decide +kernel
theorem dX7_taken_38 : decode cX7_taken 38 = .ok (.iload_n 2, 1) := by decide +kernel
theorem dX7_taken_39 : decode cX7_taken 39 = .ok (.invokestatic 194, 3) := by decide +kernel
theorem dX7_taken_42 : decode cX7_taken 42 = .ok (.ifCond .eq 12, 3) := by decide +kernel
theorem dX7_taken_45 : decode cX7_taken 45 = .ok (.aload_n 0, 1) := by decide +kernel
theorem dX7_taken_46 : decode cX7_taken 46 = .ok (.getfield 34, 3) := by decide +kernel
theorem dX7_taken_49 : decode cX7_taken 49 = .ok (.iload_n 1, 1) := by decide +kernel
theorem dX7_taken_50 : decode cX7_taken 50 = .ok (.iaload, 1) := by decide +kernel
theorem dX7_taken_51 : decode cX7_taken 51 = .ok (.goto 5, 3) := by decide +kernel
theorem dX7_taken_54 : decode cX7_taken 54 = .ok (.bipush (-15), 2) := by decide +kernel
theorem dX7_taken_56 : decode cX7_taken 56 = .ok (.ireturn, 1) := by decide +kernel
theorem dX7_value_0 : decode cX7_value 0 = .ok (.iload_n 1, 1) := by decide +kernel
theorem dX7_value_1 : decode cX7_value 1 = .ok (.invokestatic 128, 3) := by decide +kernel
theorem dX7_value_4 : decode cX7_value 4 = .ok (.ifCond .ne 6, 3) := by decide +kernel
theorem dX7_value_7 : decode cX7_value 7 = .ok (.ldc 114, 2) := by decide +kernel
theorem dX7_value_9 : decode cX7_value 9 = .ok (.ireturn, 1) := by decide +kernel
theorem dX7_value_10 : decode cX7_value 10 = .ok (.aload_n 0, 1) := by decide +kernel
theorem dX7_value_11 : decode cX7_value 11 = .ok (.iload_n 2, 1) := by decide +kernel
theorem dX7_value_12 : decode cX7_value 12 = .ok (.invokevirtual 106, 3) := by decide +kernel
theorem dX7_value_15 : decode cX7_value 15 = .ok (.ifCond .ne 6, 3) := by decide +kernel
theorem dX7_value_18 : decode cX7_value 18 = .ok (.ldc 117, 2) := by decide +kernel
theorem dX7_value_20 : decode cX7_value 20 = .ok (.ireturn, 1) := by decide +kernel
theorem dX7_value_21 : decode cX7_value 21 = .ok (.aload_n 0, 1) := by decide +kernel
theorem dX7_value_22 : decode cX7_value 22 = .ok (.iload_n 1, 1) := by decide +kernel
theorem dX7_value_23 : decode cX7_value 23 = .ok (.invokevirtual 163, 3) := by decide +kernel
theorem dX7_value_26 : decode cX7_value 26 = .ok (.ifCond .eq 14, 3) := by decide +kernel
theorem dX7_value_29 : decode cX7_value 29 = .ok (.aload_n 0, 1) := by decide +kernel
theorem dX7_value_30 : decode cX7_value 30 = .ok (.getfield 39, 3) := by decide +kernel
theorem dX7_value_33 : decode cX7_value 33 = .ok (.iload_n 1, 1) := by decide +kernel
theorem dX7_value_34 : decode cX7_value 34 = .ok (.aaload, 1) := by decide +kernel
theorem dX7_value_35 : decode cX7_value 35 = .ok (.iload_n 2, 1) := by decide +kernel
theorem dX7_value_36 : decode cX7_value 36 = .ok (.iaload, 1) := by decide +kernel
theorem dX7_value_37 : decode cX7_value 37 = .ok (.goto 5, 3) := by decide +kernel
theorem dX7_value_40 : decode cX7_value 40 = .ok (.ldc 197, 2) := by decide +kernel
theorem dX7_value_42 : decode cX7_value 42 = .ok (.ireturn, 1) := by decide +kernel
theorem dX7_gain_0 : decode cX7_gain 0 = .ok (.aload_n 0, 1) := by decide +kernel
theorem dX7_gain_1 : decode cX7_gain 1 = .ok (.iload_n 1, 1) := by decide +kernel
theorem dX7_gain_2 : decode cX7_gain 2 = .ok (.invokevirtual 163, 3) := by decide +kernel
theorem dX7_gain_5 : decode cX7_gain 5 = .ok (.ifCond .eq 38, 3) := by decide +kernel
theorem dX7_gain_8 : decode cX7_gain 8 = .ok (.aload_n 0, 1) := by decide +kernel
theorem dX7_gain_9 : decode cX7_gain 9 = .ok (.iload_n 2, 1) := by decide +kernel
theorem dX7_gain_10 : decode cX7_gain 10 = .ok (.invokevirtual 106, 3) := by decide +kernel
theorem dX7_gain_13 : decode cX7_gain 13 = .ok (.ifCond .eq 30, 3) := by decide +kernel
theorem dX7_gain_16 : decode cX7_gain 16 = .ok (.aload_n 0, 1) := by decide +kernel
theorem dX7_gain_17 : decode cX7_gain 17 = .ok (.iload_n 3, 1) := by decide +kernel
theorem dX7_gain_18 : decode cX7_gain 18 = .ok (.invokevirtual 98, 3) := by decide +kernel
theorem dX7_gain_21 : decode cX7_gain 21 = .ok (.ifCond .eq 22, 3) := by decide +kernel
theorem dX7_gain_24 : decode cX7_gain 24 = .ok (.iload_n 2, 1) := by decide +kernel
theorem dX7_gain_25 : decode cX7_gain 25 = .ok (.iload_n 3, 1) := by decide +kernel
theorem dX7_gain_26 : decode cX7_gain 26 = .ok (.invokestatic 118, 3) := by decide +kernel
theorem dX7_gain_29 : decode cX7_gain 29 = .ok (.ifCond .ne 14, 3) := by decide +kernel
theorem dX7_gain_32 : decode cX7_gain 32 = .ok (.aload_n 0, 1) := by decide +kernel
theorem dX7_gain_33 : decode cX7_gain 33 = .ok (.iload_n 1, 1) := by decide +kernel
theorem dX7_gain_34 : decode cX7_gain 34 = .ok (.iload_n 2, 1) := by decide +kernel
theorem dX7_gain_35 : decode cX7_gain 35 = .ok (.iload_n 3, 1) := by decide +kernel
theorem dX7_gain_36 : decode cX7_gain 36 = .ok (.invokevirtual 169, 3) := by decide +kernel
theorem dX7_gain_39 : decode cX7_gain 39 = .ok (.i2l, 1) := by decide +kernel
theorem dX7_gain_40 : decode cX7_gain 40 = .ok (.goto 6, 3) := by decide +kernel
theorem dX7_gain_43 : decode cX7_gain 43 = .ok (.ldc2_w 198, 3) := by decide +kernel
theorem dX7_gain_46 : decode cX7_gain 46 = .ok (.lreturn, 1) := by decide +kernel
theorem dX7_fails_0 : decode cX7_fails 0 = .ok (.iload_n 1, 1) := by decide +kernel
theorem dX7_fails_1 : decode cX7_fails 1 = .ok (.invokestatic 128, 3) := by decide +kernel
theorem dX7_fails_4 : decode cX7_fails 4 = .ok (.ifCond .eq 15, 3) := by decide +kernel
theorem dX7_fails_7 : decode cX7_fails 7 = .ok (.iload_n 2, 1) := by decide +kernel
theorem dX7_fails_8 : decode cX7_fails 8 = .ok (.i2l, 1) := by decide +kernel
theorem dX7_fails_9 : decode cX7_fails 9 = .ok (.lconst 0, 1) := by decide +kernel
theorem dX7_fails_10 : decode cX7_fails 10 = .ok (.ldc2_w 200, 3) := by decide +kernel
theorem dX7_fails_13 : decode cX7_fails 13 = .ok (.invokestatic 79, 3) := by decide +kernel
theorem dX7_fails_16 : decode cX7_fails 16 = .ok (.ifCond .ne 5, 3) := by decide +kernel
theorem dX7_fails_19 : decode cX7_fails 19 = .ok (.iconst (-1), 1) := by decide +kernel
theorem dX7_fails_20 : decode cX7_fails 20 = .ok (.ireturn, 1) := by decide +kernel
theorem dX7_fails_21 : decode cX7_fails 21 = .ok (.aload_n 0, 1) := by decide +kernel
theorem dX7_fails_22 : decode cX7_fails 22 = .ok (.iload_n 1, 1) := by decide +kernel
theorem dX7_fails_23 : decode cX7_fails 23 = .ok (.invokevirtual 163, 3) := by decide +kernel
theorem dX7_fails_26 : decode cX7_fails 26 = .ok (.ifCond .ne 6, 3) := by decide +kernel
theorem dX7_fails_29 : decode cX7_fails 29 = .ok (.bipush (-11), 2) := by decide +kernel
theorem dX7_fails_31 : decode cX7_fails 31 = .ok (.ireturn, 1) := by decide +kernel
theorem dX7_fails_32 : decode cX7_fails 32 = .ok (.aload_n 0, 1) := by decide +kernel
theorem dX7_fails_33 : decode cX7_fails 33 = .ok (.iload_n 1, 1) := by decide +kernel
theorem dX7_fails_34 : decode cX7_fails 34 = .ok (.invokevirtual 178, 3) := by decide +kernel
theorem dX7_fails_37 : decode cX7_fails 37 = .ok (.istore_n 3, 1) := by decide +kernel
theorem dX7_fails_38 : decode cX7_fails 38 = .ok (.iload_n 3, 1) := by decide +kernel
theorem dX7_fails_39 : decode cX7_fails 39 = .ok (.ifCond .ge 6, 3) := by decide +kernel
theorem dX7_fails_42 : decode cX7_fails 42 = .ok (.bipush (-5), 2) := by decide +kernel
theorem dX7_fails_44 : decode cX7_fails 44 = .ok (.ireturn, 1) := by decide +kernel
theorem dX7_fails_45 : decode cX7_fails 45 = .ok (.iload_n 2, 1) := by decide +kernel
theorem dX7_fails_46 : decode cX7_fails 46 = .ok (.ifCond .ne 10, 3) := by decide +kernel
theorem dX7_fails_49 : decode cX7_fails 49 = .ok (.iload_n 3, 1) := by decide +kernel
theorem dX7_fails_50 : decode cX7_fails 50 = .ok (.bipush 100, 2) := by decide +kernel
theorem dX7_fails_52 : decode cX7_fails 52 = .ok (.idiv, 1) := by decide +kernel
theorem dX7_fails_53 : decode cX7_fails 53 = .ok (.goto 22, 3) := by decide +kernel
theorem dX7_fails_56 : decode cX7_fails 56 = .ok (.iload_n 2, 1) := by decide +kernel
theorem dX7_fails_57 : decode cX7_fails 57 = .ok (.iconst 1, 1) := by decide +kernel
theorem dX7_fails_58 : decode cX7_fails 58 = .ok (.if_icmp .ne 13, 3) := by decide +kernel
theorem dX7_fails_61 : decode cX7_fails 61 = .ok (.iload_n 3, 1) := by decide +kernel
theorem dX7_fails_62 : decode cX7_fails 62 = .ok (.bipush 10, 2) := by decide +kernel
theorem dX7_fails_64 : decode cX7_fails 64 = .ok (.idiv, 1) := by decide +kernel
theorem dX7_fails_65 : decode cX7_fails 65 = .ok (.bipush 10, 2) := by decide +kernel
theorem dX7_fails_67 : decode cX7_fails 67 = .ok (.irem, 1) := by decide +kernel
theorem dX7_fails_68 : decode cX7_fails 68 = .ok (.goto 7, 3) := by decide +kernel
theorem dX7_fails_71 : decode cX7_fails 71 = .ok (.iload_n 3, 1) := by decide +kernel
theorem dX7_fails_72 : decode cX7_fails 72 = .ok (.bipush 10, 2) := by decide +kernel
theorem dX7_fails_74 : decode cX7_fails 74 = .ok (.irem, 1) := by decide +kernel
theorem dX7_fails_75 : decode cX7_fails 75 = .ok (.ireturn, 1) := by decide +kernel
theorem dX7_orders_0 : decode cX7_orders 0 = .ok (.iload_n 0, 1) := by decide +kernel
theorem dX7_orders_1 : decode cX7_orders 1 = .ok (.iconst 2, 1) := by decide +kernel
theorem dX7_orders_2 : decode cX7_orders 2 = .ok (.if_icmp .ge 7, 3) := by decide +kernel
theorem dX7_orders_5 : decode cX7_orders 5 = .ok (.iconst 1, 1) := by decide +kernel
theorem dX7_orders_6 : decode cX7_orders 6 = .ok (.goto 11, 3) := by decide +kernel
theorem dX7_orders_9 : decode cX7_orders 9 = .ok (.iload_n 0, 1) := by decide +kernel
theorem dX7_orders_10 : decode cX7_orders 10 = .ok (.iload_n 0, 1) := by decide +kernel
theorem dX7_orders_11 : decode cX7_orders 11 = .ok (.iconst 1, 1) := by decide +kernel
theorem dX7_orders_12 : decode cX7_orders 12 = .ok (.isub, 1) := by decide +kernel
theorem dX7_orders_13 : decode cX7_orders 13 = .ok (.invokestatic 202, 3) := by decide +kernel
theorem dX7_orders_16 : decode cX7_orders 16 = .ok (.imul, 1) := by decide +kernel
theorem dX7_orders_17 : decode cX7_orders 17 = .ok (.ireturn, 1) := by decide +kernel
theorem dX7_isOrder_0 : decode cX7_isOrder 0 = .ok (.iload_n 1, 1) := by decide +kernel
theorem dX7_isOrder_1 : decode cX7_isOrder 1 = .ok (.i2l, 1) := by decide +kernel
theorem dX7_isOrder_2 : decode cX7_isOrder 2 = .ok (.lconst 0, 1) := by decide +kernel
theorem dX7_isOrder_3 : decode cX7_isOrder 3 = .ok (.aload_n 0, 1) := by decide +kernel
theorem dX7_isOrder_4 : decode cX7_isOrder 4 = .ok (.getfield 9, 3) := by decide +kernel
theorem dX7_isOrder_7 : decode cX7_isOrder 7 = .ok (.invokestatic 202, 3) := by decide +kernel
theorem dX7_isOrder_10 : decode cX7_isOrder 10 = .ok (.iconst 1, 1) := by decide +kernel
theorem dX7_isOrder_11 : decode cX7_isOrder 11 = .ok (.isub, 1) := by decide +kernel
theorem dX7_isOrder_12 : decode cX7_isOrder 12 = .ok (.i2l, 1) := by decide +kernel
theorem dX7_isOrder_13 : decode cX7_isOrder 13 = .ok (.invokestatic 79, 3) := by decide +kernel
theorem dX7_isOrder_16 : decode cX7_isOrder 16 = .ok (.ireturn, 1) := by decide +kernel
theorem dX7_layOrder_0 : decode cX7_layOrder 0 = .ok (.aload_n 0, 1) := by decide +kernel
theorem dX7_layOrder_1 : decode cX7_layOrder 1 = .ok (.invokevirtual 87, 3) := by decide +kernel
theorem dX7_layOrder_4 : decode cX7_layOrder 4 = .ok (.istore_n 2, 1) := by decide +kernel
theorem dX7_layOrder_5 : decode cX7_layOrder 5 = .ok (.iload_n 1, 1) := by decide +kernel
theorem dX7_layOrder_6 : decode cX7_layOrder 6 = .ok (.istore_n 3, 1) := by decide +kernel
theorem dX7_layOrder_7 : decode cX7_layOrder 7 = .ok (.iconst 0, 1) := by decide +kernel
theorem dX7_layOrder_8 : decode cX7_layOrder 8 = .ok (.istore 4, 2) := by decide +kernel
theorem dX7_layOrder_10 : decode cX7_layOrder 10 = .ok (.iload 4, 2) := by decide +kernel
theorem dX7_layOrder_12 : decode cX7_layOrder 12 = .ok (.aload_n 0, 1) := by decide +kernel
theorem dX7_layOrder_13 : decode cX7_layOrder 13 = .ok (.getfield 9, 3) := by decide +kernel
theorem dX7_layOrder_16 : decode cX7_layOrder 16 = .ok (.if_icmp .ge 87, 3) := by decide +kernel
theorem dX7_layOrder_19 : decode cX7_layOrder 19 = .ok (.aload_n 0, 1) := by decide +kernel
theorem dX7_layOrder_20 : decode cX7_layOrder 20 = .ok (.getfield 9, 3) := by decide +kernel
theorem dX7_layOrder_23 : decode cX7_layOrder 23 = .ok (.iconst 1, 1) := by decide +kernel
theorem dX7_layOrder_24 : decode cX7_layOrder 24 = .ok (.isub, 1) := by decide +kernel
theorem dX7_layOrder_25 : decode cX7_layOrder 25 = .ok (.iload 4, 2) := by decide +kernel
theorem dX7_layOrder_27 : decode cX7_layOrder 27 = .ok (.isub, 1) := by decide +kernel
theorem dX7_layOrder_28 : decode cX7_layOrder 28 = .ok (.invokestatic 202, 3) := by decide +kernel
theorem dX7_layOrder_31 : decode cX7_layOrder 31 = .ok (.istore 5, 2) := by decide +kernel
theorem dX7_layOrder_33 : decode cX7_layOrder 33 = .ok (.iload_n 3, 1) := by decide +kernel
theorem dX7_layOrder_34 : decode cX7_layOrder 34 = .ok (.iload 5, 2) := by decide +kernel
theorem dX7_layOrder_36 : decode cX7_layOrder 36 = .ok (.idiv, 1) := by decide +kernel
theorem dX7_layOrder_37 : decode cX7_layOrder 37 = .ok (.istore 6, 2) := by decide +kernel
theorem dX7_layOrder_39 : decode cX7_layOrder 39 = .ok (.iload_n 3, 1) := by decide +kernel
theorem dX7_layOrder_40 : decode cX7_layOrder 40 = .ok (.iload 5, 2) := by decide +kernel
theorem dX7_layOrder_42 : decode cX7_layOrder 42 = .ok (.irem, 1) := by decide +kernel
theorem dX7_layOrder_43 : decode cX7_layOrder 43 = .ok (.istore_n 3, 1) := by decide +kernel
theorem dX7_layOrder_44 : decode cX7_layOrder 44 = .ok (.iconst 0, 1) := by decide +kernel
theorem dX7_layOrder_45 : decode cX7_layOrder 45 = .ok (.istore 7, 2) := by decide +kernel
theorem dX7_layOrder_47 : decode cX7_layOrder 47 = .ok (.iload_n 2, 1) := by decide +kernel
theorem dX7_layOrder_48 : decode cX7_layOrder 48 = .ok (.iload 7, 2) := by decide +kernel
theorem dX7_layOrder_50 : decode cX7_layOrder 50 = .ok (.invokestatic 118, 3) := by decide +kernel
theorem dX7_layOrder_53 : decode cX7_layOrder 53 = .ok (.ifCond .eq 8, 3) := by decide +kernel
theorem dX7_layOrder_56 : decode cX7_layOrder 56 = .ok (.iload 6, 2) := by decide +kernel
theorem dX7_layOrder_58 : decode cX7_layOrder 58 = .ok (.ifCond .le 21, 3) := by decide +kernel
theorem dX7_layOrder_61 : decode cX7_layOrder 61 = .ok (.iload_n 2, 1) := by decide +kernel
theorem dX7_layOrder_62 : decode cX7_layOrder 62 = .ok (.iload 7, 2) := by decide +kernel
theorem dX7_layOrder_64 : decode cX7_layOrder 64 = .ok (.invokestatic 118, 3) := by decide +kernel
theorem dX7_layOrder_67 : decode cX7_layOrder 67 = .ok (.ifCond .eq 6, 3) := by decide +kernel
theorem dX7_layOrder_70 : decode cX7_layOrder 70 = .ok (.iinc 6 (-1), 3) := by decide +kernel
theorem dX7_layOrder_73 : decode cX7_layOrder 73 = .ok (.iinc 7 1, 3) := by decide +kernel
theorem dX7_layOrder_76 : decode cX7_layOrder 76 = .ok (.goto (-29), 3) := by decide +kernel
theorem dX7_layOrder_79 : decode cX7_layOrder 79 = .ok (.aload_n 0, 1) := by decide +kernel
theorem dX7_layOrder_80 : decode cX7_layOrder 80 = .ok (.getfield 45, 3) := by decide +kernel
theorem dX7_layOrder_83 : decode cX7_layOrder 83 = .ok (.iload 4, 2) := by decide +kernel
theorem dX7_layOrder_85 : decode cX7_layOrder 85 = .ok (.iload 7, 2) := by decide +kernel
theorem dX7_layOrder_87 : decode cX7_layOrder 87 = .ok (.iastore, 1) := by decide +kernel
theorem dX7_layOrder_88 : decode cX7_layOrder 88 = .ok (.iload_n 2, 1) := by decide +kernel
theorem dX7_layOrder_89 : decode cX7_layOrder 89 = .ok (.iconst 1, 1) := by decide +kernel
theorem dX7_layOrder_90 : decode cX7_layOrder 90 = .ok (.iload 7, 2) := by decide +kernel
theorem dX7_layOrder_92 : decode cX7_layOrder 92 = .ok (.ishl, 1) := by decide +kernel
theorem dX7_layOrder_93 : decode cX7_layOrder 93 = .ok (.iconst (-1), 1) := by decide +kernel
theorem dX7_layOrder_94 : decode cX7_layOrder 94 = .ok (.ixor, 1) := by decide +kernel
theorem dX7_layOrder_95 : decode cX7_layOrder 95 = .ok (.iand, 1) := by decide +kernel
theorem dX7_layOrder_96 : decode cX7_layOrder 96 = .ok (.istore_n 2, 1) := by decide +kernel
theorem dX7_layOrder_97 : decode cX7_layOrder 97 = .ok (.iinc 4 1, 3) := by decide +kernel
theorem dX7_layOrder_100 : decode cX7_layOrder 100 = .ok (.goto (-90), 3) := by decide +kernel
theorem dX7_layOrder_103 : decode cX7_layOrder 103 = .ok (.return_, 1) := by decide +kernel
theorem dX7_baseOf_0 : decode cX7_baseOf 0 = .ok (.iconst 0, 1) := by decide +kernel
theorem dX7_baseOf_1 : decode cX7_baseOf 1 = .ok (.istore_n 3, 1) := by decide +kernel
theorem dX7_baseOf_2 : decode cX7_baseOf 2 = .ok (.iconst 0, 1) := by decide +kernel
theorem dX7_baseOf_3 : decode cX7_baseOf 3 = .ok (.istore 4, 2) := by decide +kernel
theorem dX7_baseOf_5 : decode cX7_baseOf 5 = .ok (.aload_n 0, 1) := by decide +kernel
theorem dX7_baseOf_6 : decode cX7_baseOf 6 = .ok (.getfield 45, 3) := by decide +kernel
theorem dX7_baseOf_9 : decode cX7_baseOf 9 = .ok (.iload 4, 2) := by decide +kernel
theorem dX7_baseOf_11 : decode cX7_baseOf 11 = .ok (.iaload, 1) := by decide +kernel
theorem dX7_baseOf_12 : decode cX7_baseOf 12 = .ok (.iload_n 2, 1) := by decide +kernel
theorem dX7_baseOf_13 : decode cX7_baseOf 13 = .ok (.if_icmp .eq 21, 3) := by decide +kernel
theorem dX7_baseOf_16 : decode cX7_baseOf 16 = .ok (.iload_n 3, 1) := by decide +kernel
theorem dX7_baseOf_17 : decode cX7_baseOf 17 = .ok (.iconst 1, 1) := by decide +kernel
theorem dX7_baseOf_18 : decode cX7_baseOf 18 = .ok (.aload_n 0, 1) := by decide +kernel
theorem dX7_baseOf_19 : decode cX7_baseOf 19 = .ok (.getfield 45, 3) := by decide +kernel
theorem dX7_baseOf_22 : decode cX7_baseOf 22 = .ok (.iload 4, 2) := by decide +kernel
theorem dX7_baseOf_24 : decode cX7_baseOf 24 = .ok (.iaload, 1) := by decide +kernel
theorem dX7_baseOf_25 : decode cX7_baseOf 25 = .ok (.ishl, 1) := by decide +kernel
theorem dX7_baseOf_26 : decode cX7_baseOf 26 = .ok (.ior, 1) := by decide +kernel
theorem dX7_baseOf_27 : decode cX7_baseOf 27 = .ok (.istore_n 3, 1) := by decide +kernel
theorem dX7_baseOf_28 : decode cX7_baseOf 28 = .ok (.iinc 4 1, 3) := by decide +kernel
theorem dX7_baseOf_31 : decode cX7_baseOf 31 = .ok (.goto (-26), 3) := by decide +kernel
theorem dX7_baseOf_34 : decode cX7_baseOf 34 = .ok (.aload_n 0, 1) := by decide +kernel
theorem dX7_baseOf_35 : decode cX7_baseOf 35 = .ok (.iload_n 1, 1) := by decide +kernel
theorem dX7_baseOf_36 : decode cX7_baseOf 36 = .ok (.iload_n 3, 1) := by decide +kernel
theorem dX7_baseOf_37 : decode cX7_baseOf 37 = .ok (.iload_n 2, 1) := by decide +kernel
theorem dX7_baseOf_38 : decode cX7_baseOf 38 = .ok (.invokevirtual 169, 3) := by decide +kernel
theorem dX7_baseOf_41 : decode cX7_baseOf 41 = .ok (.ireturn, 1) := by decide +kernel
theorem dX7_base_0 : decode cX7_base 0 = .ok (.aload_n 0, 1) := by decide +kernel
theorem dX7_base_1 : decode cX7_base 1 = .ok (.iload_n 1, 1) := by decide +kernel
theorem dX7_base_2 : decode cX7_base 2 = .ok (.invokevirtual 163, 3) := by decide +kernel
theorem dX7_base_5 : decode cX7_base 5 = .ok (.ifCond .eq 19, 3) := by decide +kernel
theorem dX7_base_8 : decode cX7_base 8 = .ok (.aload_n 0, 1) := by decide +kernel
theorem dX7_base_9 : decode cX7_base 9 = .ok (.iload_n 2, 1) := by decide +kernel
theorem dX7_base_10 : decode cX7_base 10 = .ok (.invokevirtual 205, 3) := by decide +kernel
theorem dX7_base_13 : decode cX7_base 13 = .ok (.ifCond .eq 11, 3) := by decide +kernel
theorem dX7_base_16 : decode cX7_base 16 = .ok (.aload_n 0, 1) := by decide +kernel
theorem dX7_base_17 : decode cX7_base 17 = .ok (.iload_n 3, 1) := by decide +kernel
theorem dX7_base_18 : decode cX7_base 18 = .ok (.invokevirtual 98, 3) := by decide +kernel
theorem dX7_base_21 : decode cX7_base 21 = .ok (.ifCond .ne 7, 3) := by decide +kernel
theorem dX7_base_24 : decode cX7_base 24 = .ok (.ldc2_w 198, 3) := by decide +kernel
theorem dX7_base_27 : decode cX7_base 27 = .ok (.lreturn, 1) := by decide +kernel
theorem dX7_base_28 : decode cX7_base 28 = .ok (.aload_n 0, 1) := by decide +kernel
theorem dX7_base_29 : decode cX7_base 29 = .ok (.iload_n 2, 1) := by decide +kernel
theorem dX7_base_30 : decode cX7_base 30 = .ok (.invokevirtual 208, 3) := by decide +kernel
theorem dX7_base_33 : decode cX7_base 33 = .ok (.aload_n 0, 1) := by decide +kernel
theorem dX7_base_34 : decode cX7_base 34 = .ok (.iload_n 1, 1) := by decide +kernel
theorem dX7_base_35 : decode cX7_base 35 = .ok (.iload_n 3, 1) := by decide +kernel
theorem dX7_base_36 : decode cX7_base 36 = .ok (.invokevirtual 212, 3) := by decide +kernel
theorem dX7_base_39 : decode cX7_base 39 = .ok (.i2l, 1) := by decide +kernel
theorem dX7_base_40 : decode cX7_base 40 = .ok (.lreturn, 1) := by decide +kernel
theorem dX7_negative_0 : decode cX7_negative 0 = .ok (.aload_n 0, 1) := by decide +kernel
theorem dX7_negative_1 : decode cX7_negative 1 = .ok (.iload_n 1, 1) := by decide +kernel
theorem dX7_negative_2 : decode cX7_negative 2 = .ok (.invokevirtual 163, 3) := by decide +kernel
theorem dX7_negative_5 : decode cX7_negative 5 = .ok (.ifCond .eq 11, 3) := by decide +kernel
theorem dX7_negative_8 : decode cX7_negative 8 = .ok (.aload_n 0, 1) := by decide +kernel
theorem dX7_negative_9 : decode cX7_negative 9 = .ok (.iload_n 2, 1) := by decide +kernel
theorem dX7_negative_10 : decode cX7_negative 10 = .ok (.invokevirtual 205, 3) := by decide +kernel
theorem dX7_negative_13 : decode cX7_negative 13 = .ok (.ifCond .ne 7, 3) := by decide +kernel
theorem dX7_negative_16 : decode cX7_negative 16 = .ok (.ldc2_w 198, 3) := by decide +kernel
theorem dX7_negative_19 : decode cX7_negative 19 = .ok (.lreturn, 1) := by decide +kernel
theorem dX7_negative_20 : decode cX7_negative 20 = .ok (.aload_n 0, 1) := by decide +kernel
theorem dX7_negative_21 : decode cX7_negative 21 = .ok (.iload_n 2, 1) := by decide +kernel
theorem dX7_negative_22 : decode cX7_negative 22 = .ok (.invokevirtual 208, 3) := by decide +kernel
theorem dX7_negative_25 : decode cX7_negative 25 = .ok (.iconst 0, 1) := by decide +kernel
theorem dX7_negative_26 : decode cX7_negative 26 = .ok (.istore_n 3, 1) := by decide +kernel
theorem dX7_negative_27 : decode cX7_negative 27 = .ok (.iconst 0, 1) := by decide +kernel
theorem dX7_negative_28 : decode cX7_negative 28 = .ok (.istore 4, 2) := by decide +kernel
theorem dX7_negative_30 : decode cX7_negative 30 = .ok (.iload 4, 2) := by decide +kernel
theorem dX7_negative_32 : decode cX7_negative 32 = .ok (.aload_n 0, 1) := by decide +kernel
theorem dX7_negative_33 : decode cX7_negative 33 = .ok (.getfield 9, 3) := by decide +kernel
theorem dX7_negative_36 : decode cX7_negative 36 = .ok (.if_icmp .ge 23, 3) := by decide +kernel
theorem dX7_negative_39 : decode cX7_negative 39 = .ok (.iload_n 3, 1) := by decide +kernel
theorem dX7_negative_40 : decode cX7_negative 40 = .ok (.iconst 0, 1) := by decide +kernel
theorem dX7_negative_41 : decode cX7_negative 41 = .ok (.aload_n 0, 1) := by decide +kernel
theorem dX7_negative_42 : decode cX7_negative 42 = .ok (.iload_n 1, 1) := by decide +kernel
theorem dX7_negative_43 : decode cX7_negative 43 = .ok (.iload 4, 2) := by decide +kernel
theorem dX7_negative_45 : decode cX7_negative 45 = .ok (.invokevirtual 212, 3) := by decide +kernel
theorem dX7_negative_48 : decode cX7_negative 48 = .ok (.invokestatic 122, 3) := by decide +kernel
theorem dX7_negative_51 : decode cX7_negative 51 = .ok (.iadd, 1) := by decide +kernel
theorem dX7_negative_52 : decode cX7_negative 52 = .ok (.istore_n 3, 1) := by decide +kernel
theorem dX7_negative_53 : decode cX7_negative 53 = .ok (.iinc 4 1, 3) := by decide +kernel
theorem dX7_negative_56 : decode cX7_negative 56 = .ok (.goto (-26), 3) := by decide +kernel
theorem dX7_negative_59 : decode cX7_negative 59 = .ok (.iload_n 3, 1) := by decide +kernel
theorem dX7_negative_60 : decode cX7_negative 60 = .ok (.i2l, 1) := by decide +kernel
theorem dX7_negative_61 : decode cX7_negative 61 = .ok (.lreturn, 1) := by decide +kernel
theorem dX7_spare_0 : decode cX7_spare 0 = .ok (.aload_n 0, 1) := by decide +kernel
theorem dX7_spare_1 : decode cX7_spare 1 = .ok (.getfield 39, 3) := by decide +kernel
theorem dX7_spare_4 : decode cX7_spare 4 = .ok (.iload_n 1, 1) := by decide +kernel
theorem dX7_spare_5 : decode cX7_spare 5 = .ok (.aaload, 1) := by decide +kernel
theorem dX7_spare_6 : decode cX7_spare 6 = .ok (.iload_n 2, 1) := by decide +kernel
theorem dX7_spare_7 : decode cX7_spare 7 = .ok (.iaload, 1) := by decide +kernel
theorem dX7_spare_8 : decode cX7_spare 8 = .ok (.aload_n 0, 1) := by decide +kernel
theorem dX7_spare_9 : decode cX7_spare 9 = .ok (.getfield 39, 3) := by decide +kernel
theorem dX7_spare_12 : decode cX7_spare 12 = .ok (.iload_n 1, 1) := by decide +kernel
theorem dX7_spare_13 : decode cX7_spare 13 = .ok (.aaload, 1) := by decide +kernel
theorem dX7_spare_14 : decode cX7_spare 14 = .ok (.iconst 0, 1) := by decide +kernel
theorem dX7_spare_15 : decode cX7_spare 15 = .ok (.iaload, 1) := by decide +kernel
theorem dX7_spare_16 : decode cX7_spare 16 = .ok (.isub, 1) := by decide +kernel
theorem dX7_spare_17 : decode cX7_spare 17 = .ok (.aload_n 0, 1) := by decide +kernel
theorem dX7_spare_18 : decode cX7_spare 18 = .ok (.iload_n 2, 1) := by decide +kernel
theorem dX7_spare_19 : decode cX7_spare 19 = .ok (.invokevirtual 156, 3) := by decide +kernel
theorem dX7_spare_22 : decode cX7_spare 22 = .ok (.isub, 1) := by decide +kernel
theorem dX7_spare_23 : decode cX7_spare 23 = .ok (.ireturn, 1) := by decide +kernel
theorem dX7_isBase_0 : decode cX7_isBase 0 = .ok (.iconst 0, 1) := by decide +kernel
theorem dX7_isBase_1 : decode cX7_isBase 1 = .ok (.istore_n 2, 1) := by decide +kernel
theorem dX7_isBase_2 : decode cX7_isBase 2 = .ok (.iload_n 2, 1) := by decide +kernel
theorem dX7_isBase_3 : decode cX7_isBase 3 = .ok (.aload_n 0, 1) := by decide +kernel
theorem dX7_isBase_4 : decode cX7_isBase 4 = .ok (.invokevirtual 83, 3) := by decide +kernel
theorem dX7_isBase_7 : decode cX7_isBase 7 = .ok (.if_icmp .ge 20, 3) := by decide +kernel
theorem dX7_isBase_10 : decode cX7_isBase 10 = .ok (.aload_n 0, 1) := by decide +kernel
theorem dX7_isBase_11 : decode cX7_isBase 11 = .ok (.iload_n 1, 1) := by decide +kernel
theorem dX7_isBase_12 : decode cX7_isBase 12 = .ok (.iload_n 2, 1) := by decide +kernel
theorem dX7_isBase_13 : decode cX7_isBase 13 = .ok (.invokevirtual 215, 3) := by decide +kernel
theorem dX7_isBase_16 : decode cX7_isBase 16 = .ok (.ifCond .ge 5, 3) := by decide +kernel
theorem dX7_isBase_19 : decode cX7_isBase 19 = .ok (.iconst 0, 1) := by decide +kernel
theorem dX7_isBase_20 : decode cX7_isBase 20 = .ok (.ireturn, 1) := by decide +kernel
theorem dX7_isBase_21 : decode cX7_isBase 21 = .ok (.iinc 2 1, 3) := by decide +kernel
theorem dX7_isBase_24 : decode cX7_isBase 24 = .ok (.goto (-22), 3) := by decide +kernel
theorem dX7_isBase_27 : decode cX7_isBase 27 = .ok (.aload_n 0, 1) := by decide +kernel
theorem dX7_isBase_28 : decode cX7_isBase 28 = .ok (.iload_n 1, 1) := by decide +kernel
theorem dX7_isBase_29 : decode cX7_isBase 29 = .ok (.aload_n 0, 1) := by decide +kernel
theorem dX7_isBase_30 : decode cX7_isBase 30 = .ok (.invokevirtual 87, 3) := by decide +kernel
theorem dX7_isBase_33 : decode cX7_isBase 33 = .ok (.invokevirtual 215, 3) := by decide +kernel
theorem dX7_isBase_36 : decode cX7_isBase 36 = .ok (.ifCond .ne 7, 3) := by decide +kernel
theorem dX7_isBase_39 : decode cX7_isBase 39 = .ok (.iconst 1, 1) := by decide +kernel
theorem dX7_isBase_40 : decode cX7_isBase 40 = .ok (.goto 4, 3) := by decide +kernel
theorem dX7_isBase_43 : decode cX7_isBase 43 = .ok (.iconst 0, 1) := by decide +kernel
theorem dX7_isBase_44 : decode cX7_isBase 44 = .ok (.ireturn, 1) := by decide +kernel
theorem dX7_based_0 : decode cX7_based 0 = .ok (.iload_n 1, 1) := by decide +kernel
theorem dX7_based_1 : decode cX7_based 1 = .ok (.invokestatic 128, 3) := by decide +kernel
theorem dX7_based_4 : decode cX7_based 4 = .ok (.ifCond .eq 15, 3) := by decide +kernel
theorem dX7_based_7 : decode cX7_based 7 = .ok (.iload_n 2, 1) := by decide +kernel
theorem dX7_based_8 : decode cX7_based 8 = .ok (.i2l, 1) := by decide +kernel
theorem dX7_based_9 : decode cX7_based 9 = .ok (.lconst 0, 1) := by decide +kernel
theorem dX7_based_10 : decode cX7_based 10 = .ok (.ldc2_w 218, 3) := by decide +kernel
theorem dX7_based_13 : decode cX7_based 13 = .ok (.invokestatic 79, 3) := by decide +kernel
theorem dX7_based_16 : decode cX7_based 16 = .ok (.ifCond .ne 5, 3) := by decide +kernel
theorem dX7_based_19 : decode cX7_based 19 = .ok (.iconst (-1), 1) := by decide +kernel
theorem dX7_based_20 : decode cX7_based 20 = .ok (.ireturn, 1) := by decide +kernel
theorem dX7_based_21 : decode cX7_based 21 = .ok (.aload_n 0, 1) := by decide +kernel
theorem dX7_based_22 : decode cX7_based 22 = .ok (.iload_n 1, 1) := by decide +kernel
theorem dX7_based_23 : decode cX7_based 23 = .ok (.invokevirtual 163, 3) := by decide +kernel
theorem dX7_based_26 : decode cX7_based 26 = .ok (.ifCond .ne 6, 3) := by decide +kernel
theorem dX7_based_29 : decode cX7_based 29 = .ok (.bipush (-11), 2) := by decide +kernel
theorem dX7_based_31 : decode cX7_based 31 = .ok (.ireturn, 1) := by decide +kernel
theorem dX7_based_32 : decode cX7_based 32 = .ok (.iload_n 2, 1) := by decide +kernel
theorem dX7_based_33 : decode cX7_based 33 = .ok (.ifCond .ne 12, 3) := by decide +kernel
theorem dX7_based_36 : decode cX7_based 36 = .ok (.aload_n 0, 1) := by decide +kernel
theorem dX7_based_37 : decode cX7_based 37 = .ok (.iload_n 1, 1) := by decide +kernel
theorem dX7_based_38 : decode cX7_based 38 = .ok (.invokevirtual 220, 3) := by decide +kernel
theorem dX7_based_41 : decode cX7_based 41 = .ok (.invokestatic 181, 3) := by decide +kernel
theorem dX7_based_44 : decode cX7_based 44 = .ok (.ireturn, 1) := by decide +kernel
theorem dX7_based_45 : decode cX7_based 45 = .ok (.iconst 0, 1) := by decide +kernel
theorem dX7_based_46 : decode cX7_based 46 = .ok (.istore_n 3, 1) := by decide +kernel
theorem dX7_based_47 : decode cX7_based 47 = .ok (.aload_n 0, 1) := by decide +kernel
theorem dX7_based_48 : decode cX7_based 48 = .ok (.invokevirtual 87, 3) := by decide +kernel
theorem dX7_based_51 : decode cX7_based 51 = .ok (.istore 4, 2) := by decide +kernel
theorem dX7_based_53 : decode cX7_based 53 = .ok (.iconst 0, 1) := by decide +kernel
theorem dX7_based_54 : decode cX7_based 54 = .ok (.istore 5, 2) := by decide +kernel
theorem dX7_based_56 : decode cX7_based 56 = .ok (.iconst 0, 1) := by decide +kernel
theorem dX7_based_57 : decode cX7_based 57 = .ok (.istore 6, 2) := by decide +kernel
theorem dX7_based_59 : decode cX7_based 59 = .ok (.iload 6, 2) := by decide +kernel
theorem dX7_based_61 : decode cX7_based 61 = .ok (.aload_n 0, 1) := by decide +kernel
theorem dX7_based_62 : decode cX7_based 62 = .ok (.invokevirtual 83, 3) := by decide +kernel
theorem dX7_based_65 : decode cX7_based 65 = .ok (.if_icmp .ge 49, 3) := by decide +kernel
theorem dX7_based_68 : decode cX7_based 68 = .ok (.aload_n 0, 1) := by decide +kernel
theorem dX7_based_69 : decode cX7_based 69 = .ok (.iload_n 1, 1) := by decide +kernel
theorem dX7_based_70 : decode cX7_based 70 = .ok (.iload 6, 2) := by decide +kernel
theorem dX7_based_72 : decode cX7_based 72 = .ok (.invokevirtual 215, 3) := by decide +kernel
theorem dX7_based_75 : decode cX7_based 75 = .ok (.ifCond .eq 6, 3) := by decide +kernel
theorem dX7_based_78 : decode cX7_based 78 = .ok (.goto 30, 3) := by decide +kernel
theorem dX7_based_81 : decode cX7_based 81 = .ok (.iinc 3 1, 3) := by decide +kernel
theorem dX7_based_84 : decode cX7_based 84 = .ok (.iload 4, 2) := by decide +kernel
theorem dX7_based_86 : decode cX7_based 86 = .ok (.iload 6, 2) := by decide +kernel
theorem dX7_based_88 : decode cX7_based 88 = .ok (.ifCond .ne 8, 3) := by decide +kernel
theorem dX7_based_91 : decode cX7_based 91 = .ok (.iload 4, 2) := by decide +kernel
theorem dX7_based_93 : decode cX7_based 93 = .ok (.goto 5, 3) := by decide +kernel
theorem dX7_based_96 : decode cX7_based 96 = .ok (.iload 6, 2) := by decide +kernel
theorem dX7_based_98 : decode cX7_based 98 = .ok (.iand, 1) := by decide +kernel
theorem dX7_based_99 : decode cX7_based 99 = .ok (.istore 4, 2) := by decide +kernel
theorem dX7_based_101 : decode cX7_based 101 = .ok (.iload 5, 2) := by decide +kernel
theorem dX7_based_103 : decode cX7_based 103 = .ok (.iload 6, 2) := by decide +kernel
theorem dX7_based_105 : decode cX7_based 105 = .ok (.ior, 1) := by decide +kernel
theorem dX7_based_106 : decode cX7_based 106 = .ok (.istore 5, 2) := by decide +kernel
theorem dX7_based_108 : decode cX7_based 108 = .ok (.iinc 6 1, 3) := by decide +kernel
theorem dX7_based_111 : decode cX7_based 111 = .ok (.goto (-52), 3) := by decide +kernel
theorem dX7_based_114 : decode cX7_based 114 = .ok (.iload_n 2, 1) := by decide +kernel
theorem dX7_based_115 : decode cX7_based 115 = .ok (.iconst 1, 1) := by decide +kernel
theorem dX7_based_116 : decode cX7_based 116 = .ok (.if_icmp .ne 7, 3) := by decide +kernel
theorem dX7_based_119 : decode cX7_based 119 = .ok (.iload_n 3, 1) := by decide +kernel
theorem dX7_based_120 : decode cX7_based 120 = .ok (.goto 15, 3) := by decide +kernel
theorem dX7_based_123 : decode cX7_based 123 = .ok (.iload_n 2, 1) := by decide +kernel
theorem dX7_based_124 : decode cX7_based 124 = .ok (.iconst 2, 1) := by decide +kernel
theorem dX7_based_125 : decode cX7_based 125 = .ok (.if_icmp .ne 8, 3) := by decide +kernel
theorem dX7_based_128 : decode cX7_based 128 = .ok (.iload 4, 2) := by decide +kernel
theorem dX7_based_130 : decode cX7_based 130 = .ok (.goto 5, 3) := by decide +kernel
theorem dX7_based_133 : decode cX7_based 133 = .ok (.iload 5, 2) := by decide +kernel
theorem dX7_based_135 : decode cX7_based 135 = .ok (.ireturn, 1) := by decide +kernel
theorem dX7_leastOf_0 : decode cX7_leastOf 0 = .ok (.aload_n 0, 1) := by decide +kernel
theorem dX7_leastOf_1 : decode cX7_leastOf 1 = .ok (.getfield 39, 3) := by decide +kernel
theorem dX7_leastOf_4 : decode cX7_leastOf 4 = .ok (.iload_n 1, 1) := by decide +kernel
theorem dX7_leastOf_5 : decode cX7_leastOf 5 = .ok (.aaload, 1) := by decide +kernel
theorem dX7_leastOf_6 : decode cX7_leastOf 6 = .ok (.iconst 0, 1) := by decide +kernel
theorem dX7_leastOf_7 : decode cX7_leastOf 7 = .ok (.iaload, 1) := by decide +kernel
theorem dX7_leastOf_8 : decode cX7_leastOf 8 = .ok (.istore_n 2, 1) := by decide +kernel
theorem dX7_leastOf_9 : decode cX7_leastOf 9 = .ok (.iconst 1, 1) := by decide +kernel
theorem dX7_leastOf_10 : decode cX7_leastOf 10 = .ok (.istore_n 3, 1) := by decide +kernel
theorem dX7_leastOf_11 : decode cX7_leastOf 11 = .ok (.iload_n 3, 1) := by decide +kernel
theorem dX7_leastOf_12 : decode cX7_leastOf 12 = .ok (.aload_n 0, 1) := by decide +kernel
theorem dX7_leastOf_13 : decode cX7_leastOf 13 = .ok (.invokevirtual 83, 3) := by decide +kernel
theorem dX7_leastOf_16 : decode cX7_leastOf 16 = .ok (.if_icmp .ge 22, 3) := by decide +kernel
theorem dX7_leastOf_19 : decode cX7_leastOf 19 = .ok (.iload_n 2, 1) := by decide +kernel
theorem dX7_leastOf_20 : decode cX7_leastOf 20 = .ok (.aload_n 0, 1) := by decide +kernel
theorem dX7_leastOf_21 : decode cX7_leastOf 21 = .ok (.getfield 39, 3) := by decide +kernel
theorem dX7_leastOf_24 : decode cX7_leastOf 24 = .ok (.iload_n 1, 1) := by decide +kernel
theorem dX7_leastOf_25 : decode cX7_leastOf 25 = .ok (.aaload, 1) := by decide +kernel
theorem dX7_leastOf_26 : decode cX7_leastOf 26 = .ok (.iload_n 3, 1) := by decide +kernel
theorem dX7_leastOf_27 : decode cX7_leastOf 27 = .ok (.iaload, 1) := by decide +kernel
theorem dX7_leastOf_28 : decode cX7_leastOf 28 = .ok (.invokestatic 122, 3) := by decide +kernel
theorem dX7_leastOf_31 : decode cX7_leastOf 31 = .ok (.istore_n 2, 1) := by decide +kernel
theorem dX7_leastOf_32 : decode cX7_leastOf 32 = .ok (.iinc 3 1, 3) := by decide +kernel
theorem dX7_leastOf_35 : decode cX7_leastOf 35 = .ok (.goto (-24), 3) := by decide +kernel
theorem dX7_leastOf_38 : decode cX7_leastOf 38 = .ok (.iload_n 2, 1) := by decide +kernel
theorem dX7_leastOf_39 : decode cX7_leastOf 39 = .ok (.ireturn, 1) := by decide +kernel
theorem dX7_least_0 : decode cX7_least 0 = .ok (.aload_n 0, 1) := by decide +kernel
theorem dX7_least_1 : decode cX7_least 1 = .ok (.iload_n 1, 1) := by decide +kernel
theorem dX7_least_2 : decode cX7_least 2 = .ok (.invokevirtual 163, 3) := by decide +kernel
theorem dX7_least_5 : decode cX7_least 5 = .ok (.ifCond .eq 12, 3) := by decide +kernel
theorem dX7_least_8 : decode cX7_least 8 = .ok (.aload_n 0, 1) := by decide +kernel
theorem dX7_least_9 : decode cX7_least 9 = .ok (.iload_n 1, 1) := by decide +kernel
theorem dX7_least_10 : decode cX7_least 10 = .ok (.invokevirtual 223, 3) := by decide +kernel
theorem dX7_least_13 : decode cX7_least 13 = .ok (.i2l, 1) := by decide +kernel
theorem dX7_least_14 : decode cX7_least 14 = .ok (.goto 6, 3) := by decide +kernel
theorem dX7_least_17 : decode cX7_least 17 = .ok (.ldc2_w 198, 3) := by decide +kernel
theorem dX7_least_20 : decode cX7_least 20 = .ok (.lreturn, 1) := by decide +kernel
theorem dX7_areClosed_0 : decode cX7_areClosed 0 = .ok (.iconst 0, 1) := by decide +kernel
theorem dX7_areClosed_1 : decode cX7_areClosed 1 = .ok (.istore_n 3, 1) := by decide +kernel
theorem dX7_areClosed_2 : decode cX7_areClosed 2 = .ok (.iload_n 3, 1) := by decide +kernel
theorem dX7_areClosed_3 : decode cX7_areClosed 3 = .ok (.aload_n 0, 1) := by decide +kernel
theorem dX7_areClosed_4 : decode cX7_areClosed 4 = .ok (.invokevirtual 83, 3) := by decide +kernel
theorem dX7_areClosed_7 : decode cX7_areClosed 7 = .ok (.if_icmp .ge 81, 3) := by decide +kernel
theorem dX7_areClosed_10 : decode cX7_areClosed 10 = .ok (.iconst 0, 1) := by decide +kernel
theorem dX7_areClosed_11 : decode cX7_areClosed 11 = .ok (.istore 4, 2) := by decide +kernel
theorem dX7_areClosed_13 : decode cX7_areClosed 13 = .ok (.iload 4, 2) := by decide +kernel
theorem dX7_areClosed_15 : decode cX7_areClosed 15 = .ok (.iload_n 3, 1) := by decide +kernel
theorem dX7_areClosed_16 : decode cX7_areClosed 16 = .ok (.if_icmp .ge 66, 3) := by decide +kernel
theorem dX7_areClosed_19 : decode cX7_areClosed 19 = .ok (.aload_n 0, 1) := by decide +kernel
theorem dX7_areClosed_20 : decode cX7_areClosed 20 = .ok (.getfield 39, 3) := by decide +kernel
theorem dX7_areClosed_23 : decode cX7_areClosed 23 = .ok (.iload_n 1, 1) := by decide +kernel
theorem dX7_areClosed_24 : decode cX7_areClosed 24 = .ok (.aaload, 1) := by decide +kernel
theorem dX7_areClosed_25 : decode cX7_areClosed 25 = .ok (.iload_n 3, 1) := by decide +kernel
theorem dX7_areClosed_26 : decode cX7_areClosed 26 = .ok (.iaload, 1) := by decide +kernel
theorem dX7_areClosed_27 : decode cX7_areClosed 27 = .ok (.iload_n 2, 1) := by decide +kernel
theorem dX7_areClosed_28 : decode cX7_areClosed 28 = .ok (.if_icmp .ne 48, 3) := by decide +kernel
theorem dX7_areClosed_31 : decode cX7_areClosed 31 = .ok (.aload_n 0, 1) := by decide +kernel
theorem dX7_areClosed_32 : decode cX7_areClosed 32 = .ok (.getfield 39, 3) := by decide +kernel
theorem dX7_areClosed_35 : decode cX7_areClosed 35 = .ok (.iload_n 1, 1) := by decide +kernel
theorem dX7_areClosed_36 : decode cX7_areClosed 36 = .ok (.aaload, 1) := by decide +kernel
theorem dX7_areClosed_37 : decode cX7_areClosed 37 = .ok (.iload 4, 2) := by decide +kernel
theorem dX7_areClosed_39 : decode cX7_areClosed 39 = .ok (.iaload, 1) := by decide +kernel
theorem dX7_areClosed_40 : decode cX7_areClosed 40 = .ok (.iload_n 2, 1) := by decide +kernel
theorem dX7_areClosed_41 : decode cX7_areClosed 41 = .ok (.if_icmp .ne 35, 3) := by decide +kernel
theorem dX7_areClosed_44 : decode cX7_areClosed 44 = .ok (.aload_n 0, 1) := by decide +kernel
theorem dX7_areClosed_45 : decode cX7_areClosed 45 = .ok (.getfield 39, 3) := by decide +kernel
theorem dX7_areClosed_48 : decode cX7_areClosed 48 = .ok (.iload_n 1, 1) := by decide +kernel
theorem dX7_areClosed_49 : decode cX7_areClosed 49 = .ok (.aaload, 1) := by decide +kernel
theorem dX7_areClosed_50 : decode cX7_areClosed 50 = .ok (.iload_n 3, 1) := by decide +kernel
theorem dX7_areClosed_51 : decode cX7_areClosed 51 = .ok (.iload 4, 2) := by decide +kernel
theorem dX7_areClosed_53 : decode cX7_areClosed 53 = .ok (.iand, 1) := by decide +kernel
theorem dX7_areClosed_54 : decode cX7_areClosed 54 = .ok (.iaload, 1) := by decide +kernel
theorem dX7_areClosed_55 : decode cX7_areClosed 55 = .ok (.iload_n 2, 1) := by decide +kernel
theorem dX7_areClosed_56 : decode cX7_areClosed 56 = .ok (.if_icmp .ne 18, 3) := by decide +kernel
theorem dX7_areClosed_59 : decode cX7_areClosed 59 = .ok (.aload_n 0, 1) := by decide +kernel
theorem dX7_areClosed_60 : decode cX7_areClosed 60 = .ok (.getfield 39, 3) := by decide +kernel
theorem dX7_areClosed_63 : decode cX7_areClosed 63 = .ok (.iload_n 1, 1) := by decide +kernel
theorem dX7_areClosed_64 : decode cX7_areClosed 64 = .ok (.aaload, 1) := by decide +kernel
theorem dX7_areClosed_65 : decode cX7_areClosed 65 = .ok (.iload_n 3, 1) := by decide +kernel
theorem dX7_areClosed_66 : decode cX7_areClosed 66 = .ok (.iload 4, 2) := by decide +kernel
theorem dX7_areClosed_68 : decode cX7_areClosed 68 = .ok (.ior, 1) := by decide +kernel
theorem dX7_areClosed_69 : decode cX7_areClosed 69 = .ok (.iaload, 1) := by decide +kernel
theorem dX7_areClosed_70 : decode cX7_areClosed 70 = .ok (.iload_n 2, 1) := by decide +kernel
theorem dX7_areClosed_71 : decode cX7_areClosed 71 = .ok (.if_icmp .eq 5, 3) := by decide +kernel
theorem dX7_areClosed_74 : decode cX7_areClosed 74 = .ok (.iconst 0, 1) := by decide +kernel
theorem dX7_areClosed_75 : decode cX7_areClosed 75 = .ok (.ireturn, 1) := by decide +kernel
theorem dX7_areClosed_76 : decode cX7_areClosed 76 = .ok (.iinc 4 1, 3) := by decide +kernel
theorem dX7_areClosed_79 : decode cX7_areClosed 79 = .ok (.goto (-66), 3) := by decide +kernel
theorem dX7_areClosed_82 : decode cX7_areClosed 82 = .ok (.iinc 3 1, 3) := by decide +kernel
theorem dX7_areClosed_85 : decode cX7_areClosed 85 = .ok (.goto (-83), 3) := by decide +kernel
theorem dX7_areClosed_88 : decode cX7_areClosed 88 = .ok (.iconst 1, 1) := by decide +kernel
theorem dX7_areClosed_89 : decode cX7_areClosed 89 = .ok (.ireturn, 1) := by decide +kernel
theorem dX7_leastSets_0 : decode cX7_leastSets 0 = .ok (.iload_n 1, 1) := by decide +kernel
theorem dX7_leastSets_1 : decode cX7_leastSets 1 = .ok (.invokestatic 128, 3) := by decide +kernel
theorem dX7_leastSets_4 : decode cX7_leastSets 4 = .ok (.ifCond .eq 15, 3) := by decide +kernel
theorem dX7_leastSets_7 : decode cX7_leastSets 7 = .ok (.iload_n 2, 1) := by decide +kernel
theorem dX7_leastSets_8 : decode cX7_leastSets 8 = .ok (.i2l, 1) := by decide +kernel
theorem dX7_leastSets_9 : decode cX7_leastSets 9 = .ok (.lconst 0, 1) := by decide +kernel
theorem dX7_leastSets_10 : decode cX7_leastSets 10 = .ok (.ldc2_w 218, 3) := by decide +kernel
theorem dX7_leastSets_13 : decode cX7_leastSets 13 = .ok (.invokestatic 79, 3) := by decide +kernel
theorem dX7_leastSets_16 : decode cX7_leastSets 16 = .ok (.ifCond .ne 5, 3) := by decide +kernel
theorem dX7_leastSets_19 : decode cX7_leastSets 19 = .ok (.iconst (-1), 1) := by decide +kernel
theorem dX7_leastSets_20 : decode cX7_leastSets 20 = .ok (.ireturn, 1) := by decide +kernel
theorem dX7_leastSets_21 : decode cX7_leastSets 21 = .ok (.aload_n 0, 1) := by decide +kernel
theorem dX7_leastSets_22 : decode cX7_leastSets 22 = .ok (.iload_n 1, 1) := by decide +kernel
theorem dX7_leastSets_23 : decode cX7_leastSets 23 = .ok (.invokevirtual 163, 3) := by decide +kernel
theorem dX7_leastSets_26 : decode cX7_leastSets 26 = .ok (.ifCond .ne 6, 3) := by decide +kernel
theorem dX7_leastSets_29 : decode cX7_leastSets 29 = .ok (.bipush (-11), 2) := by decide +kernel
theorem dX7_leastSets_31 : decode cX7_leastSets 31 = .ok (.ireturn, 1) := by decide +kernel
theorem dX7_leastSets_32 : decode cX7_leastSets 32 = .ok (.aload_n 0, 1) := by decide +kernel
theorem dX7_leastSets_33 : decode cX7_leastSets 33 = .ok (.iload_n 1, 1) := by decide +kernel
theorem dX7_leastSets_34 : decode cX7_leastSets 34 = .ok (.invokevirtual 223, 3) := by decide +kernel
theorem dX7_leastSets_37 : decode cX7_leastSets 37 = .ok (.istore_n 3, 1) := by decide +kernel
theorem dX7_leastSets_38 : decode cX7_leastSets 38 = .ok (.iload_n 2, 1) := by decide +kernel
theorem dX7_leastSets_39 : decode cX7_leastSets 39 = .ok (.iconst 3, 1) := by decide +kernel
theorem dX7_leastSets_40 : decode cX7_leastSets 40 = .ok (.if_icmp .ne 13, 3) := by decide +kernel
theorem dX7_leastSets_43 : decode cX7_leastSets 43 = .ok (.aload_n 0, 1) := by decide +kernel
theorem dX7_leastSets_44 : decode cX7_leastSets 44 = .ok (.iload_n 1, 1) := by decide +kernel
theorem dX7_leastSets_45 : decode cX7_leastSets 45 = .ok (.iload_n 3, 1) := by decide +kernel
theorem dX7_leastSets_46 : decode cX7_leastSets 46 = .ok (.invokevirtual 226, 3) := by decide +kernel
theorem dX7_leastSets_49 : decode cX7_leastSets 49 = .ok (.invokestatic 181, 3) := by decide +kernel
theorem dX7_leastSets_52 : decode cX7_leastSets 52 = .ok (.ireturn, 1) := by decide +kernel
theorem dX7_leastSets_53 : decode cX7_leastSets 53 = .ok (.iconst 0, 1) := by decide +kernel
theorem dX7_leastSets_54 : decode cX7_leastSets 54 = .ok (.istore 4, 2) := by decide +kernel
theorem dX7_leastSets_56 : decode cX7_leastSets 56 = .ok (.aload_n 0, 1) := by decide +kernel
theorem dX7_leastSets_57 : decode cX7_leastSets 57 = .ok (.invokevirtual 87, 3) := by decide +kernel
theorem dX7_leastSets_60 : decode cX7_leastSets 60 = .ok (.istore 5, 2) := by decide +kernel
theorem dX7_leastSets_62 : decode cX7_leastSets 62 = .ok (.iconst 0, 1) := by decide +kernel
theorem dX7_leastSets_63 : decode cX7_leastSets 63 = .ok (.istore 6, 2) := by decide +kernel
theorem dX7_leastSets_65 : decode cX7_leastSets 65 = .ok (.iconst 0, 1) := by decide +kernel
theorem dX7_leastSets_66 : decode cX7_leastSets 66 = .ok (.istore 7, 2) := by decide +kernel
theorem dX7_leastSets_68 : decode cX7_leastSets 68 = .ok (.iload 7, 2) := by decide +kernel
theorem dX7_leastSets_70 : decode cX7_leastSets 70 = .ok (.aload_n 0, 1) := by decide +kernel
theorem dX7_leastSets_71 : decode cX7_leastSets 71 = .ok (.invokevirtual 83, 3) := by decide +kernel
theorem dX7_leastSets_74 : decode cX7_leastSets 74 = .ok (.if_icmp .ge 42, 3) := by decide +kernel
theorem dX7_leastSets_77 : decode cX7_leastSets 77 = .ok (.aload_n 0, 1) := by decide +kernel
theorem dX7_leastSets_78 : decode cX7_leastSets 78 = .ok (.getfield 39, 3) := by decide +kernel
theorem dX7_leastSets_81 : decode cX7_leastSets 81 = .ok (.iload_n 1, 1) := by decide +kernel
theorem dX7_leastSets_82 : decode cX7_leastSets 82 = .ok (.aaload, 1) := by decide +kernel
theorem dX7_leastSets_83 : decode cX7_leastSets 83 = .ok (.iload 7, 2) := by decide +kernel
theorem dX7_leastSets_85 : decode cX7_leastSets 85 = .ok (.iaload, 1) := by decide +kernel
theorem dX7_leastSets_86 : decode cX7_leastSets 86 = .ok (.iload_n 3, 1) := by decide +kernel
theorem dX7_leastSets_87 : decode cX7_leastSets 87 = .ok (.if_icmp .eq 6, 3) := by decide +kernel
theorem dX7_leastSets_90 : decode cX7_leastSets 90 = .ok (.goto 20, 3) := by decide +kernel
theorem dX7_leastSets_93 : decode cX7_leastSets 93 = .ok (.iinc 4 1, 3) := by decide +kernel
theorem dX7_leastSets_96 : decode cX7_leastSets 96 = .ok (.iload 5, 2) := by decide +kernel
theorem dX7_leastSets_98 : decode cX7_leastSets 98 = .ok (.iload 7, 2) := by decide +kernel
theorem dX7_leastSets_100 : decode cX7_leastSets 100 = .ok (.iand, 1) := by decide +kernel
theorem dX7_leastSets_101 : decode cX7_leastSets 101 = .ok (.istore 5, 2) := by decide +kernel
theorem dX7_leastSets_103 : decode cX7_leastSets 103 = .ok (.iload 6, 2) := by decide +kernel
theorem dX7_leastSets_105 : decode cX7_leastSets 105 = .ok (.iload 7, 2) := by decide +kernel
theorem dX7_leastSets_107 : decode cX7_leastSets 107 = .ok (.ior, 1) := by decide +kernel
theorem dX7_leastSets_108 : decode cX7_leastSets 108 = .ok (.istore 6, 2) := by decide +kernel
theorem dX7_leastSets_110 : decode cX7_leastSets 110 = .ok (.iinc 7 1, 3) := by decide +kernel
theorem dX7_leastSets_113 : decode cX7_leastSets 113 = .ok (.goto (-45), 3) := by decide +kernel
theorem dX7_leastSets_116 : decode cX7_leastSets 116 = .ok (.iload_n 2, 1) := by decide +kernel
theorem dX7_leastSets_117 : decode cX7_leastSets 117 = .ok (.ifCond .ne 8, 3) := by decide +kernel
theorem dX7_leastSets_120 : decode cX7_leastSets 120 = .ok (.iload 4, 2) := by decide +kernel
theorem dX7_leastSets_122 : decode cX7_leastSets 122 = .ok (.goto 15, 3) := by decide +kernel
theorem dX7_leastSets_125 : decode cX7_leastSets 125 = .ok (.iload_n 2, 1) := by decide +kernel
theorem dX7_leastSets_126 : decode cX7_leastSets 126 = .ok (.iconst 1, 1) := by decide +kernel
theorem dX7_leastSets_127 : decode cX7_leastSets 127 = .ok (.if_icmp .ne 8, 3) := by decide +kernel
theorem dX7_leastSets_130 : decode cX7_leastSets 130 = .ok (.iload 5, 2) := by decide +kernel
theorem dX7_leastSets_132 : decode cX7_leastSets 132 = .ok (.goto 5, 3) := by decide +kernel
theorem dX7_leastSets_135 : decode cX7_leastSets 135 = .ok (.iload 6, 2) := by decide +kernel
theorem dX7_leastSets_137 : decode cX7_leastSets 137 = .ok (.ireturn, 1) := by decide +kernel
theorem dX7_ring_0 : decode cX7_ring 0 = .ok (.iload_n 1, 1) := by decide +kernel
theorem dX7_ring_1 : decode cX7_ring 1 = .ok (.invokestatic 128, 3) := by decide +kernel
theorem dX7_ring_4 : decode cX7_ring 4 = .ok (.ifCond .eq 11, 3) := by decide +kernel
theorem dX7_ring_7 : decode cX7_ring 7 = .ok (.aload_n 0, 1) := by decide +kernel
theorem dX7_ring_8 : decode cX7_ring 8 = .ok (.iload_n 2, 1) := by decide +kernel
theorem dX7_ring_9 : decode cX7_ring 9 = .ok (.invokevirtual 98, 3) := by decide +kernel
theorem dX7_ring_12 : decode cX7_ring 12 = .ok (.ifCond .ne 5, 3) := by decide +kernel
theorem dX7_ring_15 : decode cX7_ring 15 = .ok (.iconst (-1), 1) := by decide +kernel
theorem dX7_ring_16 : decode cX7_ring 16 = .ok (.ireturn, 1) := by decide +kernel
theorem dX7_ring_17 : decode cX7_ring 17 = .ok (.aload_n 0, 1) := by decide +kernel
theorem dX7_ring_18 : decode cX7_ring 18 = .ok (.iload_n 1, 1) := by decide +kernel
theorem dX7_ring_19 : decode cX7_ring 19 = .ok (.invokevirtual 163, 3) := by decide +kernel
theorem dX7_ring_22 : decode cX7_ring 22 = .ok (.ifCond .ne 6, 3) := by decide +kernel
theorem dX7_ring_25 : decode cX7_ring 25 = .ok (.bipush (-11), 2) := by decide +kernel
theorem dX7_ring_27 : decode cX7_ring 27 = .ok (.ireturn, 1) := by decide +kernel
theorem dX7_ring_28 : decode cX7_ring 28 = .ok (.aload_n 0, 1) := by decide +kernel
theorem dX7_ring_29 : decode cX7_ring 29 = .ok (.iload_n 1, 1) := by decide +kernel
theorem dX7_ring_30 : decode cX7_ring 30 = .ok (.invokevirtual 223, 3) := by decide +kernel
theorem dX7_ring_33 : decode cX7_ring 33 = .ok (.istore_n 3, 1) := by decide +kernel
theorem dX7_ring_34 : decode cX7_ring 34 = .ok (.bipush (-5), 2) := by decide +kernel
theorem dX7_ring_36 : decode cX7_ring 36 = .ok (.istore 4, 2) := by decide +kernel
theorem dX7_ring_38 : decode cX7_ring 38 = .ok (.iconst 0, 1) := by decide +kernel
theorem dX7_ring_39 : decode cX7_ring 39 = .ok (.istore 5, 2) := by decide +kernel
theorem dX7_ring_41 : decode cX7_ring 41 = .ok (.iload 5, 2) := by decide +kernel
theorem dX7_ring_43 : decode cX7_ring 43 = .ok (.aload_n 0, 1) := by decide +kernel
theorem dX7_ring_44 : decode cX7_ring 44 = .ok (.invokevirtual 83, 3) := by decide +kernel
theorem dX7_ring_47 : decode cX7_ring 47 = .ok (.if_icmp .ge 48, 3) := by decide +kernel
theorem dX7_ring_50 : decode cX7_ring 50 = .ok (.aload_n 0, 1) := by decide +kernel
theorem dX7_ring_51 : decode cX7_ring 51 = .ok (.getfield 39, 3) := by decide +kernel
theorem dX7_ring_54 : decode cX7_ring 54 = .ok (.iload_n 1, 1) := by decide +kernel
theorem dX7_ring_55 : decode cX7_ring 55 = .ok (.aaload, 1) := by decide +kernel
theorem dX7_ring_56 : decode cX7_ring 56 = .ok (.iload 5, 2) := by decide +kernel
theorem dX7_ring_58 : decode cX7_ring 58 = .ok (.iaload, 1) := by decide +kernel
theorem dX7_ring_59 : decode cX7_ring 59 = .ok (.iload_n 3, 1) := by decide +kernel
theorem dX7_ring_60 : decode cX7_ring 60 = .ok (.if_icmp .ne 29, 3) := by decide +kernel
theorem dX7_ring_63 : decode cX7_ring 63 = .ok (.iload 5, 2) := by decide +kernel
theorem dX7_ring_65 : decode cX7_ring 65 = .ok (.iload_n 2, 1) := by decide +kernel
theorem dX7_ring_66 : decode cX7_ring 66 = .ok (.invokestatic 118, 3) := by decide +kernel
theorem dX7_ring_69 : decode cX7_ring 69 = .ok (.ifCond .eq 20, 3) := by decide +kernel
theorem dX7_ring_72 : decode cX7_ring 72 = .ok (.iload 4, 2) := by decide +kernel
theorem dX7_ring_74 : decode cX7_ring 74 = .ok (.ifCond .ge 8, 3) := by decide +kernel
theorem dX7_ring_77 : decode cX7_ring 77 = .ok (.iload 5, 2) := by decide +kernel
theorem dX7_ring_79 : decode cX7_ring 79 = .ok (.goto 8, 3) := by decide +kernel
theorem dX7_ring_82 : decode cX7_ring 82 = .ok (.iload 4, 2) := by decide +kernel
theorem dX7_ring_84 : decode cX7_ring 84 = .ok (.iload 5, 2) := by decide +kernel
theorem dX7_ring_86 : decode cX7_ring 86 = .ok (.iand, 1) := by decide +kernel
theorem dX7_ring_87 : decode cX7_ring 87 = .ok (.istore 4, 2) := by decide +kernel
theorem dX7_ring_89 : decode cX7_ring 89 = .ok (.iinc 5 1, 3) := by decide +kernel
theorem dX7_ring_92 : decode cX7_ring 92 = .ok (.goto (-51), 3) := by decide +kernel
theorem dX7_ring_95 : decode cX7_ring 95 = .ok (.iload 4, 2) := by decide +kernel
theorem dX7_ring_97 : decode cX7_ring 97 = .ok (.ireturn, 1) := by decide +kernel
theorem dX7_isLower_0 : decode cX7_isLower 0 = .ok (.aload_n 0, 1) := by decide +kernel
theorem dX7_isLower_1 : decode cX7_isLower 1 = .ok (.getfield 39, 3) := by decide +kernel
theorem dX7_isLower_4 : decode cX7_isLower 4 = .ok (.iload_n 1, 1) := by decide +kernel
theorem dX7_isLower_5 : decode cX7_isLower 5 = .ok (.aaload, 1) := by decide +kernel
theorem dX7_isLower_6 : decode cX7_isLower 6 = .ok (.iload_n 3, 1) := by decide +kernel
theorem dX7_isLower_7 : decode cX7_isLower 7 = .ok (.iaload, 1) := by decide +kernel
theorem dX7_isLower_8 : decode cX7_isLower 8 = .ok (.aload_n 0, 1) := by decide +kernel
theorem dX7_isLower_9 : decode cX7_isLower 9 = .ok (.getfield 39, 3) := by decide +kernel
theorem dX7_isLower_12 : decode cX7_isLower 12 = .ok (.iload_n 1, 1) := by decide +kernel
theorem dX7_isLower_13 : decode cX7_isLower 13 = .ok (.aaload, 1) := by decide +kernel
theorem dX7_isLower_14 : decode cX7_isLower 14 = .ok (.iload_n 2, 1) := by decide +kernel
theorem dX7_isLower_15 : decode cX7_isLower 15 = .ok (.iaload, 1) := by decide +kernel
theorem dX7_isLower_16 : decode cX7_isLower 16 = .ok (.isub, 1) := by decide +kernel
theorem dX7_isLower_17 : decode cX7_isLower 17 = .ok (.i2l, 1) := by decide +kernel
theorem dX7_isLower_18 : decode cX7_isLower 18 = .ok (.iload 4, 2) := by decide +kernel
theorem dX7_isLower_20 : decode cX7_isLower 20 = .ok (.invokestatic 229, 3) := by decide +kernel
theorem dX7_isLower_23 : decode cX7_isLower 23 = .ok (.iload_n 2, 1) := by decide +kernel
theorem dX7_isLower_24 : decode cX7_isLower 24 = .ok (.invokestatic 229, 3) := by decide +kernel
theorem dX7_isLower_27 : decode cX7_isLower 27 = .ok (.isub, 1) := by decide +kernel
theorem dX7_isLower_28 : decode cX7_isLower 28 = .ok (.i2l, 1) := by decide +kernel
theorem dX7_isLower_29 : decode cX7_isLower 29 = .ok (.lmul, 1) := by decide +kernel
theorem dX7_isLower_30 : decode cX7_isLower 30 = .ok (.lstore 5, 2) := by decide +kernel
theorem dX7_isLower_32 : decode cX7_isLower 32 = .ok (.aload_n 0, 1) := by decide +kernel
theorem dX7_isLower_33 : decode cX7_isLower 33 = .ok (.getfield 39, 3) := by decide +kernel
theorem dX7_isLower_36 : decode cX7_isLower 36 = .ok (.iload_n 1, 1) := by decide +kernel
theorem dX7_isLower_37 : decode cX7_isLower 37 = .ok (.aaload, 1) := by decide +kernel
theorem dX7_isLower_38 : decode cX7_isLower 38 = .ok (.iload 4, 2) := by decide +kernel
theorem dX7_isLower_40 : decode cX7_isLower 40 = .ok (.iaload, 1) := by decide +kernel
theorem dX7_isLower_41 : decode cX7_isLower 41 = .ok (.aload_n 0, 1) := by decide +kernel
theorem dX7_isLower_42 : decode cX7_isLower 42 = .ok (.getfield 39, 3) := by decide +kernel
theorem dX7_isLower_45 : decode cX7_isLower 45 = .ok (.iload_n 1, 1) := by decide +kernel
theorem dX7_isLower_46 : decode cX7_isLower 46 = .ok (.aaload, 1) := by decide +kernel
theorem dX7_isLower_47 : decode cX7_isLower 47 = .ok (.iload_n 2, 1) := by decide +kernel
theorem dX7_isLower_48 : decode cX7_isLower 48 = .ok (.iaload, 1) := by decide +kernel
theorem dX7_isLower_49 : decode cX7_isLower 49 = .ok (.isub, 1) := by decide +kernel
theorem dX7_isLower_50 : decode cX7_isLower 50 = .ok (.i2l, 1) := by decide +kernel
theorem dX7_isLower_51 : decode cX7_isLower 51 = .ok (.iload_n 3, 1) := by decide +kernel
theorem dX7_isLower_52 : decode cX7_isLower 52 = .ok (.invokestatic 229, 3) := by decide +kernel
theorem dX7_isLower_55 : decode cX7_isLower 55 = .ok (.iload_n 2, 1) := by decide +kernel
theorem dX7_isLower_56 : decode cX7_isLower 56 = .ok (.invokestatic 229, 3) := by decide +kernel
theorem dX7_isLower_59 : decode cX7_isLower 59 = .ok (.isub, 1) := by decide +kernel
theorem dX7_isLower_60 : decode cX7_isLower 60 = .ok (.i2l, 1) := by decide +kernel
theorem dX7_isLower_61 : decode cX7_isLower 61 = .ok (.lmul, 1) := by decide +kernel
theorem dX7_isLower_62 : decode cX7_isLower 62 = .ok (.lstore 7, 2) := by decide +kernel
theorem dX7_isLower_64 : decode cX7_isLower 64 = .ok (.lload 5, 2) := by decide +kernel
theorem dX7_isLower_66 : decode cX7_isLower 66 = .ok (.lload 7, 2) := by decide +kernel
theorem dX7_isLower_68 : decode cX7_isLower 68 = .ok (.lcmp, 1) := by decide +kernel
theorem dX7_isLower_69 : decode cX7_isLower 69 = .ok (.ifCond .eq 19, 3) := by decide +kernel
theorem dX7_isLower_72 : decode cX7_isLower 72 = .ok (.lload 5, 2) := by decide +kernel
theorem dX7_isLower_74 : decode cX7_isLower 74 = .ok (.lload 7, 2) := by decide +kernel
theorem dX7_isLower_76 : decode cX7_isLower 76 = .ok (.lcmp, 1) := by decide +kernel
theorem dX7_isLower_77 : decode cX7_isLower 77 = .ok (.ifCond .ge 7, 3) := by decide +kernel
theorem dX7_isLower_80 : decode cX7_isLower 80 = .ok (.iconst 1, 1) := by decide +kernel
theorem dX7_isLower_81 : decode cX7_isLower 81 = .ok (.goto 24, 3) := by decide +kernel
theorem dX7_isLower_84 : decode cX7_isLower 84 = .ok (.iconst 0, 1) := by decide +kernel
theorem dX7_isLower_85 : decode cX7_isLower 85 = .ok (.goto 20, 3) := by decide +kernel
theorem dX7_isLower_88 : decode cX7_isLower 88 = .ok (.iload_n 3, 1) := by decide +kernel
theorem dX7_isLower_89 : decode cX7_isLower 89 = .ok (.invokestatic 229, 3) := by decide +kernel
theorem dX7_isLower_92 : decode cX7_isLower 92 = .ok (.iload 4, 2) := by decide +kernel
theorem dX7_isLower_94 : decode cX7_isLower 94 = .ok (.invokestatic 229, 3) := by decide +kernel
theorem dX7_isLower_97 : decode cX7_isLower 97 = .ok (.if_icmp .le 7, 3) := by decide +kernel
theorem dX7_isLower_100 : decode cX7_isLower 100 = .ok (.iconst 1, 1) := by decide +kernel
theorem dX7_isLower_101 : decode cX7_isLower 101 = .ok (.goto 4, 3) := by decide +kernel
theorem dX7_isLower_104 : decode cX7_isLower 104 = .ok (.iconst 0, 1) := by decide +kernel
theorem dX7_isLower_105 : decode cX7_isLower 105 = .ok (.ireturn, 1) := by decide +kernel
theorem dX7_layLevels_0 : decode cX7_layLevels 0 = .ok (.aload_n 0, 1) := by decide +kernel
theorem dX7_layLevels_1 : decode cX7_layLevels 1 = .ok (.getfield 48, 3) := by decide +kernel
theorem dX7_layLevels_4 : decode cX7_layLevels 4 = .ok (.iconst 0, 1) := by decide +kernel
theorem dX7_layLevels_5 : decode cX7_layLevels 5 = .ok (.iconst 0, 1) := by decide +kernel
theorem dX7_layLevels_6 : decode cX7_layLevels 6 = .ok (.iastore, 1) := by decide +kernel
theorem dX7_layLevels_7 : decode cX7_layLevels 7 = .ok (.aload_n 0, 1) := by decide +kernel
theorem dX7_layLevels_8 : decode cX7_layLevels 8 = .ok (.iconst 0, 1) := by decide +kernel
theorem dX7_layLevels_9 : decode cX7_layLevels 9 = .ok (.putfield 232, 3) := by decide +kernel
theorem dX7_layLevels_12 : decode cX7_layLevels 12 = .ok (.aload_n 0, 1) := by decide +kernel
theorem dX7_layLevels_13 : decode cX7_layLevels 13 = .ok (.getfield 48, 3) := by decide +kernel
theorem dX7_layLevels_16 : decode cX7_layLevels 16 = .ok (.aload_n 0, 1) := by decide +kernel
theorem dX7_layLevels_17 : decode cX7_layLevels 17 = .ok (.getfield 232, 3) := by decide +kernel
theorem dX7_layLevels_20 : decode cX7_layLevels 20 = .ok (.iaload, 1) := by decide +kernel
theorem dX7_layLevels_21 : decode cX7_layLevels 21 = .ok (.aload_n 0, 1) := by decide +kernel
theorem dX7_layLevels_22 : decode cX7_layLevels 22 = .ok (.invokevirtual 87, 3) := by decide +kernel
theorem dX7_layLevels_25 : decode cX7_layLevels 25 = .ok (.if_icmp .eq 93, 3) := by decide +kernel
theorem dX7_layLevels_28 : decode cX7_layLevels 28 = .ok (.aload_n 0, 1) := by decide +kernel
theorem dX7_layLevels_29 : decode cX7_layLevels 29 = .ok (.getfield 48, 3) := by decide +kernel
theorem dX7_layLevels_32 : decode cX7_layLevels 32 = .ok (.aload_n 0, 1) := by decide +kernel
theorem dX7_layLevels_33 : decode cX7_layLevels 33 = .ok (.getfield 232, 3) := by decide +kernel
theorem dX7_layLevels_36 : decode cX7_layLevels 36 = .ok (.iaload, 1) := by decide +kernel
theorem dX7_layLevels_37 : decode cX7_layLevels 37 = .ok (.istore_n 2, 1) := by decide +kernel
theorem dX7_layLevels_38 : decode cX7_layLevels 38 = .ok (.bipush (-5), 2) := by decide +kernel
theorem dX7_layLevels_40 : decode cX7_layLevels 40 = .ok (.istore_n 3, 1) := by decide +kernel
theorem dX7_layLevels_41 : decode cX7_layLevels 41 = .ok (.iconst 0, 1) := by decide +kernel
theorem dX7_layLevels_42 : decode cX7_layLevels 42 = .ok (.istore 4, 2) := by decide +kernel
theorem dX7_layLevels_44 : decode cX7_layLevels 44 = .ok (.iload 4, 2) := by decide +kernel
theorem dX7_layLevels_46 : decode cX7_layLevels 46 = .ok (.aload_n 0, 1) := by decide +kernel
theorem dX7_layLevels_47 : decode cX7_layLevels 47 = .ok (.invokevirtual 83, 3) := by decide +kernel
theorem dX7_layLevels_50 : decode cX7_layLevels 50 = .ok (.if_icmp .ge 45, 3) := by decide +kernel
theorem dX7_layLevels_53 : decode cX7_layLevels 53 = .ok (.iload 4, 2) := by decide +kernel
theorem dX7_layLevels_55 : decode cX7_layLevels 55 = .ok (.iload_n 2, 1) := by decide +kernel
theorem dX7_layLevels_56 : decode cX7_layLevels 56 = .ok (.iand, 1) := by decide +kernel
theorem dX7_layLevels_57 : decode cX7_layLevels 57 = .ok (.iload_n 2, 1) := by decide +kernel
theorem dX7_layLevels_58 : decode cX7_layLevels 58 = .ok (.if_icmp .ne 31, 3) := by decide +kernel
theorem dX7_layLevels_61 : decode cX7_layLevels 61 = .ok (.iload 4, 2) := by decide +kernel
theorem dX7_layLevels_63 : decode cX7_layLevels 63 = .ok (.iload_n 2, 1) := by decide +kernel
theorem dX7_layLevels_64 : decode cX7_layLevels 64 = .ok (.if_icmp .ne 6, 3) := by decide +kernel
theorem dX7_layLevels_67 : decode cX7_layLevels 67 = .ok (.goto 22, 3) := by decide +kernel
theorem dX7_layLevels_70 : decode cX7_layLevels 70 = .ok (.iload_n 3, 1) := by decide +kernel
theorem dX7_layLevels_71 : decode cX7_layLevels 71 = .ok (.ifCond .lt 15, 3) := by decide +kernel
theorem dX7_layLevels_74 : decode cX7_layLevels 74 = .ok (.aload_n 0, 1) := by decide +kernel
theorem dX7_layLevels_75 : decode cX7_layLevels 75 = .ok (.iload_n 1, 1) := by decide +kernel
theorem dX7_layLevels_76 : decode cX7_layLevels 76 = .ok (.iload_n 2, 1) := by decide +kernel
theorem dX7_layLevels_77 : decode cX7_layLevels 77 = .ok (.iload 4, 2) := by decide +kernel
theorem dX7_layLevels_79 : decode cX7_layLevels 79 = .ok (.iload_n 3, 1) := by decide +kernel
theorem dX7_layLevels_80 : decode cX7_layLevels 80 = .ok (.invokevirtual 235, 3) := by decide +kernel
theorem dX7_layLevels_83 : decode cX7_layLevels 83 = .ok (.ifCond .eq 6, 3) := by decide +kernel
theorem dX7_layLevels_86 : decode cX7_layLevels 86 = .ok (.iload 4, 2) := by decide +kernel
theorem dX7_layLevels_88 : decode cX7_layLevels 88 = .ok (.istore_n 3, 1) := by decide +kernel
theorem dX7_layLevels_89 : decode cX7_layLevels 89 = .ok (.iinc 4 1, 3) := by decide +kernel
theorem dX7_layLevels_92 : decode cX7_layLevels 92 = .ok (.goto (-48), 3) := by decide +kernel
theorem dX7_layLevels_95 : decode cX7_layLevels 95 = .ok (.aload_n 0, 1) := by decide +kernel
theorem dX7_layLevels_96 : decode cX7_layLevels 96 = .ok (.dup, 1) := by decide +kernel
theorem dX7_layLevels_97 : decode cX7_layLevels 97 = .ok (.getfield 232, 3) := by decide +kernel
theorem dX7_layLevels_100 : decode cX7_layLevels 100 = .ok (.iconst 1, 1) := by decide +kernel
theorem dX7_layLevels_101 : decode cX7_layLevels 101 = .ok (.iadd, 1) := by decide +kernel
theorem dX7_layLevels_102 : decode cX7_layLevels 102 = .ok (.putfield 232, 3) := by decide +kernel
theorem dX7_layLevels_105 : decode cX7_layLevels 105 = .ok (.aload_n 0, 1) := by decide +kernel
theorem dX7_layLevels_106 : decode cX7_layLevels 106 = .ok (.getfield 48, 3) := by decide +kernel
theorem dX7_layLevels_109 : decode cX7_layLevels 109 = .ok (.aload_n 0, 1) := by decide +kernel
theorem dX7_layLevels_110 : decode cX7_layLevels 110 = .ok (.getfield 232, 3) := by decide +kernel
theorem dX7_layLevels_113 : decode cX7_layLevels 113 = .ok (.iload_n 3, 1) := by decide +kernel
theorem dX7_layLevels_114 : decode cX7_layLevels 114 = .ok (.iastore, 1) := by decide +kernel
theorem dX7_layLevels_115 : decode cX7_layLevels 115 = .ok (.goto (-103), 3) := by decide +kernel
theorem dX7_layLevels_118 : decode cX7_layLevels 118 = .ok (.return_, 1) := by decide +kernel
theorem dX7_level_0 : decode cX7_level 0 = .ok (.iload_n 1, 1) := by decide +kernel
theorem dX7_level_1 : decode cX7_level 1 = .ok (.invokestatic 128, 3) := by decide +kernel
theorem dX7_level_4 : decode cX7_level 4 = .ok (.ifCond .eq 8, 3) := by decide +kernel
theorem dX7_level_7 : decode cX7_level 7 = .ok (.iload_n 2, 1) := by decide +kernel
theorem dX7_level_8 : decode cX7_level 8 = .ok (.iconst (-1), 1) := by decide +kernel
theorem dX7_level_9 : decode cX7_level 9 = .ok (.if_icmp .ge 5, 3) := by decide +kernel
theorem dX7_level_12 : decode cX7_level 12 = .ok (.iconst (-1), 1) := by decide +kernel
theorem dX7_level_13 : decode cX7_level 13 = .ok (.ireturn, 1) := by decide +kernel
theorem dX7_level_14 : decode cX7_level 14 = .ok (.aload_n 0, 1) := by decide +kernel
theorem dX7_level_15 : decode cX7_level 15 = .ok (.iload_n 1, 1) := by decide +kernel
theorem dX7_level_16 : decode cX7_level 16 = .ok (.invokevirtual 163, 3) := by decide +kernel
theorem dX7_level_19 : decode cX7_level 19 = .ok (.ifCond .ne 6, 3) := by decide +kernel
theorem dX7_level_22 : decode cX7_level 22 = .ok (.bipush (-11), 2) := by decide +kernel
theorem dX7_level_24 : decode cX7_level 24 = .ok (.ireturn, 1) := by decide +kernel
theorem dX7_level_25 : decode cX7_level 25 = .ok (.aload_n 0, 1) := by decide +kernel
theorem dX7_level_26 : decode cX7_level 26 = .ok (.iload_n 1, 1) := by decide +kernel
theorem dX7_level_27 : decode cX7_level 27 = .ok (.invokevirtual 238, 3) := by decide +kernel
theorem dX7_level_30 : decode cX7_level 30 = .ok (.iload_n 2, 1) := by decide +kernel
theorem dX7_level_31 : decode cX7_level 31 = .ok (.ifCond .ge 10, 3) := by decide +kernel
theorem dX7_level_34 : decode cX7_level 34 = .ok (.aload_n 0, 1) := by decide +kernel
theorem dX7_level_35 : decode cX7_level 35 = .ok (.getfield 232, 3) := by decide +kernel
theorem dX7_level_38 : decode cX7_level 38 = .ok (.goto 24, 3) := by decide +kernel
theorem dX7_level_41 : decode cX7_level 41 = .ok (.iload_n 2, 1) := by decide +kernel
theorem dX7_level_42 : decode cX7_level 42 = .ok (.aload_n 0, 1) := by decide +kernel
theorem dX7_level_43 : decode cX7_level 43 = .ok (.getfield 232, 3) := by decide +kernel
theorem dX7_level_46 : decode cX7_level 46 = .ok (.if_icmp .ge 14, 3) := by decide +kernel
theorem dX7_level_49 : decode cX7_level 49 = .ok (.aload_n 0, 1) := by decide +kernel
theorem dX7_level_50 : decode cX7_level 50 = .ok (.getfield 48, 3) := by decide +kernel
theorem dX7_level_53 : decode cX7_level 53 = .ok (.iload_n 2, 1) := by decide +kernel
theorem dX7_level_54 : decode cX7_level 54 = .ok (.iconst 1, 1) := by decide +kernel
theorem dX7_level_55 : decode cX7_level 55 = .ok (.iadd, 1) := by decide +kernel
theorem dX7_level_56 : decode cX7_level 56 = .ok (.iaload, 1) := by decide +kernel
theorem dX7_level_57 : decode cX7_level 57 = .ok (.goto 5, 3) := by decide +kernel
theorem dX7_level_60 : decode cX7_level 60 = .ok (.bipush (-5), 2) := by decide +kernel
theorem dX7_level_62 : decode cX7_level 62 = .ok (.ireturn, 1) := by decide +kernel
theorem dX7_common_0 : decode cX7_common 0 = .ok (.iload_n 1, 1) := by decide +kernel
theorem dX7_common_1 : decode cX7_common 1 = .ok (.ifCond .ne 7, 3) := by decide +kernel
theorem dX7_common_4 : decode cX7_common 4 = .ok (.iload_n 0, 1) := by decide +kernel
theorem dX7_common_5 : decode cX7_common 5 = .ok (.goto 10, 3) := by decide +kernel
theorem dX7_common_8 : decode cX7_common 8 = .ok (.iload_n 1, 1) := by decide +kernel
theorem dX7_common_9 : decode cX7_common 9 = .ok (.iload_n 0, 1) := by decide +kernel
theorem dX7_common_10 : decode cX7_common 10 = .ok (.iload_n 1, 1) := by decide +kernel
theorem dX7_common_11 : decode cX7_common 11 = .ok (.irem, 1) := by decide +kernel
theorem dX7_common_12 : decode cX7_common 12 = .ok (.invokestatic 241, 3) := by decide +kernel
theorem dX7_common_15 : decode cX7_common 15 = .ok (.ireturn, 1) := by decide +kernel
theorem dX7_height_0 : decode cX7_height 0 = .ok (.aload_n 0, 1) := by decide +kernel
theorem dX7_height_1 : decode cX7_height 1 = .ok (.iload_n 1, 1) := by decide +kernel
theorem dX7_height_2 : decode cX7_height 2 = .ok (.invokevirtual 163, 3) := by decide +kernel
theorem dX7_height_5 : decode cX7_height 5 = .ok (.ifCond .eq 17, 3) := by decide +kernel
theorem dX7_height_8 : decode cX7_height 8 = .ok (.iload_n 3, 1) := by decide +kernel
theorem dX7_height_9 : decode cX7_height 9 = .ok (.i2l, 1) := by decide +kernel
theorem dX7_height_10 : decode cX7_height 10 = .ok (.lconst 0, 1) := by decide +kernel
theorem dX7_height_11 : decode cX7_height 11 = .ok (.lconst 1, 1) := by decide +kernel
theorem dX7_height_12 : decode cX7_height 12 = .ok (.invokestatic 79, 3) := by decide +kernel
theorem dX7_height_15 : decode cX7_height 15 = .ok (.ifCond .eq 7, 3) := by decide +kernel
theorem dX7_height_18 : decode cX7_height 18 = .ok (.iload_n 2, 1) := by decide +kernel
theorem dX7_height_19 : decode cX7_height 19 = .ok (.ifCond .ge 7, 3) := by decide +kernel
theorem dX7_height_22 : decode cX7_height 22 = .ok (.ldc2_w 198, 3) := by decide +kernel
theorem dX7_height_25 : decode cX7_height 25 = .ok (.lreturn, 1) := by decide +kernel
theorem dX7_height_26 : decode cX7_height 26 = .ok (.aload_n 0, 1) := by decide +kernel
theorem dX7_height_27 : decode cX7_height 27 = .ok (.iload_n 1, 1) := by decide +kernel
theorem dX7_height_28 : decode cX7_height 28 = .ok (.invokevirtual 238, 3) := by decide +kernel
theorem dX7_height_31 : decode cX7_height 31 = .ok (.iload_n 2, 1) := by decide +kernel
theorem dX7_height_32 : decode cX7_height 32 = .ok (.aload_n 0, 1) := by decide +kernel
theorem dX7_height_33 : decode cX7_height 33 = .ok (.getfield 232, 3) := by decide +kernel
theorem dX7_height_36 : decode cX7_height 36 = .ok (.if_icmp .lt 7, 3) := by decide +kernel
theorem dX7_height_39 : decode cX7_height 39 = .ok (.ldc2_w 198, 3) := by decide +kernel
theorem dX7_height_42 : decode cX7_height 42 = .ok (.lreturn, 1) := by decide +kernel
theorem dX7_height_43 : decode cX7_height 43 = .ok (.aload_n 0, 1) := by decide +kernel
theorem dX7_height_44 : decode cX7_height 44 = .ok (.getfield 39, 3) := by decide +kernel
theorem dX7_height_47 : decode cX7_height 47 = .ok (.iload_n 1, 1) := by decide +kernel
theorem dX7_height_48 : decode cX7_height 48 = .ok (.aaload, 1) := by decide +kernel
theorem dX7_height_49 : decode cX7_height 49 = .ok (.aload_n 0, 1) := by decide +kernel
theorem dX7_height_50 : decode cX7_height 50 = .ok (.getfield 48, 3) := by decide +kernel
theorem dX7_height_53 : decode cX7_height 53 = .ok (.iload_n 2, 1) := by decide +kernel
theorem dX7_height_54 : decode cX7_height 54 = .ok (.iconst 1, 1) := by decide +kernel
theorem dX7_height_55 : decode cX7_height 55 = .ok (.iadd, 1) := by decide +kernel
theorem dX7_height_56 : decode cX7_height 56 = .ok (.iaload, 1) := by decide +kernel
theorem dX7_height_57 : decode cX7_height 57 = .ok (.iaload, 1) := by decide +kernel
theorem dX7_height_58 : decode cX7_height 58 = .ok (.aload_n 0, 1) := by decide +kernel
theorem dX7_height_59 : decode cX7_height 59 = .ok (.getfield 39, 3) := by decide +kernel
theorem dX7_height_62 : decode cX7_height 62 = .ok (.iload_n 1, 1) := by decide +kernel
theorem dX7_height_63 : decode cX7_height 63 = .ok (.aaload, 1) := by decide +kernel
theorem dX7_height_64 : decode cX7_height 64 = .ok (.aload_n 0, 1) := by decide +kernel
theorem dX7_height_65 : decode cX7_height 65 = .ok (.getfield 48, 3) := by decide +kernel
theorem dX7_height_68 : decode cX7_height 68 = .ok (.iload_n 2, 1) := by decide +kernel
theorem dX7_height_69 : decode cX7_height 69 = .ok (.iaload, 1) := by decide +kernel
theorem dX7_height_70 : decode cX7_height 70 = .ok (.iaload, 1) := by decide +kernel
theorem dX7_height_71 : decode cX7_height 71 = .ok (.isub, 1) := by decide +kernel
theorem dX7_height_72 : decode cX7_height 72 = .ok (.istore 4, 2) := by decide +kernel
theorem dX7_height_74 : decode cX7_height 74 = .ok (.aload_n 0, 1) := by decide +kernel
theorem dX7_height_75 : decode cX7_height 75 = .ok (.getfield 48, 3) := by decide +kernel
theorem dX7_height_78 : decode cX7_height 78 = .ok (.iload_n 2, 1) := by decide +kernel
theorem dX7_height_79 : decode cX7_height 79 = .ok (.iconst 1, 1) := by decide +kernel
theorem dX7_height_80 : decode cX7_height 80 = .ok (.iadd, 1) := by decide +kernel
theorem dX7_height_81 : decode cX7_height 81 = .ok (.iaload, 1) := by decide +kernel
theorem dX7_height_82 : decode cX7_height 82 = .ok (.invokestatic 229, 3) := by decide +kernel
theorem dX7_height_85 : decode cX7_height 85 = .ok (.aload_n 0, 1) := by decide +kernel
theorem dX7_height_86 : decode cX7_height 86 = .ok (.getfield 48, 3) := by decide +kernel
theorem dX7_height_89 : decode cX7_height 89 = .ok (.iload_n 2, 1) := by decide +kernel
theorem dX7_height_90 : decode cX7_height 90 = .ok (.iaload, 1) := by decide +kernel
theorem dX7_height_91 : decode cX7_height 91 = .ok (.invokestatic 229, 3) := by decide +kernel
theorem dX7_height_94 : decode cX7_height 94 = .ok (.isub, 1) := by decide +kernel
theorem dX7_height_95 : decode cX7_height 95 = .ok (.istore 5, 2) := by decide +kernel
theorem dX7_height_97 : decode cX7_height 97 = .ok (.iload 4, 2) := by decide +kernel
theorem dX7_height_99 : decode cX7_height 99 = .ok (.invokestatic 244, 3) := by decide +kernel
theorem dX7_height_102 : decode cX7_height 102 = .ok (.iload 5, 2) := by decide +kernel
theorem dX7_height_104 : decode cX7_height 104 = .ok (.invokestatic 241, 3) := by decide +kernel
theorem dX7_height_107 : decode cX7_height 107 = .ok (.istore 6, 2) := by decide +kernel
theorem dX7_height_109 : decode cX7_height 109 = .ok (.iload_n 3, 1) := by decide +kernel
theorem dX7_height_110 : decode cX7_height 110 = .ok (.ifCond .ne 12, 3) := by decide +kernel
theorem dX7_height_113 : decode cX7_height 113 = .ok (.iload 4, 2) := by decide +kernel
theorem dX7_height_115 : decode cX7_height 115 = .ok (.iload 6, 2) := by decide +kernel
theorem dX7_height_117 : decode cX7_height 117 = .ok (.idiv, 1) := by decide +kernel
theorem dX7_height_118 : decode cX7_height 118 = .ok (.i2l, 1) := by decide +kernel
theorem dX7_height_119 : decode cX7_height 119 = .ok (.goto 9, 3) := by decide +kernel
theorem dX7_height_122 : decode cX7_height 122 = .ok (.iload 5, 2) := by decide +kernel
theorem dX7_height_124 : decode cX7_height 124 = .ok (.iload 6, 2) := by decide +kernel
theorem dX7_height_126 : decode cX7_height 126 = .ok (.idiv, 1) := by decide +kernel
theorem dX7_height_127 : decode cX7_height 127 = .ok (.i2l, 1) := by decide +kernel
theorem dX7_height_128 : decode cX7_height 128 = .ok (.lreturn, 1) := by decide +kernel
theorem dX7_wallOf_0 : decode cX7_wallOf 0 = .ok (.bipush (-5), 2) := by decide +kernel
theorem dX7_wallOf_2 : decode cX7_wallOf 2 = .ok (.istore 4, 2) := by decide +kernel
theorem dX7_wallOf_4 : decode cX7_wallOf 4 = .ok (.iconst 0, 1) := by decide +kernel
theorem dX7_wallOf_5 : decode cX7_wallOf 5 = .ok (.istore 5, 2) := by decide +kernel
theorem dX7_wallOf_7 : decode cX7_wallOf 7 = .ok (.iload 5, 2) := by decide +kernel
theorem dX7_wallOf_9 : decode cX7_wallOf 9 = .ok (.aload_n 0, 1) := by decide +kernel
theorem dX7_wallOf_10 : decode cX7_wallOf 10 = .ok (.invokevirtual 83, 3) := by decide +kernel
theorem dX7_wallOf_13 : decode cX7_wallOf 13 = .ok (.if_icmp .ge 94, 3) := by decide +kernel
theorem dX7_wallOf_16 : decode cX7_wallOf 16 = .ok (.iload 5, 2) := by decide +kernel
theorem dX7_wallOf_18 : decode cX7_wallOf 18 = .ok (.iload_n 2, 1) := by decide +kernel
theorem dX7_wallOf_19 : decode cX7_wallOf 19 = .ok (.invokestatic 118, 3) := by decide +kernel
theorem dX7_wallOf_22 : decode cX7_wallOf 22 = .ok (.ifCond .eq 79, 3) := by decide +kernel
theorem dX7_wallOf_25 : decode cX7_wallOf 25 = .ok (.iload 5, 2) := by decide +kernel
theorem dX7_wallOf_27 : decode cX7_wallOf 27 = .ok (.iload_n 3, 1) := by decide +kernel
theorem dX7_wallOf_28 : decode cX7_wallOf 28 = .ok (.invokestatic 118, 3) := by decide +kernel
theorem dX7_wallOf_31 : decode cX7_wallOf 31 = .ok (.ifCond .eq 6, 3) := by decide +kernel
theorem dX7_wallOf_34 : decode cX7_wallOf 34 = .ok (.goto 67, 3) := by decide +kernel
theorem dX7_wallOf_37 : decode cX7_wallOf 37 = .ok (.iload 4, 2) := by decide +kernel
theorem dX7_wallOf_39 : decode cX7_wallOf 39 = .ok (.ifCond .lt 58, 3) := by decide +kernel
theorem dX7_wallOf_42 : decode cX7_wallOf 42 = .ok (.aload_n 0, 1) := by decide +kernel
theorem dX7_wallOf_43 : decode cX7_wallOf 43 = .ok (.getfield 39, 3) := by decide +kernel
theorem dX7_wallOf_46 : decode cX7_wallOf 46 = .ok (.iload_n 1, 1) := by decide +kernel
theorem dX7_wallOf_47 : decode cX7_wallOf 47 = .ok (.aaload, 1) := by decide +kernel
theorem dX7_wallOf_48 : decode cX7_wallOf 48 = .ok (.iload 5, 2) := by decide +kernel
theorem dX7_wallOf_50 : decode cX7_wallOf 50 = .ok (.iaload, 1) := by decide +kernel
theorem dX7_wallOf_51 : decode cX7_wallOf 51 = .ok (.aload_n 0, 1) := by decide +kernel
theorem dX7_wallOf_52 : decode cX7_wallOf 52 = .ok (.getfield 39, 3) := by decide +kernel
theorem dX7_wallOf_55 : decode cX7_wallOf 55 = .ok (.iload_n 1, 1) := by decide +kernel
theorem dX7_wallOf_56 : decode cX7_wallOf 56 = .ok (.aaload, 1) := by decide +kernel
theorem dX7_wallOf_57 : decode cX7_wallOf 57 = .ok (.iload 4, 2) := by decide +kernel
theorem dX7_wallOf_59 : decode cX7_wallOf 59 = .ok (.iaload, 1) := by decide +kernel
theorem dX7_wallOf_60 : decode cX7_wallOf 60 = .ok (.if_icmp .lt 37, 3) := by decide +kernel
theorem dX7_wallOf_63 : decode cX7_wallOf 63 = .ok (.aload_n 0, 1) := by decide +kernel
theorem dX7_wallOf_64 : decode cX7_wallOf 64 = .ok (.getfield 39, 3) := by decide +kernel
theorem dX7_wallOf_67 : decode cX7_wallOf 67 = .ok (.iload_n 1, 1) := by decide +kernel
theorem dX7_wallOf_68 : decode cX7_wallOf 68 = .ok (.aaload, 1) := by decide +kernel
theorem dX7_wallOf_69 : decode cX7_wallOf 69 = .ok (.iload 5, 2) := by decide +kernel
theorem dX7_wallOf_71 : decode cX7_wallOf 71 = .ok (.iaload, 1) := by decide +kernel
theorem dX7_wallOf_72 : decode cX7_wallOf 72 = .ok (.aload_n 0, 1) := by decide +kernel
theorem dX7_wallOf_73 : decode cX7_wallOf 73 = .ok (.getfield 39, 3) := by decide +kernel
theorem dX7_wallOf_76 : decode cX7_wallOf 76 = .ok (.iload_n 1, 1) := by decide +kernel
theorem dX7_wallOf_77 : decode cX7_wallOf 77 = .ok (.aaload, 1) := by decide +kernel
theorem dX7_wallOf_78 : decode cX7_wallOf 78 = .ok (.iload 4, 2) := by decide +kernel
theorem dX7_wallOf_80 : decode cX7_wallOf 80 = .ok (.iaload, 1) := by decide +kernel
theorem dX7_wallOf_81 : decode cX7_wallOf 81 = .ok (.if_icmp .ne 20, 3) := by decide +kernel
theorem dX7_wallOf_84 : decode cX7_wallOf 84 = .ok (.iload 5, 2) := by decide +kernel
theorem dX7_wallOf_86 : decode cX7_wallOf 86 = .ok (.invokestatic 229, 3) := by decide +kernel
theorem dX7_wallOf_89 : decode cX7_wallOf 89 = .ok (.iload 4, 2) := by decide +kernel
theorem dX7_wallOf_91 : decode cX7_wallOf 91 = .ok (.invokestatic 229, 3) := by decide +kernel
theorem dX7_wallOf_94 : decode cX7_wallOf 94 = .ok (.if_icmp .ge 7, 3) := by decide +kernel
theorem dX7_wallOf_97 : decode cX7_wallOf 97 = .ok (.iload 5, 2) := by decide +kernel
theorem dX7_wallOf_99 : decode cX7_wallOf 99 = .ok (.istore 4, 2) := by decide +kernel
theorem dX7_wallOf_101 : decode cX7_wallOf 101 = .ok (.iinc 5 1, 3) := by decide +kernel
theorem dX7_wallOf_104 : decode cX7_wallOf 104 = .ok (.goto (-97), 3) := by decide +kernel
theorem dX7_wallOf_107 : decode cX7_wallOf 107 = .ok (.iload 4, 2) := by decide +kernel
theorem dX7_wallOf_109 : decode cX7_wallOf 109 = .ok (.ireturn, 1) := by decide +kernel
theorem dX7_areUnlike_0 : decode cX7_areUnlike 0 = .ok (.aload_n 0, 1) := by decide +kernel
theorem dX7_areUnlike_1 : decode cX7_areUnlike 1 = .ok (.iload_n 1, 1) := by decide +kernel
theorem dX7_areUnlike_2 : decode cX7_areUnlike 2 = .ok (.invokevirtual 98, 3) := by decide +kernel
theorem dX7_areUnlike_5 : decode cX7_areUnlike 5 = .ok (.ifCond .eq 20, 3) := by decide +kernel
theorem dX7_areUnlike_8 : decode cX7_areUnlike 8 = .ok (.aload_n 0, 1) := by decide +kernel
theorem dX7_areUnlike_9 : decode cX7_areUnlike 9 = .ok (.iload_n 2, 1) := by decide +kernel
theorem dX7_areUnlike_10 : decode cX7_areUnlike 10 = .ok (.invokevirtual 98, 3) := by decide +kernel
theorem dX7_areUnlike_13 : decode cX7_areUnlike 13 = .ok (.ifCond .eq 12, 3) := by decide +kernel
theorem dX7_areUnlike_16 : decode cX7_areUnlike 16 = .ok (.iload_n 1, 1) := by decide +kernel
theorem dX7_areUnlike_17 : decode cX7_areUnlike 17 = .ok (.iload_n 2, 1) := by decide +kernel
theorem dX7_areUnlike_18 : decode cX7_areUnlike 18 = .ok (.if_icmp .eq 7, 3) := by decide +kernel
theorem dX7_areUnlike_21 : decode cX7_areUnlike 21 = .ok (.iconst 1, 1) := by decide +kernel
theorem dX7_areUnlike_22 : decode cX7_areUnlike 22 = .ok (.goto 4, 3) := by decide +kernel
theorem dX7_areUnlike_25 : decode cX7_areUnlike 25 = .ok (.iconst 0, 1) := by decide +kernel
theorem dX7_areUnlike_26 : decode cX7_areUnlike 26 = .ok (.ireturn, 1) := by decide +kernel
theorem dX7_wall_0 : decode cX7_wall 0 = .ok (.iload_n 1, 1) := by decide +kernel
theorem dX7_wall_1 : decode cX7_wall 1 = .ok (.invokestatic 128, 3) := by decide +kernel
theorem dX7_wall_4 : decode cX7_wall 4 = .ok (.ifCond .eq 12, 3) := by decide +kernel
theorem dX7_wall_7 : decode cX7_wall 7 = .ok (.aload_n 0, 1) := by decide +kernel
theorem dX7_wall_8 : decode cX7_wall 8 = .ok (.iload_n 2, 1) := by decide +kernel
theorem dX7_wall_9 : decode cX7_wall 9 = .ok (.iload_n 3, 1) := by decide +kernel
theorem dX7_wall_10 : decode cX7_wall 10 = .ok (.invokevirtual 247, 3) := by decide +kernel
theorem dX7_wall_13 : decode cX7_wall 13 = .ok (.ifCond .ne 5, 3) := by decide +kernel
theorem dX7_wall_16 : decode cX7_wall 16 = .ok (.iconst (-1), 1) := by decide +kernel
theorem dX7_wall_17 : decode cX7_wall 17 = .ok (.ireturn, 1) := by decide +kernel
theorem dX7_wall_18 : decode cX7_wall 18 = .ok (.aload_n 0, 1) := by decide +kernel
theorem dX7_wall_19 : decode cX7_wall 19 = .ok (.iload_n 1, 1) := by decide +kernel
theorem dX7_wall_20 : decode cX7_wall 20 = .ok (.invokevirtual 163, 3) := by decide +kernel
theorem dX7_wall_23 : decode cX7_wall 23 = .ok (.ifCond .eq 13, 3) := by decide +kernel
theorem dX7_wall_26 : decode cX7_wall 26 = .ok (.aload_n 0, 1) := by decide +kernel
theorem dX7_wall_27 : decode cX7_wall 27 = .ok (.iload_n 1, 1) := by decide +kernel
theorem dX7_wall_28 : decode cX7_wall 28 = .ok (.iload_n 2, 1) := by decide +kernel
theorem dX7_wall_29 : decode cX7_wall 29 = .ok (.iload_n 3, 1) := by decide +kernel
theorem dX7_wall_30 : decode cX7_wall 30 = .ok (.invokevirtual 250, 3) := by decide +kernel
theorem dX7_wall_33 : decode cX7_wall 33 = .ok (.goto 5, 3) := by decide +kernel
theorem dX7_wall_36 : decode cX7_wall 36 = .ok (.bipush (-11), 2) := by decide +kernel
theorem dX7_wall_38 : decode cX7_wall 38 = .ok (.ireturn, 1) := by decide +kernel
theorem dX7_wallValue_0 : decode cX7_wallValue 0 = .ok (.aload_n 0, 1) := by decide +kernel
theorem dX7_wallValue_1 : decode cX7_wallValue 1 = .ok (.iload_n 1, 1) := by decide +kernel
theorem dX7_wallValue_2 : decode cX7_wallValue 2 = .ok (.invokevirtual 163, 3) := by decide +kernel
theorem dX7_wallValue_5 : decode cX7_wallValue 5 = .ok (.ifCond .eq 30, 3) := by decide +kernel
theorem dX7_wallValue_8 : decode cX7_wallValue 8 = .ok (.aload_n 0, 1) := by decide +kernel
theorem dX7_wallValue_9 : decode cX7_wallValue 9 = .ok (.iload_n 2, 1) := by decide +kernel
theorem dX7_wallValue_10 : decode cX7_wallValue 10 = .ok (.iload_n 3, 1) := by decide +kernel
theorem dX7_wallValue_11 : decode cX7_wallValue 11 = .ok (.invokevirtual 247, 3) := by decide +kernel
theorem dX7_wallValue_14 : decode cX7_wallValue 14 = .ok (.ifCond .eq 21, 3) := by decide +kernel
theorem dX7_wallValue_17 : decode cX7_wallValue 17 = .ok (.aload_n 0, 1) := by decide +kernel
theorem dX7_wallValue_18 : decode cX7_wallValue 18 = .ok (.getfield 39, 3) := by decide +kernel
theorem dX7_wallValue_21 : decode cX7_wallValue 21 = .ok (.iload_n 1, 1) := by decide +kernel
theorem dX7_wallValue_22 : decode cX7_wallValue 22 = .ok (.aaload, 1) := by decide +kernel
theorem dX7_wallValue_23 : decode cX7_wallValue 23 = .ok (.aload_n 0, 1) := by decide +kernel
theorem dX7_wallValue_24 : decode cX7_wallValue 24 = .ok (.iload_n 1, 1) := by decide +kernel
theorem dX7_wallValue_25 : decode cX7_wallValue 25 = .ok (.iload_n 2, 1) := by decide +kernel
theorem dX7_wallValue_26 : decode cX7_wallValue 26 = .ok (.iload_n 3, 1) := by decide +kernel
theorem dX7_wallValue_27 : decode cX7_wallValue 27 = .ok (.invokevirtual 250, 3) := by decide +kernel
theorem dX7_wallValue_30 : decode cX7_wallValue 30 = .ok (.iaload, 1) := by decide +kernel
theorem dX7_wallValue_31 : decode cX7_wallValue 31 = .ok (.i2l, 1) := by decide +kernel
theorem dX7_wallValue_32 : decode cX7_wallValue 32 = .ok (.goto 6, 3) := by decide +kernel
theorem dX7_wallValue_35 : decode cX7_wallValue 35 = .ok (.ldc2_w 198, 3) := by decide +kernel
theorem dX7_wallValue_38 : decode cX7_wallValue 38 = .ok (.lreturn, 1) := by decide +kernel
theorem dX7_greed_0 : decode cX7_greed 0 = .ok (.iconst 0, 1) := by decide +kernel
theorem dX7_greed_1 : decode cX7_greed 1 = .ok (.istore_n 3, 1) := by decide +kernel
theorem dX7_greed_2 : decode cX7_greed 2 = .ok (.iconst 0, 1) := by decide +kernel
theorem dX7_greed_3 : decode cX7_greed 3 = .ok (.istore 4, 2) := by decide +kernel
theorem dX7_greed_5 : decode cX7_greed 5 = .ok (.iload 4, 2) := by decide +kernel
theorem dX7_greed_7 : decode cX7_greed 7 = .ok (.iload_n 2, 1) := by decide +kernel
theorem dX7_greed_8 : decode cX7_greed 8 = .ok (.if_icmp .ge 75, 3) := by decide +kernel
theorem dX7_greed_11 : decode cX7_greed 11 = .ok (.bipush (-5), 2) := by decide +kernel
theorem dX7_greed_13 : decode cX7_greed 13 = .ok (.istore 5, 2) := by decide +kernel
theorem dX7_greed_15 : decode cX7_greed 15 = .ok (.iconst 0, 1) := by decide +kernel
theorem dX7_greed_16 : decode cX7_greed 16 = .ok (.istore 6, 2) := by decide +kernel
theorem dX7_greed_18 : decode cX7_greed 18 = .ok (.iload 6, 2) := by decide +kernel
theorem dX7_greed_20 : decode cX7_greed 20 = .ok (.aload_n 0, 1) := by decide +kernel
theorem dX7_greed_21 : decode cX7_greed 21 = .ok (.getfield 9, 3) := by decide +kernel
theorem dX7_greed_24 : decode cX7_greed 24 = .ok (.if_icmp .ge 46, 3) := by decide +kernel
theorem dX7_greed_27 : decode cX7_greed 27 = .ok (.iload_n 3, 1) := by decide +kernel
theorem dX7_greed_28 : decode cX7_greed 28 = .ok (.iload 6, 2) := by decide +kernel
theorem dX7_greed_30 : decode cX7_greed 30 = .ok (.invokestatic 118, 3) := by decide +kernel
theorem dX7_greed_33 : decode cX7_greed 33 = .ok (.ifCond .ne 31, 3) := by decide +kernel
theorem dX7_greed_36 : decode cX7_greed 36 = .ok (.iload 5, 2) := by decide +kernel
theorem dX7_greed_38 : decode cX7_greed 38 = .ok (.ifCond .lt 22, 3) := by decide +kernel
theorem dX7_greed_41 : decode cX7_greed 41 = .ok (.aload_n 0, 1) := by decide +kernel
theorem dX7_greed_42 : decode cX7_greed 42 = .ok (.iload_n 1, 1) := by decide +kernel
theorem dX7_greed_43 : decode cX7_greed 43 = .ok (.iload_n 3, 1) := by decide +kernel
theorem dX7_greed_44 : decode cX7_greed 44 = .ok (.iload 6, 2) := by decide +kernel
theorem dX7_greed_46 : decode cX7_greed 46 = .ok (.invokevirtual 169, 3) := by decide +kernel
theorem dX7_greed_49 : decode cX7_greed 49 = .ok (.aload_n 0, 1) := by decide +kernel
theorem dX7_greed_50 : decode cX7_greed 50 = .ok (.iload_n 1, 1) := by decide +kernel
theorem dX7_greed_51 : decode cX7_greed 51 = .ok (.iload_n 3, 1) := by decide +kernel
theorem dX7_greed_52 : decode cX7_greed 52 = .ok (.iload 5, 2) := by decide +kernel
theorem dX7_greed_54 : decode cX7_greed 54 = .ok (.invokevirtual 169, 3) := by decide +kernel
theorem dX7_greed_57 : decode cX7_greed 57 = .ok (.if_icmp .le 7, 3) := by decide +kernel
theorem dX7_greed_60 : decode cX7_greed 60 = .ok (.iload 6, 2) := by decide +kernel
theorem dX7_greed_62 : decode cX7_greed 62 = .ok (.istore 5, 2) := by decide +kernel
theorem dX7_greed_64 : decode cX7_greed 64 = .ok (.iinc 6 1, 3) := by decide +kernel
theorem dX7_greed_67 : decode cX7_greed 67 = .ok (.goto (-49), 3) := by decide +kernel
theorem dX7_greed_70 : decode cX7_greed 70 = .ok (.iload_n 3, 1) := by decide +kernel
theorem dX7_greed_71 : decode cX7_greed 71 = .ok (.iconst 1, 1) := by decide +kernel
theorem dX7_greed_72 : decode cX7_greed 72 = .ok (.iload 5, 2) := by decide +kernel
theorem dX7_greed_74 : decode cX7_greed 74 = .ok (.ishl, 1) := by decide +kernel
theorem dX7_greed_75 : decode cX7_greed 75 = .ok (.ior, 1) := by decide +kernel
theorem dX7_greed_76 : decode cX7_greed 76 = .ok (.istore_n 3, 1) := by decide +kernel
theorem dX7_greed_77 : decode cX7_greed 77 = .ok (.iinc 4 1, 3) := by decide +kernel
theorem dX7_greed_80 : decode cX7_greed 80 = .ok (.goto (-75), 3) := by decide +kernel
theorem dX7_greed_83 : decode cX7_greed 83 = .ok (.iload_n 3, 1) := by decide +kernel
theorem dX7_greed_84 : decode cX7_greed 84 = .ok (.ireturn, 1) := by decide +kernel
theorem dX7_best_0 : decode cX7_best 0 = .ok (.bipush (-5), 2) := by decide +kernel
theorem dX7_best_2 : decode cX7_best 2 = .ok (.istore_n 3, 1) := by decide +kernel
theorem dX7_best_3 : decode cX7_best 3 = .ok (.iconst 0, 1) := by decide +kernel
theorem dX7_best_4 : decode cX7_best 4 = .ok (.istore 4, 2) := by decide +kernel
theorem dX7_best_6 : decode cX7_best 6 = .ok (.iload 4, 2) := by decide +kernel
theorem dX7_best_8 : decode cX7_best 8 = .ok (.aload_n 0, 1) := by decide +kernel
theorem dX7_best_9 : decode cX7_best 9 = .ok (.invokevirtual 83, 3) := by decide +kernel
theorem dX7_best_12 : decode cX7_best 12 = .ok (.if_icmp .ge 45, 3) := by decide +kernel
theorem dX7_best_15 : decode cX7_best 15 = .ok (.iload 4, 2) := by decide +kernel
theorem dX7_best_17 : decode cX7_best 17 = .ok (.invokestatic 229, 3) := by decide +kernel
theorem dX7_best_20 : decode cX7_best 20 = .ok (.iload_n 2, 1) := by decide +kernel
theorem dX7_best_21 : decode cX7_best 21 = .ok (.if_icmp .ne 30, 3) := by decide +kernel
theorem dX7_best_24 : decode cX7_best 24 = .ok (.iload_n 3, 1) := by decide +kernel
theorem dX7_best_25 : decode cX7_best 25 = .ok (.ifCond .lt 23, 3) := by decide +kernel
theorem dX7_best_28 : decode cX7_best 28 = .ok (.aload_n 0, 1) := by decide +kernel
theorem dX7_best_29 : decode cX7_best 29 = .ok (.getfield 39, 3) := by decide +kernel
theorem dX7_best_32 : decode cX7_best 32 = .ok (.iload_n 1, 1) := by decide +kernel
theorem dX7_best_33 : decode cX7_best 33 = .ok (.aaload, 1) := by decide +kernel
theorem dX7_best_34 : decode cX7_best 34 = .ok (.iload 4, 2) := by decide +kernel
theorem dX7_best_36 : decode cX7_best 36 = .ok (.iaload, 1) := by decide +kernel
theorem dX7_best_37 : decode cX7_best 37 = .ok (.aload_n 0, 1) := by decide +kernel
theorem dX7_best_38 : decode cX7_best 38 = .ok (.getfield 39, 3) := by decide +kernel
theorem dX7_best_41 : decode cX7_best 41 = .ok (.iload_n 1, 1) := by decide +kernel
theorem dX7_best_42 : decode cX7_best 42 = .ok (.aaload, 1) := by decide +kernel
theorem dX7_best_43 : decode cX7_best 43 = .ok (.iload_n 3, 1) := by decide +kernel
theorem dX7_best_44 : decode cX7_best 44 = .ok (.iaload, 1) := by decide +kernel
theorem dX7_best_45 : decode cX7_best 45 = .ok (.if_icmp .le 6, 3) := by decide +kernel
theorem dX7_best_48 : decode cX7_best 48 = .ok (.iload 4, 2) := by decide +kernel
theorem dX7_best_50 : decode cX7_best 50 = .ok (.istore_n 3, 1) := by decide +kernel
theorem dX7_best_51 : decode cX7_best 51 = .ok (.iinc 4 1, 3) := by decide +kernel
theorem dX7_best_54 : decode cX7_best 54 = .ok (.goto (-48), 3) := by decide +kernel
theorem dX7_best_57 : decode cX7_best 57 = .ok (.iload_n 3, 1) := by decide +kernel
theorem dX7_best_58 : decode cX7_best 58 = .ok (.ireturn, 1) := by decide +kernel
theorem dX7_most_0 : decode cX7_most 0 = .ok (.iload_n 1, 1) := by decide +kernel
theorem dX7_most_1 : decode cX7_most 1 = .ok (.invokestatic 128, 3) := by decide +kernel
theorem dX7_most_4 : decode cX7_most 4 = .ok (.ifCond .eq 13, 3) := by decide +kernel
theorem dX7_most_7 : decode cX7_most 7 = .ok (.iload_n 3, 1) := by decide +kernel
theorem dX7_most_8 : decode cX7_most 8 = .ok (.i2l, 1) := by decide +kernel
theorem dX7_most_9 : decode cX7_most 9 = .ok (.lconst 0, 1) := by decide +kernel
theorem dX7_most_10 : decode cX7_most 10 = .ok (.lconst 1, 1) := by decide +kernel
theorem dX7_most_11 : decode cX7_most 11 = .ok (.invokestatic 79, 3) := by decide +kernel
theorem dX7_most_14 : decode cX7_most 14 = .ok (.ifCond .ne 5, 3) := by decide +kernel
theorem dX7_most_17 : decode cX7_most 17 = .ok (.iconst (-1), 1) := by decide +kernel
theorem dX7_most_18 : decode cX7_most 18 = .ok (.ireturn, 1) := by decide +kernel
theorem dX7_most_19 : decode cX7_most 19 = .ok (.iload_n 2, 1) := by decide +kernel
theorem dX7_most_20 : decode cX7_most 20 = .ok (.i2l, 1) := by decide +kernel
theorem dX7_most_21 : decode cX7_most 21 = .ok (.lconst 0, 1) := by decide +kernel
theorem dX7_most_22 : decode cX7_most 22 = .ok (.aload_n 0, 1) := by decide +kernel
theorem dX7_most_23 : decode cX7_most 23 = .ok (.getfield 9, 3) := by decide +kernel
theorem dX7_most_26 : decode cX7_most 26 = .ok (.i2l, 1) := by decide +kernel
theorem dX7_most_27 : decode cX7_most 27 = .ok (.invokestatic 79, 3) := by decide +kernel
theorem dX7_most_30 : decode cX7_most 30 = .ok (.ifCond .ne 6, 3) := by decide +kernel
theorem dX7_most_33 : decode cX7_most 33 = .ok (.bipush (-2), 2) := by decide +kernel
theorem dX7_most_35 : decode cX7_most 35 = .ok (.ireturn, 1) := by decide +kernel
theorem dX7_most_36 : decode cX7_most 36 = .ok (.aload_n 0, 1) := by decide +kernel
theorem dX7_most_37 : decode cX7_most 37 = .ok (.iload_n 1, 1) := by decide +kernel
theorem dX7_most_38 : decode cX7_most 38 = .ok (.invokevirtual 163, 3) := by decide +kernel
theorem dX7_most_41 : decode cX7_most 41 = .ok (.ifCond .ne 6, 3) := by decide +kernel
theorem dX7_most_44 : decode cX7_most 44 = .ok (.bipush (-11), 2) := by decide +kernel
theorem dX7_most_46 : decode cX7_most 46 = .ok (.ireturn, 1) := by decide +kernel
theorem dX7_most_47 : decode cX7_most 47 = .ok (.iload_n 3, 1) := by decide +kernel
theorem dX7_most_48 : decode cX7_most 48 = .ok (.ifCond .ne 12, 3) := by decide +kernel
theorem dX7_most_51 : decode cX7_most 51 = .ok (.aload_n 0, 1) := by decide +kernel
theorem dX7_most_52 : decode cX7_most 52 = .ok (.iload_n 1, 1) := by decide +kernel
theorem dX7_most_53 : decode cX7_most 53 = .ok (.iload_n 2, 1) := by decide +kernel
theorem dX7_most_54 : decode cX7_most 54 = .ok (.invokevirtual 253, 3) := by decide +kernel
theorem dX7_most_57 : decode cX7_most 57 = .ok (.goto 9, 3) := by decide +kernel
theorem dX7_most_60 : decode cX7_most 60 = .ok (.aload_n 0, 1) := by decide +kernel
theorem dX7_most_61 : decode cX7_most 61 = .ok (.iload_n 1, 1) := by decide +kernel
theorem dX7_most_62 : decode cX7_most 62 = .ok (.iload_n 2, 1) := by decide +kernel
theorem dX7_most_63 : decode cX7_most 63 = .ok (.invokevirtual 256, 3) := by decide +kernel
theorem dX7_most_66 : decode cX7_most 66 = .ok (.ireturn, 1) := by decide +kernel
theorem dX7_feed_0 : decode cX7_feed 0 = .ok (.iload_n 1, 1) := by decide +kernel
theorem dX7_feed_1 : decode cX7_feed 1 = .ok (.i2l, 1) := by decide +kernel
theorem dX7_feed_2 : decode cX7_feed 2 = .ok (.lconst 1, 1) := by decide +kernel
theorem dX7_feed_3 : decode cX7_feed 3 = .ok (.ldc2_w 259, 3) := by decide +kernel
theorem dX7_feed_6 : decode cX7_feed 6 = .ok (.invokestatic 79, 3) := by decide +kernel
theorem dX7_feed_9 : decode cX7_feed 9 = .ok (.ifCond .ne 6, 3) := by decide +kernel
theorem dX7_feed_12 : decode cX7_feed 12 = .ok (.bipush (-2), 2) := by decide +kernel
theorem dX7_feed_14 : decode cX7_feed 14 = .ok (.ireturn, 1) := by decide +kernel
theorem dX7_feed_15 : decode cX7_feed 15 = .ok (.aload_n 0, 1) := by decide +kernel
theorem dX7_feed_16 : decode cX7_feed 16 = .ok (.getfield 261, 3) := by decide +kernel
theorem dX7_feed_19 : decode cX7_feed 19 = .ok (.bipush 100, 2) := by decide +kernel
theorem dX7_feed_21 : decode cX7_feed 21 = .ok (.if_icmp .ne 6, 3) := by decide +kernel
theorem dX7_feed_24 : decode cX7_feed 24 = .ok (.bipush (-3), 2) := by decide +kernel
theorem dX7_feed_26 : decode cX7_feed 26 = .ok (.ireturn, 1) := by decide +kernel
theorem dX7_feed_27 : decode cX7_feed 27 = .ok (.aload_n 0, 1) := by decide +kernel
theorem dX7_feed_28 : decode cX7_feed 28 = .ok (.getfield 51, 3) := by decide +kernel
theorem dX7_feed_31 : decode cX7_feed 31 = .ok (.aload_n 0, 1) := by decide +kernel
theorem dX7_feed_32 : decode cX7_feed 32 = .ok (.getfield 261, 3) := by decide +kernel
theorem dX7_feed_35 : decode cX7_feed 35 = .ok (.iload_n 1, 1) := by decide +kernel
theorem dX7_feed_36 : decode cX7_feed 36 = .ok (.i2b, 1) := by decide +kernel
theorem dX7_feed_37 : decode cX7_feed 37 = .ok (.bastore, 1) := by decide +kernel
theorem dX7_feed_38 : decode cX7_feed 38 = .ok (.aload_n 0, 1) := by decide +kernel
theorem dX7_feed_39 : decode cX7_feed 39 = .ok (.dup, 1) := by decide +kernel
theorem dX7_feed_40 : decode cX7_feed 40 = .ok (.getfield 261, 3) := by decide +kernel
theorem dX7_feed_43 : decode cX7_feed 43 = .ok (.iconst 1, 1) := by decide +kernel
theorem dX7_feed_44 : decode cX7_feed 44 = .ok (.iadd, 1) := by decide +kernel
theorem dX7_feed_45 : decode cX7_feed 45 = .ok (.putfield 261, 3) := by decide +kernel
theorem dX7_feed_48 : decode cX7_feed 48 = .ok (.aload_n 0, 1) := by decide +kernel
theorem dX7_feed_49 : decode cX7_feed 49 = .ok (.getfield 261, 3) := by decide +kernel
theorem dX7_feed_52 : decode cX7_feed 52 = .ok (.ireturn, 1) := by decide +kernel
theorem dX7_wordOf_0 : decode cX7_wordOf 0 = .ok (.iload_n 0, 1) := by decide +kernel
theorem dX7_wordOf_1 : decode cX7_wordOf 1 = .ok (.tableswitch 95 0 9 #[55, 59, 63, 67, 71, 75, 79, 83, 87, 91], 55) := by decide +kernel
theorem dX7_wordOf_56 : decode cX7_wordOf 56 = .ok (.ldc_w 264, 3) := by decide +kernel
theorem dX7_wordOf_59 : decode cX7_wordOf 59 = .ok (.areturn, 1) := by decide +kernel
theorem dX7_wordOf_60 : decode cX7_wordOf 60 = .ok (.ldc_w 266, 3) := by decide +kernel
theorem dX7_wordOf_63 : decode cX7_wordOf 63 = .ok (.areturn, 1) := by decide +kernel
theorem dX7_wordOf_64 : decode cX7_wordOf 64 = .ok (.ldc_w 268, 3) := by decide +kernel
theorem dX7_wordOf_67 : decode cX7_wordOf 67 = .ok (.areturn, 1) := by decide +kernel
theorem dX7_wordOf_68 : decode cX7_wordOf 68 = .ok (.ldc_w 270, 3) := by decide +kernel
theorem dX7_wordOf_71 : decode cX7_wordOf 71 = .ok (.areturn, 1) := by decide +kernel
theorem dX7_wordOf_72 : decode cX7_wordOf 72 = .ok (.ldc_w 272, 3) := by decide +kernel
theorem dX7_wordOf_75 : decode cX7_wordOf 75 = .ok (.areturn, 1) := by decide +kernel
theorem dX7_wordOf_76 : decode cX7_wordOf 76 = .ok (.ldc_w 274, 3) := by decide +kernel
theorem dX7_wordOf_79 : decode cX7_wordOf 79 = .ok (.areturn, 1) := by decide +kernel
theorem dX7_wordOf_80 : decode cX7_wordOf 80 = .ok (.ldc_w 276, 3) := by decide +kernel
theorem dX7_wordOf_83 : decode cX7_wordOf 83 = .ok (.areturn, 1) := by decide +kernel
theorem dX7_wordOf_84 : decode cX7_wordOf 84 = .ok (.ldc_w 278, 3) := by decide +kernel
theorem dX7_wordOf_87 : decode cX7_wordOf 87 = .ok (.areturn, 1) := by decide +kernel
theorem dX7_wordOf_88 : decode cX7_wordOf 88 = .ok (.ldc_w 280, 3) := by decide +kernel
theorem dX7_wordOf_91 : decode cX7_wordOf 91 = .ok (.areturn, 1) := by decide +kernel
theorem dX7_wordOf_92 : decode cX7_wordOf 92 = .ok (.ldc_w 282, 3) := by decide +kernel
theorem dX7_wordOf_95 : decode cX7_wordOf 95 = .ok (.areturn, 1) := by decide +kernel
theorem dX7_wordOf_96 : decode cX7_wordOf 96 = .ok (.ldc_w 284, 3) := by decide +kernel
theorem dX7_wordOf_99 : decode cX7_wordOf 99 = .ok (.areturn, 1) := by decide +kernel
theorem dX7_manyOf_0 : decode cX7_manyOf 0 = .ok (.iload_n 0, 1) := by decide +kernel
theorem dX7_manyOf_1 : decode cX7_manyOf 1 = .ok (.iconst 3, 1) := by decide +kernel
theorem dX7_manyOf_2 : decode cX7_manyOf 2 = .ok (.if_icmp .ge 7, 3) := by decide +kernel
theorem dX7_manyOf_5 : decode cX7_manyOf 5 = .ok (.iconst 3, 1) := by decide +kernel
theorem dX7_manyOf_6 : decode cX7_manyOf 6 = .ok (.goto 14, 3) := by decide +kernel
theorem dX7_manyOf_9 : decode cX7_manyOf 9 = .ok (.iload_n 0, 1) := by decide +kernel
theorem dX7_manyOf_10 : decode cX7_manyOf 10 = .ok (.bipush 7, 2) := by decide +kernel
theorem dX7_manyOf_12 : decode cX7_manyOf 12 = .ok (.if_icmp .ge 7, 3) := by decide +kernel
theorem dX7_manyOf_15 : decode cX7_manyOf 15 = .ok (.iconst 2, 1) := by decide +kernel
theorem dX7_manyOf_16 : decode cX7_manyOf 16 = .ok (.goto 4, 3) := by decide +kernel
theorem dX7_manyOf_19 : decode cX7_manyOf 19 = .ok (.iconst 1, 1) := by decide +kernel
theorem dX7_manyOf_20 : decode cX7_manyOf 20 = .ok (.ireturn, 1) := by decide +kernel
theorem dX7_isAt_0 : decode cX7_isAt 0 = .ok (.aload_n 0, 1) := by decide +kernel
theorem dX7_isAt_1 : decode cX7_isAt 1 = .ok (.getfield 286, 3) := by decide +kernel
theorem dX7_isAt_4 : decode cX7_isAt 4 = .ok (.aload_n 0, 1) := by decide +kernel
theorem dX7_isAt_5 : decode cX7_isAt 5 = .ok (.getfield 261, 3) := by decide +kernel
theorem dX7_isAt_8 : decode cX7_isAt 8 = .ok (.if_icmp .ge 27, 3) := by decide +kernel
theorem dX7_isAt_11 : decode cX7_isAt 11 = .ok (.aload_n 0, 1) := by decide +kernel
theorem dX7_isAt_12 : decode cX7_isAt 12 = .ok (.getfield 51, 3) := by decide +kernel
theorem dX7_isAt_15 : decode cX7_isAt 15 = .ok (.aload_n 0, 1) := by decide +kernel
theorem dX7_isAt_16 : decode cX7_isAt 16 = .ok (.getfield 286, 3) := by decide +kernel
theorem dX7_isAt_19 : decode cX7_isAt 19 = .ok (.baload, 1) := by decide +kernel
theorem dX7_isAt_20 : decode cX7_isAt 20 = .ok (.i2l, 1) := by decide +kernel
theorem dX7_isAt_21 : decode cX7_isAt 21 = .ok (.iload_n 1, 1) := by decide +kernel
theorem dX7_isAt_22 : decode cX7_isAt 22 = .ok (.i2l, 1) := by decide +kernel
theorem dX7_isAt_23 : decode cX7_isAt 23 = .ok (.iload_n 2, 1) := by decide +kernel
theorem dX7_isAt_24 : decode cX7_isAt 24 = .ok (.i2l, 1) := by decide +kernel
theorem dX7_isAt_25 : decode cX7_isAt 25 = .ok (.invokestatic 79, 3) := by decide +kernel
theorem dX7_isAt_28 : decode cX7_isAt 28 = .ok (.ifCond .eq 7, 3) := by decide +kernel
theorem dX7_isAt_31 : decode cX7_isAt 31 = .ok (.iconst 1, 1) := by decide +kernel
theorem dX7_isAt_32 : decode cX7_isAt 32 = .ok (.goto 4, 3) := by decide +kernel
theorem dX7_isAt_35 : decode cX7_isAt 35 = .ok (.iconst 0, 1) := by decide +kernel
theorem dX7_isAt_36 : decode cX7_isAt 36 = .ok (.ireturn, 1) := by decide +kernel
theorem dX7_isWord_0 : decode cX7_isWord 0 = .ok (.iload_n 1, 1) := by decide +kernel
theorem dX7_isWord_1 : decode cX7_isWord 1 = .ok (.invokestatic 289, 3) := by decide +kernel
theorem dX7_isWord_4 : decode cX7_isWord 4 = .ok (.astore_n 3, 1) := by decide +kernel
theorem dX7_isWord_5 : decode cX7_isWord 5 = .ok (.aload_n 0, 1) := by decide +kernel
theorem dX7_isWord_6 : decode cX7_isWord 6 = .ok (.getfield 286, 3) := by decide +kernel
theorem dX7_isWord_9 : decode cX7_isWord 9 = .ok (.iload_n 2, 1) := by decide +kernel
theorem dX7_isWord_10 : decode cX7_isWord 10 = .ok (.isub, 1) := by decide +kernel
theorem dX7_isWord_11 : decode cX7_isWord 11 = .ok (.aload_n 3, 1) := by decide +kernel
theorem dX7_isWord_12 : decode cX7_isWord 12 = .ok (.invokevirtual 293, 3) := by decide +kernel
theorem dX7_isWord_15 : decode cX7_isWord 15 = .ok (.if_icmp .ne 7, 3) := by decide +kernel
theorem dX7_isWord_18 : decode cX7_isWord 18 = .ok (.iconst 1, 1) := by decide +kernel
theorem dX7_isWord_19 : decode cX7_isWord 19 = .ok (.goto 4, 3) := by decide +kernel
theorem dX7_isWord_22 : decode cX7_isWord 22 = .ok (.iconst 0, 1) := by decide +kernel
theorem dX7_isWord_23 : decode cX7_isWord 23 = .ok (.istore 4, 2) := by decide +kernel
theorem dX7_isWord_25 : decode cX7_isWord 25 = .ok (.iconst 0, 1) := by decide +kernel
theorem dX7_isWord_26 : decode cX7_isWord 26 = .ok (.istore 5, 2) := by decide +kernel
theorem dX7_isWord_28 : decode cX7_isWord 28 = .ok (.iload 4, 2) := by decide +kernel
theorem dX7_isWord_30 : decode cX7_isWord 30 = .ok (.ifCond .eq 43, 3) := by decide +kernel
theorem dX7_isWord_33 : decode cX7_isWord 33 = .ok (.iload 5, 2) := by decide +kernel
theorem dX7_isWord_35 : decode cX7_isWord 35 = .ok (.aload_n 3, 1) := by decide +kernel
theorem dX7_isWord_36 : decode cX7_isWord 36 = .ok (.invokevirtual 293, 3) := by decide +kernel
theorem dX7_isWord_39 : decode cX7_isWord 39 = .ok (.if_icmp .ge 34, 3) := by decide +kernel
theorem dX7_isWord_42 : decode cX7_isWord 42 = .ok (.aload_n 0, 1) := by decide +kernel
theorem dX7_isWord_43 : decode cX7_isWord 43 = .ok (.getfield 51, 3) := by decide +kernel
theorem dX7_isWord_46 : decode cX7_isWord 46 = .ok (.iload_n 2, 1) := by decide +kernel
theorem dX7_isWord_47 : decode cX7_isWord 47 = .ok (.iload 5, 2) := by decide +kernel
theorem dX7_isWord_49 : decode cX7_isWord 49 = .ok (.iadd, 1) := by decide +kernel
theorem dX7_isWord_50 : decode cX7_isWord 50 = .ok (.baload, 1) := by decide +kernel
theorem dX7_isWord_51 : decode cX7_isWord 51 = .ok (.aload_n 3, 1) := by decide +kernel
theorem dX7_isWord_52 : decode cX7_isWord 52 = .ok (.iload 5, 2) := by decide +kernel
theorem dX7_isWord_54 : decode cX7_isWord 54 = .ok (.invokevirtual 298, 3) := by decide +kernel
theorem dX7_isWord_57 : decode cX7_isWord 57 = .ok (.if_icmp .ne 7, 3) := by decide +kernel
theorem dX7_isWord_60 : decode cX7_isWord 60 = .ok (.iconst 1, 1) := by decide +kernel
theorem dX7_isWord_61 : decode cX7_isWord 61 = .ok (.goto 4, 3) := by decide +kernel
theorem dX7_isWord_64 : decode cX7_isWord 64 = .ok (.iconst 0, 1) := by decide +kernel
theorem dX7_isWord_65 : decode cX7_isWord 65 = .ok (.istore 4, 2) := by decide +kernel
theorem dX7_isWord_67 : decode cX7_isWord 67 = .ok (.iinc 5 1, 3) := by decide +kernel
theorem dX7_isWord_70 : decode cX7_isWord 70 = .ok (.goto (-42), 3) := by decide +kernel
theorem dX7_isWord_73 : decode cX7_isWord 73 = .ok (.iload 4, 2) := by decide +kernel
theorem dX7_isWord_75 : decode cX7_isWord 75 = .ok (.ireturn, 1) := by decide +kernel
theorem dX7_takesWord_0 : decode cX7_takesWord 0 = .ok (.aload_n 0, 1) := by decide +kernel
theorem dX7_takesWord_1 : decode cX7_takesWord 1 = .ok (.getfield 286, 3) := by decide +kernel
theorem dX7_takesWord_4 : decode cX7_takesWord 4 = .ok (.istore_n 1, 1) := by decide +kernel
theorem dX7_takesWord_5 : decode cX7_takesWord 5 = .ok (.aload_n 0, 1) := by decide +kernel
theorem dX7_takesWord_6 : decode cX7_takesWord 6 = .ok (.bipush 97, 2) := by decide +kernel
theorem dX7_takesWord_8 : decode cX7_takesWord 8 = .ok (.bipush 122, 2) := by decide +kernel
theorem dX7_takesWord_10 : decode cX7_takesWord 10 = .ok (.invokevirtual 302, 3) := by decide +kernel
theorem dX7_takesWord_13 : decode cX7_takesWord 13 = .ok (.ifCond .eq 16, 3) := by decide +kernel
theorem dX7_takesWord_16 : decode cX7_takesWord 16 = .ok (.aload_n 0, 1) := by decide +kernel
theorem dX7_takesWord_17 : decode cX7_takesWord 17 = .ok (.dup, 1) := by decide +kernel
theorem dX7_takesWord_18 : decode cX7_takesWord 18 = .ok (.getfield 286, 3) := by decide +kernel
theorem dX7_takesWord_21 : decode cX7_takesWord 21 = .ok (.iconst 1, 1) := by decide +kernel
theorem dX7_takesWord_22 : decode cX7_takesWord 22 = .ok (.iadd, 1) := by decide +kernel
theorem dX7_takesWord_23 : decode cX7_takesWord 23 = .ok (.putfield 286, 3) := by decide +kernel
theorem dX7_takesWord_26 : decode cX7_takesWord 26 = .ok (.goto (-21), 3) := by decide +kernel
theorem dX7_takesWord_29 : decode cX7_takesWord 29 = .ok (.iconst 0, 1) := by decide +kernel
theorem dX7_takesWord_30 : decode cX7_takesWord 30 = .ok (.istore_n 2, 1) := by decide +kernel
theorem dX7_takesWord_31 : decode cX7_takesWord 31 = .ok (.iload_n 2, 1) := by decide +kernel
theorem dX7_takesWord_32 : decode cX7_takesWord 32 = .ok (.bipush 11, 2) := by decide +kernel
theorem dX7_takesWord_34 : decode cX7_takesWord 34 = .ok (.if_icmp .ge 18, 3) := by decide +kernel
theorem dX7_takesWord_37 : decode cX7_takesWord 37 = .ok (.aload_n 0, 1) := by decide +kernel
theorem dX7_takesWord_38 : decode cX7_takesWord 38 = .ok (.iload_n 2, 1) := by decide +kernel
theorem dX7_takesWord_39 : decode cX7_takesWord 39 = .ok (.iload_n 1, 1) := by decide +kernel
theorem dX7_takesWord_40 : decode cX7_takesWord 40 = .ok (.invokevirtual 306, 3) := by decide +kernel
theorem dX7_takesWord_43 : decode cX7_takesWord 43 = .ok (.ifCond .ne 9, 3) := by decide +kernel
theorem dX7_takesWord_46 : decode cX7_takesWord 46 = .ok (.iinc 2 1, 3) := by decide +kernel
theorem dX7_takesWord_49 : decode cX7_takesWord 49 = .ok (.goto (-18), 3) := by decide +kernel
theorem dX7_takesWord_52 : decode cX7_takesWord 52 = .ok (.aload_n 0, 1) := by decide +kernel
theorem dX7_takesWord_53 : decode cX7_takesWord 53 = .ok (.getfield 55, 3) := by decide +kernel
theorem dX7_takesWord_56 : decode cX7_takesWord 56 = .ok (.aload_n 0, 1) := by decide +kernel
theorem dX7_takesWord_57 : decode cX7_takesWord 57 = .ok (.getfield 309, 3) := by decide +kernel
theorem dX7_takesWord_60 : decode cX7_takesWord 60 = .ok (.iload_n 2, 1) := by decide +kernel
theorem dX7_takesWord_61 : decode cX7_takesWord 61 = .ok (.iastore, 1) := by decide +kernel
theorem dX7_takesWord_62 : decode cX7_takesWord 62 = .ok (.iload_n 2, 1) := by decide +kernel
theorem dX7_takesWord_63 : decode cX7_takesWord 63 = .ok (.bipush 11, 2) := by decide +kernel
theorem dX7_takesWord_65 : decode cX7_takesWord 65 = .ok (.if_icmp .ne 8, 3) := by decide +kernel
theorem dX7_takesWord_68 : decode cX7_takesWord 68 = .ok (.aload_n 0, 1) := by decide +kernel
theorem dX7_takesWord_69 : decode cX7_takesWord 69 = .ok (.iload_n 1, 1) := by decide +kernel
theorem dX7_takesWord_70 : decode cX7_takesWord 70 = .ok (.putfield 286, 3) := by decide +kernel
theorem dX7_takesWord_73 : decode cX7_takesWord 73 = .ok (.iload_n 2, 1) := by decide +kernel
theorem dX7_takesWord_74 : decode cX7_takesWord 74 = .ok (.bipush 11, 2) := by decide +kernel
theorem dX7_takesWord_76 : decode cX7_takesWord 76 = .ok (.if_icmp .ge 7, 3) := by decide +kernel
theorem dX7_takesWord_79 : decode cX7_takesWord 79 = .ok (.iconst 1, 1) := by decide +kernel
theorem dX7_takesWord_80 : decode cX7_takesWord 80 = .ok (.goto 4, 3) := by decide +kernel
theorem dX7_takesWord_83 : decode cX7_takesWord 83 = .ok (.iconst 0, 1) := by decide +kernel
theorem dX7_takesWord_84 : decode cX7_takesWord 84 = .ok (.ireturn, 1) := by decide +kernel
theorem dX7_takesNumber_0 : decode cX7_takesNumber 0 = .ok (.aload_n 0, 1) := by decide +kernel
theorem dX7_takesNumber_1 : decode cX7_takesNumber 1 = .ok (.bipush 32, 2) := by decide +kernel
theorem dX7_takesNumber_3 : decode cX7_takesNumber 3 = .ok (.bipush 32, 2) := by decide +kernel
theorem dX7_takesNumber_5 : decode cX7_takesNumber 5 = .ok (.invokevirtual 302, 3) := by decide +kernel
theorem dX7_takesNumber_8 : decode cX7_takesNumber 8 = .ok (.ifCond .ne 5, 3) := by decide +kernel
theorem dX7_takesNumber_11 : decode cX7_takesNumber 11 = .ok (.iconst 0, 1) := by decide +kernel
theorem dX7_takesNumber_12 : decode cX7_takesNumber 12 = .ok (.ireturn, 1) := by decide +kernel
theorem dX7_takesNumber_13 : decode cX7_takesNumber 13 = .ok (.aload_n 0, 1) := by decide +kernel
theorem dX7_takesNumber_14 : decode cX7_takesNumber 14 = .ok (.dup, 1) := by decide +kernel
theorem dX7_takesNumber_15 : decode cX7_takesNumber 15 = .ok (.getfield 286, 3) := by decide +kernel
theorem dX7_takesNumber_18 : decode cX7_takesNumber 18 = .ok (.iconst 1, 1) := by decide +kernel
theorem dX7_takesNumber_19 : decode cX7_takesNumber 19 = .ok (.iadd, 1) := by decide +kernel
theorem dX7_takesNumber_20 : decode cX7_takesNumber 20 = .ok (.putfield 286, 3) := by decide +kernel
theorem dX7_takesNumber_23 : decode cX7_takesNumber 23 = .ok (.aload_n 0, 1) := by decide +kernel
theorem dX7_takesNumber_24 : decode cX7_takesNumber 24 = .ok (.bipush 45, 2) := by decide +kernel
theorem dX7_takesNumber_26 : decode cX7_takesNumber 26 = .ok (.bipush 45, 2) := by decide +kernel
theorem dX7_takesNumber_28 : decode cX7_takesNumber 28 = .ok (.invokevirtual 302, 3) := by decide +kernel
theorem dX7_takesNumber_31 : decode cX7_takesNumber 31 = .ok (.istore_n 2, 1) := by decide +kernel
theorem dX7_takesNumber_32 : decode cX7_takesNumber 32 = .ok (.iload_n 2, 1) := by decide +kernel
theorem dX7_takesNumber_33 : decode cX7_takesNumber 33 = .ok (.ifCond .eq 13, 3) := by decide +kernel
theorem dX7_takesNumber_36 : decode cX7_takesNumber 36 = .ok (.aload_n 0, 1) := by decide +kernel
theorem dX7_takesNumber_37 : decode cX7_takesNumber 37 = .ok (.dup, 1) := by decide +kernel
theorem dX7_takesNumber_38 : decode cX7_takesNumber 38 = .ok (.getfield 286, 3) := by decide +kernel
theorem dX7_takesNumber_41 : decode cX7_takesNumber 41 = .ok (.iconst 1, 1) := by decide +kernel
theorem dX7_takesNumber_42 : decode cX7_takesNumber 42 = .ok (.iadd, 1) := by decide +kernel
theorem dX7_takesNumber_43 : decode cX7_takesNumber 43 = .ok (.putfield 286, 3) := by decide +kernel
theorem dX7_takesNumber_46 : decode cX7_takesNumber 46 = .ok (.aload_n 0, 1) := by decide +kernel
theorem dX7_takesNumber_47 : decode cX7_takesNumber 47 = .ok (.bipush 48, 2) := by decide +kernel
theorem dX7_takesNumber_49 : decode cX7_takesNumber 49 = .ok (.bipush 57, 2) := by decide +kernel
theorem dX7_takesNumber_51 : decode cX7_takesNumber 51 = .ok (.invokevirtual 302, 3) := by decide +kernel
theorem dX7_takesNumber_54 : decode cX7_takesNumber 54 = .ok (.ifCond .ne 5, 3) := by decide +kernel
theorem dX7_takesNumber_57 : decode cX7_takesNumber 57 = .ok (.iconst 0, 1) := by decide +kernel
theorem dX7_takesNumber_58 : decode cX7_takesNumber 58 = .ok (.ireturn, 1) := by decide +kernel
theorem dX7_takesNumber_59 : decode cX7_takesNumber 59 = .ok (.iconst 0, 1) := by decide +kernel
theorem dX7_takesNumber_60 : decode cX7_takesNumber 60 = .ok (.istore_n 3, 1) := by decide +kernel
theorem dX7_takesNumber_61 : decode cX7_takesNumber 61 = .ok (.iconst 0, 1) := by decide +kernel
theorem dX7_takesNumber_62 : decode cX7_takesNumber 62 = .ok (.istore 4, 2) := by decide +kernel
theorem dX7_takesNumber_64 : decode cX7_takesNumber 64 = .ok (.iload 4, 2) := by decide +kernel
theorem dX7_takesNumber_66 : decode cX7_takesNumber 66 = .ok (.iconst 3, 1) := by decide +kernel
theorem dX7_takesNumber_67 : decode cX7_takesNumber 67 = .ok (.if_icmp .ge 48, 3) := by decide +kernel
theorem dX7_takesNumber_70 : decode cX7_takesNumber 70 = .ok (.aload_n 0, 1) := by decide +kernel
theorem dX7_takesNumber_71 : decode cX7_takesNumber 71 = .ok (.bipush 48, 2) := by decide +kernel
theorem dX7_takesNumber_73 : decode cX7_takesNumber 73 = .ok (.bipush 57, 2) := by decide +kernel
theorem dX7_takesNumber_75 : decode cX7_takesNumber 75 = .ok (.invokevirtual 302, 3) := by decide +kernel
theorem dX7_takesNumber_78 : decode cX7_takesNumber 78 = .ok (.ifCond .eq 37, 3) := by decide +kernel
theorem dX7_takesNumber_81 : decode cX7_takesNumber 81 = .ok (.bipush 10, 2) := by decide +kernel
theorem dX7_takesNumber_83 : decode cX7_takesNumber 83 = .ok (.iload_n 3, 1) := by decide +kernel
theorem dX7_takesNumber_84 : decode cX7_takesNumber 84 = .ok (.imul, 1) := by decide +kernel
theorem dX7_takesNumber_85 : decode cX7_takesNumber 85 = .ok (.aload_n 0, 1) := by decide +kernel
theorem dX7_takesNumber_86 : decode cX7_takesNumber 86 = .ok (.getfield 51, 3) := by decide +kernel
theorem dX7_takesNumber_89 : decode cX7_takesNumber 89 = .ok (.aload_n 0, 1) := by decide +kernel
theorem dX7_takesNumber_90 : decode cX7_takesNumber 90 = .ok (.getfield 286, 3) := by decide +kernel
theorem dX7_takesNumber_93 : decode cX7_takesNumber 93 = .ok (.baload, 1) := by decide +kernel
theorem dX7_takesNumber_94 : decode cX7_takesNumber 94 = .ok (.iadd, 1) := by decide +kernel
theorem dX7_takesNumber_95 : decode cX7_takesNumber 95 = .ok (.bipush 48, 2) := by decide +kernel
theorem dX7_takesNumber_97 : decode cX7_takesNumber 97 = .ok (.isub, 1) := by decide +kernel
theorem dX7_takesNumber_98 : decode cX7_takesNumber 98 = .ok (.istore_n 3, 1) := by decide +kernel
theorem dX7_takesNumber_99 : decode cX7_takesNumber 99 = .ok (.aload_n 0, 1) := by decide +kernel
theorem dX7_takesNumber_100 : decode cX7_takesNumber 100 = .ok (.dup, 1) := by decide +kernel
theorem dX7_takesNumber_101 : decode cX7_takesNumber 101 = .ok (.getfield 286, 3) := by decide +kernel
theorem dX7_takesNumber_104 : decode cX7_takesNumber 104 = .ok (.iconst 1, 1) := by decide +kernel
theorem dX7_takesNumber_105 : decode cX7_takesNumber 105 = .ok (.iadd, 1) := by decide +kernel
theorem dX7_takesNumber_106 : decode cX7_takesNumber 106 = .ok (.putfield 286, 3) := by decide +kernel
theorem dX7_takesNumber_109 : decode cX7_takesNumber 109 = .ok (.iinc 4 1, 3) := by decide +kernel
theorem dX7_takesNumber_112 : decode cX7_takesNumber 112 = .ok (.goto (-48), 3) := by decide +kernel
theorem dX7_takesNumber_115 : decode cX7_takesNumber 115 = .ok (.aload_n 0, 1) := by decide +kernel
theorem dX7_takesNumber_116 : decode cX7_takesNumber 116 = .ok (.getfield 58, 3) := by decide +kernel
theorem dX7_takesNumber_119 : decode cX7_takesNumber 119 = .ok (.iconst 3, 1) := by decide +kernel
theorem dX7_takesNumber_120 : decode cX7_takesNumber 120 = .ok (.aload_n 0, 1) := by decide +kernel
theorem dX7_takesNumber_121 : decode cX7_takesNumber 121 = .ok (.getfield 309, 3) := by decide +kernel
theorem dX7_takesNumber_124 : decode cX7_takesNumber 124 = .ok (.imul, 1) := by decide +kernel
theorem dX7_takesNumber_125 : decode cX7_takesNumber 125 = .ok (.iload_n 1, 1) := by decide +kernel
theorem dX7_takesNumber_126 : decode cX7_takesNumber 126 = .ok (.iadd, 1) := by decide +kernel
theorem dX7_takesNumber_127 : decode cX7_takesNumber 127 = .ok (.iload_n 2, 1) := by decide +kernel
theorem dX7_takesNumber_128 : decode cX7_takesNumber 128 = .ok (.ifCond .eq 8, 3) := by decide +kernel
theorem dX7_takesNumber_131 : decode cX7_takesNumber 131 = .ok (.iload_n 3, 1) := by decide +kernel
theorem dX7_takesNumber_132 : decode cX7_takesNumber 132 = .ok (.ineg, 1) := by decide +kernel
theorem dX7_takesNumber_133 : decode cX7_takesNumber 133 = .ok (.goto 4, 3) := by decide +kernel
theorem dX7_takesNumber_136 : decode cX7_takesNumber 136 = .ok (.iload_n 3, 1) := by decide +kernel
theorem dX7_takesNumber_137 : decode cX7_takesNumber 137 = .ok (.iastore, 1) := by decide +kernel
theorem dX7_takesNumber_138 : decode cX7_takesNumber 138 = .ok (.iconst 1, 1) := by decide +kernel
theorem dX7_takesNumber_139 : decode cX7_takesNumber 139 = .ok (.ireturn, 1) := by decide +kernel
theorem dX7_takesDeed_0 : decode cX7_takesDeed 0 = .ok (.aload_n 0, 1) := by decide +kernel
theorem dX7_takesDeed_1 : decode cX7_takesDeed 1 = .ok (.invokevirtual 312, 3) := by decide +kernel
theorem dX7_takesDeed_4 : decode cX7_takesDeed 4 = .ok (.ifCond .ne 5, 3) := by decide +kernel
theorem dX7_takesDeed_7 : decode cX7_takesDeed 7 = .ok (.iconst 0, 1) := by decide +kernel
theorem dX7_takesDeed_8 : decode cX7_takesDeed 8 = .ok (.ireturn, 1) := by decide +kernel
theorem dX7_takesDeed_9 : decode cX7_takesDeed 9 = .ok (.iconst 0, 1) := by decide +kernel
theorem dX7_takesDeed_10 : decode cX7_takesDeed 10 = .ok (.istore_n 1, 1) := by decide +kernel
theorem dX7_takesDeed_11 : decode cX7_takesDeed 11 = .ok (.iload_n 1, 1) := by decide +kernel
theorem dX7_takesDeed_12 : decode cX7_takesDeed 12 = .ok (.aload_n 0, 1) := by decide +kernel
theorem dX7_takesDeed_13 : decode cX7_takesDeed 13 = .ok (.getfield 55, 3) := by decide +kernel
theorem dX7_takesDeed_16 : decode cX7_takesDeed 16 = .ok (.aload_n 0, 1) := by decide +kernel
theorem dX7_takesDeed_17 : decode cX7_takesDeed 17 = .ok (.getfield 309, 3) := by decide +kernel
theorem dX7_takesDeed_20 : decode cX7_takesDeed 20 = .ok (.iaload, 1) := by decide +kernel
theorem dX7_takesDeed_21 : decode cX7_takesDeed 21 = .ok (.invokestatic 315, 3) := by decide +kernel
theorem dX7_takesDeed_24 : decode cX7_takesDeed 24 = .ok (.if_icmp .ge 19, 3) := by decide +kernel
theorem dX7_takesDeed_27 : decode cX7_takesDeed 27 = .ok (.aload_n 0, 1) := by decide +kernel
theorem dX7_takesDeed_28 : decode cX7_takesDeed 28 = .ok (.iload_n 1, 1) := by decide +kernel
theorem dX7_takesDeed_29 : decode cX7_takesDeed 29 = .ok (.invokevirtual 318, 3) := by decide +kernel
theorem dX7_takesDeed_32 : decode cX7_takesDeed 32 = .ok (.ifCond .ne 5, 3) := by decide +kernel
theorem dX7_takesDeed_35 : decode cX7_takesDeed 35 = .ok (.iconst 0, 1) := by decide +kernel
theorem dX7_takesDeed_36 : decode cX7_takesDeed 36 = .ok (.ireturn, 1) := by decide +kernel
theorem dX7_takesDeed_37 : decode cX7_takesDeed 37 = .ok (.iinc 1 1, 3) := by decide +kernel
theorem dX7_takesDeed_40 : decode cX7_takesDeed 40 = .ok (.goto (-29), 3) := by decide +kernel
theorem dX7_takesDeed_43 : decode cX7_takesDeed 43 = .ok (.aload_n 0, 1) := by decide +kernel
theorem dX7_takesDeed_44 : decode cX7_takesDeed 44 = .ok (.dup, 1) := by decide +kernel
theorem dX7_takesDeed_45 : decode cX7_takesDeed 45 = .ok (.getfield 309, 3) := by decide +kernel
theorem dX7_takesDeed_48 : decode cX7_takesDeed 48 = .ok (.iconst 1, 1) := by decide +kernel
theorem dX7_takesDeed_49 : decode cX7_takesDeed 49 = .ok (.iadd, 1) := by decide +kernel
theorem dX7_takesDeed_50 : decode cX7_takesDeed 50 = .ok (.putfield 309, 3) := by decide +kernel
theorem dX7_takesDeed_53 : decode cX7_takesDeed 53 = .ok (.iconst 1, 1) := by decide +kernel
theorem dX7_takesDeed_54 : decode cX7_takesDeed 54 = .ok (.ireturn, 1) := by decide +kernel
theorem dX7_takesAll_0 : decode cX7_takesAll 0 = .ok (.aload_n 0, 1) := by decide +kernel
theorem dX7_takesAll_1 : decode cX7_takesAll 1 = .ok (.iconst 0, 1) := by decide +kernel
theorem dX7_takesAll_2 : decode cX7_takesAll 2 = .ok (.putfield 286, 3) := by decide +kernel
theorem dX7_takesAll_5 : decode cX7_takesAll 5 = .ok (.aload_n 0, 1) := by decide +kernel
theorem dX7_takesAll_6 : decode cX7_takesAll 6 = .ok (.iconst 0, 1) := by decide +kernel
theorem dX7_takesAll_7 : decode cX7_takesAll 7 = .ok (.putfield 309, 3) := by decide +kernel
theorem dX7_takesAll_10 : decode cX7_takesAll 10 = .ok (.aload_n 0, 1) := by decide +kernel
theorem dX7_takesAll_11 : decode cX7_takesAll 11 = .ok (.invokevirtual 321, 3) := by decide +kernel
theorem dX7_takesAll_14 : decode cX7_takesAll 14 = .ok (.ifCond .ne 5, 3) := by decide +kernel
theorem dX7_takesAll_17 : decode cX7_takesAll 17 = .ok (.iconst 0, 1) := by decide +kernel
theorem dX7_takesAll_18 : decode cX7_takesAll 18 = .ok (.ireturn, 1) := by decide +kernel
theorem dX7_takesAll_19 : decode cX7_takesAll 19 = .ok (.aload_n 0, 1) := by decide +kernel
theorem dX7_takesAll_20 : decode cX7_takesAll 20 = .ok (.getfield 286, 3) := by decide +kernel
theorem dX7_takesAll_23 : decode cX7_takesAll 23 = .ok (.aload_n 0, 1) := by decide +kernel
theorem dX7_takesAll_24 : decode cX7_takesAll 24 = .ok (.getfield 261, 3) := by decide +kernel
theorem dX7_takesAll_27 : decode cX7_takesAll 27 = .ok (.if_icmp .ge 35, 3) := by decide +kernel
theorem dX7_takesAll_30 : decode cX7_takesAll 30 = .ok (.aload_n 0, 1) := by decide +kernel
theorem dX7_takesAll_31 : decode cX7_takesAll 31 = .ok (.bipush 59, 2) := by decide +kernel
theorem dX7_takesAll_33 : decode cX7_takesAll 33 = .ok (.bipush 59, 2) := by decide +kernel
theorem dX7_takesAll_35 : decode cX7_takesAll 35 = .ok (.invokevirtual 302, 3) := by decide +kernel
theorem dX7_takesAll_38 : decode cX7_takesAll 38 = .ok (.ifCond .ne 5, 3) := by decide +kernel
theorem dX7_takesAll_41 : decode cX7_takesAll 41 = .ok (.iconst 0, 1) := by decide +kernel
theorem dX7_takesAll_42 : decode cX7_takesAll 42 = .ok (.ireturn, 1) := by decide +kernel
theorem dX7_takesAll_43 : decode cX7_takesAll 43 = .ok (.aload_n 0, 1) := by decide +kernel
theorem dX7_takesAll_44 : decode cX7_takesAll 44 = .ok (.dup, 1) := by decide +kernel
theorem dX7_takesAll_45 : decode cX7_takesAll 45 = .ok (.getfield 286, 3) := by decide +kernel
theorem dX7_takesAll_48 : decode cX7_takesAll 48 = .ok (.iconst 1, 1) := by decide +kernel
theorem dX7_takesAll_49 : decode cX7_takesAll 49 = .ok (.iadd, 1) := by decide +kernel
theorem dX7_takesAll_50 : decode cX7_takesAll 50 = .ok (.putfield 286, 3) := by decide +kernel
theorem dX7_takesAll_53 : decode cX7_takesAll 53 = .ok (.aload_n 0, 1) := by decide +kernel
theorem dX7_takesAll_54 : decode cX7_takesAll 54 = .ok (.invokevirtual 321, 3) := by decide +kernel
theorem dX7_takesAll_57 : decode cX7_takesAll 57 = .ok (.ifCond .ne (-38), 3) := by decide +kernel
theorem dX7_takesAll_60 : decode cX7_takesAll 60 = .ok (.iconst 0, 1) := by decide +kernel
theorem dX7_takesAll_61 : decode cX7_takesAll 61 = .ok (.ireturn, 1) := by decide +kernel
theorem dX7_takesAll_62 : decode cX7_takesAll 62 = .ok (.iconst 1, 1) := by decide +kernel
theorem dX7_takesAll_63 : decode cX7_takesAll 63 = .ok (.ireturn, 1) := by decide +kernel
theorem dX7_isDone_0 : decode cX7_isDone 0 = .ok (.aload_n 0, 1) := by decide +kernel
theorem dX7_isDone_1 : decode cX7_isDone 1 = .ok (.getfield 58, 3) := by decide +kernel
theorem dX7_isDone_4 : decode cX7_isDone 4 = .ok (.iconst 3, 1) := by decide +kernel
theorem dX7_isDone_5 : decode cX7_isDone 5 = .ok (.iload_n 1, 1) := by decide +kernel
theorem dX7_isDone_6 : decode cX7_isDone 6 = .ok (.imul, 1) := by decide +kernel
theorem dX7_isDone_7 : decode cX7_isDone 7 = .ok (.iaload, 1) := by decide +kernel
theorem dX7_isDone_8 : decode cX7_isDone 8 = .ok (.istore_n 2, 1) := by decide +kernel
theorem dX7_isDone_9 : decode cX7_isDone 9 = .ok (.aload_n 0, 1) := by decide +kernel
theorem dX7_isDone_10 : decode cX7_isDone 10 = .ok (.getfield 58, 3) := by decide +kernel
theorem dX7_isDone_13 : decode cX7_isDone 13 = .ok (.iconst 3, 1) := by decide +kernel
theorem dX7_isDone_14 : decode cX7_isDone 14 = .ok (.iload_n 1, 1) := by decide +kernel
theorem dX7_isDone_15 : decode cX7_isDone 15 = .ok (.imul, 1) := by decide +kernel
theorem dX7_isDone_16 : decode cX7_isDone 16 = .ok (.iconst 1, 1) := by decide +kernel
theorem dX7_isDone_17 : decode cX7_isDone 17 = .ok (.iadd, 1) := by decide +kernel
theorem dX7_isDone_18 : decode cX7_isDone 18 = .ok (.iaload, 1) := by decide +kernel
theorem dX7_isDone_19 : decode cX7_isDone 19 = .ok (.istore_n 3, 1) := by decide +kernel
theorem dX7_isDone_20 : decode cX7_isDone 20 = .ok (.aload_n 0, 1) := by decide +kernel
theorem dX7_isDone_21 : decode cX7_isDone 21 = .ok (.getfield 58, 3) := by decide +kernel
theorem dX7_isDone_24 : decode cX7_isDone 24 = .ok (.iconst 3, 1) := by decide +kernel
theorem dX7_isDone_25 : decode cX7_isDone 25 = .ok (.iload_n 1, 1) := by decide +kernel
theorem dX7_isDone_26 : decode cX7_isDone 26 = .ok (.imul, 1) := by decide +kernel
theorem dX7_isDone_27 : decode cX7_isDone 27 = .ok (.iconst 2, 1) := by decide +kernel
theorem dX7_isDone_28 : decode cX7_isDone 28 = .ok (.iadd, 1) := by decide +kernel
theorem dX7_isDone_29 : decode cX7_isDone 29 = .ok (.iaload, 1) := by decide +kernel
theorem dX7_isDone_30 : decode cX7_isDone 30 = .ok (.istore 4, 2) := by decide +kernel
theorem dX7_isDone_32 : decode cX7_isDone 32 = .ok (.aload_n 0, 1) := by decide +kernel
theorem dX7_isDone_33 : decode cX7_isDone 33 = .ok (.getfield 55, 3) := by decide +kernel
theorem dX7_isDone_36 : decode cX7_isDone 36 = .ok (.iload_n 1, 1) := by decide +kernel
theorem dX7_isDone_37 : decode cX7_isDone 37 = .ok (.iaload, 1) := by decide +kernel
theorem dX7_isDone_38 : decode cX7_isDone 38 = .ok (.tableswitch 210 0 9 #[54, 71, 88, 105, 120, 135, 153, 168, 182, 196], 54) := by decide +kernel
theorem dX7_isDone_92 : decode cX7_isDone 92 = .ok (.aload_n 0, 1) := by decide +kernel
theorem dX7_isDone_93 : decode cX7_isDone 93 = .ok (.iload_n 2, 1) := by decide +kernel
theorem dX7_isDone_94 : decode cX7_isDone 94 = .ok (.iload_n 3, 1) := by decide +kernel
theorem dX7_isDone_95 : decode cX7_isDone 95 = .ok (.iload 4, 2) := by decide +kernel
theorem dX7_isDone_97 : decode cX7_isDone 97 = .ok (.invokevirtual 324, 3) := by decide +kernel
theorem dX7_isDone_100 : decode cX7_isDone 100 = .ok (.ifCond .lt 7, 3) := by decide +kernel
theorem dX7_isDone_103 : decode cX7_isDone 103 = .ok (.iconst 1, 1) := by decide +kernel
theorem dX7_isDone_104 : decode cX7_isDone 104 = .ok (.goto 4, 3) := by decide +kernel
theorem dX7_isDone_107 : decode cX7_isDone 107 = .ok (.iconst 0, 1) := by decide +kernel
theorem dX7_isDone_108 : decode cX7_isDone 108 = .ok (.ireturn, 1) := by decide +kernel
theorem dX7_isDone_109 : decode cX7_isDone 109 = .ok (.aload_n 0, 1) := by decide +kernel
theorem dX7_isDone_110 : decode cX7_isDone 110 = .ok (.iload_n 2, 1) := by decide +kernel
theorem dX7_isDone_111 : decode cX7_isDone 111 = .ok (.iload_n 3, 1) := by decide +kernel
theorem dX7_isDone_112 : decode cX7_isDone 112 = .ok (.iload 4, 2) := by decide +kernel
theorem dX7_isDone_114 : decode cX7_isDone 114 = .ok (.invokevirtual 326, 3) := by decide +kernel
theorem dX7_isDone_117 : decode cX7_isDone 117 = .ok (.ifCond .lt 7, 3) := by decide +kernel
theorem dX7_isDone_120 : decode cX7_isDone 120 = .ok (.iconst 1, 1) := by decide +kernel
theorem dX7_isDone_121 : decode cX7_isDone 121 = .ok (.goto 4, 3) := by decide +kernel
theorem dX7_isDone_124 : decode cX7_isDone 124 = .ok (.iconst 0, 1) := by decide +kernel
theorem dX7_isDone_125 : decode cX7_isDone 125 = .ok (.ireturn, 1) := by decide +kernel
theorem dX7_isDone_126 : decode cX7_isDone 126 = .ok (.aload_n 0, 1) := by decide +kernel
theorem dX7_isDone_127 : decode cX7_isDone 127 = .ok (.iload_n 2, 1) := by decide +kernel
theorem dX7_isDone_128 : decode cX7_isDone 128 = .ok (.iload_n 3, 1) := by decide +kernel
theorem dX7_isDone_129 : decode cX7_isDone 129 = .ok (.iload 4, 2) := by decide +kernel
theorem dX7_isDone_131 : decode cX7_isDone 131 = .ok (.invokevirtual 328, 3) := by decide +kernel
theorem dX7_isDone_134 : decode cX7_isDone 134 = .ok (.ifCond .lt 7, 3) := by decide +kernel
theorem dX7_isDone_137 : decode cX7_isDone 137 = .ok (.iconst 1, 1) := by decide +kernel
theorem dX7_isDone_138 : decode cX7_isDone 138 = .ok (.goto 4, 3) := by decide +kernel
theorem dX7_isDone_141 : decode cX7_isDone 141 = .ok (.iconst 0, 1) := by decide +kernel
theorem dX7_isDone_142 : decode cX7_isDone 142 = .ok (.ireturn, 1) := by decide +kernel
theorem dX7_isDone_143 : decode cX7_isDone 143 = .ok (.aload_n 0, 1) := by decide +kernel
theorem dX7_isDone_144 : decode cX7_isDone 144 = .ok (.iload_n 2, 1) := by decide +kernel
theorem dX7_isDone_145 : decode cX7_isDone 145 = .ok (.iload_n 3, 1) := by decide +kernel
theorem dX7_isDone_146 : decode cX7_isDone 146 = .ok (.invokevirtual 330, 3) := by decide +kernel
theorem dX7_isDone_149 : decode cX7_isDone 149 = .ok (.ifCond .lt 7, 3) := by decide +kernel
theorem dX7_isDone_152 : decode cX7_isDone 152 = .ok (.iconst 1, 1) := by decide +kernel
theorem dX7_isDone_153 : decode cX7_isDone 153 = .ok (.goto 4, 3) := by decide +kernel
theorem dX7_isDone_156 : decode cX7_isDone 156 = .ok (.iconst 0, 1) := by decide +kernel
theorem dX7_isDone_157 : decode cX7_isDone 157 = .ok (.ireturn, 1) := by decide +kernel
theorem dX7_isDone_158 : decode cX7_isDone 158 = .ok (.aload_n 0, 1) := by decide +kernel
theorem dX7_isDone_159 : decode cX7_isDone 159 = .ok (.iload_n 2, 1) := by decide +kernel
theorem dX7_isDone_160 : decode cX7_isDone 160 = .ok (.iload_n 3, 1) := by decide +kernel
theorem dX7_isDone_161 : decode cX7_isDone 161 = .ok (.invokevirtual 332, 3) := by decide +kernel
theorem dX7_isDone_164 : decode cX7_isDone 164 = .ok (.ifCond .lt 7, 3) := by decide +kernel
theorem dX7_isDone_167 : decode cX7_isDone 167 = .ok (.iconst 1, 1) := by decide +kernel
theorem dX7_isDone_168 : decode cX7_isDone 168 = .ok (.goto 4, 3) := by decide +kernel
theorem dX7_isDone_171 : decode cX7_isDone 171 = .ok (.iconst 0, 1) := by decide +kernel
theorem dX7_isDone_172 : decode cX7_isDone 172 = .ok (.ireturn, 1) := by decide +kernel
theorem dX7_isDone_173 : decode cX7_isDone 173 = .ok (.aload_n 0, 1) := by decide +kernel
theorem dX7_isDone_174 : decode cX7_isDone 174 = .ok (.iload_n 2, 1) := by decide +kernel
theorem dX7_isDone_175 : decode cX7_isDone 175 = .ok (.iload_n 3, 1) := by decide +kernel
theorem dX7_isDone_176 : decode cX7_isDone 176 = .ok (.invokevirtual 334, 3) := by decide +kernel
theorem dX7_isDone_179 : decode cX7_isDone 179 = .ok (.ldc_w 336, 3) := by decide +kernel
theorem dX7_isDone_182 : decode cX7_isDone 182 = .ok (.if_icmp .le 7, 3) := by decide +kernel
theorem dX7_isDone_185 : decode cX7_isDone 185 = .ok (.iconst 1, 1) := by decide +kernel
theorem dX7_isDone_186 : decode cX7_isDone 186 = .ok (.goto 4, 3) := by decide +kernel
theorem dX7_isDone_189 : decode cX7_isDone 189 = .ok (.iconst 0, 1) := by decide +kernel
theorem dX7_isDone_190 : decode cX7_isDone 190 = .ok (.ireturn, 1) := by decide +kernel
theorem dX7_isDone_191 : decode cX7_isDone 191 = .ok (.aload_n 0, 1) := by decide +kernel
theorem dX7_isDone_192 : decode cX7_isDone 192 = .ok (.iload_n 2, 1) := by decide +kernel
theorem dX7_isDone_193 : decode cX7_isDone 193 = .ok (.iload_n 3, 1) := by decide +kernel
theorem dX7_isDone_194 : decode cX7_isDone 194 = .ok (.invokevirtual 337, 3) := by decide +kernel
theorem dX7_isDone_197 : decode cX7_isDone 197 = .ok (.ifCond .lt 7, 3) := by decide +kernel
theorem dX7_isDone_200 : decode cX7_isDone 200 = .ok (.iconst 1, 1) := by decide +kernel
theorem dX7_isDone_201 : decode cX7_isDone 201 = .ok (.goto 4, 3) := by decide +kernel
theorem dX7_isDone_204 : decode cX7_isDone 204 = .ok (.iconst 0, 1) := by decide +kernel
theorem dX7_isDone_205 : decode cX7_isDone 205 = .ok (.ireturn, 1) := by decide +kernel
theorem dX7_isDone_206 : decode cX7_isDone 206 = .ok (.aload_n 0, 1) := by decide +kernel
theorem dX7_isDone_207 : decode cX7_isDone 207 = .ok (.iload_n 2, 1) := by decide +kernel
theorem dX7_isDone_208 : decode cX7_isDone 208 = .ok (.invokevirtual 339, 3) := by decide +kernel
theorem dX7_isDone_211 : decode cX7_isDone 211 = .ok (.ifCond .lt 7, 3) := by decide +kernel
theorem dX7_isDone_214 : decode cX7_isDone 214 = .ok (.iconst 1, 1) := by decide +kernel
theorem dX7_isDone_215 : decode cX7_isDone 215 = .ok (.goto 4, 3) := by decide +kernel
theorem dX7_isDone_218 : decode cX7_isDone 218 = .ok (.iconst 0, 1) := by decide +kernel
theorem dX7_isDone_219 : decode cX7_isDone 219 = .ok (.ireturn, 1) := by decide +kernel
theorem dX7_isDone_220 : decode cX7_isDone 220 = .ok (.aload_n 0, 1) := by decide +kernel
theorem dX7_isDone_221 : decode cX7_isDone 221 = .ok (.iload_n 2, 1) := by decide +kernel
theorem dX7_isDone_222 : decode cX7_isDone 222 = .ok (.invokevirtual 341, 3) := by decide +kernel
theorem dX7_isDone_225 : decode cX7_isDone 225 = .ok (.ifCond .lt 7, 3) := by decide +kernel
theorem dX7_isDone_228 : decode cX7_isDone 228 = .ok (.iconst 1, 1) := by decide +kernel
theorem dX7_isDone_229 : decode cX7_isDone 229 = .ok (.goto 4, 3) := by decide +kernel
theorem dX7_isDone_232 : decode cX7_isDone 232 = .ok (.iconst 0, 1) := by decide +kernel
theorem dX7_isDone_233 : decode cX7_isDone 233 = .ok (.ireturn, 1) := by decide +kernel
theorem dX7_isDone_234 : decode cX7_isDone 234 = .ok (.aload_n 0, 1) := by decide +kernel
theorem dX7_isDone_235 : decode cX7_isDone 235 = .ok (.iload_n 2, 1) := by decide +kernel
theorem dX7_isDone_236 : decode cX7_isDone 236 = .ok (.invokevirtual 343, 3) := by decide +kernel
theorem dX7_isDone_239 : decode cX7_isDone 239 = .ok (.ifCond .lt 7, 3) := by decide +kernel
theorem dX7_isDone_242 : decode cX7_isDone 242 = .ok (.iconst 1, 1) := by decide +kernel
theorem dX7_isDone_243 : decode cX7_isDone 243 = .ok (.goto 4, 3) := by decide +kernel
theorem dX7_isDone_246 : decode cX7_isDone 246 = .ok (.iconst 0, 1) := by decide +kernel
theorem dX7_isDone_247 : decode cX7_isDone 247 = .ok (.ireturn, 1) := by decide +kernel
theorem dX7_isDone_248 : decode cX7_isDone 248 = .ok (.aload_n 0, 1) := by decide +kernel
theorem dX7_isDone_249 : decode cX7_isDone 249 = .ok (.iload_n 2, 1) := by decide +kernel
theorem dX7_isDone_250 : decode cX7_isDone 250 = .ok (.invokevirtual 345, 3) := by decide +kernel
theorem dX7_isDone_253 : decode cX7_isDone 253 = .ok (.ifCond .lt 7, 3) := by decide +kernel
theorem dX7_isDone_256 : decode cX7_isDone 256 = .ok (.iconst 1, 1) := by decide +kernel
theorem dX7_isDone_257 : decode cX7_isDone 257 = .ok (.goto 4, 3) := by decide +kernel
theorem dX7_isDone_260 : decode cX7_isDone 260 = .ok (.iconst 0, 1) := by decide +kernel
theorem dX7_isDone_261 : decode cX7_isDone 261 = .ok (.ireturn, 1) := by decide +kernel
theorem dX7_deeds_0 : decode cX7_deeds 0 = .ok (.aload_n 0, 1) := by decide +kernel
theorem dX7_deeds_1 : decode cX7_deeds 1 = .ok (.invokevirtual 347, 3) := by decide +kernel
theorem dX7_deeds_4 : decode cX7_deeds 4 = .ok (.istore_n 1, 1) := by decide +kernel
theorem dX7_deeds_5 : decode cX7_deeds 5 = .ok (.aload_n 0, 1) := by decide +kernel
theorem dX7_deeds_6 : decode cX7_deeds 6 = .ok (.iconst 0, 1) := by decide +kernel
theorem dX7_deeds_7 : decode cX7_deeds 7 = .ok (.putfield 261, 3) := by decide +kernel
theorem dX7_deeds_10 : decode cX7_deeds 10 = .ok (.iload_n 1, 1) := by decide +kernel
theorem dX7_deeds_11 : decode cX7_deeds 11 = .ok (.ifCond .ne 11, 3) := by decide +kernel
theorem dX7_deeds_14 : decode cX7_deeds 14 = .ok (.bipush (-100), 2) := by decide +kernel
theorem dX7_deeds_16 : decode cX7_deeds 16 = .ok (.aload_n 0, 1) := by decide +kernel
theorem dX7_deeds_17 : decode cX7_deeds 17 = .ok (.getfield 286, 3) := by decide +kernel
theorem dX7_deeds_20 : decode cX7_deeds 20 = .ok (.isub, 1) := by decide +kernel
theorem dX7_deeds_21 : decode cX7_deeds 21 = .ok (.ireturn, 1) := by decide +kernel
theorem dX7_deeds_22 : decode cX7_deeds 22 = .ok (.iconst 0, 1) := by decide +kernel
theorem dX7_deeds_23 : decode cX7_deeds 23 = .ok (.istore_n 2, 1) := by decide +kernel
theorem dX7_deeds_24 : decode cX7_deeds 24 = .ok (.iconst 0, 1) := by decide +kernel
theorem dX7_deeds_25 : decode cX7_deeds 25 = .ok (.istore_n 3, 1) := by decide +kernel
theorem dX7_deeds_26 : decode cX7_deeds 26 = .ok (.iload_n 3, 1) := by decide +kernel
theorem dX7_deeds_27 : decode cX7_deeds 27 = .ok (.aload_n 0, 1) := by decide +kernel
theorem dX7_deeds_28 : decode cX7_deeds 28 = .ok (.getfield 309, 3) := by decide +kernel
theorem dX7_deeds_31 : decode cX7_deeds 31 = .ok (.if_icmp .ge 20, 3) := by decide +kernel
theorem dX7_deeds_34 : decode cX7_deeds 34 = .ok (.aload_n 0, 1) := by decide +kernel
theorem dX7_deeds_35 : decode cX7_deeds 35 = .ok (.iload_n 3, 1) := by decide +kernel
theorem dX7_deeds_36 : decode cX7_deeds 36 = .ok (.invokevirtual 350, 3) := by decide +kernel
theorem dX7_deeds_39 : decode cX7_deeds 39 = .ok (.ifCond .eq 6, 3) := by decide +kernel
theorem dX7_deeds_42 : decode cX7_deeds 42 = .ok (.iinc 2 1, 3) := by decide +kernel
theorem dX7_deeds_45 : decode cX7_deeds 45 = .ok (.iinc 3 1, 3) := by decide +kernel
theorem dX7_deeds_48 : decode cX7_deeds 48 = .ok (.goto (-22), 3) := by decide +kernel
theorem dX7_deeds_51 : decode cX7_deeds 51 = .ok (.iload_n 2, 1) := by decide +kernel
theorem dX7_deeds_52 : decode cX7_deeds 52 = .ok (.ireturn, 1) := by decide +kernel
theorem dX7_says_0 : decode cX7_says 0 = .ok (.aload_n 0, 1) := by decide +kernel
theorem dX7_says_1 : decode cX7_says 1 = .ok (.getfield 61, 3) := by decide +kernel
theorem dX7_says_4 : decode cX7_says 4 = .ok (.aload_n 0, 1) := by decide +kernel
theorem dX7_says_5 : decode cX7_says 5 = .ok (.getfield 353, 3) := by decide +kernel
theorem dX7_says_8 : decode cX7_says 8 = .ok (.iload_n 1, 1) := by decide +kernel
theorem dX7_says_9 : decode cX7_says 9 = .ok (.i2b, 1) := by decide +kernel
theorem dX7_says_10 : decode cX7_says 10 = .ok (.bastore, 1) := by decide +kernel
