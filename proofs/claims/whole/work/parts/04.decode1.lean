theorem dX6_gain_49 : decode cX6_gain 49 = .ok (.iload_n 1, 1) := by decide +kernel
theorem dX6_gain_50 : decode cX6_gain 50 = .ok (.aaload, 1) := by decide +kernel
theorem dX6_gain_51 : decode cX6_gain 51 = .ok (.iload_n 2, 1) := by decide +kernel
theorem dX6_gain_52 : decode cX6_gain 52 = .ok (.iload_n 3, 1) := by decide +kernel
theorem dX6_gain_53 : decode cX6_gain 53 = .ok (.invokevirtual 186, 3) := by decide +kernel
theorem dX6_gain_56 : decode cX6_gain 56 = .ok (.i2l, 1) := by decide +kernel
theorem dX6_gain_57 : decode cX6_gain 57 = .ok (.lreturn, 1) := by decide +kernel
theorem dX6_fails_0 : decode cX6_fails 0 = .ok (.iload_n 1, 1) := by decide +kernel
theorem dX6_fails_1 : decode cX6_fails 1 = .ok (.invokestatic 101, 3) := by decide +kernel
theorem dX6_fails_4 : decode cX6_fails 4 = .ok (.ifCond .eq 12, 3) := by decide +kernel
theorem dX6_fails_7 : decode cX6_fails 7 = .ok (.iload_n 2, 1) := by decide +kernel
theorem dX6_fails_8 : decode cX6_fails 8 = .ok (.ifCond .lt 8, 3) := by decide +kernel
theorem dX6_fails_11 : decode cX6_fails 11 = .ok (.iload_n 2, 1) := by decide +kernel
theorem dX6_fails_12 : decode cX6_fails 12 = .ok (.iconst 2, 1) := by decide +kernel
theorem dX6_fails_13 : decode cX6_fails 13 = .ok (.if_icmp .le 5, 3) := by decide +kernel
theorem dX6_fails_16 : decode cX6_fails 16 = .ok (.iconst (-1), 1) := by decide +kernel
theorem dX6_fails_17 : decode cX6_fails 17 = .ok (.ireturn, 1) := by decide +kernel
theorem dX6_fails_18 : decode cX6_fails 18 = .ok (.aload_n 0, 1) := by decide +kernel
theorem dX6_fails_19 : decode cX6_fails 19 = .ok (.getfield 12, 3) := by decide +kernel
theorem dX6_fails_22 : decode cX6_fails 22 = .ok (.getfield 107, 3) := by decide +kernel
theorem dX6_fails_25 : decode cX6_fails 25 = .ok (.iload_n 1, 1) := by decide +kernel
theorem dX6_fails_26 : decode cX6_fails 26 = .ok (.aaload, 1) := by decide +kernel
theorem dX6_fails_27 : decode cX6_fails 27 = .ok (.invokevirtual 127, 3) := by decide +kernel
theorem dX6_fails_30 : decode cX6_fails 30 = .ok (.ifCond .eq 6, 3) := by decide +kernel
theorem dX6_fails_33 : decode cX6_fails 33 = .ok (.bipush (-11), 2) := by decide +kernel
theorem dX6_fails_35 : decode cX6_fails 35 = .ok (.ireturn, 1) := by decide +kernel
theorem dX6_fails_36 : decode cX6_fails 36 = .ok (.aload_n 0, 1) := by decide +kernel
theorem dX6_fails_37 : decode cX6_fails 37 = .ok (.getfield 12, 3) := by decide +kernel
theorem dX6_fails_40 : decode cX6_fails 40 = .ok (.getfield 107, 3) := by decide +kernel
theorem dX6_fails_43 : decode cX6_fails 43 = .ok (.iload_n 1, 1) := by decide +kernel
theorem dX6_fails_44 : decode cX6_fails 44 = .ok (.aaload, 1) := by decide +kernel
theorem dX6_fails_45 : decode cX6_fails 45 = .ok (.aload_n 0, 1) := by decide +kernel
theorem dX6_fails_46 : decode cX6_fails 46 = .ok (.getfield 12, 3) := by decide +kernel
theorem dX6_fails_49 : decode cX6_fails 49 = .ok (.getfield 63, 3) := by decide +kernel
theorem dX6_fails_52 : decode cX6_fails 52 = .ok (.invokevirtual 160, 3) := by decide +kernel
theorem dX6_fails_55 : decode cX6_fails 55 = .ok (.istore_n 3, 1) := by decide +kernel
theorem dX6_fails_56 : decode cX6_fails 56 = .ok (.iload_n 3, 1) := by decide +kernel
theorem dX6_fails_57 : decode cX6_fails 57 = .ok (.bipush (-5), 2) := by decide +kernel
theorem dX6_fails_59 : decode cX6_fails 59 = .ok (.if_icmp .ne 6, 3) := by decide +kernel
theorem dX6_fails_62 : decode cX6_fails 62 = .ok (.bipush (-5), 2) := by decide +kernel
theorem dX6_fails_64 : decode cX6_fails 64 = .ok (.ireturn, 1) := by decide +kernel
theorem dX6_fails_65 : decode cX6_fails 65 = .ok (.iload_n 2, 1) := by decide +kernel
theorem dX6_fails_66 : decode cX6_fails 66 = .ok (.lookupswitch 36 #[(0, 26), (1, 31)], 26) := by decide +kernel
theorem dX6_fails_92 : decode cX6_fails 92 = .ok (.iload_n 3, 1) := by decide +kernel
theorem dX6_fails_93 : decode cX6_fails 93 = .ok (.invokestatic 189, 3) := by decide +kernel
theorem dX6_fails_96 : decode cX6_fails 96 = .ok (.ireturn, 1) := by decide +kernel
theorem dX6_fails_97 : decode cX6_fails 97 = .ok (.iload_n 3, 1) := by decide +kernel
theorem dX6_fails_98 : decode cX6_fails 98 = .ok (.invokestatic 192, 3) := by decide +kernel
theorem dX6_fails_101 : decode cX6_fails 101 = .ok (.ireturn, 1) := by decide +kernel
theorem dX6_fails_102 : decode cX6_fails 102 = .ok (.iload_n 3, 1) := by decide +kernel
theorem dX6_fails_103 : decode cX6_fails 103 = .ok (.invokestatic 195, 3) := by decide +kernel
theorem dX6_fails_106 : decode cX6_fails 106 = .ok (.ireturn, 1) := by decide +kernel
theorem dX6_base_0 : decode cX6_base 0 = .ok (.aload_n 0, 1) := by decide +kernel
theorem dX6_base_1 : decode cX6_base 1 = .ok (.iload_n 1, 1) := by decide +kernel
theorem dX6_base_2 : decode cX6_base 2 = .ok (.invokevirtual 154, 3) := by decide +kernel
theorem dX6_base_5 : decode cX6_base 5 = .ok (.ifCond .ne 22, 3) := by decide +kernel
theorem dX6_base_8 : decode cX6_base 8 = .ok (.aload_n 0, 1) := by decide +kernel
theorem dX6_base_9 : decode cX6_base 9 = .ok (.iload_n 2, 1) := by decide +kernel
theorem dX6_base_10 : decode cX6_base 10 = .ok (.invokevirtual 198, 3) := by decide +kernel
theorem dX6_base_13 : decode cX6_base 13 = .ok (.ifCond .eq 14, 3) := by decide +kernel
theorem dX6_base_16 : decode cX6_base 16 = .ok (.aload_n 0, 1) := by decide +kernel
theorem dX6_base_17 : decode cX6_base 17 = .ok (.getfield 12, 3) := by decide +kernel
theorem dX6_base_20 : decode cX6_base 20 = .ok (.iload_n 3, 1) := by decide +kernel
theorem dX6_base_21 : decode cX6_base 21 = .ok (.invokevirtual 71, 3) := by decide +kernel
theorem dX6_base_24 : decode cX6_base 24 = .ok (.ifCond .ne 7, 3) := by decide +kernel
theorem dX6_base_27 : decode cX6_base 27 = .ok (.ldc2_w 184, 3) := by decide +kernel
theorem dX6_base_30 : decode cX6_base 30 = .ok (.lreturn, 1) := by decide +kernel
theorem dX6_base_31 : decode cX6_base 31 = .ok (.aload_n 0, 1) := by decide +kernel
theorem dX6_base_32 : decode cX6_base 32 = .ok (.iload_n 2, 1) := by decide +kernel
theorem dX6_base_33 : decode cX6_base 33 = .ok (.invokevirtual 201, 3) := by decide +kernel
theorem dX6_base_36 : decode cX6_base 36 = .ok (.iconst 0, 1) := by decide +kernel
theorem dX6_base_37 : decode cX6_base 37 = .ok (.istore 4, 2) := by decide +kernel
theorem dX6_base_39 : decode cX6_base 39 = .ok (.iconst 0, 1) := by decide +kernel
theorem dX6_base_40 : decode cX6_base 40 = .ok (.istore 5, 2) := by decide +kernel
theorem dX6_base_42 : decode cX6_base 42 = .ok (.iload 5, 2) := by decide +kernel
theorem dX6_base_44 : decode cX6_base 44 = .ok (.aload_n 0, 1) := by decide +kernel
theorem dX6_base_45 : decode cX6_base 45 = .ok (.getfield 12, 3) := by decide +kernel
theorem dX6_base_48 : decode cX6_base 48 = .ok (.getfield 63, 3) := by decide +kernel
theorem dX6_base_51 : decode cX6_base 51 = .ok (.if_icmp .ge 34, 3) := by decide +kernel
theorem dX6_base_54 : decode cX6_base 54 = .ok (.aload_n 0, 1) := by decide +kernel
theorem dX6_base_55 : decode cX6_base 55 = .ok (.getfield 60, 3) := by decide +kernel
theorem dX6_base_58 : decode cX6_base 58 = .ok (.iload 5, 2) := by decide +kernel
theorem dX6_base_60 : decode cX6_base 60 = .ok (.iaload, 1) := by decide +kernel
theorem dX6_base_61 : decode cX6_base 61 = .ok (.iload_n 3, 1) := by decide +kernel
theorem dX6_base_62 : decode cX6_base 62 = .ok (.if_icmp .eq 23, 3) := by decide +kernel
theorem dX6_base_65 : decode cX6_base 65 = .ok (.iload 4, 2) := by decide +kernel
theorem dX6_base_67 : decode cX6_base 67 = .ok (.iconst 1, 1) := by decide +kernel
theorem dX6_base_68 : decode cX6_base 68 = .ok (.aload_n 0, 1) := by decide +kernel
theorem dX6_base_69 : decode cX6_base 69 = .ok (.getfield 60, 3) := by decide +kernel
theorem dX6_base_72 : decode cX6_base 72 = .ok (.iload 5, 2) := by decide +kernel
theorem dX6_base_74 : decode cX6_base 74 = .ok (.iaload, 1) := by decide +kernel
theorem dX6_base_75 : decode cX6_base 75 = .ok (.ishl, 1) := by decide +kernel
theorem dX6_base_76 : decode cX6_base 76 = .ok (.ior, 1) := by decide +kernel
theorem dX6_base_77 : decode cX6_base 77 = .ok (.istore 4, 2) := by decide +kernel
theorem dX6_base_79 : decode cX6_base 79 = .ok (.iinc 5 1, 3) := by decide +kernel
theorem dX6_base_82 : decode cX6_base 82 = .ok (.goto (-40), 3) := by decide +kernel
theorem dX6_base_85 : decode cX6_base 85 = .ok (.aload_n 0, 1) := by decide +kernel
theorem dX6_base_86 : decode cX6_base 86 = .ok (.getfield 12, 3) := by decide +kernel
theorem dX6_base_89 : decode cX6_base 89 = .ok (.getfield 107, 3) := by decide +kernel
theorem dX6_base_92 : decode cX6_base 92 = .ok (.iload_n 1, 1) := by decide +kernel
theorem dX6_base_93 : decode cX6_base 93 = .ok (.aaload, 1) := by decide +kernel
theorem dX6_base_94 : decode cX6_base 94 = .ok (.iload 4, 2) := by decide +kernel
theorem dX6_base_96 : decode cX6_base 96 = .ok (.iload_n 3, 1) := by decide +kernel
theorem dX6_base_97 : decode cX6_base 97 = .ok (.invokevirtual 186, 3) := by decide +kernel
theorem dX6_base_100 : decode cX6_base 100 = .ok (.i2l, 1) := by decide +kernel
theorem dX6_base_101 : decode cX6_base 101 = .ok (.lreturn, 1) := by decide +kernel
theorem dX6_negative_0 : decode cX6_negative 0 = .ok (.aload_n 0, 1) := by decide +kernel
theorem dX6_negative_1 : decode cX6_negative 1 = .ok (.iload_n 1, 1) := by decide +kernel
theorem dX6_negative_2 : decode cX6_negative 2 = .ok (.invokevirtual 154, 3) := by decide +kernel
theorem dX6_negative_5 : decode cX6_negative 5 = .ok (.ifCond .ne 11, 3) := by decide +kernel
theorem dX6_negative_8 : decode cX6_negative 8 = .ok (.aload_n 0, 1) := by decide +kernel
theorem dX6_negative_9 : decode cX6_negative 9 = .ok (.iload_n 2, 1) := by decide +kernel
theorem dX6_negative_10 : decode cX6_negative 10 = .ok (.invokevirtual 198, 3) := by decide +kernel
theorem dX6_negative_13 : decode cX6_negative 13 = .ok (.ifCond .ne 7, 3) := by decide +kernel
theorem dX6_negative_16 : decode cX6_negative 16 = .ok (.ldc2_w 184, 3) := by decide +kernel
theorem dX6_negative_19 : decode cX6_negative 19 = .ok (.lreturn, 1) := by decide +kernel
theorem dX6_negative_20 : decode cX6_negative 20 = .ok (.aload_n 0, 1) := by decide +kernel
theorem dX6_negative_21 : decode cX6_negative 21 = .ok (.iload_n 2, 1) := by decide +kernel
theorem dX6_negative_22 : decode cX6_negative 22 = .ok (.invokevirtual 201, 3) := by decide +kernel
theorem dX6_negative_25 : decode cX6_negative 25 = .ok (.iconst 0, 1) := by decide +kernel
theorem dX6_negative_26 : decode cX6_negative 26 = .ok (.istore_n 3, 1) := by decide +kernel
theorem dX6_negative_27 : decode cX6_negative 27 = .ok (.lconst 0, 1) := by decide +kernel
theorem dX6_negative_28 : decode cX6_negative 28 = .ok (.lstore 4, 2) := by decide +kernel
theorem dX6_negative_30 : decode cX6_negative 30 = .ok (.iconst 0, 1) := by decide +kernel
theorem dX6_negative_31 : decode cX6_negative 31 = .ok (.istore 6, 2) := by decide +kernel
theorem dX6_negative_33 : decode cX6_negative 33 = .ok (.iload 6, 2) := by decide +kernel
theorem dX6_negative_35 : decode cX6_negative 35 = .ok (.aload_n 0, 1) := by decide +kernel
theorem dX6_negative_36 : decode cX6_negative 36 = .ok (.getfield 12, 3) := by decide +kernel
theorem dX6_negative_39 : decode cX6_negative 39 = .ok (.getfield 63, 3) := by decide +kernel
theorem dX6_negative_42 : decode cX6_negative 42 = .ok (.if_icmp .ge 51, 3) := by decide +kernel
theorem dX6_negative_45 : decode cX6_negative 45 = .ok (.lload 4, 2) := by decide +kernel
theorem dX6_negative_47 : decode cX6_negative 47 = .ok (.iconst 0, 1) := by decide +kernel
theorem dX6_negative_48 : decode cX6_negative 48 = .ok (.aload_n 0, 1) := by decide +kernel
theorem dX6_negative_49 : decode cX6_negative 49 = .ok (.getfield 12, 3) := by decide +kernel
theorem dX6_negative_52 : decode cX6_negative 52 = .ok (.getfield 107, 3) := by decide +kernel
theorem dX6_negative_55 : decode cX6_negative 55 = .ok (.iload_n 1, 1) := by decide +kernel
theorem dX6_negative_56 : decode cX6_negative 56 = .ok (.aaload, 1) := by decide +kernel
theorem dX6_negative_57 : decode cX6_negative 57 = .ok (.iload_n 3, 1) := by decide +kernel
theorem dX6_negative_58 : decode cX6_negative 58 = .ok (.aload_n 0, 1) := by decide +kernel
theorem dX6_negative_59 : decode cX6_negative 59 = .ok (.getfield 60, 3) := by decide +kernel
theorem dX6_negative_62 : decode cX6_negative 62 = .ok (.iload 6, 2) := by decide +kernel
theorem dX6_negative_64 : decode cX6_negative 64 = .ok (.iaload, 1) := by decide +kernel
theorem dX6_negative_65 : decode cX6_negative 65 = .ok (.invokevirtual 186, 3) := by decide +kernel
theorem dX6_negative_68 : decode cX6_negative 68 = .ok (.invokestatic 149, 3) := by decide +kernel
theorem dX6_negative_71 : decode cX6_negative 71 = .ok (.i2l, 1) := by decide +kernel
theorem dX6_negative_72 : decode cX6_negative 72 = .ok (.ladd, 1) := by decide +kernel
theorem dX6_negative_73 : decode cX6_negative 73 = .ok (.lstore 4, 2) := by decide +kernel
theorem dX6_negative_75 : decode cX6_negative 75 = .ok (.iload_n 3, 1) := by decide +kernel
theorem dX6_negative_76 : decode cX6_negative 76 = .ok (.iconst 1, 1) := by decide +kernel
theorem dX6_negative_77 : decode cX6_negative 77 = .ok (.aload_n 0, 1) := by decide +kernel
theorem dX6_negative_78 : decode cX6_negative 78 = .ok (.getfield 60, 3) := by decide +kernel
theorem dX6_negative_81 : decode cX6_negative 81 = .ok (.iload 6, 2) := by decide +kernel
theorem dX6_negative_83 : decode cX6_negative 83 = .ok (.iaload, 1) := by decide +kernel
theorem dX6_negative_84 : decode cX6_negative 84 = .ok (.ishl, 1) := by decide +kernel
theorem dX6_negative_85 : decode cX6_negative 85 = .ok (.ior, 1) := by decide +kernel
theorem dX6_negative_86 : decode cX6_negative 86 = .ok (.istore_n 3, 1) := by decide +kernel
theorem dX6_negative_87 : decode cX6_negative 87 = .ok (.iinc 6 1, 3) := by decide +kernel
theorem dX6_negative_90 : decode cX6_negative 90 = .ok (.goto (-57), 3) := by decide +kernel
theorem dX6_negative_93 : decode cX6_negative 93 = .ok (.lload 4, 2) := by decide +kernel
theorem dX6_negative_95 : decode cX6_negative 95 = .ok (.lreturn, 1) := by decide +kernel
theorem dX6_based_0 : decode cX6_based 0 = .ok (.aload_n 0, 1) := by decide +kernel
theorem dX6_based_1 : decode cX6_based 1 = .ok (.iload_n 1, 1) := by decide +kernel
theorem dX6_based_2 : decode cX6_based 2 = .ok (.iload_n 2, 1) := by decide +kernel
theorem dX6_based_3 : decode cX6_based 3 = .ok (.invokevirtual 204, 3) := by decide +kernel
theorem dX6_based_6 : decode cX6_based 6 = .ok (.istore_n 3, 1) := by decide +kernel
theorem dX6_based_7 : decode cX6_based 7 = .ok (.iload_n 3, 1) := by decide +kernel
theorem dX6_based_8 : decode cX6_based 8 = .ok (.ifCond .eq 5, 3) := by decide +kernel
theorem dX6_based_11 : decode cX6_based 11 = .ok (.iload_n 3, 1) := by decide +kernel
theorem dX6_based_12 : decode cX6_based 12 = .ok (.ireturn, 1) := by decide +kernel
theorem dX6_based_13 : decode cX6_based 13 = .ok (.aload_n 0, 1) := by decide +kernel
theorem dX6_based_14 : decode cX6_based 14 = .ok (.getfield 12, 3) := by decide +kernel
theorem dX6_based_17 : decode cX6_based 17 = .ok (.getfield 107, 3) := by decide +kernel
theorem dX6_based_20 : decode cX6_based 20 = .ok (.iload_n 1, 1) := by decide +kernel
theorem dX6_based_21 : decode cX6_based 21 = .ok (.aaload, 1) := by decide +kernel
theorem dX6_based_22 : decode cX6_based 22 = .ok (.getfield 111, 3) := by decide +kernel
theorem dX6_based_25 : decode cX6_based 25 = .ok (.astore 4, 2) := by decide +kernel
theorem dX6_based_27 : decode cX6_based 27 = .ok (.aload_n 0, 1) := by decide +kernel
theorem dX6_based_28 : decode cX6_based 28 = .ok (.getfield 12, 3) := by decide +kernel
theorem dX6_based_31 : decode cX6_based 31 = .ok (.aload_n 0, 1) := by decide +kernel
theorem dX6_based_32 : decode cX6_based 32 = .ok (.getfield 12, 3) := by decide +kernel
theorem dX6_based_35 : decode cX6_based 35 = .ok (.invokevirtual 119, 3) := by decide +kernel
theorem dX6_based_38 : decode cX6_based 38 = .ok (.invokevirtual 142, 3) := by decide +kernel
theorem dX6_based_41 : decode cX6_based 41 = .ok (.aload 4, 2) := by decide +kernel
theorem dX6_based_43 : decode cX6_based 43 = .ok (.aload_n 0, 1) := by decide +kernel
theorem dX6_based_44 : decode cX6_based 44 = .ok (.getfield 12, 3) := by decide +kernel
theorem dX6_based_47 : decode cX6_based 47 = .ok (.invokevirtual 119, 3) := by decide +kernel
theorem dX6_based_50 : decode cX6_based 50 = .ok (.iaload, 1) := by decide +kernel
theorem dX6_based_51 : decode cX6_based 51 = .ok (.aload 4, 2) := by decide +kernel
theorem dX6_based_53 : decode cX6_based 53 = .ok (.iconst 0, 1) := by decide +kernel
theorem dX6_based_54 : decode cX6_based 54 = .ok (.iaload, 1) := by decide +kernel
theorem dX6_based_55 : decode cX6_based 55 = .ok (.isub, 1) := by decide +kernel
theorem dX6_based_56 : decode cX6_based 56 = .ok (.if_icmp .ne 7, 3) := by decide +kernel
theorem dX6_based_59 : decode cX6_based 59 = .ok (.iconst 1, 1) := by decide +kernel
theorem dX6_based_60 : decode cX6_based 60 = .ok (.goto 4, 3) := by decide +kernel
theorem dX6_based_63 : decode cX6_based 63 = .ok (.iconst 0, 1) := by decide +kernel
theorem dX6_based_64 : decode cX6_based 64 = .ok (.istore 5, 2) := by decide +kernel
theorem dX6_based_66 : decode cX6_based 66 = .ok (.iconst 0, 1) := by decide +kernel
theorem dX6_based_67 : decode cX6_based 67 = .ok (.istore 6, 2) := by decide +kernel
theorem dX6_based_69 : decode cX6_based 69 = .ok (.aload_n 0, 1) := by decide +kernel
theorem dX6_based_70 : decode cX6_based 70 = .ok (.getfield 12, 3) := by decide +kernel
theorem dX6_based_73 : decode cX6_based 73 = .ok (.invokevirtual 119, 3) := by decide +kernel
theorem dX6_based_76 : decode cX6_based 76 = .ok (.istore 7, 2) := by decide +kernel
theorem dX6_based_78 : decode cX6_based 78 = .ok (.iconst 0, 1) := by decide +kernel
theorem dX6_based_79 : decode cX6_based 79 = .ok (.istore 8, 2) := by decide +kernel
theorem dX6_based_81 : decode cX6_based 81 = .ok (.iconst 0, 1) := by decide +kernel
theorem dX6_based_82 : decode cX6_based 82 = .ok (.istore 9, 2) := by decide +kernel
theorem dX6_based_84 : decode cX6_based 84 = .ok (.iload 9, 2) := by decide +kernel
theorem dX6_based_86 : decode cX6_based 86 = .ok (.aload_n 0, 1) := by decide +kernel
theorem dX6_based_87 : decode cX6_based 87 = .ok (.getfield 12, 3) := by decide +kernel
theorem dX6_based_90 : decode cX6_based 90 = .ok (.invokevirtual 131, 3) := by decide +kernel
theorem dX6_based_93 : decode cX6_based 93 = .ok (.if_icmp .ge 76, 3) := by decide +kernel
theorem dX6_based_96 : decode cX6_based 96 = .ok (.aload 4, 2) := by decide +kernel
theorem dX6_based_98 : decode cX6_based 98 = .ok (.iload 9, 2) := by decide +kernel
theorem dX6_based_100 : decode cX6_based 100 = .ok (.iaload, 1) := by decide +kernel
theorem dX6_based_101 : decode cX6_based 101 = .ok (.aload 4, 2) := by decide +kernel
theorem dX6_based_103 : decode cX6_based 103 = .ok (.iconst 0, 1) := by decide +kernel
theorem dX6_based_104 : decode cX6_based 104 = .ok (.iaload, 1) := by decide +kernel
theorem dX6_based_105 : decode cX6_based 105 = .ok (.isub, 1) := by decide +kernel
theorem dX6_based_106 : decode cX6_based 106 = .ok (.aload_n 0, 1) := by decide +kernel
theorem dX6_based_107 : decode cX6_based 107 = .ok (.getfield 12, 3) := by decide +kernel
theorem dX6_based_110 : decode cX6_based 110 = .ok (.iload 9, 2) := by decide +kernel
theorem dX6_based_112 : decode cX6_based 112 = .ok (.invokevirtual 142, 3) := by decide +kernel
theorem dX6_based_115 : decode cX6_based 115 = .ok (.isub, 1) := by decide +kernel
theorem dX6_based_116 : decode cX6_based 116 = .ok (.istore 10, 2) := by decide +kernel
theorem dX6_based_118 : decode cX6_based 118 = .ok (.iload 10, 2) := by decide +kernel
theorem dX6_based_120 : decode cX6_based 120 = .ok (.ifCond .ge 6, 3) := by decide +kernel
theorem dX6_based_123 : decode cX6_based 123 = .ok (.iconst 0, 1) := by decide +kernel
theorem dX6_based_124 : decode cX6_based 124 = .ok (.istore 5, 2) := by decide +kernel
theorem dX6_based_126 : decode cX6_based 126 = .ok (.iload 10, 2) := by decide +kernel
theorem dX6_based_128 : decode cX6_based 128 = .ok (.ifCond .ne 35, 3) := by decide +kernel
theorem dX6_based_131 : decode cX6_based 131 = .ok (.iinc 6 1, 3) := by decide +kernel
theorem dX6_based_134 : decode cX6_based 134 = .ok (.iload 8, 2) := by decide +kernel
theorem dX6_based_136 : decode cX6_based 136 = .ok (.iload 9, 2) := by decide +kernel
theorem dX6_based_138 : decode cX6_based 138 = .ok (.ior, 1) := by decide +kernel
theorem dX6_based_139 : decode cX6_based 139 = .ok (.istore 8, 2) := by decide +kernel
theorem dX6_based_141 : decode cX6_based 141 = .ok (.iload 7, 2) := by decide +kernel
theorem dX6_based_143 : decode cX6_based 143 = .ok (.iload 9, 2) := by decide +kernel
theorem dX6_based_145 : decode cX6_based 145 = .ok (.ifCond .ne 13, 3) := by decide +kernel
theorem dX6_based_148 : decode cX6_based 148 = .ok (.aload_n 0, 1) := by decide +kernel
theorem dX6_based_149 : decode cX6_based 149 = .ok (.getfield 12, 3) := by decide +kernel
theorem dX6_based_152 : decode cX6_based 152 = .ok (.invokevirtual 119, 3) := by decide +kernel
theorem dX6_based_155 : decode cX6_based 155 = .ok (.goto 5, 3) := by decide +kernel
theorem dX6_based_158 : decode cX6_based 158 = .ok (.iload 9, 2) := by decide +kernel
theorem dX6_based_160 : decode cX6_based 160 = .ok (.iand, 1) := by decide +kernel
theorem dX6_based_161 : decode cX6_based 161 = .ok (.istore 7, 2) := by decide +kernel
theorem dX6_based_163 : decode cX6_based 163 = .ok (.iinc 9 1, 3) := by decide +kernel
theorem dX6_based_166 : decode cX6_based 166 = .ok (.goto (-82), 3) := by decide +kernel
theorem dX6_based_169 : decode cX6_based 169 = .ok (.iload_n 2, 1) := by decide +kernel
theorem dX6_based_170 : decode cX6_based 170 = .ok (.tableswitch 38 0 2 #[26, 32, 35], 26) := by decide +kernel
theorem dX6_based_196 : decode cX6_based 196 = .ok (.iload 5, 2) := by decide +kernel
theorem dX6_based_198 : decode cX6_based 198 = .ok (.invokestatic 163, 3) := by decide +kernel
theorem dX6_based_201 : decode cX6_based 201 = .ok (.ireturn, 1) := by decide +kernel
theorem dX6_based_202 : decode cX6_based 202 = .ok (.iload 6, 2) := by decide +kernel
theorem dX6_based_204 : decode cX6_based 204 = .ok (.ireturn, 1) := by decide +kernel
theorem dX6_based_205 : decode cX6_based 205 = .ok (.iload 7, 2) := by decide +kernel
theorem dX6_based_207 : decode cX6_based 207 = .ok (.ireturn, 1) := by decide +kernel
theorem dX6_based_208 : decode cX6_based 208 = .ok (.iload 8, 2) := by decide +kernel
theorem dX6_based_210 : decode cX6_based 210 = .ok (.ireturn, 1) := by decide +kernel
theorem dX6_least_0 : decode cX6_least 0 = .ok (.aload_n 0, 1) := by decide +kernel
theorem dX6_least_1 : decode cX6_least 1 = .ok (.iload_n 1, 1) := by decide +kernel
theorem dX6_least_2 : decode cX6_least 2 = .ok (.invokevirtual 154, 3) := by decide +kernel
theorem dX6_least_5 : decode cX6_least 5 = .ok (.ifCond .eq 7, 3) := by decide +kernel
theorem dX6_least_8 : decode cX6_least 8 = .ok (.ldc2_w 184, 3) := by decide +kernel
theorem dX6_least_11 : decode cX6_least 11 = .ok (.lreturn, 1) := by decide +kernel
theorem dX6_least_12 : decode cX6_least 12 = .ok (.aload_n 0, 1) := by decide +kernel
theorem dX6_least_13 : decode cX6_least 13 = .ok (.getfield 12, 3) := by decide +kernel
theorem dX6_least_16 : decode cX6_least 16 = .ok (.getfield 107, 3) := by decide +kernel
theorem dX6_least_19 : decode cX6_least 19 = .ok (.iload_n 1, 1) := by decide +kernel
theorem dX6_least_20 : decode cX6_least 20 = .ok (.aaload, 1) := by decide +kernel
theorem dX6_least_21 : decode cX6_least 21 = .ok (.aload_n 0, 1) := by decide +kernel
theorem dX6_least_22 : decode cX6_least 22 = .ok (.getfield 12, 3) := by decide +kernel
theorem dX6_least_25 : decode cX6_least 25 = .ok (.getfield 63, 3) := by decide +kernel
theorem dX6_least_28 : decode cX6_least 28 = .ok (.invokevirtual 207, 3) := by decide +kernel
theorem dX6_least_31 : decode cX6_least 31 = .ok (.i2l, 1) := by decide +kernel
theorem dX6_least_32 : decode cX6_least 32 = .ok (.lreturn, 1) := by decide +kernel
theorem dX6_leastSets_0 : decode cX6_leastSets 0 = .ok (.aload_n 0, 1) := by decide +kernel
theorem dX6_leastSets_1 : decode cX6_leastSets 1 = .ok (.iload_n 1, 1) := by decide +kernel
theorem dX6_leastSets_2 : decode cX6_leastSets 2 = .ok (.iload_n 2, 1) := by decide +kernel
theorem dX6_leastSets_3 : decode cX6_leastSets 3 = .ok (.invokevirtual 204, 3) := by decide +kernel
theorem dX6_leastSets_6 : decode cX6_leastSets 6 = .ok (.istore_n 3, 1) := by decide +kernel
theorem dX6_leastSets_7 : decode cX6_leastSets 7 = .ok (.iload_n 3, 1) := by decide +kernel
theorem dX6_leastSets_8 : decode cX6_leastSets 8 = .ok (.ifCond .eq 5, 3) := by decide +kernel
theorem dX6_leastSets_11 : decode cX6_leastSets 11 = .ok (.iload_n 3, 1) := by decide +kernel
theorem dX6_leastSets_12 : decode cX6_leastSets 12 = .ok (.ireturn, 1) := by decide +kernel
theorem dX6_leastSets_13 : decode cX6_leastSets 13 = .ok (.aload_n 0, 1) := by decide +kernel
theorem dX6_leastSets_14 : decode cX6_leastSets 14 = .ok (.getfield 12, 3) := by decide +kernel
theorem dX6_leastSets_17 : decode cX6_leastSets 17 = .ok (.getfield 107, 3) := by decide +kernel
theorem dX6_leastSets_20 : decode cX6_leastSets 20 = .ok (.iload_n 1, 1) := by decide +kernel
theorem dX6_leastSets_21 : decode cX6_leastSets 21 = .ok (.aaload, 1) := by decide +kernel
theorem dX6_leastSets_22 : decode cX6_leastSets 22 = .ok (.astore 4, 2) := by decide +kernel
theorem dX6_leastSets_24 : decode cX6_leastSets 24 = .ok (.iload_n 2, 1) := by decide +kernel
theorem dX6_leastSets_25 : decode cX6_leastSets 25 = .ok (.iconst 3, 1) := by decide +kernel
theorem dX6_leastSets_26 : decode cX6_leastSets 26 = .ok (.if_icmp .ne 19, 3) := by decide +kernel
theorem dX6_leastSets_29 : decode cX6_leastSets 29 = .ok (.aload 4, 2) := by decide +kernel
theorem dX6_leastSets_31 : decode cX6_leastSets 31 = .ok (.aload_n 0, 1) := by decide +kernel
theorem dX6_leastSets_32 : decode cX6_leastSets 32 = .ok (.getfield 12, 3) := by decide +kernel
theorem dX6_leastSets_35 : decode cX6_leastSets 35 = .ok (.getfield 63, 3) := by decide +kernel
theorem dX6_leastSets_38 : decode cX6_leastSets 38 = .ok (.invokevirtual 210, 3) := by decide +kernel
theorem dX6_leastSets_41 : decode cX6_leastSets 41 = .ok (.invokestatic 163, 3) := by decide +kernel
theorem dX6_leastSets_44 : decode cX6_leastSets 44 = .ok (.ireturn, 1) := by decide +kernel
theorem dX6_leastSets_45 : decode cX6_leastSets 45 = .ok (.aload 4, 2) := by decide +kernel
theorem dX6_leastSets_47 : decode cX6_leastSets 47 = .ok (.aload_n 0, 1) := by decide +kernel
theorem dX6_leastSets_48 : decode cX6_leastSets 48 = .ok (.getfield 12, 3) := by decide +kernel
theorem dX6_leastSets_51 : decode cX6_leastSets 51 = .ok (.getfield 63, 3) := by decide +kernel
theorem dX6_leastSets_54 : decode cX6_leastSets 54 = .ok (.invokevirtual 207, 3) := by decide +kernel
theorem dX6_leastSets_57 : decode cX6_leastSets 57 = .ok (.istore 5, 2) := by decide +kernel
theorem dX6_leastSets_59 : decode cX6_leastSets 59 = .ok (.iconst 0, 1) := by decide +kernel
theorem dX6_leastSets_60 : decode cX6_leastSets 60 = .ok (.istore 6, 2) := by decide +kernel
theorem dX6_leastSets_62 : decode cX6_leastSets 62 = .ok (.aload_n 0, 1) := by decide +kernel
theorem dX6_leastSets_63 : decode cX6_leastSets 63 = .ok (.getfield 12, 3) := by decide +kernel
theorem dX6_leastSets_66 : decode cX6_leastSets 66 = .ok (.invokevirtual 119, 3) := by decide +kernel
theorem dX6_leastSets_69 : decode cX6_leastSets 69 = .ok (.istore 7, 2) := by decide +kernel
theorem dX6_leastSets_71 : decode cX6_leastSets 71 = .ok (.iconst 0, 1) := by decide +kernel
theorem dX6_leastSets_72 : decode cX6_leastSets 72 = .ok (.istore 8, 2) := by decide +kernel
theorem dX6_leastSets_74 : decode cX6_leastSets 74 = .ok (.iconst 0, 1) := by decide +kernel
theorem dX6_leastSets_75 : decode cX6_leastSets 75 = .ok (.istore 9, 2) := by decide +kernel
theorem dX6_leastSets_77 : decode cX6_leastSets 77 = .ok (.iload 9, 2) := by decide +kernel
theorem dX6_leastSets_79 : decode cX6_leastSets 79 = .ok (.aload_n 0, 1) := by decide +kernel
theorem dX6_leastSets_80 : decode cX6_leastSets 80 = .ok (.getfield 12, 3) := by decide +kernel
theorem dX6_leastSets_83 : decode cX6_leastSets 83 = .ok (.invokevirtual 131, 3) := by decide +kernel
theorem dX6_leastSets_86 : decode cX6_leastSets 86 = .ok (.if_icmp .ge 39, 3) := by decide +kernel
theorem dX6_leastSets_89 : decode cX6_leastSets 89 = .ok (.aload 4, 2) := by decide +kernel
theorem dX6_leastSets_91 : decode cX6_leastSets 91 = .ok (.getfield 111, 3) := by decide +kernel
theorem dX6_leastSets_94 : decode cX6_leastSets 94 = .ok (.iload 9, 2) := by decide +kernel
theorem dX6_leastSets_96 : decode cX6_leastSets 96 = .ok (.iaload, 1) := by decide +kernel
theorem dX6_leastSets_97 : decode cX6_leastSets 97 = .ok (.iload 5, 2) := by decide +kernel
theorem dX6_leastSets_99 : decode cX6_leastSets 99 = .ok (.if_icmp .ne 20, 3) := by decide +kernel
theorem dX6_leastSets_102 : decode cX6_leastSets 102 = .ok (.iinc 6 1, 3) := by decide +kernel
theorem dX6_leastSets_105 : decode cX6_leastSets 105 = .ok (.iload 7, 2) := by decide +kernel
theorem dX6_leastSets_107 : decode cX6_leastSets 107 = .ok (.iload 9, 2) := by decide +kernel
theorem dX6_leastSets_109 : decode cX6_leastSets 109 = .ok (.iand, 1) := by decide +kernel
theorem dX6_leastSets_110 : decode cX6_leastSets 110 = .ok (.istore 7, 2) := by decide +kernel
theorem dX6_leastSets_112 : decode cX6_leastSets 112 = .ok (.iload 8, 2) := by decide +kernel
theorem dX6_leastSets_114 : decode cX6_leastSets 114 = .ok (.iload 9, 2) := by decide +kernel
theorem dX6_leastSets_116 : decode cX6_leastSets 116 = .ok (.ior, 1) := by decide +kernel
theorem dX6_leastSets_117 : decode cX6_leastSets 117 = .ok (.istore 8, 2) := by decide +kernel
theorem dX6_leastSets_119 : decode cX6_leastSets 119 = .ok (.iinc 9 1, 3) := by decide +kernel
theorem dX6_leastSets_122 : decode cX6_leastSets 122 = .ok (.goto (-45), 3) := by decide +kernel
theorem dX6_leastSets_125 : decode cX6_leastSets 125 = .ok (.iload_n 2, 1) := by decide +kernel
theorem dX6_leastSets_126 : decode cX6_leastSets 126 = .ok (.lookupswitch 32 #[(0, 26), (1, 29)], 26) := by decide +kernel
theorem dX6_leastSets_152 : decode cX6_leastSets 152 = .ok (.iload 6, 2) := by decide +kernel
theorem dX6_leastSets_154 : decode cX6_leastSets 154 = .ok (.ireturn, 1) := by decide +kernel
theorem dX6_leastSets_155 : decode cX6_leastSets 155 = .ok (.iload 7, 2) := by decide +kernel
theorem dX6_leastSets_157 : decode cX6_leastSets 157 = .ok (.ireturn, 1) := by decide +kernel
theorem dX6_leastSets_158 : decode cX6_leastSets 158 = .ok (.iload 8, 2) := by decide +kernel
theorem dX6_leastSets_160 : decode cX6_leastSets 160 = .ok (.ireturn, 1) := by decide +kernel
theorem dX6_ring_0 : decode cX6_ring 0 = .ok (.iload_n 1, 1) := by decide +kernel
theorem dX6_ring_1 : decode cX6_ring 1 = .ok (.invokestatic 101, 3) := by decide +kernel
theorem dX6_ring_4 : decode cX6_ring 4 = .ok (.ifCond .eq 14, 3) := by decide +kernel
theorem dX6_ring_7 : decode cX6_ring 7 = .ok (.aload_n 0, 1) := by decide +kernel
theorem dX6_ring_8 : decode cX6_ring 8 = .ok (.getfield 12, 3) := by decide +kernel
theorem dX6_ring_11 : decode cX6_ring 11 = .ok (.iload_n 2, 1) := by decide +kernel
theorem dX6_ring_12 : decode cX6_ring 12 = .ok (.invokevirtual 71, 3) := by decide +kernel
theorem dX6_ring_15 : decode cX6_ring 15 = .ok (.ifCond .ne 5, 3) := by decide +kernel
theorem dX6_ring_18 : decode cX6_ring 18 = .ok (.iconst (-1), 1) := by decide +kernel
theorem dX6_ring_19 : decode cX6_ring 19 = .ok (.ireturn, 1) := by decide +kernel
theorem dX6_ring_20 : decode cX6_ring 20 = .ok (.aload_n 0, 1) := by decide +kernel
theorem dX6_ring_21 : decode cX6_ring 21 = .ok (.getfield 12, 3) := by decide +kernel
theorem dX6_ring_24 : decode cX6_ring 24 = .ok (.getfield 107, 3) := by decide +kernel
theorem dX6_ring_27 : decode cX6_ring 27 = .ok (.iload_n 1, 1) := by decide +kernel
theorem dX6_ring_28 : decode cX6_ring 28 = .ok (.aaload, 1) := by decide +kernel
theorem dX6_ring_29 : decode cX6_ring 29 = .ok (.astore_n 3, 1) := by decide +kernel
theorem dX6_ring_30 : decode cX6_ring 30 = .ok (.aload_n 3, 1) := by decide +kernel
theorem dX6_ring_31 : decode cX6_ring 31 = .ok (.invokevirtual 127, 3) := by decide +kernel
theorem dX6_ring_34 : decode cX6_ring 34 = .ok (.ifCond .eq 6, 3) := by decide +kernel
theorem dX6_ring_37 : decode cX6_ring 37 = .ok (.bipush (-11), 2) := by decide +kernel
theorem dX6_ring_39 : decode cX6_ring 39 = .ok (.ireturn, 1) := by decide +kernel
theorem dX6_ring_40 : decode cX6_ring 40 = .ok (.aload_n 3, 1) := by decide +kernel
theorem dX6_ring_41 : decode cX6_ring 41 = .ok (.aload_n 0, 1) := by decide +kernel
theorem dX6_ring_42 : decode cX6_ring 42 = .ok (.getfield 12, 3) := by decide +kernel
theorem dX6_ring_45 : decode cX6_ring 45 = .ok (.getfield 63, 3) := by decide +kernel
theorem dX6_ring_48 : decode cX6_ring 48 = .ok (.invokevirtual 207, 3) := by decide +kernel
theorem dX6_ring_51 : decode cX6_ring 51 = .ok (.istore 4, 2) := by decide +kernel
theorem dX6_ring_53 : decode cX6_ring 53 = .ok (.aload_n 0, 1) := by decide +kernel
theorem dX6_ring_54 : decode cX6_ring 54 = .ok (.getfield 12, 3) := by decide +kernel
theorem dX6_ring_57 : decode cX6_ring 57 = .ok (.invokevirtual 119, 3) := by decide +kernel
theorem dX6_ring_60 : decode cX6_ring 60 = .ok (.istore 5, 2) := by decide +kernel
theorem dX6_ring_62 : decode cX6_ring 62 = .ok (.iconst 0, 1) := by decide +kernel
theorem dX6_ring_63 : decode cX6_ring 63 = .ok (.istore 6, 2) := by decide +kernel
theorem dX6_ring_65 : decode cX6_ring 65 = .ok (.iconst 0, 1) := by decide +kernel
theorem dX6_ring_66 : decode cX6_ring 66 = .ok (.istore 7, 2) := by decide +kernel
theorem dX6_ring_68 : decode cX6_ring 68 = .ok (.iload 7, 2) := by decide +kernel
theorem dX6_ring_70 : decode cX6_ring 70 = .ok (.aload_n 0, 1) := by decide +kernel
theorem dX6_ring_71 : decode cX6_ring 71 = .ok (.getfield 12, 3) := by decide +kernel
theorem dX6_ring_74 : decode cX6_ring 74 = .ok (.invokevirtual 131, 3) := by decide +kernel
theorem dX6_ring_77 : decode cX6_ring 77 = .ok (.if_icmp .ge 40, 3) := by decide +kernel
theorem dX6_ring_80 : decode cX6_ring 80 = .ok (.iload 7, 2) := by decide +kernel
theorem dX6_ring_82 : decode cX6_ring 82 = .ok (.iload_n 2, 1) := by decide +kernel
theorem dX6_ring_83 : decode cX6_ring 83 = .ok (.invokestatic 181, 3) := by decide +kernel
theorem dX6_ring_86 : decode cX6_ring 86 = .ok (.ifCond .eq 25, 3) := by decide +kernel
theorem dX6_ring_89 : decode cX6_ring 89 = .ok (.aload_n 3, 1) := by decide +kernel
theorem dX6_ring_90 : decode cX6_ring 90 = .ok (.getfield 111, 3) := by decide +kernel
theorem dX6_ring_93 : decode cX6_ring 93 = .ok (.iload 7, 2) := by decide +kernel
theorem dX6_ring_95 : decode cX6_ring 95 = .ok (.iaload, 1) := by decide +kernel
theorem dX6_ring_96 : decode cX6_ring 96 = .ok (.iload 4, 2) := by decide +kernel
theorem dX6_ring_98 : decode cX6_ring 98 = .ok (.if_icmp .ne 13, 3) := by decide +kernel
theorem dX6_ring_101 : decode cX6_ring 101 = .ok (.iconst 1, 1) := by decide +kernel
theorem dX6_ring_102 : decode cX6_ring 102 = .ok (.istore 6, 2) := by decide +kernel
theorem dX6_ring_104 : decode cX6_ring 104 = .ok (.iload 5, 2) := by decide +kernel
theorem dX6_ring_106 : decode cX6_ring 106 = .ok (.iload 7, 2) := by decide +kernel
theorem dX6_ring_108 : decode cX6_ring 108 = .ok (.iand, 1) := by decide +kernel
theorem dX6_ring_109 : decode cX6_ring 109 = .ok (.istore 5, 2) := by decide +kernel
theorem dX6_ring_111 : decode cX6_ring 111 = .ok (.iinc 7 1, 3) := by decide +kernel
theorem dX6_ring_114 : decode cX6_ring 114 = .ok (.goto (-46), 3) := by decide +kernel
theorem dX6_ring_117 : decode cX6_ring 117 = .ok (.iload 6, 2) := by decide +kernel
theorem dX6_ring_119 : decode cX6_ring 119 = .ok (.ifCond .eq 8, 3) := by decide +kernel
theorem dX6_ring_122 : decode cX6_ring 122 = .ok (.iload 5, 2) := by decide +kernel
theorem dX6_ring_124 : decode cX6_ring 124 = .ok (.goto 5, 3) := by decide +kernel
theorem dX6_ring_127 : decode cX6_ring 127 = .ok (.bipush (-5), 2) := by decide +kernel
theorem dX6_ring_129 : decode cX6_ring 129 = .ok (.ireturn, 1) := by decide +kernel
theorem dX6_level_0 : decode cX6_level 0 = .ok (.iload_n 1, 1) := by decide +kernel
theorem dX6_level_1 : decode cX6_level 1 = .ok (.invokestatic 101, 3) := by decide +kernel
theorem dX6_level_4 : decode cX6_level 4 = .ok (.ifCond .eq 8, 3) := by decide +kernel
theorem dX6_level_7 : decode cX6_level 7 = .ok (.iload_n 2, 1) := by decide +kernel
theorem dX6_level_8 : decode cX6_level 8 = .ok (.iconst (-1), 1) := by decide +kernel
theorem dX6_level_9 : decode cX6_level 9 = .ok (.if_icmp .ge 5, 3) := by decide +kernel
theorem dX6_level_12 : decode cX6_level 12 = .ok (.iconst (-1), 1) := by decide +kernel
theorem dX6_level_13 : decode cX6_level 13 = .ok (.ireturn, 1) := by decide +kernel
theorem dX6_level_14 : decode cX6_level 14 = .ok (.aload_n 0, 1) := by decide +kernel
theorem dX6_level_15 : decode cX6_level 15 = .ok (.getfield 12, 3) := by decide +kernel
theorem dX6_level_18 : decode cX6_level 18 = .ok (.getfield 107, 3) := by decide +kernel
theorem dX6_level_21 : decode cX6_level 21 = .ok (.iload_n 1, 1) := by decide +kernel
theorem dX6_level_22 : decode cX6_level 22 = .ok (.aaload, 1) := by decide +kernel
theorem dX6_level_23 : decode cX6_level 23 = .ok (.invokevirtual 127, 3) := by decide +kernel
theorem dX6_level_26 : decode cX6_level 26 = .ok (.ifCond .eq 6, 3) := by decide +kernel
theorem dX6_level_29 : decode cX6_level 29 = .ok (.bipush (-11), 2) := by decide +kernel
theorem dX6_level_31 : decode cX6_level 31 = .ok (.ireturn, 1) := by decide +kernel
theorem dX6_level_32 : decode cX6_level 32 = .ok (.aload_n 0, 1) := by decide +kernel
theorem dX6_level_33 : decode cX6_level 33 = .ok (.getfield 49, 3) := by decide +kernel
theorem dX6_level_36 : decode cX6_level 36 = .ok (.aload_n 0, 1) := by decide +kernel
theorem dX6_level_37 : decode cX6_level 37 = .ok (.getfield 12, 3) := by decide +kernel
theorem dX6_level_40 : decode cX6_level 40 = .ok (.getfield 107, 3) := by decide +kernel
theorem dX6_level_43 : decode cX6_level 43 = .ok (.iload_n 1, 1) := by decide +kernel
theorem dX6_level_44 : decode cX6_level 44 = .ok (.aaload, 1) := by decide +kernel
theorem dX6_level_45 : decode cX6_level 45 = .ok (.getfield 111, 3) := by decide +kernel
theorem dX6_level_48 : decode cX6_level 48 = .ok (.aload_n 0, 1) := by decide +kernel
theorem dX6_level_49 : decode cX6_level 49 = .ok (.getfield 12, 3) := by decide +kernel
theorem dX6_level_52 : decode cX6_level 52 = .ok (.getfield 63, 3) := by decide +kernel
theorem dX6_level_55 : decode cX6_level 55 = .ok (.invokevirtual 213, 3) := by decide +kernel
theorem dX6_level_58 : decode cX6_level 58 = .ok (.iload_n 2, 1) := by decide +kernel
theorem dX6_level_59 : decode cX6_level 59 = .ok (.iconst (-1), 1) := by decide +kernel
theorem dX6_level_60 : decode cX6_level 60 = .ok (.if_icmp .ne 11, 3) := by decide +kernel
theorem dX6_level_63 : decode cX6_level 63 = .ok (.aload_n 0, 1) := by decide +kernel
theorem dX6_level_64 : decode cX6_level 64 = .ok (.getfield 49, 3) := by decide +kernel
theorem dX6_level_67 : decode cX6_level 67 = .ok (.getfield 217, 3) := by decide +kernel
theorem dX6_level_70 : decode cX6_level 70 = .ok (.ireturn, 1) := by decide +kernel
theorem dX6_level_71 : decode cX6_level 71 = .ok (.iload_n 2, 1) := by decide +kernel
theorem dX6_level_72 : decode cX6_level 72 = .ok (.aload_n 0, 1) := by decide +kernel
theorem dX6_level_73 : decode cX6_level 73 = .ok (.getfield 49, 3) := by decide +kernel
theorem dX6_level_76 : decode cX6_level 76 = .ok (.getfield 217, 3) := by decide +kernel
theorem dX6_level_79 : decode cX6_level 79 = .ok (.if_icmp .ge 15, 3) := by decide +kernel
theorem dX6_level_82 : decode cX6_level 82 = .ok (.aload_n 0, 1) := by decide +kernel
theorem dX6_level_83 : decode cX6_level 83 = .ok (.getfield 49, 3) := by decide +kernel
theorem dX6_level_86 : decode cX6_level 86 = .ok (.getfield 220, 3) := by decide +kernel
theorem dX6_level_89 : decode cX6_level 89 = .ok (.iload_n 2, 1) := by decide +kernel
theorem dX6_level_90 : decode cX6_level 90 = .ok (.iaload, 1) := by decide +kernel
theorem dX6_level_91 : decode cX6_level 91 = .ok (.goto 5, 3) := by decide +kernel
theorem dX6_level_94 : decode cX6_level 94 = .ok (.bipush (-5), 2) := by decide +kernel
theorem dX6_level_96 : decode cX6_level 96 = .ok (.ireturn, 1) := by decide +kernel
theorem dX6_height_0 : decode cX6_height 0 = .ok (.aload_n 0, 1) := by decide +kernel
theorem dX6_height_1 : decode cX6_height 1 = .ok (.iload_n 1, 1) := by decide +kernel
theorem dX6_height_2 : decode cX6_height 2 = .ok (.invokevirtual 154, 3) := by decide +kernel
theorem dX6_height_5 : decode cX6_height 5 = .ok (.ifCond .ne 12, 3) := by decide +kernel
theorem dX6_height_8 : decode cX6_height 8 = .ok (.iload_n 3, 1) := by decide +kernel
theorem dX6_height_9 : decode cX6_height 9 = .ok (.ifCond .lt 8, 3) := by decide +kernel
theorem dX6_height_12 : decode cX6_height 12 = .ok (.iload_n 3, 1) := by decide +kernel
theorem dX6_height_13 : decode cX6_height 13 = .ok (.iconst 1, 1) := by decide +kernel
theorem dX6_height_14 : decode cX6_height 14 = .ok (.if_icmp .le 7, 3) := by decide +kernel
theorem dX6_height_17 : decode cX6_height 17 = .ok (.ldc2_w 184, 3) := by decide +kernel
theorem dX6_height_20 : decode cX6_height 20 = .ok (.lreturn, 1) := by decide +kernel
theorem dX6_height_21 : decode cX6_height 21 = .ok (.aload_n 0, 1) := by decide +kernel
theorem dX6_height_22 : decode cX6_height 22 = .ok (.getfield 49, 3) := by decide +kernel
theorem dX6_height_25 : decode cX6_height 25 = .ok (.aload_n 0, 1) := by decide +kernel
theorem dX6_height_26 : decode cX6_height 26 = .ok (.getfield 12, 3) := by decide +kernel
theorem dX6_height_29 : decode cX6_height 29 = .ok (.getfield 107, 3) := by decide +kernel
theorem dX6_height_32 : decode cX6_height 32 = .ok (.iload_n 1, 1) := by decide +kernel
theorem dX6_height_33 : decode cX6_height 33 = .ok (.aaload, 1) := by decide +kernel
theorem dX6_height_34 : decode cX6_height 34 = .ok (.getfield 111, 3) := by decide +kernel
theorem dX6_height_37 : decode cX6_height 37 = .ok (.aload_n 0, 1) := by decide +kernel
theorem dX6_height_38 : decode cX6_height 38 = .ok (.getfield 12, 3) := by decide +kernel
theorem dX6_height_41 : decode cX6_height 41 = .ok (.getfield 63, 3) := by decide +kernel
theorem dX6_height_44 : decode cX6_height 44 = .ok (.invokevirtual 213, 3) := by decide +kernel
theorem dX6_height_47 : decode cX6_height 47 = .ok (.iload_n 2, 1) := by decide +kernel
theorem dX6_height_48 : decode cX6_height 48 = .ok (.ifCond .lt 14, 3) := by decide +kernel
theorem dX6_height_51 : decode cX6_height 51 = .ok (.iload_n 2, 1) := by decide +kernel
theorem dX6_height_52 : decode cX6_height 52 = .ok (.aload_n 0, 1) := by decide +kernel
theorem dX6_height_53 : decode cX6_height 53 = .ok (.getfield 49, 3) := by decide +kernel
theorem dX6_height_56 : decode cX6_height 56 = .ok (.getfield 217, 3) := by decide +kernel
theorem dX6_height_59 : decode cX6_height 59 = .ok (.if_icmp .lt 7, 3) := by decide +kernel
theorem dX6_height_62 : decode cX6_height 62 = .ok (.ldc2_w 184, 3) := by decide +kernel
theorem dX6_height_65 : decode cX6_height 65 = .ok (.lreturn, 1) := by decide +kernel
theorem dX6_height_66 : decode cX6_height 66 = .ok (.aload_n 0, 1) := by decide +kernel
theorem dX6_height_67 : decode cX6_height 67 = .ok (.getfield 49, 3) := by decide +kernel
theorem dX6_height_70 : decode cX6_height 70 = .ok (.iload_n 2, 1) := by decide +kernel
theorem dX6_height_71 : decode cX6_height 71 = .ok (.invokevirtual 222, 3) := by decide +kernel
theorem dX6_height_74 : decode cX6_height 74 = .ok (.istore 4, 2) := by decide +kernel
theorem dX6_height_76 : decode cX6_height 76 = .ok (.iload_n 3, 1) := by decide +kernel
theorem dX6_height_77 : decode cX6_height 77 = .ok (.ifCond .ne 15, 3) := by decide +kernel
theorem dX6_height_80 : decode cX6_height 80 = .ok (.aload_n 0, 1) := by decide +kernel
theorem dX6_height_81 : decode cX6_height 81 = .ok (.getfield 49, 3) := by decide +kernel
theorem dX6_height_84 : decode cX6_height 84 = .ok (.getfield 225, 3) := by decide +kernel
theorem dX6_height_87 : decode cX6_height 87 = .ok (.iload_n 2, 1) := by decide +kernel
theorem dX6_height_88 : decode cX6_height 88 = .ok (.iaload, 1) := by decide +kernel
theorem dX6_height_89 : decode cX6_height 89 = .ok (.goto 12, 3) := by decide +kernel
theorem dX6_height_92 : decode cX6_height 92 = .ok (.aload_n 0, 1) := by decide +kernel
theorem dX6_height_93 : decode cX6_height 93 = .ok (.getfield 49, 3) := by decide +kernel
theorem dX6_height_96 : decode cX6_height 96 = .ok (.getfield 228, 3) := by decide +kernel
theorem dX6_height_99 : decode cX6_height 99 = .ok (.iload_n 2, 1) := by decide +kernel
theorem dX6_height_100 : decode cX6_height 100 = .ok (.iaload, 1) := by decide +kernel
theorem dX6_height_101 : decode cX6_height 101 = .ok (.istore 5, 2) := by decide +kernel
theorem dX6_height_103 : decode cX6_height 103 = .ok (.iload 4, 2) := by decide +kernel
theorem dX6_height_105 : decode cX6_height 105 = .ok (.ifCond .ne 9, 3) := by decide +kernel
theorem dX6_height_108 : decode cX6_height 108 = .ok (.ldc2_w 184, 3) := by decide +kernel
theorem dX6_height_111 : decode cX6_height 111 = .ok (.goto 9, 3) := by decide +kernel
theorem dX6_height_114 : decode cX6_height 114 = .ok (.iload 5, 2) := by decide +kernel
theorem dX6_height_116 : decode cX6_height 116 = .ok (.iload 4, 2) := by decide +kernel
theorem dX6_height_118 : decode cX6_height 118 = .ok (.idiv, 1) := by decide +kernel
theorem dX6_height_119 : decode cX6_height 119 = .ok (.i2l, 1) := by decide +kernel
theorem dX6_height_120 : decode cX6_height 120 = .ok (.lreturn, 1) := by decide +kernel
theorem dX6_wall_0 : decode cX6_wall 0 = .ok (.iload_n 1, 1) := by decide +kernel
theorem dX6_wall_1 : decode cX6_wall 1 = .ok (.invokestatic 101, 3) := by decide +kernel
theorem dX6_wall_4 : decode cX6_wall 4 = .ok (.ifCond .eq 30, 3) := by decide +kernel
theorem dX6_wall_7 : decode cX6_wall 7 = .ok (.aload_n 0, 1) := by decide +kernel
theorem dX6_wall_8 : decode cX6_wall 8 = .ok (.getfield 12, 3) := by decide +kernel
theorem dX6_wall_11 : decode cX6_wall 11 = .ok (.iload_n 2, 1) := by decide +kernel
theorem dX6_wall_12 : decode cX6_wall 12 = .ok (.invokevirtual 71, 3) := by decide +kernel
theorem dX6_wall_15 : decode cX6_wall 15 = .ok (.ifCond .eq 19, 3) := by decide +kernel
theorem dX6_wall_18 : decode cX6_wall 18 = .ok (.aload_n 0, 1) := by decide +kernel
theorem dX6_wall_19 : decode cX6_wall 19 = .ok (.getfield 12, 3) := by decide +kernel
theorem dX6_wall_22 : decode cX6_wall 22 = .ok (.iload_n 3, 1) := by decide +kernel
theorem dX6_wall_23 : decode cX6_wall 23 = .ok (.invokevirtual 71, 3) := by decide +kernel
theorem dX6_wall_26 : decode cX6_wall 26 = .ok (.ifCond .eq 8, 3) := by decide +kernel
theorem dX6_wall_29 : decode cX6_wall 29 = .ok (.iload_n 2, 1) := by decide +kernel
theorem dX6_wall_30 : decode cX6_wall 30 = .ok (.iload_n 3, 1) := by decide +kernel
theorem dX6_wall_31 : decode cX6_wall 31 = .ok (.if_icmp .ne 5, 3) := by decide +kernel
theorem dX6_wall_34 : decode cX6_wall 34 = .ok (.iconst (-1), 1) := by decide +kernel
theorem dX6_wall_35 : decode cX6_wall 35 = .ok (.ireturn, 1) := by decide +kernel
theorem dX6_wall_36 : decode cX6_wall 36 = .ok (.aload_n 0, 1) := by decide +kernel
theorem dX6_wall_37 : decode cX6_wall 37 = .ok (.getfield 12, 3) := by decide +kernel
theorem dX6_wall_40 : decode cX6_wall 40 = .ok (.getfield 107, 3) := by decide +kernel
theorem dX6_wall_43 : decode cX6_wall 43 = .ok (.iload_n 1, 1) := by decide +kernel
theorem dX6_wall_44 : decode cX6_wall 44 = .ok (.aaload, 1) := by decide +kernel
theorem dX6_wall_45 : decode cX6_wall 45 = .ok (.invokevirtual 127, 3) := by decide +kernel
theorem dX6_wall_48 : decode cX6_wall 48 = .ok (.ifCond .eq 6, 3) := by decide +kernel
theorem dX6_wall_51 : decode cX6_wall 51 = .ok (.bipush (-11), 2) := by decide +kernel
theorem dX6_wall_53 : decode cX6_wall 53 = .ok (.ireturn, 1) := by decide +kernel
theorem dX6_wall_54 : decode cX6_wall 54 = .ok (.aload_n 0, 1) := by decide +kernel
theorem dX6_wall_55 : decode cX6_wall 55 = .ok (.getfield 12, 3) := by decide +kernel
theorem dX6_wall_58 : decode cX6_wall 58 = .ok (.getfield 107, 3) := by decide +kernel
theorem dX6_wall_61 : decode cX6_wall 61 = .ok (.iload_n 1, 1) := by decide +kernel
theorem dX6_wall_62 : decode cX6_wall 62 = .ok (.aaload, 1) := by decide +kernel
theorem dX6_wall_63 : decode cX6_wall 63 = .ok (.aload_n 0, 1) := by decide +kernel
theorem dX6_wall_64 : decode cX6_wall 64 = .ok (.getfield 12, 3) := by decide +kernel
theorem dX6_wall_67 : decode cX6_wall 67 = .ok (.getfield 63, 3) := by decide +kernel
theorem dX6_wall_70 : decode cX6_wall 70 = .ok (.iload_n 2, 1) := by decide +kernel
theorem dX6_wall_71 : decode cX6_wall 71 = .ok (.iload_n 3, 1) := by decide +kernel
theorem dX6_wall_72 : decode cX6_wall 72 = .ok (.invokevirtual 231, 3) := by decide +kernel
theorem dX6_wall_75 : decode cX6_wall 75 = .ok (.ireturn, 1) := by decide +kernel
theorem dX6_wallValue_0 : decode cX6_wallValue 0 = .ok (.aload_n 0, 1) := by decide +kernel
theorem dX6_wallValue_1 : decode cX6_wallValue 1 = .ok (.iload_n 1, 1) := by decide +kernel
theorem dX6_wallValue_2 : decode cX6_wallValue 2 = .ok (.invokevirtual 154, 3) := by decide +kernel
theorem dX6_wallValue_5 : decode cX6_wallValue 5 = .ok (.ifCond .ne 30, 3) := by decide +kernel
theorem dX6_wallValue_8 : decode cX6_wallValue 8 = .ok (.aload_n 0, 1) := by decide +kernel
theorem dX6_wallValue_9 : decode cX6_wallValue 9 = .ok (.getfield 12, 3) := by decide +kernel
theorem dX6_wallValue_12 : decode cX6_wallValue 12 = .ok (.iload_n 2, 1) := by decide +kernel
theorem dX6_wallValue_13 : decode cX6_wallValue 13 = .ok (.invokevirtual 71, 3) := by decide +kernel
theorem dX6_wallValue_16 : decode cX6_wallValue 16 = .ok (.ifCond .eq 19, 3) := by decide +kernel
theorem dX6_wallValue_19 : decode cX6_wallValue 19 = .ok (.aload_n 0, 1) := by decide +kernel
theorem dX6_wallValue_20 : decode cX6_wallValue 20 = .ok (.getfield 12, 3) := by decide +kernel
theorem dX6_wallValue_23 : decode cX6_wallValue 23 = .ok (.iload_n 3, 1) := by decide +kernel
theorem dX6_wallValue_24 : decode cX6_wallValue 24 = .ok (.invokevirtual 71, 3) := by decide +kernel
theorem dX6_wallValue_27 : decode cX6_wallValue 27 = .ok (.ifCond .eq 8, 3) := by decide +kernel
theorem dX6_wallValue_30 : decode cX6_wallValue 30 = .ok (.iload_n 2, 1) := by decide +kernel
theorem dX6_wallValue_31 : decode cX6_wallValue 31 = .ok (.iload_n 3, 1) := by decide +kernel
theorem dX6_wallValue_32 : decode cX6_wallValue 32 = .ok (.if_icmp .ne 7, 3) := by decide +kernel
theorem dX6_wallValue_35 : decode cX6_wallValue 35 = .ok (.ldc2_w 184, 3) := by decide +kernel
theorem dX6_wallValue_38 : decode cX6_wallValue 38 = .ok (.lreturn, 1) := by decide +kernel
theorem dX6_wallValue_39 : decode cX6_wallValue 39 = .ok (.aload_n 0, 1) := by decide +kernel
theorem dX6_wallValue_40 : decode cX6_wallValue 40 = .ok (.getfield 12, 3) := by decide +kernel
theorem dX6_wallValue_43 : decode cX6_wallValue 43 = .ok (.getfield 107, 3) := by decide +kernel
theorem dX6_wallValue_46 : decode cX6_wallValue 46 = .ok (.iload_n 1, 1) := by decide +kernel
theorem dX6_wallValue_47 : decode cX6_wallValue 47 = .ok (.aaload, 1) := by decide +kernel
theorem dX6_wallValue_48 : decode cX6_wallValue 48 = .ok (.getfield 111, 3) := by decide +kernel
theorem dX6_wallValue_51 : decode cX6_wallValue 51 = .ok (.aload_n 0, 1) := by decide +kernel
theorem dX6_wallValue_52 : decode cX6_wallValue 52 = .ok (.getfield 12, 3) := by decide +kernel
theorem dX6_wallValue_55 : decode cX6_wallValue 55 = .ok (.getfield 107, 3) := by decide +kernel
theorem dX6_wallValue_58 : decode cX6_wallValue 58 = .ok (.iload_n 1, 1) := by decide +kernel
theorem dX6_wallValue_59 : decode cX6_wallValue 59 = .ok (.aaload, 1) := by decide +kernel
theorem dX6_wallValue_60 : decode cX6_wallValue 60 = .ok (.aload_n 0, 1) := by decide +kernel
theorem dX6_wallValue_61 : decode cX6_wallValue 61 = .ok (.getfield 12, 3) := by decide +kernel
theorem dX6_wallValue_64 : decode cX6_wallValue 64 = .ok (.getfield 63, 3) := by decide +kernel
theorem dX6_wallValue_67 : decode cX6_wallValue 67 = .ok (.iload_n 2, 1) := by decide +kernel
theorem dX6_wallValue_68 : decode cX6_wallValue 68 = .ok (.iload_n 3, 1) := by decide +kernel
theorem dX6_wallValue_69 : decode cX6_wallValue 69 = .ok (.invokevirtual 231, 3) := by decide +kernel
theorem dX6_wallValue_72 : decode cX6_wallValue 72 = .ok (.iaload, 1) := by decide +kernel
theorem dX6_wallValue_73 : decode cX6_wallValue 73 = .ok (.i2l, 1) := by decide +kernel
theorem dX6_wallValue_74 : decode cX6_wallValue 74 = .ok (.lreturn, 1) := by decide +kernel
theorem dX6_most_0 : decode cX6_most 0 = .ok (.iload_n 1, 1) := by decide +kernel
theorem dX6_most_1 : decode cX6_most 1 = .ok (.invokestatic 101, 3) := by decide +kernel
theorem dX6_most_4 : decode cX6_most 4 = .ok (.ifCond .eq 12, 3) := by decide +kernel
theorem dX6_most_7 : decode cX6_most 7 = .ok (.iload_n 3, 1) := by decide +kernel
theorem dX6_most_8 : decode cX6_most 8 = .ok (.ifCond .lt 8, 3) := by decide +kernel
theorem dX6_most_11 : decode cX6_most 11 = .ok (.iload_n 3, 1) := by decide +kernel
theorem dX6_most_12 : decode cX6_most 12 = .ok (.iconst 1, 1) := by decide +kernel
theorem dX6_most_13 : decode cX6_most 13 = .ok (.if_icmp .le 5, 3) := by decide +kernel
theorem dX6_most_16 : decode cX6_most 16 = .ok (.iconst (-1), 1) := by decide +kernel
theorem dX6_most_17 : decode cX6_most 17 = .ok (.ireturn, 1) := by decide +kernel
theorem dX6_most_18 : decode cX6_most 18 = .ok (.iload_n 2, 1) := by decide +kernel
theorem dX6_most_19 : decode cX6_most 19 = .ok (.ifCond .lt 14, 3) := by decide +kernel
theorem dX6_most_22 : decode cX6_most 22 = .ok (.iload_n 2, 1) := by decide +kernel
theorem dX6_most_23 : decode cX6_most 23 = .ok (.aload_n 0, 1) := by decide +kernel
theorem dX6_most_24 : decode cX6_most 24 = .ok (.getfield 12, 3) := by decide +kernel
theorem dX6_most_27 : decode cX6_most 27 = .ok (.getfield 63, 3) := by decide +kernel
theorem dX6_most_30 : decode cX6_most 30 = .ok (.if_icmp .le 6, 3) := by decide +kernel
theorem dX6_most_33 : decode cX6_most 33 = .ok (.bipush (-2), 2) := by decide +kernel
theorem dX6_most_35 : decode cX6_most 35 = .ok (.ireturn, 1) := by decide +kernel
theorem dX6_most_36 : decode cX6_most 36 = .ok (.aload_n 0, 1) := by decide +kernel
theorem dX6_most_37 : decode cX6_most 37 = .ok (.getfield 12, 3) := by decide +kernel
theorem dX6_most_40 : decode cX6_most 40 = .ok (.getfield 107, 3) := by decide +kernel
theorem dX6_most_43 : decode cX6_most 43 = .ok (.iload_n 1, 1) := by decide +kernel
theorem dX6_most_44 : decode cX6_most 44 = .ok (.aaload, 1) := by decide +kernel
theorem dX6_most_45 : decode cX6_most 45 = .ok (.astore 4, 2) := by decide +kernel
theorem dX6_most_47 : decode cX6_most 47 = .ok (.aload 4, 2) := by decide +kernel
theorem dX6_most_49 : decode cX6_most 49 = .ok (.invokevirtual 127, 3) := by decide +kernel
theorem dX6_most_52 : decode cX6_most 52 = .ok (.ifCond .eq 6, 3) := by decide +kernel
theorem dX6_most_55 : decode cX6_most 55 = .ok (.bipush (-11), 2) := by decide +kernel
theorem dX6_most_57 : decode cX6_most 57 = .ok (.ireturn, 1) := by decide +kernel
theorem dX6_most_58 : decode cX6_most 58 = .ok (.iload_n 3, 1) := by decide +kernel
theorem dX6_most_59 : decode cX6_most 59 = .ok (.ifCond .ne 19, 3) := by decide +kernel
theorem dX6_most_62 : decode cX6_most 62 = .ok (.aload 4, 2) := by decide +kernel
theorem dX6_most_64 : decode cX6_most 64 = .ok (.aload_n 0, 1) := by decide +kernel
theorem dX6_most_65 : decode cX6_most 65 = .ok (.getfield 12, 3) := by decide +kernel
theorem dX6_most_68 : decode cX6_most 68 = .ok (.getfield 63, 3) := by decide +kernel
theorem dX6_most_71 : decode cX6_most 71 = .ok (.iload_n 2, 1) := by decide +kernel
theorem dX6_most_72 : decode cX6_most 72 = .ok (.invokevirtual 234, 3) := by decide +kernel
theorem dX6_most_75 : decode cX6_most 75 = .ok (.goto 16, 3) := by decide +kernel
theorem dX6_most_78 : decode cX6_most 78 = .ok (.aload 4, 2) := by decide +kernel
theorem dX6_most_80 : decode cX6_most 80 = .ok (.aload_n 0, 1) := by decide +kernel
theorem dX6_most_81 : decode cX6_most 81 = .ok (.getfield 12, 3) := by decide +kernel
theorem dX6_most_84 : decode cX6_most 84 = .ok (.getfield 63, 3) := by decide +kernel
theorem dX6_most_87 : decode cX6_most 87 = .ok (.iload_n 2, 1) := by decide +kernel
theorem dX6_most_88 : decode cX6_most 88 = .ok (.invokevirtual 237, 3) := by decide +kernel
theorem dX6_most_91 : decode cX6_most 91 = .ok (.ireturn, 1) := by decide +kernel
theorem dX6_feed_0 : decode cX6_feed 0 = .ok (.iload_n 1, 1) := by decide +kernel
theorem dX6_feed_1 : decode cX6_feed 1 = .ok (.iconst 1, 1) := by decide +kernel
theorem dX6_feed_2 : decode cX6_feed 2 = .ok (.if_icmp .lt 9, 3) := by decide +kernel
theorem dX6_feed_5 : decode cX6_feed 5 = .ok (.iload_n 1, 1) := by decide +kernel
theorem dX6_feed_6 : decode cX6_feed 6 = .ok (.bipush 127, 2) := by decide +kernel
theorem dX6_feed_8 : decode cX6_feed 8 = .ok (.if_icmp .le 6, 3) := by decide +kernel
theorem dX6_feed_11 : decode cX6_feed 11 = .ok (.bipush (-2), 2) := by decide +kernel
theorem dX6_feed_13 : decode cX6_feed 13 = .ok (.ireturn, 1) := by decide +kernel
theorem dX6_feed_14 : decode cX6_feed 14 = .ok (.aload_n 0, 1) := by decide +kernel
theorem dX6_feed_15 : decode cX6_feed 15 = .ok (.getfield 35, 3) := by decide +kernel
theorem dX6_feed_18 : decode cX6_feed 18 = .ok (.invokevirtual 240, 3) := by decide +kernel
theorem dX6_feed_21 : decode cX6_feed 21 = .ok (.ifCond .eq 6, 3) := by decide +kernel
theorem dX6_feed_24 : decode cX6_feed 24 = .ok (.bipush (-3), 2) := by decide +kernel
theorem dX6_feed_26 : decode cX6_feed 26 = .ok (.ireturn, 1) := by decide +kernel
theorem dX6_feed_27 : decode cX6_feed 27 = .ok (.aload_n 0, 1) := by decide +kernel
theorem dX6_feed_28 : decode cX6_feed 28 = .ok (.getfield 35, 3) := by decide +kernel
theorem dX6_feed_31 : decode cX6_feed 31 = .ok (.iload_n 1, 1) := by decide +kernel
theorem dX6_feed_32 : decode cX6_feed 32 = .ok (.invokevirtual 243, 3) := by decide +kernel
theorem dX6_feed_35 : decode cX6_feed 35 = .ok (.aload_n 0, 1) := by decide +kernel
theorem dX6_feed_36 : decode cX6_feed 36 = .ok (.getfield 35, 3) := by decide +kernel
theorem dX6_feed_39 : decode cX6_feed 39 = .ok (.getfield 246, 3) := by decide +kernel
theorem dX6_feed_42 : decode cX6_feed 42 = .ok (.ireturn, 1) := by decide +kernel
theorem dX6_deeds_0 : decode cX6_deeds 0 = .ok (.aload_n 0, 1) := by decide +kernel
theorem dX6_deeds_1 : decode cX6_deeds 1 = .ok (.getfield 35, 3) := by decide +kernel
theorem dX6_deeds_4 : decode cX6_deeds 4 = .ok (.invokevirtual 249, 3) := by decide +kernel
theorem dX6_deeds_7 : decode cX6_deeds 7 = .ok (.istore_n 1, 1) := by decide +kernel
theorem dX6_deeds_8 : decode cX6_deeds 8 = .ok (.aload_n 0, 1) := by decide +kernel
theorem dX6_deeds_9 : decode cX6_deeds 9 = .ok (.getfield 35, 3) := by decide +kernel
theorem dX6_deeds_12 : decode cX6_deeds 12 = .ok (.iconst 0, 1) := by decide +kernel
theorem dX6_deeds_13 : decode cX6_deeds 13 = .ok (.putfield 246, 3) := by decide +kernel
theorem dX6_deeds_16 : decode cX6_deeds 16 = .ok (.iload_n 1, 1) := by decide +kernel
theorem dX6_deeds_17 : decode cX6_deeds 17 = .ok (.iconst (-1), 1) := by decide +kernel
theorem dX6_deeds_18 : decode cX6_deeds 18 = .ok (.if_icmp .eq 8, 3) := by decide +kernel
theorem dX6_deeds_21 : decode cX6_deeds 21 = .ok (.bipush (-100), 2) := by decide +kernel
theorem dX6_deeds_23 : decode cX6_deeds 23 = .ok (.iload_n 1, 1) := by decide +kernel
theorem dX6_deeds_24 : decode cX6_deeds 24 = .ok (.isub, 1) := by decide +kernel
theorem dX6_deeds_25 : decode cX6_deeds 25 = .ok (.ireturn, 1) := by decide +kernel
theorem dX6_deeds_26 : decode cX6_deeds 26 = .ok (.iconst 0, 1) := by decide +kernel
theorem dX6_deeds_27 : decode cX6_deeds 27 = .ok (.istore_n 2, 1) := by decide +kernel
theorem dX6_deeds_28 : decode cX6_deeds 28 = .ok (.iconst 0, 1) := by decide +kernel
theorem dX6_deeds_29 : decode cX6_deeds 29 = .ok (.istore_n 3, 1) := by decide +kernel
theorem dX6_deeds_30 : decode cX6_deeds 30 = .ok (.iload_n 3, 1) := by decide +kernel
theorem dX6_deeds_31 : decode cX6_deeds 31 = .ok (.aload_n 0, 1) := by decide +kernel
theorem dX6_deeds_32 : decode cX6_deeds 32 = .ok (.getfield 35, 3) := by decide +kernel
theorem dX6_deeds_35 : decode cX6_deeds 35 = .ok (.getfield 252, 3) := by decide +kernel
theorem dX6_deeds_38 : decode cX6_deeds 38 = .ok (.if_icmp .ge 20, 3) := by decide +kernel
theorem dX6_deeds_41 : decode cX6_deeds 41 = .ok (.aload_n 0, 1) := by decide +kernel
theorem dX6_deeds_42 : decode cX6_deeds 42 = .ok (.iload_n 3, 1) := by decide +kernel
theorem dX6_deeds_43 : decode cX6_deeds 43 = .ok (.invokevirtual 255, 3) := by decide +kernel
theorem dX6_deeds_46 : decode cX6_deeds 46 = .ok (.ifCond .eq 6, 3) := by decide +kernel
theorem dX6_deeds_49 : decode cX6_deeds 49 = .ok (.iinc 2 1, 3) := by decide +kernel
theorem dX6_deeds_52 : decode cX6_deeds 52 = .ok (.iinc 3 1, 3) := by decide +kernel
theorem dX6_deeds_55 : decode cX6_deeds 55 = .ok (.goto (-25), 3) := by decide +kernel
theorem dX6_deeds_58 : decode cX6_deeds 58 = .ok (.iload_n 2, 1) := by decide +kernel
theorem dX6_deeds_59 : decode cX6_deeds 59 = .ok (.ireturn, 1) := by decide +kernel
theorem dX6_write_0 : decode cX6_write 0 = .ok (.aload_n 0, 1) := by decide +kernel
theorem dX6_write_1 : decode cX6_write 1 = .ok (.iload_n 1, 1) := by decide +kernel
theorem dX6_write_2 : decode cX6_write 2 = .ok (.invokevirtual 154, 3) := by decide +kernel
theorem dX6_write_5 : decode cX6_write 5 = .ok (.istore_n 2, 1) := by decide +kernel
theorem dX6_write_6 : decode cX6_write 6 = .ok (.iload_n 2, 1) := by decide +kernel
theorem dX6_write_7 : decode cX6_write 7 = .ok (.ifCond .eq 5, 3) := by decide +kernel
theorem dX6_write_10 : decode cX6_write 10 = .ok (.iload_n 2, 1) := by decide +kernel
theorem dX6_write_11 : decode cX6_write 11 = .ok (.ireturn, 1) := by decide +kernel
theorem dX6_write_12 : decode cX6_write 12 = .ok (.aload_n 0, 1) := by decide +kernel
theorem dX6_write_13 : decode cX6_write 13 = .ok (.getfield 42, 3) := by decide +kernel
theorem dX6_write_16 : decode cX6_write 16 = .ok (.iconst 0, 1) := by decide +kernel
theorem dX6_write_17 : decode cX6_write 17 = .ok (.putfield 258, 3) := by decide +kernel
theorem dX6_write_20 : decode cX6_write 20 = .ok (.iconst 0, 1) := by decide +kernel
theorem dX6_write_21 : decode cX6_write 21 = .ok (.istore_n 3, 1) := by decide +kernel
theorem dX6_write_22 : decode cX6_write 22 = .ok (.iload_n 3, 1) := by decide +kernel
theorem dX6_write_23 : decode cX6_write 23 = .ok (.aload_n 0, 1) := by decide +kernel
theorem dX6_write_24 : decode cX6_write 24 = .ok (.getfield 12, 3) := by decide +kernel
theorem dX6_write_27 : decode cX6_write 27 = .ok (.invokevirtual 131, 3) := by decide +kernel
theorem dX6_write_30 : decode cX6_write 30 = .ok (.if_icmp .ge 43, 3) := by decide +kernel
theorem dX6_write_33 : decode cX6_write 33 = .ok (.iload_n 3, 1) := by decide +kernel
theorem dX6_write_34 : decode cX6_write 34 = .ok (.ifCond .le 12, 3) := by decide +kernel
theorem dX6_write_37 : decode cX6_write 37 = .ok (.aload_n 0, 1) := by decide +kernel
theorem dX6_write_38 : decode cX6_write 38 = .ok (.getfield 42, 3) := by decide +kernel
theorem dX6_write_41 : decode cX6_write 41 = .ok (.bipush 32, 2) := by decide +kernel
theorem dX6_write_43 : decode cX6_write 43 = .ok (.invokevirtual 259, 3) := by decide +kernel
theorem dX6_write_46 : decode cX6_write 46 = .ok (.aload_n 0, 1) := by decide +kernel
theorem dX6_write_47 : decode cX6_write 47 = .ok (.getfield 42, 3) := by decide +kernel
theorem dX6_write_50 : decode cX6_write 50 = .ok (.aload_n 0, 1) := by decide +kernel
theorem dX6_write_51 : decode cX6_write 51 = .ok (.getfield 12, 3) := by decide +kernel
theorem dX6_write_54 : decode cX6_write 54 = .ok (.getfield 107, 3) := by decide +kernel
theorem dX6_write_57 : decode cX6_write 57 = .ok (.iload_n 1, 1) := by decide +kernel
theorem dX6_write_58 : decode cX6_write 58 = .ok (.aaload, 1) := by decide +kernel
theorem dX6_write_59 : decode cX6_write 59 = .ok (.getfield 111, 3) := by decide +kernel
theorem dX6_write_62 : decode cX6_write 62 = .ok (.iload_n 3, 1) := by decide +kernel
theorem dX6_write_63 : decode cX6_write 63 = .ok (.iaload, 1) := by decide +kernel
theorem dX6_write_64 : decode cX6_write 64 = .ok (.invokevirtual 262, 3) := by decide +kernel
theorem dX6_write_67 : decode cX6_write 67 = .ok (.iinc 3 1, 3) := by decide +kernel
theorem dX6_write_70 : decode cX6_write 70 = .ok (.goto (-48), 3) := by decide +kernel
theorem dX6_write_73 : decode cX6_write 73 = .ok (.aload_n 0, 1) := by decide +kernel
theorem dX6_write_74 : decode cX6_write 74 = .ok (.getfield 42, 3) := by decide +kernel
theorem dX6_write_77 : decode cX6_write 77 = .ok (.getfield 258, 3) := by decide +kernel
theorem dX6_write_80 : decode cX6_write 80 = .ok (.ireturn, 1) := by decide +kernel
theorem dX6_paper_0 : decode cX6_paper 0 = .ok (.iload_n 1, 1) := by decide +kernel
theorem dX6_paper_1 : decode cX6_paper 1 = .ok (.ifCond .lt 14, 3) := by decide +kernel
theorem dX6_paper_4 : decode cX6_paper 4 = .ok (.iload_n 1, 1) := by decide +kernel
theorem dX6_paper_5 : decode cX6_paper 5 = .ok (.aload_n 0, 1) := by decide +kernel
theorem dX6_paper_6 : decode cX6_paper 6 = .ok (.getfield 42, 3) := by decide +kernel
theorem dX6_paper_9 : decode cX6_paper 9 = .ok (.getfield 258, 3) := by decide +kernel
theorem dX6_paper_12 : decode cX6_paper 12 = .ok (.if_icmp .lt 5, 3) := by decide +kernel
theorem dX6_paper_15 : decode cX6_paper 15 = .ok (.iconst (-1), 1) := by decide +kernel
theorem dX6_paper_16 : decode cX6_paper 16 = .ok (.ireturn, 1) := by decide +kernel
theorem dX6_paper_17 : decode cX6_paper 17 = .ok (.aload_n 0, 1) := by decide +kernel
theorem dX6_paper_18 : decode cX6_paper 18 = .ok (.getfield 42, 3) := by decide +kernel
theorem dX6_paper_21 : decode cX6_paper 21 = .ok (.getfield 265, 3) := by decide +kernel
theorem dX6_paper_24 : decode cX6_paper 24 = .ok (.iload_n 1, 1) := by decide +kernel
theorem dX6_paper_25 : decode cX6_paper 25 = .ok (.baload, 1) := by decide +kernel
theorem dX6_paper_26 : decode cX6_paper 26 = .ok (.ireturn, 1) := by decide +kernel
theorem dX6_list_0 : decode cX6_list 0 = .ok (.iload_n 1, 1) := by decide +kernel
theorem dX6_list_1 : decode cX6_list 1 = .ok (.invokestatic 269, 3) := by decide +kernel
theorem dX6_list_4 : decode cX6_list 4 = .ok (.ifCond .ne 5, 3) := by decide +kernel
theorem dX6_list_7 : decode cX6_list 7 = .ok (.iconst (-1), 1) := by decide +kernel
theorem dX6_list_8 : decode cX6_list 8 = .ok (.ireturn, 1) := by decide +kernel
theorem dX6_list_9 : decode cX6_list 9 = .ok (.iload_n 2, 1) := by decide +kernel
theorem dX6_list_10 : decode cX6_list 10 = .ok (.bipush 64, 2) := by decide +kernel
theorem dX6_list_12 : decode cX6_list 12 = .ok (.if_icmp .le 6, 3) := by decide +kernel
theorem dX6_list_15 : decode cX6_list 15 = .ok (.bipush (-2), 2) := by decide +kernel
theorem dX6_list_17 : decode cX6_list 17 = .ok (.ireturn, 1) := by decide +kernel
theorem dX6_list_18 : decode cX6_list 18 = .ok (.iload_n 2, 1) := by decide +kernel
theorem dX6_list_19 : decode cX6_list 19 = .ok (.ifCond .ge 6, 3) := by decide +kernel
theorem dX6_list_22 : decode cX6_list 22 = .ok (.bipush (-14), 2) := by decide +kernel
theorem dX6_list_24 : decode cX6_list 24 = .ok (.ireturn, 1) := by decide +kernel
theorem dX6_list_25 : decode cX6_list 25 = .ok (.aload_n 0, 1) := by decide +kernel
theorem dX6_list_26 : decode cX6_list 26 = .ok (.getfield 27, 3) := by decide +kernel
theorem dX6_list_29 : decode cX6_list 29 = .ok (.iload_n 1, 1) := by decide +kernel
theorem dX6_list_30 : decode cX6_list 30 = .ok (.aaload, 1) := by decide +kernel
theorem dX6_list_31 : decode cX6_list 31 = .ok (.getfield 272, 3) := by decide +kernel
theorem dX6_list_34 : decode cX6_list 34 = .ok (.iconst 0, 1) := by decide +kernel
theorem dX6_list_35 : decode cX6_list 35 = .ok (.invokestatic 275, 3) := by decide +kernel
theorem dX6_list_38 : decode cX6_list 38 = .ok (.aload_n 0, 1) := by decide +kernel
theorem dX6_list_39 : decode cX6_list 39 = .ok (.getfield 27, 3) := by decide +kernel
theorem dX6_list_42 : decode cX6_list 42 = .ok (.iload_n 1, 1) := by decide +kernel
theorem dX6_list_43 : decode cX6_list 43 = .ok (.aaload, 1) := by decide +kernel
theorem dX6_list_44 : decode cX6_list 44 = .ok (.iload_n 2, 1) := by decide +kernel
theorem dX6_list_45 : decode cX6_list 45 = .ok (.putfield 280, 3) := by decide +kernel
theorem dX6_list_48 : decode cX6_list 48 = .ok (.iconst 1, 1) := by decide +kernel
theorem dX6_list_49 : decode cX6_list 49 = .ok (.ireturn, 1) := by decide +kernel
theorem dX6_put_0 : decode cX6_put 0 = .ok (.iload_n 1, 1) := by decide +kernel
theorem dX6_put_1 : decode cX6_put 1 = .ok (.invokestatic 269, 3) := by decide +kernel
theorem dX6_put_4 : decode cX6_put 4 = .ok (.ifCond .ne 5, 3) := by decide +kernel
theorem dX6_put_7 : decode cX6_put 7 = .ok (.iconst (-1), 1) := by decide +kernel
theorem dX6_put_8 : decode cX6_put 8 = .ok (.ireturn, 1) := by decide +kernel
theorem dX6_put_9 : decode cX6_put 9 = .ok (.aload_n 0, 1) := by decide +kernel
theorem dX6_put_10 : decode cX6_put 10 = .ok (.getfield 27, 3) := by decide +kernel
theorem dX6_put_13 : decode cX6_put 13 = .ok (.iload_n 1, 1) := by decide +kernel
theorem dX6_put_14 : decode cX6_put 14 = .ok (.aaload, 1) := by decide +kernel
theorem dX6_put_15 : decode cX6_put 15 = .ok (.invokevirtual 281, 3) := by decide +kernel
theorem dX6_put_18 : decode cX6_put 18 = .ok (.ifCond .eq 6, 3) := by decide +kernel
theorem dX6_put_21 : decode cX6_put 21 = .ok (.bipush (-11), 2) := by decide +kernel
theorem dX6_put_23 : decode cX6_put 23 = .ok (.ireturn, 1) := by decide +kernel
theorem dX6_put_24 : decode cX6_put 24 = .ok (.iload_n 2, 1) := by decide +kernel
theorem dX6_put_25 : decode cX6_put 25 = .ok (.ifCond .lt 16, 3) := by decide +kernel
theorem dX6_put_28 : decode cX6_put 28 = .ok (.iload_n 2, 1) := by decide +kernel
theorem dX6_put_29 : decode cX6_put 29 = .ok (.aload_n 0, 1) := by decide +kernel
theorem dX6_put_30 : decode cX6_put 30 = .ok (.getfield 27, 3) := by decide +kernel
theorem dX6_put_33 : decode cX6_put 33 = .ok (.iload_n 1, 1) := by decide +kernel
theorem dX6_put_34 : decode cX6_put 34 = .ok (.aaload, 1) := by decide +kernel
theorem dX6_put_35 : decode cX6_put 35 = .ok (.getfield 280, 3) := by decide +kernel
theorem dX6_put_38 : decode cX6_put 38 = .ok (.if_icmp .lt 6, 3) := by decide +kernel
theorem dX6_put_41 : decode cX6_put 41 = .ok (.bipush (-13), 2) := by decide +kernel
theorem dX6_put_43 : decode cX6_put 43 = .ok (.ireturn, 1) := by decide +kernel
theorem dX6_put_44 : decode cX6_put 44 = .ok (.aload_n 0, 1) := by decide +kernel
theorem dX6_put_45 : decode cX6_put 45 = .ok (.getfield 27, 3) := by decide +kernel
theorem dX6_put_48 : decode cX6_put 48 = .ok (.iload_n 1, 1) := by decide +kernel
theorem dX6_put_49 : decode cX6_put 49 = .ok (.aaload, 1) := by decide +kernel
theorem dX6_put_50 : decode cX6_put 50 = .ok (.getfield 272, 3) := by decide +kernel
theorem dX6_put_53 : decode cX6_put 53 = .ok (.iload_n 2, 1) := by decide +kernel
theorem dX6_put_54 : decode cX6_put 54 = .ok (.iload_n 3, 1) := by decide +kernel
theorem dX6_put_55 : decode cX6_put 55 = .ok (.iastore, 1) := by decide +kernel
theorem dX6_put_56 : decode cX6_put 56 = .ok (.iconst 1, 1) := by decide +kernel
theorem dX6_put_57 : decode cX6_put 57 = .ok (.ireturn, 1) := by decide +kernel
theorem dX6_get_0 : decode cX6_get 0 = .ok (.iload_n 1, 1) := by decide +kernel
theorem dX6_get_1 : decode cX6_get 1 = .ok (.invokestatic 269, 3) := by decide +kernel
theorem dX6_get_4 : decode cX6_get 4 = .ok (.ifCond .eq 20, 3) := by decide +kernel
theorem dX6_get_7 : decode cX6_get 7 = .ok (.iload_n 2, 1) := by decide +kernel
theorem dX6_get_8 : decode cX6_get 8 = .ok (.ifCond .lt 16, 3) := by decide +kernel
theorem dX6_get_11 : decode cX6_get 11 = .ok (.iload_n 2, 1) := by decide +kernel
theorem dX6_get_12 : decode cX6_get 12 = .ok (.aload_n 0, 1) := by decide +kernel
theorem dX6_get_13 : decode cX6_get 13 = .ok (.getfield 27, 3) := by decide +kernel
theorem dX6_get_16 : decode cX6_get 16 = .ok (.iload_n 1, 1) := by decide +kernel
theorem dX6_get_17 : decode cX6_get 17 = .ok (.aaload, 1) := by decide +kernel
theorem dX6_get_18 : decode cX6_get 18 = .ok (.getfield 280, 3) := by decide +kernel
theorem dX6_get_21 : decode cX6_get 21 = .ok (.if_icmp .lt 7, 3) := by decide +kernel
theorem dX6_get_24 : decode cX6_get 24 = .ok (.ldc2_w 184, 3) := by decide +kernel
theorem dX6_get_27 : decode cX6_get 27 = .ok (.lreturn, 1) := by decide +kernel
theorem dX6_get_28 : decode cX6_get 28 = .ok (.aload_n 0, 1) := by decide +kernel
theorem dX6_get_29 : decode cX6_get 29 = .ok (.getfield 27, 3) := by decide +kernel
theorem dX6_get_32 : decode cX6_get 32 = .ok (.iload_n 1, 1) := by decide +kernel
theorem dX6_get_33 : decode cX6_get 33 = .ok (.aaload, 1) := by decide +kernel
theorem dX6_get_34 : decode cX6_get 34 = .ok (.getfield 272, 3) := by decide +kernel
theorem dX6_get_37 : decode cX6_get 37 = .ok (.iload_n 2, 1) := by decide +kernel
theorem dX6_get_38 : decode cX6_get 38 = .ok (.iaload, 1) := by decide +kernel
theorem dX6_get_39 : decode cX6_get 39 = .ok (.i2l, 1) := by decide +kernel
theorem dX6_get_40 : decode cX6_get 40 = .ok (.lreturn, 1) := by decide +kernel
theorem dX6_lay_0 : decode cX6_lay 0 = .ok (.iload_n 1, 1) := by decide +kernel
theorem dX6_lay_1 : decode cX6_lay 1 = .ok (.invokestatic 101, 3) := by decide +kernel
theorem dX6_lay_4 : decode cX6_lay 4 = .ok (.ifCond .eq 10, 3) := by decide +kernel
theorem dX6_lay_7 : decode cX6_lay 7 = .ok (.iload_n 2, 1) := by decide +kernel
theorem dX6_lay_8 : decode cX6_lay 8 = .ok (.invokestatic 269, 3) := by decide +kernel
theorem dX6_lay_11 : decode cX6_lay 11 = .ok (.ifCond .ne 5, 3) := by decide +kernel
theorem dX6_lay_14 : decode cX6_lay 14 = .ok (.iconst (-1), 1) := by decide +kernel
theorem dX6_lay_15 : decode cX6_lay 15 = .ok (.ireturn, 1) := by decide +kernel
theorem dX6_lay_16 : decode cX6_lay 16 = .ok (.aload_n 0, 1) := by decide +kernel
theorem dX6_lay_17 : decode cX6_lay 17 = .ok (.getfield 27, 3) := by decide +kernel
theorem dX6_lay_20 : decode cX6_lay 20 = .ok (.iload_n 2, 1) := by decide +kernel
theorem dX6_lay_21 : decode cX6_lay 21 = .ok (.aaload, 1) := by decide +kernel
theorem dX6_lay_22 : decode cX6_lay 22 = .ok (.astore_n 3, 1) := by decide +kernel
theorem dX6_lay_23 : decode cX6_lay 23 = .ok (.aload_n 3, 1) := by decide +kernel
theorem dX6_lay_24 : decode cX6_lay 24 = .ok (.invokevirtual 281, 3) := by decide +kernel
theorem dX6_lay_27 : decode cX6_lay 27 = .ok (.ifCond .eq 6, 3) := by decide +kernel
theorem dX6_lay_30 : decode cX6_lay 30 = .ok (.bipush (-11), 2) := by decide +kernel
theorem dX6_lay_32 : decode cX6_lay 32 = .ok (.ireturn, 1) := by decide +kernel
theorem dX6_lay_33 : decode cX6_lay 33 = .ok (.aload_n 3, 1) := by decide +kernel
theorem dX6_lay_34 : decode cX6_lay 34 = .ok (.getfield 280, 3) := by decide +kernel
theorem dX6_lay_37 : decode cX6_lay 37 = .ok (.aload_n 0, 1) := by decide +kernel
theorem dX6_lay_38 : decode cX6_lay 38 = .ok (.getfield 12, 3) := by decide +kernel
theorem dX6_lay_41 : decode cX6_lay 41 = .ok (.invokevirtual 131, 3) := by decide +kernel
theorem dX6_lay_44 : decode cX6_lay 44 = .ok (.if_icmp .gt 17, 3) := by decide +kernel
theorem dX6_lay_47 : decode cX6_lay 47 = .ok (.aload_n 3, 1) := by decide +kernel
theorem dX6_lay_48 : decode cX6_lay 48 = .ok (.getfield 272, 3) := by decide +kernel
theorem dX6_lay_51 : decode cX6_lay 51 = .ok (.aload_n 3, 1) := by decide +kernel
theorem dX6_lay_52 : decode cX6_lay 52 = .ok (.getfield 280, 3) := by decide +kernel
theorem dX6_lay_55 : decode cX6_lay 55 = .ok (.invokestatic 282, 3) := by decide +kernel
theorem dX6_lay_58 : decode cX6_lay 58 = .ok (.ifCond .ne 6, 3) := by decide +kernel
theorem dX6_lay_61 : decode cX6_lay 61 = .ok (.bipush (-3), 2) := by decide +kernel
theorem dX6_lay_63 : decode cX6_lay 63 = .ok (.ireturn, 1) := by decide +kernel
theorem dX6_lay_64 : decode cX6_lay 64 = .ok (.iconst 0, 1) := by decide +kernel
theorem dX6_lay_65 : decode cX6_lay 65 = .ok (.istore 4, 2) := by decide +kernel
theorem dX6_lay_67 : decode cX6_lay 67 = .ok (.iload 4, 2) := by decide +kernel
theorem dX6_lay_69 : decode cX6_lay 69 = .ok (.aload_n 0, 1) := by decide +kernel
theorem dX6_lay_70 : decode cX6_lay 70 = .ok (.getfield 12, 3) := by decide +kernel
theorem dX6_lay_73 : decode cX6_lay 73 = .ok (.invokevirtual 131, 3) := by decide +kernel
theorem dX6_lay_76 : decode cX6_lay 76 = .ok (.if_icmp .ge 36, 3) := by decide +kernel
theorem dX6_lay_79 : decode cX6_lay 79 = .ok (.aload_n 0, 1) := by decide +kernel
theorem dX6_lay_80 : decode cX6_lay 80 = .ok (.getfield 53, 3) := by decide +kernel
theorem dX6_lay_83 : decode cX6_lay 83 = .ok (.iload 4, 2) := by decide +kernel
theorem dX6_lay_85 : decode cX6_lay 85 = .ok (.iload 4, 2) := by decide +kernel
theorem dX6_lay_87 : decode cX6_lay 87 = .ok (.aload_n 3, 1) := by decide +kernel
theorem dX6_lay_88 : decode cX6_lay 88 = .ok (.getfield 280, 3) := by decide +kernel
theorem dX6_lay_91 : decode cX6_lay 91 = .ok (.if_icmp .ge 13, 3) := by decide +kernel
theorem dX6_lay_94 : decode cX6_lay 94 = .ok (.aload_n 3, 1) := by decide +kernel
theorem dX6_lay_95 : decode cX6_lay 95 = .ok (.getfield 272, 3) := by decide +kernel
theorem dX6_lay_98 : decode cX6_lay 98 = .ok (.iload 4, 2) := by decide +kernel
theorem dX6_lay_100 : decode cX6_lay 100 = .ok (.iaload, 1) := by decide +kernel
theorem dX6_lay_101 : decode cX6_lay 101 = .ok (.goto 4, 3) := by decide +kernel
theorem dX6_lay_104 : decode cX6_lay 104 = .ok (.iconst 0, 1) := by decide +kernel
theorem dX6_lay_105 : decode cX6_lay 105 = .ok (.iastore, 1) := by decide +kernel
theorem dX6_lay_106 : decode cX6_lay 106 = .ok (.iinc 4 1, 3) := by decide +kernel
theorem dX6_lay_109 : decode cX6_lay 109 = .ok (.goto (-42), 3) := by decide +kernel
theorem dX6_lay_112 : decode cX6_lay 112 = .ok (.aload_n 0, 1) := by decide +kernel
theorem dX6_lay_113 : decode cX6_lay 113 = .ok (.iload_n 1, 1) := by decide +kernel
theorem dX6_lay_114 : decode cX6_lay 114 = .ok (.iconst 0, 1) := by decide +kernel
theorem dX6_lay_115 : decode cX6_lay 115 = .ok (.invokevirtual 286, 3) := by decide +kernel
theorem dX6_lay_118 : decode cX6_lay 118 = .ok (.aload_n 3, 1) := by decide +kernel
theorem dX6_lay_119 : decode cX6_lay 119 = .ok (.getfield 280, 3) := by decide +kernel
theorem dX6_lay_122 : decode cX6_lay 122 = .ok (.ireturn, 1) := by decide +kernel
theorem dX6_judge_0 : decode cX6_judge 0 = .ok (.iload_n 1, 1) := by decide +kernel
theorem dX6_judge_1 : decode cX6_judge 1 = .ok (.invokestatic 269, 3) := by decide +kernel
theorem dX6_judge_4 : decode cX6_judge 4 = .ok (.ifCond .eq 10, 3) := by decide +kernel
theorem dX6_judge_7 : decode cX6_judge 7 = .ok (.iload_n 2, 1) := by decide +kernel
theorem dX6_judge_8 : decode cX6_judge 8 = .ok (.invokestatic 101, 3) := by decide +kernel
theorem dX6_judge_11 : decode cX6_judge 11 = .ok (.ifCond .ne 5, 3) := by decide +kernel
theorem dX6_judge_14 : decode cX6_judge 14 = .ok (.iconst (-1), 1) := by decide +kernel
theorem dX6_judge_15 : decode cX6_judge 15 = .ok (.ireturn, 1) := by decide +kernel
theorem dX6_judge_16 : decode cX6_judge 16 = .ok (.aload_n 0, 1) := by decide +kernel
theorem dX6_judge_17 : decode cX6_judge 17 = .ok (.getfield 27, 3) := by decide +kernel
theorem dX6_judge_20 : decode cX6_judge 20 = .ok (.iload_n 1, 1) := by decide +kernel
theorem dX6_judge_21 : decode cX6_judge 21 = .ok (.aaload, 1) := by decide +kernel
theorem dX6_judge_22 : decode cX6_judge 22 = .ok (.invokevirtual 281, 3) := by decide +kernel
theorem dX6_judge_25 : decode cX6_judge 25 = .ok (.ifCond .ne 18, 3) := by decide +kernel
theorem dX6_judge_28 : decode cX6_judge 28 = .ok (.aload_n 0, 1) := by decide +kernel
theorem dX6_judge_29 : decode cX6_judge 29 = .ok (.getfield 12, 3) := by decide +kernel
theorem dX6_judge_32 : decode cX6_judge 32 = .ok (.getfield 107, 3) := by decide +kernel
theorem dX6_judge_35 : decode cX6_judge 35 = .ok (.iload_n 2, 1) := by decide +kernel
theorem dX6_judge_36 : decode cX6_judge 36 = .ok (.aaload, 1) := by decide +kernel
theorem dX6_judge_37 : decode cX6_judge 37 = .ok (.invokevirtual 127, 3) := by decide +kernel
theorem dX6_judge_40 : decode cX6_judge 40 = .ok (.ifCond .eq 6, 3) := by decide +kernel
theorem dX6_judge_43 : decode cX6_judge 43 = .ok (.bipush (-11), 2) := by decide +kernel
theorem dX6_judge_45 : decode cX6_judge 45 = .ok (.ireturn, 1) := by decide +kernel
theorem dX6_judge_46 : decode cX6_judge 46 = .ok (.aload_n 0, 1) := by decide +kernel
theorem dX6_judge_47 : decode cX6_judge 47 = .ok (.getfield 12, 3) := by decide +kernel
theorem dX6_judge_50 : decode cX6_judge 50 = .ok (.getfield 107, 3) := by decide +kernel
theorem dX6_judge_53 : decode cX6_judge 53 = .ok (.iload_n 2, 1) := by decide +kernel
theorem dX6_judge_54 : decode cX6_judge 54 = .ok (.aaload, 1) := by decide +kernel
theorem dX6_judge_55 : decode cX6_judge 55 = .ok (.getfield 111, 3) := by decide +kernel
theorem dX6_judge_58 : decode cX6_judge 58 = .ok (.astore_n 3, 1) := by decide +kernel
theorem dX6_judge_59 : decode cX6_judge 59 = .ok (.iconst 0, 1) := by decide +kernel
theorem dX6_judge_60 : decode cX6_judge 60 = .ok (.istore 4, 2) := by decide +kernel
theorem dX6_judge_62 : decode cX6_judge 62 = .ok (.iload 4, 2) := by decide +kernel
theorem dX6_judge_64 : decode cX6_judge 64 = .ok (.aload_n 0, 1) := by decide +kernel
theorem dX6_judge_65 : decode cX6_judge 65 = .ok (.getfield 27, 3) := by decide +kernel
theorem dX6_judge_68 : decode cX6_judge 68 = .ok (.iload_n 1, 1) := by decide +kernel
theorem dX6_judge_69 : decode cX6_judge 69 = .ok (.aaload, 1) := by decide +kernel
theorem dX6_judge_70 : decode cX6_judge 70 = .ok (.getfield 280, 3) := by decide +kernel
theorem dX6_judge_73 : decode cX6_judge 73 = .ok (.if_icmp .ge 43, 3) := by decide +kernel
theorem dX6_judge_76 : decode cX6_judge 76 = .ok (.iload 4, 2) := by decide +kernel
theorem dX6_judge_78 : decode cX6_judge 78 = .ok (.aload_n 0, 1) := by decide +kernel
theorem dX6_judge_79 : decode cX6_judge 79 = .ok (.getfield 12, 3) := by decide +kernel
theorem dX6_judge_82 : decode cX6_judge 82 = .ok (.invokevirtual 131, 3) := by decide +kernel
theorem dX6_judge_85 : decode cX6_judge 85 = .ok (.if_icmp .ge 22, 3) := by decide +kernel
theorem dX6_judge_88 : decode cX6_judge 88 = .ok (.aload_n 0, 1) := by decide +kernel
theorem dX6_judge_89 : decode cX6_judge 89 = .ok (.getfield 27, 3) := by decide +kernel
theorem dX6_judge_92 : decode cX6_judge 92 = .ok (.iload_n 1, 1) := by decide +kernel
theorem dX6_judge_93 : decode cX6_judge 93 = .ok (.aaload, 1) := by decide +kernel
theorem dX6_judge_94 : decode cX6_judge 94 = .ok (.getfield 272, 3) := by decide +kernel
theorem dX6_judge_97 : decode cX6_judge 97 = .ok (.iload 4, 2) := by decide +kernel
theorem dX6_judge_99 : decode cX6_judge 99 = .ok (.iaload, 1) := by decide +kernel
theorem dX6_judge_100 : decode cX6_judge 100 = .ok (.aload_n 3, 1) := by decide +kernel
theorem dX6_judge_101 : decode cX6_judge 101 = .ok (.iload 4, 2) := by decide +kernel
theorem dX6_judge_103 : decode cX6_judge 103 = .ok (.iaload, 1) := by decide +kernel
theorem dX6_judge_104 : decode cX6_judge 104 = .ok (.if_icmp .eq 6, 3) := by decide +kernel
theorem dX6_judge_107 : decode cX6_judge 107 = .ok (.iload 4, 2) := by decide +kernel
theorem dX6_judge_109 : decode cX6_judge 109 = .ok (.ireturn, 1) := by decide +kernel
theorem dX6_judge_110 : decode cX6_judge 110 = .ok (.iinc 4 1, 3) := by decide +kernel
theorem dX6_judge_113 : decode cX6_judge 113 = .ok (.goto (-51), 3) := by decide +kernel
theorem dX6_judge_116 : decode cX6_judge 116 = .ok (.bipush (-5), 2) := by decide +kernel
theorem dX6_judge_118 : decode cX6_judge 118 = .ok (.ireturn, 1) := by decide +kernel
theorem dX6_image_0 : decode cX6_image 0 = .ok (.aload_n 0, 1) := by decide +kernel
theorem dX6_image_1 : decode cX6_image 1 = .ok (.getfield 18, 3) := by decide +kernel
theorem dX6_image_4 : decode cX6_image 4 = .ok (.aload_n 0, 1) := by decide +kernel
theorem dX6_image_5 : decode cX6_image 5 = .ok (.getfield 12, 3) := by decide +kernel
theorem dX6_image_8 : decode cX6_image 8 = .ok (.invokevirtual 290, 3) := by decide +kernel
theorem dX6_image_11 : decode cX6_image 11 = .ok (.aload_n 0, 1) := by decide +kernel
theorem dX6_image_12 : decode cX6_image 12 = .ok (.iconst 1, 1) := by decide +kernel
theorem dX6_image_13 : decode cX6_image 13 = .ok (.putfield 21, 3) := by decide +kernel
theorem dX6_image_16 : decode cX6_image 16 = .ok (.aload_n 0, 1) := by decide +kernel
theorem dX6_image_17 : decode cX6_image 17 = .ok (.getfield 12, 3) := by decide +kernel
theorem dX6_image_20 : decode cX6_image 20 = .ok (.invokevirtual 294, 3) := by decide +kernel
theorem dX6_image_23 : decode cX6_image 23 = .ok (.ireturn, 1) := by decide +kernel
theorem dX6_back_0 : decode cX6_back 0 = .ok (.aload_n 0, 1) := by decide +kernel
theorem dX6_back_1 : decode cX6_back 1 = .ok (.getfield 21, 3) := by decide +kernel
theorem dX6_back_4 : decode cX6_back 4 = .ok (.ifCond .ne 6, 3) := by decide +kernel
theorem dX6_back_7 : decode cX6_back 7 = .ok (.bipush (-3), 2) := by decide +kernel
theorem dX6_back_9 : decode cX6_back 9 = .ok (.ireturn, 1) := by decide +kernel
theorem dX6_back_10 : decode cX6_back 10 = .ok (.aload_n 0, 1) := by decide +kernel
theorem dX6_back_11 : decode cX6_back 11 = .ok (.getfield 12, 3) := by decide +kernel
theorem dX6_back_14 : decode cX6_back 14 = .ok (.aload_n 0, 1) := by decide +kernel
theorem dX6_back_15 : decode cX6_back 15 = .ok (.getfield 18, 3) := by decide +kernel
theorem dX6_back_18 : decode cX6_back 18 = .ok (.invokevirtual 290, 3) := by decide +kernel
theorem dX6_back_21 : decode cX6_back 21 = .ok (.aload_n 0, 1) := by decide +kernel
theorem dX6_back_22 : decode cX6_back 22 = .ok (.getfield 12, 3) := by decide +kernel
theorem dX6_back_25 : decode cX6_back 25 = .ok (.invokevirtual 294, 3) := by decide +kernel
theorem dX6_back_28 : decode cX6_back 28 = .ok (.ireturn, 1) := by decide +kernel
theorem dX6_count_0 : decode cX6_count 0 = .ok (.iload_n 1, 1) := by decide +kernel
theorem dX6_count_1 : decode cX6_count 1 = .ok (.tableswitch 93 0 5 #[39, 47, 55, 66, 77, 85], 39) := by decide +kernel
theorem dX6_count_40 : decode cX6_count 40 = .ok (.aload_n 0, 1) := by decide +kernel
theorem dX6_count_41 : decode cX6_count 41 = .ok (.getfield 12, 3) := by decide +kernel
theorem dX6_count_44 : decode cX6_count 44 = .ok (.getfield 63, 3) := by decide +kernel
theorem dX6_count_47 : decode cX6_count 47 = .ok (.ireturn, 1) := by decide +kernel
theorem dX6_count_48 : decode cX6_count 48 = .ok (.aload_n 0, 1) := by decide +kernel
theorem dX6_count_49 : decode cX6_count 49 = .ok (.getfield 12, 3) := by decide +kernel
theorem dX6_count_52 : decode cX6_count 52 = .ok (.invokevirtual 294, 3) := by decide +kernel
theorem dX6_count_55 : decode cX6_count 55 = .ok (.ireturn, 1) := by decide +kernel
theorem dX6_count_56 : decode cX6_count 56 = .ok (.aload_n 0, 1) := by decide +kernel
theorem dX6_count_57 : decode cX6_count 57 = .ok (.getfield 12, 3) := by decide +kernel
theorem dX6_count_60 : decode cX6_count 60 = .ok (.getfield 75, 3) := by decide +kernel
theorem dX6_count_63 : decode cX6_count 63 = .ok (.invokestatic 297, 3) := by decide +kernel
theorem dX6_count_66 : decode cX6_count 66 = .ok (.ireturn, 1) := by decide +kernel
theorem dX6_count_67 : decode cX6_count 67 = .ok (.aload_n 0, 1) := by decide +kernel
theorem dX6_count_68 : decode cX6_count 68 = .ok (.getfield 12, 3) := by decide +kernel
theorem dX6_count_71 : decode cX6_count 71 = .ok (.getfield 81, 3) := by decide +kernel
theorem dX6_count_74 : decode cX6_count 74 = .ok (.invokestatic 297, 3) := by decide +kernel
theorem dX6_count_77 : decode cX6_count 77 = .ok (.ireturn, 1) := by decide +kernel
theorem dX6_count_78 : decode cX6_count 78 = .ok (.aload_n 0, 1) := by decide +kernel
theorem dX6_count_79 : decode cX6_count 79 = .ok (.getfield 35, 3) := by decide +kernel
theorem dX6_count_82 : decode cX6_count 82 = .ok (.getfield 246, 3) := by decide +kernel
theorem dX6_count_85 : decode cX6_count 85 = .ok (.ireturn, 1) := by decide +kernel
theorem dX6_count_86 : decode cX6_count 86 = .ok (.aload_n 0, 1) := by decide +kernel
theorem dX6_count_87 : decode cX6_count 87 = .ok (.getfield 42, 3) := by decide +kernel
theorem dX6_count_90 : decode cX6_count 90 = .ok (.getfield 258, 3) := by decide +kernel
theorem dX6_count_93 : decode cX6_count 93 = .ok (.ireturn, 1) := by decide +kernel
theorem dX6_count_94 : decode cX6_count 94 = .ok (.bipush (-2), 2) := by decide +kernel
theorem dX6_count_96 : decode cX6_count 96 = .ok (.ireturn, 1) := by decide +kernel
theorem dX6_isFunction_0 : decode cX6_isFunction 0 = .ok (.iload_n 0, 1) := by decide +kernel
theorem dX6_isFunction_1 : decode cX6_isFunction 1 = .ok (.ifCond .lt 13, 3) := by decide +kernel
theorem dX6_isFunction_4 : decode cX6_isFunction 4 = .ok (.iload_n 0, 1) := by decide +kernel
theorem dX6_isFunction_5 : decode cX6_isFunction 5 = .ok (.bipush 6, 2) := by decide +kernel
theorem dX6_isFunction_7 : decode cX6_isFunction 7 = .ok (.if_icmp .ge 7, 3) := by decide +kernel
theorem dX6_isFunction_10 : decode cX6_isFunction 10 = .ok (.iconst 1, 1) := by decide +kernel
theorem dX6_isFunction_11 : decode cX6_isFunction 11 = .ok (.goto 4, 3) := by decide +kernel
theorem dX6_isFunction_14 : decode cX6_isFunction 14 = .ok (.iconst 0, 1) := by decide +kernel
theorem dX6_isFunction_15 : decode cX6_isFunction 15 = .ok (.ireturn, 1) := by decide +kernel
theorem dX6_isBlock_0 : decode cX6_isBlock 0 = .ok (.iload_n 0, 1) := by decide +kernel
theorem dX6_isBlock_1 : decode cX6_isBlock 1 = .ok (.ifCond .lt 13, 3) := by decide +kernel
theorem dX6_isBlock_4 : decode cX6_isBlock 4 = .ok (.iload_n 0, 1) := by decide +kernel
theorem dX6_isBlock_5 : decode cX6_isBlock 5 = .ok (.bipush 6, 2) := by decide +kernel
theorem dX6_isBlock_7 : decode cX6_isBlock 7 = .ok (.if_icmp .ge 7, 3) := by decide +kernel
theorem dX6_isBlock_10 : decode cX6_isBlock 10 = .ok (.iconst 1, 1) := by decide +kernel
theorem dX6_isBlock_11 : decode cX6_isBlock 11 = .ok (.goto 4, 3) := by decide +kernel
theorem dX6_isBlock_14 : decode cX6_isBlock 14 = .ok (.iconst 0, 1) := by decide +kernel
theorem dX6_isBlock_15 : decode cX6_isBlock 15 = .ok (.ireturn, 1) := by decide +kernel
theorem dX6_isList_0 : decode cX6_isList 0 = .ok (.iload_n 0, 1) := by decide +kernel
theorem dX6_isList_1 : decode cX6_isList 1 = .ok (.ifCond .lt 12, 3) := by decide +kernel
theorem dX6_isList_4 : decode cX6_isList 4 = .ok (.iload_n 0, 1) := by decide +kernel
theorem dX6_isList_5 : decode cX6_isList 5 = .ok (.iconst 4, 1) := by decide +kernel
theorem dX6_isList_6 : decode cX6_isList 6 = .ok (.if_icmp .ge 7, 3) := by decide +kernel
theorem dX6_isList_9 : decode cX6_isList 9 = .ok (.iconst 1, 1) := by decide +kernel
theorem dX6_isList_10 : decode cX6_isList 10 = .ok (.goto 4, 3) := by decide +kernel
theorem dX6_isList_13 : decode cX6_isList 13 = .ok (.iconst 0, 1) := by decide +kernel
theorem dX6_isList_14 : decode cX6_isList 14 = .ok (.ireturn, 1) := by decide +kernel
theorem dX6_isValue_0 : decode cX6_isValue 0 = .ok (.iload_n 0, 1) := by decide +kernel
theorem dX6_isValue_1 : decode cX6_isValue 1 = .ok (.ldc_w 301, 3) := by decide +kernel
theorem dX6_isValue_4 : decode cX6_isValue 4 = .ok (.if_icmp .lt 14, 3) := by decide +kernel
theorem dX6_isValue_7 : decode cX6_isValue 7 = .ok (.iload_n 0, 1) := by decide +kernel
theorem dX6_isValue_8 : decode cX6_isValue 8 = .ok (.ldc_w 302, 3) := by decide +kernel
theorem dX6_isValue_11 : decode cX6_isValue 11 = .ok (.if_icmp .gt 7, 3) := by decide +kernel
theorem dX6_isValue_14 : decode cX6_isValue 14 = .ok (.iconst 1, 1) := by decide +kernel
theorem dX6_isValue_15 : decode cX6_isValue 15 = .ok (.goto 4, 3) := by decide +kernel
theorem dX6_isValue_18 : decode cX6_isValue 18 = .ok (.iconst 0, 1) := by decide +kernel
theorem dX6_isValue_19 : decode cX6_isValue 19 = .ok (.ireturn, 1) := by decide +kernel
theorem dX6_holds_0 : decode cX6_holds 0 = .ok (.iload_n 0, 1) := by decide +kernel
theorem dX6_holds_1 : decode cX6_holds 1 = .ok (.iload_n 1, 1) := by decide +kernel
theorem dX6_holds_2 : decode cX6_holds 2 = .ok (.ishr, 1) := by decide +kernel
theorem dX6_holds_3 : decode cX6_holds 3 = .ok (.iconst 1, 1) := by decide +kernel
theorem dX6_holds_4 : decode cX6_holds 4 = .ok (.iand, 1) := by decide +kernel
theorem dX6_holds_5 : decode cX6_holds 5 = .ok (.iconst 1, 1) := by decide +kernel
theorem dX6_holds_6 : decode cX6_holds 6 = .ok (.if_icmp .ne 7, 3) := by decide +kernel
theorem dX6_holds_9 : decode cX6_holds 9 = .ok (.iconst 1, 1) := by decide +kernel
theorem dX6_holds_10 : decode cX6_holds 10 = .ok (.goto 4, 3) := by decide +kernel
theorem dX6_holds_13 : decode cX6_holds 13 = .ok (.iconst 0, 1) := by decide +kernel
theorem dX6_holds_14 : decode cX6_holds 14 = .ok (.ireturn, 1) := by decide +kernel
theorem dX6_oneIf_0 : decode cX6_oneIf 0 = .ok (.iload_n 0, 1) := by decide +kernel
theorem dX6_oneIf_1 : decode cX6_oneIf 1 = .ok (.ifCond .eq 7, 3) := by decide +kernel
theorem dX6_oneIf_4 : decode cX6_oneIf 4 = .ok (.iconst 1, 1) := by decide +kernel
theorem dX6_oneIf_5 : decode cX6_oneIf 5 = .ok (.goto 4, 3) := by decide +kernel
theorem dX6_oneIf_8 : decode cX6_oneIf 8 = .ok (.iconst 0, 1) := by decide +kernel
theorem dX6_oneIf_9 : decode cX6_oneIf 9 = .ok (.ireturn, 1) := by decide +kernel
theorem dX6_nonZero_0 : decode cX6_nonZero 0 = .ok (.iconst 0, 1) := by decide +kernel
theorem dX6_nonZero_1 : decode cX6_nonZero 1 = .ok (.istore_n 1, 1) := by decide +kernel
theorem dX6_nonZero_2 : decode cX6_nonZero 2 = .ok (.aload_n 0, 1) := by decide +kernel
theorem dX6_nonZero_3 : decode cX6_nonZero 3 = .ok (.astore_n 2, 1) := by decide +kernel
theorem dX6_nonZero_4 : decode cX6_nonZero 4 = .ok (.aload_n 2, 1) := by decide +kernel
theorem dX6_nonZero_5 : decode cX6_nonZero 5 = .ok (.arraylength, 1) := by decide +kernel
theorem dX6_nonZero_6 : decode cX6_nonZero 6 = .ok (.istore_n 3, 1) := by decide +kernel
theorem dX6_nonZero_7 : decode cX6_nonZero 7 = .ok (.iconst 0, 1) := by decide +kernel
theorem dX6_nonZero_8 : decode cX6_nonZero 8 = .ok (.istore 4, 2) := by decide +kernel
theorem dX6_nonZero_10 : decode cX6_nonZero 10 = .ok (.iload 4, 2) := by decide +kernel
theorem dX6_nonZero_12 : decode cX6_nonZero 12 = .ok (.iload_n 3, 1) := by decide +kernel
theorem dX6_nonZero_13 : decode cX6_nonZero 13 = .ok (.if_icmp .ge 23, 3) := by decide +kernel
theorem dX6_nonZero_16 : decode cX6_nonZero 16 = .ok (.aload_n 2, 1) := by decide +kernel
theorem dX6_nonZero_17 : decode cX6_nonZero 17 = .ok (.iload 4, 2) := by decide +kernel
theorem dX6_nonZero_19 : decode cX6_nonZero 19 = .ok (.iaload, 1) := by decide +kernel
theorem dX6_nonZero_20 : decode cX6_nonZero 20 = .ok (.istore 5, 2) := by decide +kernel
theorem dX6_nonZero_22 : decode cX6_nonZero 22 = .ok (.iload 5, 2) := by decide +kernel
theorem dX6_nonZero_24 : decode cX6_nonZero 24 = .ok (.ifCond .eq 6, 3) := by decide +kernel
theorem dX6_nonZero_27 : decode cX6_nonZero 27 = .ok (.iinc 1 1, 3) := by decide +kernel
theorem dX6_nonZero_30 : decode cX6_nonZero 30 = .ok (.iinc 4 1, 3) := by decide +kernel
theorem dX6_nonZero_33 : decode cX6_nonZero 33 = .ok (.goto (-23), 3) := by decide +kernel
theorem dX6_nonZero_36 : decode cX6_nonZero 36 = .ok (.iload_n 1, 1) := by decide +kernel
theorem dX6_nonZero_37 : decode cX6_nonZero 37 = .ok (.ireturn, 1) := by decide +kernel
theorem dX6_allInRange_0 : decode cX6_allInRange 0 = .ok (.iconst 0, 1) := by decide +kernel
theorem dX6_allInRange_1 : decode cX6_allInRange 1 = .ok (.istore_n 2, 1) := by decide +kernel
theorem dX6_allInRange_2 : decode cX6_allInRange 2 = .ok (.iload_n 2, 1) := by decide +kernel
theorem dX6_allInRange_3 : decode cX6_allInRange 3 = .ok (.iload_n 1, 1) := by decide +kernel
theorem dX6_allInRange_4 : decode cX6_allInRange 4 = .ok (.if_icmp .ge 26, 3) := by decide +kernel
theorem dX6_allInRange_7 : decode cX6_allInRange 7 = .ok (.iload_n 2, 1) := by decide +kernel
theorem dX6_allInRange_8 : decode cX6_allInRange 8 = .ok (.aload_n 0, 1) := by decide +kernel
theorem dX6_allInRange_9 : decode cX6_allInRange 9 = .ok (.arraylength, 1) := by decide +kernel
theorem dX6_allInRange_10 : decode cX6_allInRange 10 = .ok (.if_icmp .ge 20, 3) := by decide +kernel
theorem dX6_allInRange_13 : decode cX6_allInRange 13 = .ok (.aload_n 0, 1) := by decide +kernel
theorem dX6_allInRange_14 : decode cX6_allInRange 14 = .ok (.iload_n 2, 1) := by decide +kernel
theorem dX6_allInRange_15 : decode cX6_allInRange 15 = .ok (.iaload, 1) := by decide +kernel
theorem dX6_allInRange_16 : decode cX6_allInRange 16 = .ok (.invokestatic 104, 3) := by decide +kernel
theorem dX6_allInRange_19 : decode cX6_allInRange 19 = .ok (.ifCond .ne 5, 3) := by decide +kernel
theorem dX6_allInRange_22 : decode cX6_allInRange 22 = .ok (.iconst 0, 1) := by decide +kernel
theorem dX6_allInRange_23 : decode cX6_allInRange 23 = .ok (.ireturn, 1) := by decide +kernel
theorem dX6_allInRange_24 : decode cX6_allInRange 24 = .ok (.iinc 2 1, 3) := by decide +kernel
theorem dX6_allInRange_27 : decode cX6_allInRange 27 = .ok (.goto (-25), 3) := by decide +kernel
theorem dX6_allInRange_30 : decode cX6_allInRange 30 = .ok (.iconst 1, 1) := by decide +kernel
theorem dX6_allInRange_31 : decode cX6_allInRange 31 = .ok (.ireturn, 1) := by decide +kernel
theorem dX6_isSubkind_0 : decode cX6_isSubkind 0 = .ok (.iload_n 0, 1) := by decide +kernel
theorem dX6_isSubkind_1 : decode cX6_isSubkind 1 = .ok (.istore_n 2, 1) := by decide +kernel
theorem dX6_isSubkind_2 : decode cX6_isSubkind 2 = .ok (.iconst 0, 1) := by decide +kernel
theorem dX6_isSubkind_3 : decode cX6_isSubkind 3 = .ok (.istore_n 3, 1) := by decide +kernel
theorem dX6_isSubkind_4 : decode cX6_isSubkind 4 = .ok (.iload_n 3, 1) := by decide +kernel
theorem dX6_isSubkind_5 : decode cX6_isSubkind 5 = .ok (.bipush 6, 2) := by decide +kernel
theorem dX6_isSubkind_7 : decode cX6_isSubkind 7 = .ok (.if_icmp .ge 32, 3) := by decide +kernel
theorem dX6_isSubkind_10 : decode cX6_isSubkind 10 = .ok (.iload_n 2, 1) := by decide +kernel
theorem dX6_isSubkind_11 : decode cX6_isSubkind 11 = .ok (.ifCond .lt 28, 3) := by decide +kernel
theorem dX6_isSubkind_14 : decode cX6_isSubkind 14 = .ok (.iload_n 2, 1) := by decide +kernel
theorem dX6_isSubkind_15 : decode cX6_isSubkind 15 = .ok (.bipush 6, 2) := by decide +kernel
theorem dX6_isSubkind_17 : decode cX6_isSubkind 17 = .ok (.if_icmp .ge 22, 3) := by decide +kernel
theorem dX6_isSubkind_20 : decode cX6_isSubkind 20 = .ok (.iload_n 2, 1) := by decide +kernel
theorem dX6_isSubkind_21 : decode cX6_isSubkind 21 = .ok (.iload_n 1, 1) := by decide +kernel
theorem dX6_isSubkind_22 : decode cX6_isSubkind 22 = .ok (.if_icmp .ne 5, 3) := by decide +kernel
theorem dX6_isSubkind_25 : decode cX6_isSubkind 25 = .ok (.iconst 1, 1) := by decide +kernel
theorem dX6_isSubkind_26 : decode cX6_isSubkind 26 = .ok (.ireturn, 1) := by decide +kernel
theorem dX6_isSubkind_27 : decode cX6_isSubkind 27 = .ok (.getstatic 303, 3) := by decide +kernel
theorem dX6_isSubkind_30 : decode cX6_isSubkind 30 = .ok (.iload_n 2, 1) := by decide +kernel
theorem dX6_isSubkind_31 : decode cX6_isSubkind 31 = .ok (.iaload, 1) := by decide +kernel
theorem dX6_isSubkind_32 : decode cX6_isSubkind 32 = .ok (.istore_n 2, 1) := by decide +kernel
theorem dX6_isSubkind_33 : decode cX6_isSubkind 33 = .ok (.iinc 3 1, 3) := by decide +kernel
theorem dX6_isSubkind_36 : decode cX6_isSubkind 36 = .ok (.goto (-32), 3) := by decide +kernel
theorem dX6_isSubkind_39 : decode cX6_isSubkind 39 = .ok (.iconst 0, 1) := by decide +kernel
theorem dX6_isSubkind_40 : decode cX6_isSubkind 40 = .ok (.ireturn, 1) := by decide +kernel
theorem dX6_errorOf_0 : decode cX6_errorOf 0 = .ok (.iload_n 1, 1) := by decide +kernel
theorem dX6_errorOf_1 : decode cX6_errorOf 1 = .ok (.invokestatic 101, 3) := by decide +kernel
theorem dX6_errorOf_4 : decode cX6_errorOf 4 = .ok (.ifCond .ne 5, 3) := by decide +kernel
theorem dX6_errorOf_7 : decode cX6_errorOf 7 = .ok (.iconst (-1), 1) := by decide +kernel
theorem dX6_errorOf_8 : decode cX6_errorOf 8 = .ok (.ireturn, 1) := by decide +kernel
theorem dX6_errorOf_9 : decode cX6_errorOf 9 = .ok (.aload_n 0, 1) := by decide +kernel
theorem dX6_errorOf_10 : decode cX6_errorOf 10 = .ok (.getfield 12, 3) := by decide +kernel
theorem dX6_errorOf_13 : decode cX6_errorOf 13 = .ok (.getfield 107, 3) := by decide +kernel
theorem dX6_errorOf_16 : decode cX6_errorOf 16 = .ok (.iload_n 1, 1) := by decide +kernel
theorem dX6_errorOf_17 : decode cX6_errorOf 17 = .ok (.aaload, 1) := by decide +kernel
theorem dX6_errorOf_18 : decode cX6_errorOf 18 = .ok (.invokevirtual 127, 3) := by decide +kernel
theorem dX6_errorOf_21 : decode cX6_errorOf 21 = .ok (.ifCond .eq 8, 3) := by decide +kernel
theorem dX6_errorOf_24 : decode cX6_errorOf 24 = .ok (.bipush (-11), 2) := by decide +kernel
theorem dX6_errorOf_26 : decode cX6_errorOf 26 = .ok (.goto 4, 3) := by decide +kernel
theorem dX6_errorOf_29 : decode cX6_errorOf 29 = .ok (.iconst 0, 1) := by decide +kernel
theorem dX6_errorOf_30 : decode cX6_errorOf 30 = .ok (.ireturn, 1) := by decide +kernel
theorem dX6_errorOfPair_0 : decode cX6_errorOfPair 0 = .ok (.iload_n 2, 1) := by decide +kernel
theorem dX6_errorOfPair_1 : decode cX6_errorOfPair 1 = .ok (.invokestatic 101, 3) := by decide +kernel
theorem dX6_errorOfPair_4 : decode cX6_errorOfPair 4 = .ok (.ifCond .eq 11, 3) := by decide +kernel
theorem dX6_errorOfPair_7 : decode cX6_errorOfPair 7 = .ok (.aload_n 0, 1) := by decide +kernel
theorem dX6_errorOfPair_8 : decode cX6_errorOfPair 8 = .ok (.iload_n 1, 1) := by decide +kernel
theorem dX6_errorOfPair_9 : decode cX6_errorOfPair 9 = .ok (.invokevirtual 154, 3) := by decide +kernel
theorem dX6_errorOfPair_12 : decode cX6_errorOfPair 12 = .ok (.goto 4, 3) := by decide +kernel
theorem dX6_errorOfPair_15 : decode cX6_errorOfPair 15 = .ok (.iconst (-1), 1) := by decide +kernel
theorem dX6_errorOfPair_16 : decode cX6_errorOfPair 16 = .ok (.ireturn, 1) := by decide +kernel
theorem dX6_errorOfChoice_0 : decode cX6_errorOfChoice 0 = .ok (.iload_n 2, 1) := by decide +kernel
theorem dX6_errorOfChoice_1 : decode cX6_errorOfChoice 1 = .ok (.ifCond .lt 8, 3) := by decide +kernel
theorem dX6_errorOfChoice_4 : decode cX6_errorOfChoice 4 = .ok (.iload_n 2, 1) := by decide +kernel
theorem dX6_errorOfChoice_5 : decode cX6_errorOfChoice 5 = .ok (.iconst 3, 1) := by decide +kernel
theorem dX6_errorOfChoice_6 : decode cX6_errorOfChoice 6 = .ok (.if_icmp .le 7, 3) := by decide +kernel
theorem dX6_errorOfChoice_9 : decode cX6_errorOfChoice 9 = .ok (.iconst (-1), 1) := by decide +kernel
theorem dX6_errorOfChoice_10 : decode cX6_errorOfChoice 10 = .ok (.goto 8, 3) := by decide +kernel
theorem dX6_errorOfChoice_13 : decode cX6_errorOfChoice 13 = .ok (.aload_n 0, 1) := by decide +kernel
theorem dX6_errorOfChoice_14 : decode cX6_errorOfChoice 14 = .ok (.iload_n 1, 1) := by decide +kernel
theorem dX6_errorOfChoice_15 : decode cX6_errorOfChoice 15 = .ok (.invokevirtual 154, 3) := by decide +kernel
theorem dX6_errorOfChoice_18 : decode cX6_errorOfChoice 18 = .ok (.ireturn, 1) := by decide +kernel
theorem dX6_setFromData_0 : decode cX6_setFromData 0 = .ok (.iconst 0, 1) := by decide +kernel
theorem dX6_setFromData_1 : decode cX6_setFromData 1 = .ok (.istore 4, 2) := by decide +kernel
theorem dX6_setFromData_3 : decode cX6_setFromData 3 = .ok (.iload 4, 2) := by decide +kernel
theorem dX6_setFromData_5 : decode cX6_setFromData 5 = .ok (.aload_n 0, 1) := by decide +kernel
theorem dX6_setFromData_6 : decode cX6_setFromData 6 = .ok (.getfield 12, 3) := by decide +kernel
theorem dX6_setFromData_9 : decode cX6_setFromData 9 = .ok (.invokevirtual 131, 3) := by decide +kernel
theorem dX6_setFromData_12 : decode cX6_setFromData 12 = .ok (.if_icmp .ge 26, 3) := by decide +kernel
theorem dX6_setFromData_15 : decode cX6_setFromData 15 = .ok (.aload_n 0, 1) := by decide +kernel
theorem dX6_setFromData_16 : decode cX6_setFromData 16 = .ok (.getfield 53, 3) := by decide +kernel
theorem dX6_setFromData_19 : decode cX6_setFromData 19 = .ok (.iload 4, 2) := by decide +kernel
theorem dX6_setFromData_21 : decode cX6_setFromData 21 = .ok (.aload_n 0, 1) := by decide +kernel
theorem dX6_setFromData_22 : decode cX6_setFromData 22 = .ok (.getfield 12, 3) := by decide +kernel
theorem dX6_setFromData_25 : decode cX6_setFromData 25 = .ok (.iload_n 2, 1) := by decide +kernel
theorem dX6_setFromData_26 : decode cX6_setFromData 26 = .ok (.iload 4, 2) := by decide +kernel
theorem dX6_setFromData_28 : decode cX6_setFromData 28 = .ok (.invokevirtual 306, 3) := by decide +kernel
theorem dX6_setFromData_31 : decode cX6_setFromData 31 = .ok (.iastore, 1) := by decide +kernel
theorem dX6_setFromData_32 : decode cX6_setFromData 32 = .ok (.iinc 4 1, 3) := by decide +kernel
theorem dX6_setFromData_35 : decode cX6_setFromData 35 = .ok (.goto (-32), 3) := by decide +kernel
theorem dX6_setFromData_38 : decode cX6_setFromData 38 = .ok (.aload_n 0, 1) := by decide +kernel
theorem dX6_setFromData_39 : decode cX6_setFromData 39 = .ok (.iload_n 1, 1) := by decide +kernel
theorem dX6_setFromData_40 : decode cX6_setFromData 40 = .ok (.iload_n 2, 1) := by decide +kernel
theorem dX6_setFromData_41 : decode cX6_setFromData 41 = .ok (.invokevirtual 286, 3) := by decide +kernel
theorem dX6_setFromData_44 : decode cX6_setFromData 44 = .ok (.aload_n 0, 1) := by decide +kernel
theorem dX6_setFromData_45 : decode cX6_setFromData 45 = .ok (.getfield 53, 3) := by decide +kernel
theorem dX6_setFromData_48 : decode cX6_setFromData 48 = .ok (.iload_n 3, 1) := by decide +kernel
theorem dX6_setFromData_49 : decode cX6_setFromData 49 = .ok (.iaload, 1) := by decide +kernel
theorem dX6_setFromData_50 : decode cX6_setFromData 50 = .ok (.ireturn, 1) := by decide +kernel
theorem dX6_leastOverSubsets_0 : decode cX6_leastOverSubsets 0 = .ok (.aload_n 1, 1) := by decide +kernel
theorem dX6_leastOverSubsets_1 : decode cX6_leastOverSubsets 1 = .ok (.iload_n 2, 1) := by decide +kernel
theorem dX6_leastOverSubsets_2 : decode cX6_leastOverSubsets 2 = .ok (.iaload, 1) := by decide +kernel
theorem dX6_leastOverSubsets_3 : decode cX6_leastOverSubsets 3 = .ok (.istore_n 3, 1) := by decide +kernel
theorem dX6_leastOverSubsets_4 : decode cX6_leastOverSubsets 4 = .ok (.iconst 0, 1) := by decide +kernel
theorem dX6_leastOverSubsets_5 : decode cX6_leastOverSubsets 5 = .ok (.istore 4, 2) := by decide +kernel
theorem dX6_leastOverSubsets_7 : decode cX6_leastOverSubsets 7 = .ok (.iload 4, 2) := by decide +kernel
theorem dX6_leastOverSubsets_9 : decode cX6_leastOverSubsets 9 = .ok (.iload_n 2, 1) := by decide +kernel
theorem dX6_leastOverSubsets_10 : decode cX6_leastOverSubsets 10 = .ok (.if_icmp .ge 39, 3) := by decide +kernel
theorem dX6_leastOverSubsets_13 : decode cX6_leastOverSubsets 13 = .ok (.iload 4, 2) := by decide +kernel
theorem dX6_leastOverSubsets_15 : decode cX6_leastOverSubsets 15 = .ok (.iload_n 2, 1) := by decide +kernel
theorem dX6_leastOverSubsets_16 : decode cX6_leastOverSubsets 16 = .ok (.iconst (-1), 1) := by decide +kernel
theorem dX6_leastOverSubsets_17 : decode cX6_leastOverSubsets 17 = .ok (.ixor, 1) := by decide +kernel
theorem dX6_leastOverSubsets_18 : decode cX6_leastOverSubsets 18 = .ok (.iand, 1) := by decide +kernel
theorem dX6_leastOverSubsets_19 : decode cX6_leastOverSubsets 19 = .ok (.ifCond .ne 24, 3) := by decide +kernel
theorem dX6_leastOverSubsets_22 : decode cX6_leastOverSubsets 22 = .ok (.iload_n 3, 1) := by decide +kernel
theorem dX6_leastOverSubsets_23 : decode cX6_leastOverSubsets 23 = .ok (.aload_n 1, 1) := by decide +kernel
theorem dX6_leastOverSubsets_24 : decode cX6_leastOverSubsets 24 = .ok (.iload 4, 2) := by decide +kernel
theorem dX6_leastOverSubsets_26 : decode cX6_leastOverSubsets 26 = .ok (.iaload, 1) := by decide +kernel
theorem dX6_leastOverSubsets_27 : decode cX6_leastOverSubsets 27 = .ok (.aload_n 0, 1) := by decide +kernel
theorem dX6_leastOverSubsets_28 : decode cX6_leastOverSubsets 28 = .ok (.getfield 57, 3) := by decide +kernel
theorem dX6_leastOverSubsets_31 : decode cX6_leastOverSubsets 31 = .ok (.iload_n 2, 1) := by decide +kernel
theorem dX6_leastOverSubsets_32 : decode cX6_leastOverSubsets 32 = .ok (.iload 4, 2) := by decide +kernel
theorem dX6_leastOverSubsets_34 : decode cX6_leastOverSubsets 34 = .ok (.iconst (-1), 1) := by decide +kernel
theorem dX6_leastOverSubsets_35 : decode cX6_leastOverSubsets 35 = .ok (.ixor, 1) := by decide +kernel
theorem dX6_leastOverSubsets_36 : decode cX6_leastOverSubsets 36 = .ok (.iand, 1) := by decide +kernel
theorem dX6_leastOverSubsets_37 : decode cX6_leastOverSubsets 37 = .ok (.iaload, 1) := by decide +kernel
theorem dX6_leastOverSubsets_38 : decode cX6_leastOverSubsets 38 = .ok (.iadd, 1) := by decide +kernel
theorem dX6_leastOverSubsets_39 : decode cX6_leastOverSubsets 39 = .ok (.invokestatic 149, 3) := by decide +kernel
theorem dX6_leastOverSubsets_42 : decode cX6_leastOverSubsets 42 = .ok (.istore_n 3, 1) := by decide +kernel
theorem dX6_leastOverSubsets_43 : decode cX6_leastOverSubsets 43 = .ok (.iinc 4 1, 3) := by decide +kernel
theorem dX6_leastOverSubsets_46 : decode cX6_leastOverSubsets 46 = .ok (.goto (-39), 3) := by decide +kernel
theorem dX6_leastOverSubsets_49 : decode cX6_leastOverSubsets 49 = .ok (.iload_n 3, 1) := by decide +kernel
theorem dX6_leastOverSubsets_50 : decode cX6_leastOverSubsets 50 = .ok (.ireturn, 1) := by decide +kernel
theorem dX6_settleIfInRange_0 : decode cX6_settleIfInRange 0 = .ok (.aload_n 0, 1) := by decide +kernel
theorem dX6_settleIfInRange_1 : decode cX6_settleIfInRange 1 = .ok (.getfield 53, 3) := by decide +kernel
theorem dX6_settleIfInRange_4 : decode cX6_settleIfInRange 4 = .ok (.aload_n 0, 1) := by decide +kernel
theorem dX6_settleIfInRange_5 : decode cX6_settleIfInRange 5 = .ok (.getfield 12, 3) := by decide +kernel
theorem dX6_settleIfInRange_8 : decode cX6_settleIfInRange 8 = .ok (.invokevirtual 131, 3) := by decide +kernel
theorem dX6_settleIfInRange_11 : decode cX6_settleIfInRange 11 = .ok (.invokestatic 282, 3) := by decide +kernel
theorem dX6_settleIfInRange_14 : decode cX6_settleIfInRange 14 = .ok (.ifCond .ne 6, 3) := by decide +kernel
theorem dX6_settleIfInRange_17 : decode cX6_settleIfInRange 17 = .ok (.bipush (-3), 2) := by decide +kernel
theorem dX6_settleIfInRange_19 : decode cX6_settleIfInRange 19 = .ok (.ireturn, 1) := by decide +kernel
theorem dX6_settleIfInRange_20 : decode cX6_settleIfInRange 20 = .ok (.aload_n 0, 1) := by decide +kernel
theorem dX6_settleIfInRange_21 : decode cX6_settleIfInRange 21 = .ok (.iload_n 1, 1) := by decide +kernel
theorem dX6_settleIfInRange_22 : decode cX6_settleIfInRange 22 = .ok (.iconst 5, 1) := by decide +kernel
theorem dX6_settleIfInRange_23 : decode cX6_settleIfInRange 23 = .ok (.invokevirtual 286, 3) := by decide +kernel
theorem dX6_settleIfInRange_26 : decode cX6_settleIfInRange 26 = .ok (.iconst 1, 1) := by decide +kernel
theorem dX6_settleIfInRange_27 : decode cX6_settleIfInRange 27 = .ok (.ireturn, 1) := by decide +kernel
theorem dX6_settle_0 : decode cX6_settle 0 = .ok (.aload_n 0, 1) := by decide +kernel
theorem dX6_settle_1 : decode cX6_settle 1 = .ok (.getfield 12, 3) := by decide +kernel
theorem dX6_settle_4 : decode cX6_settle 4 = .ok (.getfield 107, 3) := by decide +kernel
theorem dX6_settle_7 : decode cX6_settle 7 = .ok (.iload_n 1, 1) := by decide +kernel
theorem dX6_settle_8 : decode cX6_settle 8 = .ok (.aaload, 1) := by decide +kernel
theorem dX6_settle_9 : decode cX6_settle 9 = .ok (.astore_n 3, 1) := by decide +kernel
theorem dX6_settle_10 : decode cX6_settle 10 = .ok (.aload_n 0, 1) := by decide +kernel
theorem dX6_settle_11 : decode cX6_settle 11 = .ok (.getfield 53, 3) := by decide +kernel
theorem dX6_settle_14 : decode cX6_settle 14 = .ok (.iconst 0, 1) := by decide +kernel
theorem dX6_settle_15 : decode cX6_settle 15 = .ok (.aload_n 3, 1) := by decide +kernel
theorem dX6_settle_16 : decode cX6_settle 16 = .ok (.getfield 111, 3) := by decide +kernel
theorem dX6_settle_19 : decode cX6_settle 19 = .ok (.iconst 0, 1) := by decide +kernel
theorem dX6_settle_20 : decode cX6_settle 20 = .ok (.aload_n 0, 1) := by decide +kernel
theorem dX6_settle_21 : decode cX6_settle 21 = .ok (.getfield 12, 3) := by decide +kernel
theorem dX6_settle_24 : decode cX6_settle 24 = .ok (.invokevirtual 131, 3) := by decide +kernel
theorem dX6_settle_27 : decode cX6_settle 27 = .ok (.invokestatic 309, 3) := by decide +kernel
theorem dX6_settle_30 : decode cX6_settle 30 = .ok (.aload_n 3, 1) := by decide +kernel
theorem dX6_settle_31 : decode cX6_settle 31 = .ok (.iload_n 2, 1) := by decide +kernel
theorem dX6_settle_32 : decode cX6_settle 32 = .ok (.putfield 116, 3) := by decide +kernel
theorem dX6_settle_35 : decode cX6_settle 35 = .ok (.return_, 1) := by decide +kernel
theorem dX6_factorial_0 : decode cX6_factorial 0 = .ok (.iconst 1, 1) := by decide +kernel
theorem dX6_factorial_1 : decode cX6_factorial 1 = .ok (.istore_n 1, 1) := by decide +kernel
theorem dX6_factorial_2 : decode cX6_factorial 2 = .ok (.iconst 2, 1) := by decide +kernel
theorem dX6_factorial_3 : decode cX6_factorial 3 = .ok (.istore_n 2, 1) := by decide +kernel
theorem dX6_factorial_4 : decode cX6_factorial 4 = .ok (.iload_n 2, 1) := by decide +kernel
theorem dX6_factorial_5 : decode cX6_factorial 5 = .ok (.iload_n 0, 1) := by decide +kernel
theorem dX6_factorial_6 : decode cX6_factorial 6 = .ok (.if_icmp .gt 13, 3) := by decide +kernel
theorem dX6_factorial_9 : decode cX6_factorial 9 = .ok (.iload_n 1, 1) := by decide +kernel
theorem dX6_factorial_10 : decode cX6_factorial 10 = .ok (.iload_n 2, 1) := by decide +kernel
theorem dX6_factorial_11 : decode cX6_factorial 11 = .ok (.imul, 1) := by decide +kernel
theorem dX6_factorial_12 : decode cX6_factorial 12 = .ok (.istore_n 1, 1) := by decide +kernel
theorem dX6_factorial_13 : decode cX6_factorial 13 = .ok (.iinc 2 1, 3) := by decide +kernel
theorem dX6_factorial_16 : decode cX6_factorial 16 = .ok (.goto (-12), 3) := by decide +kernel
theorem dX6_factorial_19 : decode cX6_factorial 19 = .ok (.iload_n 1, 1) := by decide +kernel
theorem dX6_factorial_20 : decode cX6_factorial 20 = .ok (.ireturn, 1) := by decide +kernel
theorem dX6_isOrder_0 : decode cX6_isOrder 0 = .ok (.iload_n 1, 1) := by decide +kernel
theorem dX6_isOrder_1 : decode cX6_isOrder 1 = .ok (.ifCond .lt 21, 3) := by decide +kernel
theorem dX6_isOrder_4 : decode cX6_isOrder 4 = .ok (.iload_n 1, 1) := by decide +kernel
theorem dX6_isOrder_5 : decode cX6_isOrder 5 = .ok (.aload_n 0, 1) := by decide +kernel
theorem dX6_isOrder_6 : decode cX6_isOrder 6 = .ok (.getfield 12, 3) := by decide +kernel
theorem dX6_isOrder_9 : decode cX6_isOrder 9 = .ok (.getfield 63, 3) := by decide +kernel
theorem dX6_isOrder_12 : decode cX6_isOrder 12 = .ok (.invokestatic 315, 3) := by decide +kernel
theorem dX6_isOrder_15 : decode cX6_isOrder 15 = .ok (.if_icmp .ge 7, 3) := by decide +kernel
theorem dX6_isOrder_18 : decode cX6_isOrder 18 = .ok (.iconst 1, 1) := by decide +kernel
theorem dX6_isOrder_19 : decode cX6_isOrder 19 = .ok (.goto 4, 3) := by decide +kernel
theorem dX6_isOrder_22 : decode cX6_isOrder 22 = .ok (.iconst 0, 1) := by decide +kernel
theorem dX6_isOrder_23 : decode cX6_isOrder 23 = .ok (.ireturn, 1) := by decide +kernel
theorem dX6_unrank_0 : decode cX6_unrank 0 = .ok (.iload_n 1, 1) := by decide +kernel
theorem dX6_unrank_1 : decode cX6_unrank 1 = .ok (.istore_n 2, 1) := by decide +kernel
theorem dX6_unrank_2 : decode cX6_unrank 2 = .ok (.iconst 0, 1) := by decide +kernel
theorem dX6_unrank_3 : decode cX6_unrank 3 = .ok (.istore_n 3, 1) := by decide +kernel
theorem dX6_unrank_4 : decode cX6_unrank 4 = .ok (.iconst 0, 1) := by decide +kernel
theorem dX6_unrank_5 : decode cX6_unrank 5 = .ok (.istore 4, 2) := by decide +kernel
theorem dX6_unrank_7 : decode cX6_unrank 7 = .ok (.iload 4, 2) := by decide +kernel
theorem dX6_unrank_9 : decode cX6_unrank 9 = .ok (.aload_n 0, 1) := by decide +kernel
theorem dX6_unrank_10 : decode cX6_unrank 10 = .ok (.getfield 12, 3) := by decide +kernel
theorem dX6_unrank_13 : decode cX6_unrank 13 = .ok (.getfield 63, 3) := by decide +kernel
theorem dX6_unrank_16 : decode cX6_unrank 16 = .ok (.if_icmp .ge 100, 3) := by decide +kernel
theorem dX6_unrank_19 : decode cX6_unrank 19 = .ok (.aload_n 0, 1) := by decide +kernel
theorem dX6_unrank_20 : decode cX6_unrank 20 = .ok (.getfield 12, 3) := by decide +kernel
theorem dX6_unrank_23 : decode cX6_unrank 23 = .ok (.getfield 63, 3) := by decide +kernel
theorem dX6_unrank_26 : decode cX6_unrank 26 = .ok (.iconst 1, 1) := by decide +kernel
theorem dX6_unrank_27 : decode cX6_unrank 27 = .ok (.isub, 1) := by decide +kernel
theorem dX6_unrank_28 : decode cX6_unrank 28 = .ok (.iload 4, 2) := by decide +kernel
theorem dX6_unrank_30 : decode cX6_unrank 30 = .ok (.isub, 1) := by decide +kernel
theorem dX6_unrank_31 : decode cX6_unrank 31 = .ok (.invokestatic 315, 3) := by decide +kernel
theorem dX6_unrank_34 : decode cX6_unrank 34 = .ok (.istore 5, 2) := by decide +kernel
theorem dX6_unrank_36 : decode cX6_unrank 36 = .ok (.iconst 0, 1) := by decide +kernel
theorem dX6_unrank_37 : decode cX6_unrank 37 = .ok (.istore 6, 2) := by decide +kernel
theorem dX6_unrank_39 : decode cX6_unrank 39 = .ok (.iconst 0, 1) := by decide +kernel
theorem dX6_unrank_40 : decode cX6_unrank 40 = .ok (.istore 7, 2) := by decide +kernel
theorem dX6_unrank_42 : decode cX6_unrank 42 = .ok (.iload 7, 2) := by decide +kernel
theorem dX6_unrank_44 : decode cX6_unrank 44 = .ok (.aload_n 0, 1) := by decide +kernel
theorem dX6_unrank_45 : decode cX6_unrank 45 = .ok (.getfield 12, 3) := by decide +kernel
theorem dX6_unrank_48 : decode cX6_unrank 48 = .ok (.getfield 63, 3) := by decide +kernel
theorem dX6_unrank_51 : decode cX6_unrank 51 = .ok (.if_icmp .ge 59, 3) := by decide +kernel
theorem dX6_unrank_54 : decode cX6_unrank 54 = .ok (.iload 6, 2) := by decide +kernel
theorem dX6_unrank_56 : decode cX6_unrank 56 = .ok (.ifCond .ne 54, 3) := by decide +kernel
theorem dX6_unrank_59 : decode cX6_unrank 59 = .ok (.iload_n 3, 1) := by decide +kernel
theorem dX6_unrank_60 : decode cX6_unrank 60 = .ok (.iload 7, 2) := by decide +kernel
theorem dX6_unrank_62 : decode cX6_unrank 62 = .ok (.invokestatic 181, 3) := by decide +kernel
theorem dX6_unrank_65 : decode cX6_unrank 65 = .ok (.ifCond .eq 6, 3) := by decide +kernel
theorem dX6_unrank_68 : decode cX6_unrank 68 = .ok (.goto 36, 3) := by decide +kernel
theorem dX6_unrank_71 : decode cX6_unrank 71 = .ok (.iload_n 2, 1) := by decide +kernel
theorem dX6_unrank_72 : decode cX6_unrank 72 = .ok (.iload 5, 2) := by decide +kernel
theorem dX6_unrank_74 : decode cX6_unrank 74 = .ok (.if_icmp .ge 25, 3) := by decide +kernel
theorem dX6_unrank_77 : decode cX6_unrank 77 = .ok (.aload_n 0, 1) := by decide +kernel
theorem dX6_unrank_78 : decode cX6_unrank 78 = .ok (.getfield 60, 3) := by decide +kernel
theorem dX6_unrank_81 : decode cX6_unrank 81 = .ok (.iload 4, 2) := by decide +kernel
theorem dX6_unrank_83 : decode cX6_unrank 83 = .ok (.iload 7, 2) := by decide +kernel
theorem dX6_unrank_85 : decode cX6_unrank 85 = .ok (.iastore, 1) := by decide +kernel
theorem dX6_unrank_86 : decode cX6_unrank 86 = .ok (.iload_n 3, 1) := by decide +kernel
theorem dX6_unrank_87 : decode cX6_unrank 87 = .ok (.iconst 1, 1) := by decide +kernel
theorem dX6_unrank_88 : decode cX6_unrank 88 = .ok (.iload 7, 2) := by decide +kernel
theorem dX6_unrank_90 : decode cX6_unrank 90 = .ok (.ishl, 1) := by decide +kernel
theorem dX6_unrank_91 : decode cX6_unrank 91 = .ok (.ior, 1) := by decide +kernel
theorem dX6_unrank_92 : decode cX6_unrank 92 = .ok (.istore_n 3, 1) := by decide +kernel
theorem dX6_unrank_93 : decode cX6_unrank 93 = .ok (.iconst 1, 1) := by decide +kernel
theorem dX6_unrank_94 : decode cX6_unrank 94 = .ok (.istore 6, 2) := by decide +kernel
theorem dX6_unrank_96 : decode cX6_unrank 96 = .ok (.goto 8, 3) := by decide +kernel
theorem dX6_unrank_99 : decode cX6_unrank 99 = .ok (.iload_n 2, 1) := by decide +kernel
theorem dX6_unrank_100 : decode cX6_unrank 100 = .ok (.iload 5, 2) := by decide +kernel
theorem dX6_unrank_102 : decode cX6_unrank 102 = .ok (.isub, 1) := by decide +kernel
theorem dX6_unrank_103 : decode cX6_unrank 103 = .ok (.istore_n 2, 1) := by decide +kernel
theorem dX6_unrank_104 : decode cX6_unrank 104 = .ok (.iinc 7 1, 3) := by decide +kernel
theorem dX6_unrank_107 : decode cX6_unrank 107 = .ok (.goto (-65), 3) := by decide +kernel
theorem dX6_unrank_110 : decode cX6_unrank 110 = .ok (.iinc 4 1, 3) := by decide +kernel
theorem dX6_unrank_113 : decode cX6_unrank 113 = .ok (.goto (-106), 3) := by decide +kernel
theorem dX6_unrank_116 : decode cX6_unrank 116 = .ok (.return_, 1) := by decide +kernel
theorem dX6_obey_0 : decode cX6_obey 0 = .ok (.aload_n 0, 1) := by decide +kernel
theorem dX6_obey_1 : decode cX6_obey 1 = .ok (.getfield 35, 3) := by decide +kernel
theorem dX6_obey_4 : decode cX6_obey 4 = .ok (.iload_n 1, 1) := by decide +kernel
theorem dX6_obey_5 : decode cX6_obey 5 = .ok (.iconst 0, 1) := by decide +kernel
theorem dX6_obey_6 : decode cX6_obey 6 = .ok (.invokevirtual 318, 3) := by decide +kernel
theorem dX6_obey_9 : decode cX6_obey 9 = .ok (.istore_n 2, 1) := by decide +kernel
theorem dX6_obey_10 : decode cX6_obey 10 = .ok (.aload_n 0, 1) := by decide +kernel
theorem dX6_obey_11 : decode cX6_obey 11 = .ok (.getfield 35, 3) := by decide +kernel
theorem dX6_obey_14 : decode cX6_obey 14 = .ok (.iload_n 1, 1) := by decide +kernel
theorem dX6_obey_15 : decode cX6_obey 15 = .ok (.iconst 1, 1) := by decide +kernel
theorem dX6_obey_16 : decode cX6_obey 16 = .ok (.invokevirtual 318, 3) := by decide +kernel
theorem dX6_obey_19 : decode cX6_obey 19 = .ok (.istore_n 3, 1) := by decide +kernel
theorem dX6_obey_20 : decode cX6_obey 20 = .ok (.aload_n 0, 1) := by decide +kernel
theorem dX6_obey_21 : decode cX6_obey 21 = .ok (.getfield 35, 3) := by decide +kernel
theorem dX6_obey_24 : decode cX6_obey 24 = .ok (.iload_n 1, 1) := by decide +kernel
theorem dX6_obey_25 : decode cX6_obey 25 = .ok (.iconst 2, 1) := by decide +kernel
theorem dX6_obey_26 : decode cX6_obey 26 = .ok (.invokevirtual 318, 3) := by decide +kernel
theorem dX6_obey_29 : decode cX6_obey 29 = .ok (.istore 4, 2) := by decide +kernel
theorem dX6_obey_31 : decode cX6_obey 31 = .ok (.aload_n 0, 1) := by decide +kernel
theorem dX6_obey_32 : decode cX6_obey 32 = .ok (.getfield 35, 3) := by decide +kernel
theorem dX6_obey_35 : decode cX6_obey 35 = .ok (.getfield 321, 3) := by decide +kernel
theorem dX6_obey_38 : decode cX6_obey 38 = .ok (.iload_n 1, 1) := by decide +kernel
theorem dX6_obey_39 : decode cX6_obey 39 = .ok (.iaload, 1) := by decide +kernel
theorem dX6_obey_40 : decode cX6_obey 40 = .ok (.tableswitch 230 0 10 #[60, 77, 94, 109, 124, 142, 156, 170, 184, 198, 215], 60) := by decide +kernel
theorem dX6_obey_100 : decode cX6_obey 100 = .ok (.aload_n 0, 1) := by decide +kernel
theorem dX6_obey_101 : decode cX6_obey 101 = .ok (.iload_n 2, 1) := by decide +kernel
theorem dX6_obey_102 : decode cX6_obey 102 = .ok (.iload_n 3, 1) := by decide +kernel
theorem dX6_obey_103 : decode cX6_obey 103 = .ok (.iload 4, 2) := by decide +kernel
theorem dX6_obey_105 : decode cX6_obey 105 = .ok (.invokevirtual 324, 3) := by decide +kernel
theorem dX6_obey_108 : decode cX6_obey 108 = .ok (.ifCond .lt 7, 3) := by decide +kernel
theorem dX6_obey_111 : decode cX6_obey 111 = .ok (.iconst 1, 1) := by decide +kernel
theorem dX6_obey_112 : decode cX6_obey 112 = .ok (.goto 4, 3) := by decide +kernel
theorem dX6_obey_115 : decode cX6_obey 115 = .ok (.iconst 0, 1) := by decide +kernel
theorem dX6_obey_116 : decode cX6_obey 116 = .ok (.ireturn, 1) := by decide +kernel
theorem dX6_obey_117 : decode cX6_obey 117 = .ok (.aload_n 0, 1) := by decide +kernel
theorem dX6_obey_118 : decode cX6_obey 118 = .ok (.iload_n 2, 1) := by decide +kernel
theorem dX6_obey_119 : decode cX6_obey 119 = .ok (.iload_n 3, 1) := by decide +kernel
theorem dX6_obey_120 : decode cX6_obey 120 = .ok (.iload 4, 2) := by decide +kernel
theorem dX6_obey_122 : decode cX6_obey 122 = .ok (.invokevirtual 327, 3) := by decide +kernel
theorem dX6_obey_125 : decode cX6_obey 125 = .ok (.ifCond .lt 7, 3) := by decide +kernel
theorem dX6_obey_128 : decode cX6_obey 128 = .ok (.iconst 1, 1) := by decide +kernel
theorem dX6_obey_129 : decode cX6_obey 129 = .ok (.goto 4, 3) := by decide +kernel
theorem dX6_obey_132 : decode cX6_obey 132 = .ok (.iconst 0, 1) := by decide +kernel
theorem dX6_obey_133 : decode cX6_obey 133 = .ok (.ireturn, 1) := by decide +kernel
theorem dX6_obey_134 : decode cX6_obey 134 = .ok (.aload_n 0, 1) := by decide +kernel
theorem dX6_obey_135 : decode cX6_obey 135 = .ok (.iload_n 2, 1) := by decide +kernel
theorem dX6_obey_136 : decode cX6_obey 136 = .ok (.iload_n 3, 1) := by decide +kernel
theorem dX6_obey_137 : decode cX6_obey 137 = .ok (.invokevirtual 330, 3) := by decide +kernel
theorem dX6_obey_140 : decode cX6_obey 140 = .ok (.ifCond .lt 7, 3) := by decide +kernel
theorem dX6_obey_143 : decode cX6_obey 143 = .ok (.iconst 1, 1) := by decide +kernel
theorem dX6_obey_144 : decode cX6_obey 144 = .ok (.goto 4, 3) := by decide +kernel
theorem dX6_obey_147 : decode cX6_obey 147 = .ok (.iconst 0, 1) := by decide +kernel
theorem dX6_obey_148 : decode cX6_obey 148 = .ok (.ireturn, 1) := by decide +kernel
theorem dX6_obey_149 : decode cX6_obey 149 = .ok (.aload_n 0, 1) := by decide +kernel
theorem dX6_obey_150 : decode cX6_obey 150 = .ok (.iload_n 2, 1) := by decide +kernel
theorem dX6_obey_151 : decode cX6_obey 151 = .ok (.iload_n 3, 1) := by decide +kernel
theorem dX6_obey_152 : decode cX6_obey 152 = .ok (.invokevirtual 333, 3) := by decide +kernel
theorem dX6_obey_155 : decode cX6_obey 155 = .ok (.ifCond .lt 7, 3) := by decide +kernel
theorem dX6_obey_158 : decode cX6_obey 158 = .ok (.iconst 1, 1) := by decide +kernel
theorem dX6_obey_159 : decode cX6_obey 159 = .ok (.goto 4, 3) := by decide +kernel
theorem dX6_obey_162 : decode cX6_obey 162 = .ok (.iconst 0, 1) := by decide +kernel
theorem dX6_obey_163 : decode cX6_obey 163 = .ok (.ireturn, 1) := by decide +kernel
theorem dX6_obey_164 : decode cX6_obey 164 = .ok (.aload_n 0, 1) := by decide +kernel
theorem dX6_obey_165 : decode cX6_obey 165 = .ok (.iload_n 2, 1) := by decide +kernel
theorem dX6_obey_166 : decode cX6_obey 166 = .ok (.iload_n 3, 1) := by decide +kernel
theorem dX6_obey_167 : decode cX6_obey 167 = .ok (.invokevirtual 336, 3) := by decide +kernel
theorem dX6_obey_170 : decode cX6_obey 170 = .ok (.ldc_w 301, 3) := by decide +kernel
theorem dX6_obey_173 : decode cX6_obey 173 = .ok (.if_icmp .lt 7, 3) := by decide +kernel
theorem dX6_obey_176 : decode cX6_obey 176 = .ok (.iconst 1, 1) := by decide +kernel
theorem dX6_obey_177 : decode cX6_obey 177 = .ok (.goto 4, 3) := by decide +kernel
theorem dX6_obey_180 : decode cX6_obey 180 = .ok (.iconst 0, 1) := by decide +kernel
theorem dX6_obey_181 : decode cX6_obey 181 = .ok (.ireturn, 1) := by decide +kernel
theorem dX6_obey_182 : decode cX6_obey 182 = .ok (.aload_n 0, 1) := by decide +kernel
theorem dX6_obey_183 : decode cX6_obey 183 = .ok (.iload_n 2, 1) := by decide +kernel
theorem dX6_obey_184 : decode cX6_obey 184 = .ok (.invokevirtual 339, 3) := by decide +kernel
theorem dX6_obey_187 : decode cX6_obey 187 = .ok (.ifCond .lt 7, 3) := by decide +kernel
theorem dX6_obey_190 : decode cX6_obey 190 = .ok (.iconst 1, 1) := by decide +kernel
theorem dX6_obey_191 : decode cX6_obey 191 = .ok (.goto 4, 3) := by decide +kernel
theorem dX6_obey_194 : decode cX6_obey 194 = .ok (.iconst 0, 1) := by decide +kernel
theorem dX6_obey_195 : decode cX6_obey 195 = .ok (.ireturn, 1) := by decide +kernel
theorem dX6_obey_196 : decode cX6_obey 196 = .ok (.aload_n 0, 1) := by decide +kernel
theorem dX6_obey_197 : decode cX6_obey 197 = .ok (.iload_n 2, 1) := by decide +kernel
theorem dX6_obey_198 : decode cX6_obey 198 = .ok (.invokevirtual 342, 3) := by decide +kernel
theorem dX6_obey_201 : decode cX6_obey 201 = .ok (.ifCond .lt 7, 3) := by decide +kernel
theorem dX6_obey_204 : decode cX6_obey 204 = .ok (.iconst 1, 1) := by decide +kernel
theorem dX6_obey_205 : decode cX6_obey 205 = .ok (.goto 4, 3) := by decide +kernel
theorem dX6_obey_208 : decode cX6_obey 208 = .ok (.iconst 0, 1) := by decide +kernel
theorem dX6_obey_209 : decode cX6_obey 209 = .ok (.ireturn, 1) := by decide +kernel
theorem dX6_obey_210 : decode cX6_obey 210 = .ok (.aload_n 0, 1) := by decide +kernel
theorem dX6_obey_211 : decode cX6_obey 211 = .ok (.iload_n 2, 1) := by decide +kernel
theorem dX6_obey_212 : decode cX6_obey 212 = .ok (.invokevirtual 345, 3) := by decide +kernel
theorem dX6_obey_215 : decode cX6_obey 215 = .ok (.ifCond .lt 7, 3) := by decide +kernel
theorem dX6_obey_218 : decode cX6_obey 218 = .ok (.iconst 1, 1) := by decide +kernel
theorem dX6_obey_219 : decode cX6_obey 219 = .ok (.goto 4, 3) := by decide +kernel
theorem dX6_obey_222 : decode cX6_obey 222 = .ok (.iconst 0, 1) := by decide +kernel
theorem dX6_obey_223 : decode cX6_obey 223 = .ok (.ireturn, 1) := by decide +kernel
theorem dX6_obey_224 : decode cX6_obey 224 = .ok (.aload_n 0, 1) := by decide +kernel
theorem dX6_obey_225 : decode cX6_obey 225 = .ok (.iload_n 2, 1) := by decide +kernel
theorem dX6_obey_226 : decode cX6_obey 226 = .ok (.invokevirtual 348, 3) := by decide +kernel
theorem dX6_obey_229 : decode cX6_obey 229 = .ok (.ifCond .lt 7, 3) := by decide +kernel
theorem dX6_obey_232 : decode cX6_obey 232 = .ok (.iconst 1, 1) := by decide +kernel
theorem dX6_obey_233 : decode cX6_obey 233 = .ok (.goto 4, 3) := by decide +kernel
theorem dX6_obey_236 : decode cX6_obey 236 = .ok (.iconst 0, 1) := by decide +kernel
theorem dX6_obey_237 : decode cX6_obey 237 = .ok (.ireturn, 1) := by decide +kernel
theorem dX6_obey_238 : decode cX6_obey 238 = .ok (.aload_n 0, 1) := by decide +kernel
theorem dX6_obey_239 : decode cX6_obey 239 = .ok (.iload_n 2, 1) := by decide +kernel
theorem dX6_obey_240 : decode cX6_obey 240 = .ok (.iload_n 3, 1) := by decide +kernel
theorem dX6_obey_241 : decode cX6_obey 241 = .ok (.iload 4, 2) := by decide +kernel
theorem dX6_obey_243 : decode cX6_obey 243 = .ok (.invokevirtual 351, 3) := by decide +kernel
theorem dX6_obey_246 : decode cX6_obey 246 = .ok (.ifCond .lt 7, 3) := by decide +kernel
theorem dX6_obey_249 : decode cX6_obey 249 = .ok (.iconst 1, 1) := by decide +kernel
theorem dX6_obey_250 : decode cX6_obey 250 = .ok (.goto 4, 3) := by decide +kernel
theorem dX6_obey_253 : decode cX6_obey 253 = .ok (.iconst 0, 1) := by decide +kernel
theorem dX6_obey_254 : decode cX6_obey 254 = .ok (.ireturn, 1) := by decide +kernel
theorem dX6_obey_255 : decode cX6_obey 255 = .ok (.aload_n 0, 1) := by decide +kernel
theorem dX6_obey_256 : decode cX6_obey 256 = .ok (.iload_n 2, 1) := by decide +kernel
theorem dX6_obey_257 : decode cX6_obey 257 = .ok (.iload_n 3, 1) := by decide +kernel
theorem dX6_obey_258 : decode cX6_obey 258 = .ok (.invokevirtual 354, 3) := by decide +kernel
theorem dX6_obey_261 : decode cX6_obey 261 = .ok (.ifCond .lt 7, 3) := by decide +kernel
theorem dX6_obey_264 : decode cX6_obey 264 = .ok (.iconst 1, 1) := by decide +kernel
theorem dX6_obey_265 : decode cX6_obey 265 = .ok (.goto 4, 3) := by decide +kernel
theorem dX6_obey_268 : decode cX6_obey 268 = .ok (.iconst 0, 1) := by decide +kernel
theorem dX6_obey_269 : decode cX6_obey 269 = .ok (.ireturn, 1) := by decide +kernel
theorem dX6_obey_270 : decode cX6_obey 270 = .ok (.iconst 0, 1) := by decide +kernel
theorem dX6_obey_271 : decode cX6_obey 271 = .ok (.ireturn, 1) := by decide +kernel
theorem dX7_init_0 : decode cX7_init 0 = .ok (.aload_n 0, 1) := by decide +kernel
theorem dX7_init_1 : decode cX7_init 1 = .ok (.invokespecial 3, 3) := by decide +kernel
theorem dX7_init_4 : decode cX7_init 4 = .ok (.aload_n 0, 1) := by decide +kernel
theorem dX7_init_5 : decode cX7_init 5 = .ok (.iconst 4, 1) := by decide +kernel
theorem dX7_init_6 : decode cX7_init 6 = .ok (.putfield 9, 3) := by decide +kernel
theorem dX7_init_9 : decode cX7_init 9 = .ok (.aload_n 0, 1) := by decide +kernel
theorem dX7_init_10 : decode cX7_init 10 = .ok (.bipush 36, 2) := by decide +kernel
theorem dX7_init_12 : decode cX7_init 12 = .ok (.newarray .int, 2) := by decide +kernel
theorem dX7_init_14 : decode cX7_init 14 = .ok (.putfield 15, 3) := by decide +kernel
theorem dX7_init_17 : decode cX7_init 17 = .ok (.aload_n 0, 1) := by decide +kernel
theorem dX7_init_18 : decode cX7_init 18 = .ok (.bipush 8, 2) := by decide +kernel
theorem dX7_init_20 : decode cX7_init 20 = .ok (.newarray .int, 2) := by decide +kernel
theorem dX7_init_22 : decode cX7_init 22 = .ok (.putfield 19, 3) := by decide +kernel
theorem dX7_init_25 : decode cX7_init 25 = .ok (.aload_n 0, 1) := by decide +kernel
theorem dX7_init_26 : decode cX7_init 26 = .ok (.bipush 8, 2) := by decide +kernel
theorem dX7_init_28 : decode cX7_init 28 = .ok (.newarray .int, 2) := by decide +kernel
theorem dX7_init_30 : decode cX7_init 30 = .ok (.putfield 22, 3) := by decide +kernel
theorem dX7_init_33 : decode cX7_init 33 = .ok (.aload_n 0, 1) := by decide +kernel
theorem dX7_init_34 : decode cX7_init 34 = .ok (.bipush 6, 2) := by decide +kernel
theorem dX7_init_36 : decode cX7_init 36 = .ok (.newarray .int, 2) := by decide +kernel
theorem dX7_init_38 : decode cX7_init 38 = .ok (.putfield 25, 3) := by decide +kernel
theorem dX7_init_41 : decode cX7_init 41 = .ok (.aload_n 0, 1) := by decide +kernel
theorem dX7_init_42 : decode cX7_init 42 = .ok (.bipush 6, 2) := by decide +kernel
theorem dX7_init_44 : decode cX7_init 44 = .ok (.newarray .int, 2) := by decide +kernel
theorem dX7_init_46 : decode cX7_init 46 = .ok (.putfield 28, 3) := by decide +kernel
theorem dX7_init_49 : decode cX7_init 49 = .ok (.aload_n 0, 1) := by decide +kernel
theorem dX7_init_50 : decode cX7_init 50 = .ok (.bipush 6, 2) := by decide +kernel
theorem dX7_init_52 : decode cX7_init 52 = .ok (.newarray .int, 2) := by decide +kernel
theorem dX7_init_54 : decode cX7_init 54 = .ok (.putfield 31, 3) := by decide +kernel
theorem dX7_init_57 : decode cX7_init 57 = .ok (.aload_n 0, 1) := by decide +kernel
theorem dX7_init_58 : decode cX7_init 58 = .ok (.bipush 6, 2) := by decide +kernel
theorem dX7_init_60 : decode cX7_init 60 = .ok (.newarray .int, 2) := by decide +kernel
theorem dX7_init_62 : decode cX7_init 62 = .ok (.putfield 34, 3) := by decide +kernel
theorem dX7_init_65 : decode cX7_init 65 = .ok (.aload_n 0, 1) := by decide +kernel
theorem dX7_init_66 : decode cX7_init 66 = .ok (.bipush 6, 2) := by decide +kernel
theorem dX7_init_68 : decode cX7_init 68 = .ok (.bipush 64, 2) := by decide +kernel
theorem dX7_init_70 : decode cX7_init 70 = .ok (.multianewarray 37 2, 4) := by decide +kernel
theorem dX7_init_74 : decode cX7_init 74 = .ok (.putfield 39, 3) := by decide +kernel
theorem dX7_init_77 : decode cX7_init 77 = .ok (.aload_n 0, 1) := by decide +kernel
theorem dX7_init_78 : decode cX7_init 78 = .ok (.bipush 64, 2) := by decide +kernel
theorem dX7_init_80 : decode cX7_init 80 = .ok (.newarray .int, 2) := by decide +kernel
theorem dX7_init_82 : decode cX7_init 82 = .ok (.putfield 42, 3) := by decide +kernel
theorem dX7_init_85 : decode cX7_init 85 = .ok (.aload_n 0, 1) := by decide +kernel
theorem dX7_init_86 : decode cX7_init 86 = .ok (.bipush 6, 2) := by decide +kernel
theorem dX7_init_88 : decode cX7_init 88 = .ok (.newarray .int, 2) := by decide +kernel
theorem dX7_init_90 : decode cX7_init 90 = .ok (.putfield 45, 3) := by decide +kernel
theorem dX7_init_93 : decode cX7_init 93 = .ok (.aload_n 0, 1) := by decide +kernel
theorem dX7_init_94 : decode cX7_init 94 = .ok (.bipush 7, 2) := by decide +kernel
theorem dX7_init_96 : decode cX7_init 96 = .ok (.newarray .int, 2) := by decide +kernel
theorem dX7_init_98 : decode cX7_init 98 = .ok (.putfield 48, 3) := by decide +kernel
theorem dX7_init_101 : decode cX7_init 101 = .ok (.aload_n 0, 1) := by decide +kernel
theorem dX7_init_102 : decode cX7_init 102 = .ok (.bipush 100, 2) := by decide +kernel
theorem dX7_init_104 : decode cX7_init 104 = .ok (.newarray .byte, 2) := by decide +kernel
theorem dX7_init_106 : decode cX7_init 106 = .ok (.putfield 51, 3) := by decide +kernel
theorem dX7_init_109 : decode cX7_init 109 = .ok (.aload_n 0, 1) := by decide +kernel
theorem dX7_init_110 : decode cX7_init 110 = .ok (.bipush 100, 2) := by decide +kernel
theorem dX7_init_112 : decode cX7_init 112 = .ok (.newarray .int, 2) := by decide +kernel
theorem dX7_init_114 : decode cX7_init 114 = .ok (.putfield 55, 3) := by decide +kernel
theorem dX7_init_117 : decode cX7_init 117 = .ok (.aload_n 0, 1) := by decide +kernel
theorem dX7_init_118 : decode cX7_init 118 = .ok (.sipush 300, 3) := by decide +kernel
theorem dX7_init_121 : decode cX7_init 121 = .ok (.newarray .int, 2) := by decide +kernel
theorem dX7_init_123 : decode cX7_init 123 = .ok (.putfield 58, 3) := by decide +kernel
theorem dX7_init_126 : decode cX7_init 126 = .ok (.aload_n 0, 1) := by decide +kernel
theorem dX7_init_127 : decode cX7_init 127 = .ok (.sipush 512, 3) := by decide +kernel
theorem dX7_init_130 : decode cX7_init 130 = .ok (.newarray .byte, 2) := by decide +kernel
theorem dX7_init_132 : decode cX7_init 132 = .ok (.putfield 61, 3) := by decide +kernel
theorem dX7_init_135 : decode cX7_init 135 = .ok (.aload_n 0, 1) := by decide +kernel
theorem dX7_init_136 : decode cX7_init 136 = .ok (.iconst 4, 1) := by decide +kernel
theorem dX7_init_137 : decode cX7_init 137 = .ok (.newarray .int, 2) := by decide +kernel
theorem dX7_init_139 : decode cX7_init 139 = .ok (.putfield 64, 3) := by decide +kernel
theorem dX7_init_142 : decode cX7_init 142 = .ok (.aload_n 0, 1) := by decide +kernel
theorem dX7_init_143 : decode cX7_init 143 = .ok (.iconst 4, 1) := by decide +kernel
theorem dX7_init_144 : decode cX7_init 144 = .ok (.bipush 64, 2) := by decide +kernel
theorem dX7_init_146 : decode cX7_init 146 = .ok (.multianewarray 37 2, 4) := by decide +kernel
theorem dX7_init_150 : decode cX7_init 150 = .ok (.putfield 67, 3) := by decide +kernel
theorem dX7_init_153 : decode cX7_init 153 = .ok (.aload_n 0, 1) := by decide +kernel
theorem dX7_init_154 : decode cX7_init 154 = .ok (.bipush 7, 2) := by decide +kernel
theorem dX7_init_156 : decode cX7_init 156 = .ok (.bipush 36, 2) := by decide +kernel
theorem dX7_init_158 : decode cX7_init 158 = .ok (.multianewarray 37 2, 4) := by decide +kernel
theorem dX7_init_162 : decode cX7_init 162 = .ok (.putfield 70, 3) := by decide +kernel
theorem dX7_init_165 : decode cX7_init 165 = .ok (.aload_n 0, 1) := by decide +kernel
theorem dX7_init_166 : decode cX7_init 166 = .ok (.bipush 6, 2) := by decide +kernel
theorem dX7_init_168 : decode cX7_init 168 = .ok (.bipush 64, 2) := by decide +kernel
theorem dX7_init_170 : decode cX7_init 170 = .ok (.multianewarray 37 2, 4) := by decide +kernel
theorem dX7_init_174 : decode cX7_init 174 = .ok (.putfield 73, 3) := by decide +kernel
theorem dX7_init_177 : decode cX7_init 177 = .ok (.aload_n 0, 1) := by decide +kernel
theorem dX7_init_178 : decode cX7_init 178 = .ok (.invokevirtual 76, 3) := by decide +kernel
theorem dX7_init_181 : decode cX7_init 181 = .ok (.iconst 0, 1) := by decide +kernel
theorem dX7_init_182 : decode cX7_init 182 = .ok (.istore_n 1, 1) := by decide +kernel
theorem dX7_init_183 : decode cX7_init 183 = .ok (.iload_n 1, 1) := by decide +kernel
theorem dX7_init_184 : decode cX7_init 184 = .ok (.iconst 4, 1) := by decide +kernel
theorem dX7_init_185 : decode cX7_init 185 = .ok (.if_icmp .ge 16, 3) := by decide +kernel
theorem dX7_init_188 : decode cX7_init 188 = .ok (.aload_n 0, 1) := by decide +kernel
theorem dX7_init_189 : decode cX7_init 189 = .ok (.getfield 64, 3) := by decide +kernel
theorem dX7_init_192 : decode cX7_init 192 = .ok (.iload_n 1, 1) := by decide +kernel
theorem dX7_init_193 : decode cX7_init 193 = .ok (.iconst (-1), 1) := by decide +kernel
theorem dX7_init_194 : decode cX7_init 194 = .ok (.iastore, 1) := by decide +kernel
theorem dX7_init_195 : decode cX7_init 195 = .ok (.iinc 1 1, 3) := by decide +kernel
theorem dX7_init_198 : decode cX7_init 198 = .ok (.goto (-15), 3) := by decide +kernel
theorem dX7_init_201 : decode cX7_init 201 = .ok (.return_, 1) := by decide +kernel
theorem dX7_empties_0 : decode cX7_empties 0 = .ok (.iconst 0, 1) := by decide +kernel
theorem dX7_empties_1 : decode cX7_empties 1 = .ok (.istore_n 1, 1) := by decide +kernel
theorem dX7_empties_2 : decode cX7_empties 2 = .ok (.iload_n 1, 1) := by decide +kernel
theorem dX7_empties_3 : decode cX7_empties 3 = .ok (.bipush 36, 2) := by decide +kernel
theorem dX7_empties_5 : decode cX7_empties 5 = .ok (.if_icmp .ge 16, 3) := by decide +kernel
theorem dX7_empties_8 : decode cX7_empties 8 = .ok (.aload_n 0, 1) := by decide +kernel
theorem dX7_empties_9 : decode cX7_empties 9 = .ok (.getfield 15, 3) := by decide +kernel
theorem dX7_empties_12 : decode cX7_empties 12 = .ok (.iload_n 1, 1) := by decide +kernel
theorem dX7_empties_13 : decode cX7_empties 13 = .ok (.iconst 0, 1) := by decide +kernel
theorem dX7_empties_14 : decode cX7_empties 14 = .ok (.iastore, 1) := by decide +kernel
theorem dX7_empties_15 : decode cX7_empties 15 = .ok (.iinc 1 1, 3) := by decide +kernel
theorem dX7_empties_18 : decode cX7_empties 18 = .ok (.goto (-16), 3) := by decide +kernel
theorem dX7_empties_21 : decode cX7_empties 21 = .ok (.iconst 0, 1) := by decide +kernel
theorem dX7_empties_22 : decode cX7_empties 22 = .ok (.istore_n 1, 1) := by decide +kernel
theorem dX7_empties_23 : decode cX7_empties 23 = .ok (.iload_n 1, 1) := by decide +kernel
theorem dX7_empties_24 : decode cX7_empties 24 = .ok (.bipush 8, 2) := by decide +kernel
theorem dX7_empties_26 : decode cX7_empties 26 = .ok (.if_icmp .ge 23, 3) := by decide +kernel
theorem dX7_empties_29 : decode cX7_empties 29 = .ok (.aload_n 0, 1) := by decide +kernel
theorem dX7_empties_30 : decode cX7_empties 30 = .ok (.getfield 19, 3) := by decide +kernel
theorem dX7_empties_33 : decode cX7_empties 33 = .ok (.iload_n 1, 1) := by decide +kernel
theorem dX7_empties_34 : decode cX7_empties 34 = .ok (.iconst 0, 1) := by decide +kernel
theorem dX7_empties_35 : decode cX7_empties 35 = .ok (.iastore, 1) := by decide +kernel
theorem dX7_empties_36 : decode cX7_empties 36 = .ok (.aload_n 0, 1) := by decide +kernel
theorem dX7_empties_37 : decode cX7_empties 37 = .ok (.getfield 22, 3) := by decide +kernel
theorem dX7_empties_40 : decode cX7_empties 40 = .ok (.iload_n 1, 1) := by decide +kernel
theorem dX7_empties_41 : decode cX7_empties 41 = .ok (.iconst 0, 1) := by decide +kernel
theorem dX7_empties_42 : decode cX7_empties 42 = .ok (.iastore, 1) := by decide +kernel
theorem dX7_empties_43 : decode cX7_empties 43 = .ok (.iinc 1 1, 3) := by decide +kernel
theorem dX7_empties_46 : decode cX7_empties 46 = .ok (.goto (-23), 3) := by decide +kernel
theorem dX7_empties_49 : decode cX7_empties 49 = .ok (.iconst 0, 1) := by decide +kernel
theorem dX7_empties_50 : decode cX7_empties 50 = .ok (.istore_n 1, 1) := by decide +kernel
theorem dX7_empties_51 : decode cX7_empties 51 = .ok (.iload_n 1, 1) := by decide +kernel
theorem dX7_empties_52 : decode cX7_empties 52 = .ok (.bipush 6, 2) := by decide +kernel
theorem dX7_empties_54 : decode cX7_empties 54 = .ok (.if_icmp .ge 30, 3) := by decide +kernel
theorem dX7_empties_57 : decode cX7_empties 57 = .ok (.aload_n 0, 1) := by decide +kernel
theorem dX7_empties_58 : decode cX7_empties 58 = .ok (.getfield 25, 3) := by decide +kernel
theorem dX7_empties_61 : decode cX7_empties 61 = .ok (.iload_n 1, 1) := by decide +kernel
theorem dX7_empties_62 : decode cX7_empties 62 = .ok (.iconst 0, 1) := by decide +kernel
theorem dX7_empties_63 : decode cX7_empties 63 = .ok (.iastore, 1) := by decide +kernel
theorem dX7_empties_64 : decode cX7_empties 64 = .ok (.aload_n 0, 1) := by decide +kernel
theorem dX7_empties_65 : decode cX7_empties 65 = .ok (.getfield 31, 3) := by decide +kernel
theorem dX7_empties_68 : decode cX7_empties 68 = .ok (.iload_n 1, 1) := by decide +kernel
theorem dX7_empties_69 : decode cX7_empties 69 = .ok (.iconst 0, 1) := by decide +kernel
theorem dX7_empties_70 : decode cX7_empties 70 = .ok (.iastore, 1) := by decide +kernel
theorem dX7_empties_71 : decode cX7_empties 71 = .ok (.aload_n 0, 1) := by decide +kernel
theorem dX7_empties_72 : decode cX7_empties 72 = .ok (.getfield 28, 3) := by decide +kernel
theorem dX7_empties_75 : decode cX7_empties 75 = .ok (.iload_n 1, 1) := by decide +kernel
theorem dX7_empties_76 : decode cX7_empties 76 = .ok (.iconst 1, 1) := by decide +kernel
theorem dX7_empties_77 : decode cX7_empties 77 = .ok (.iastore, 1) := by decide +kernel
theorem dX7_empties_78 : decode cX7_empties 78 = .ok (.iinc 1 1, 3) := by decide +kernel
theorem dX7_empties_81 : decode cX7_empties 81 = .ok (.goto (-30), 3) := by decide +kernel
theorem dX7_empties_84 : decode cX7_empties 84 = .ok (.iconst 0, 1) := by decide +kernel
theorem dX7_empties_85 : decode cX7_empties 85 = .ok (.istore_n 1, 1) := by decide +kernel
theorem dX7_empties_86 : decode cX7_empties 86 = .ok (.iload_n 1, 1) := by decide +kernel
theorem dX7_empties_87 : decode cX7_empties 87 = .ok (.bipush 6, 2) := by decide +kernel
theorem dX7_empties_89 : decode cX7_empties 89 = .ok (.if_icmp .ge 16, 3) := by decide +kernel
theorem dX7_empties_92 : decode cX7_empties 92 = .ok (.aload_n 0, 1) := by decide +kernel
theorem dX7_empties_93 : decode cX7_empties 93 = .ok (.getfield 34, 3) := by decide +kernel
theorem dX7_empties_96 : decode cX7_empties 96 = .ok (.iload_n 1, 1) := by decide +kernel
theorem dX7_empties_97 : decode cX7_empties 97 = .ok (.iconst (-1), 1) := by decide +kernel
theorem dX7_empties_98 : decode cX7_empties 98 = .ok (.iastore, 1) := by decide +kernel
theorem dX7_empties_99 : decode cX7_empties 99 = .ok (.iinc 1 1, 3) := by decide +kernel
theorem dX7_empties_102 : decode cX7_empties 102 = .ok (.goto (-16), 3) := by decide +kernel
theorem dX7_empties_105 : decode cX7_empties 105 = .ok (.return_, 1) := by decide +kernel
theorem dX7_in_0 : decode cX7_in 0 = .ok (.lload_n 0, 1) := by decide +kernel
theorem dX7_in_1 : decode cX7_in 1 = .ok (.lload_n 2, 1) := by decide +kernel
theorem dX7_in_2 : decode cX7_in 2 = .ok (.lcmp, 1) := by decide +kernel
theorem dX7_in_3 : decode cX7_in 3 = .ok (.ifCond .lt 14, 3) := by decide +kernel
theorem dX7_in_6 : decode cX7_in 6 = .ok (.lload_n 0, 1) := by decide +kernel
theorem dX7_in_7 : decode cX7_in 7 = .ok (.lload 4, 2) := by decide +kernel
theorem dX7_in_9 : decode cX7_in 9 = .ok (.lcmp, 1) := by decide +kernel
theorem dX7_in_10 : decode cX7_in 10 = .ok (.ifCond .gt 7, 3) := by decide +kernel
theorem dX7_in_13 : decode cX7_in 13 = .ok (.iconst 1, 1) := by decide +kernel
theorem dX7_in_14 : decode cX7_in 14 = .ok (.goto 4, 3) := by decide +kernel
theorem dX7_in_17 : decode cX7_in 17 = .ok (.iconst 0, 1) := by decide +kernel
theorem dX7_in_18 : decode cX7_in 18 = .ok (.ireturn, 1) := by decide +kernel
theorem dX7_isPoint_0 : decode cX7_isPoint 0 = .ok (.iload_n 1, 1) := by decide +kernel
theorem dX7_isPoint_1 : decode cX7_isPoint 1 = .ok (.i2l, 1) := by decide +kernel
theorem dX7_isPoint_2 : decode cX7_isPoint 2 = .ok (.lconst 0, 1) := by decide +kernel
theorem dX7_isPoint_3 : decode cX7_isPoint 3 = .ok (.aload_n 0, 1) := by decide +kernel
theorem dX7_isPoint_4 : decode cX7_isPoint 4 = .ok (.getfield 9, 3) := by decide +kernel
theorem dX7_isPoint_7 : decode cX7_isPoint 7 = .ok (.iconst 1, 1) := by decide +kernel
theorem dX7_isPoint_8 : decode cX7_isPoint 8 = .ok (.isub, 1) := by decide +kernel
theorem dX7_isPoint_9 : decode cX7_isPoint 9 = .ok (.i2l, 1) := by decide +kernel
theorem dX7_isPoint_10 : decode cX7_isPoint 10 = .ok (.invokestatic 79, 3) := by decide +kernel
theorem dX7_isPoint_13 : decode cX7_isPoint 13 = .ok (.ireturn, 1) := by decide +kernel
theorem dX7_sets_0 : decode cX7_sets 0 = .ok (.iconst 1, 1) := by decide +kernel
theorem dX7_sets_1 : decode cX7_sets 1 = .ok (.aload_n 0, 1) := by decide +kernel
theorem dX7_sets_2 : decode cX7_sets 2 = .ok (.getfield 9, 3) := by decide +kernel
theorem dX7_sets_5 : decode cX7_sets 5 = .ok (.ishl, 1) := by decide +kernel
theorem dX7_sets_6 : decode cX7_sets 6 = .ok (.ireturn, 1) := by decide +kernel
theorem dX7_all_0 : decode cX7_all 0 = .ok (.aload_n 0, 1) := by decide +kernel
theorem dX7_all_1 : decode cX7_all 1 = .ok (.invokevirtual 83, 3) := by decide +kernel
theorem dX7_all_4 : decode cX7_all 4 = .ok (.iconst 1, 1) := by decide +kernel
theorem dX7_all_5 : decode cX7_all 5 = .ok (.isub, 1) := by decide +kernel
theorem dX7_all_6 : decode cX7_all 6 = .ok (.ireturn, 1) := by decide +kernel
theorem dX7_isSet_0 : decode cX7_isSet 0 = .ok (.iload_n 1, 1) := by decide +kernel
theorem dX7_isSet_1 : decode cX7_isSet 1 = .ok (.i2l, 1) := by decide +kernel
theorem dX7_isSet_2 : decode cX7_isSet 2 = .ok (.lconst 0, 1) := by decide +kernel
theorem dX7_isSet_3 : decode cX7_isSet 3 = .ok (.aload_n 0, 1) := by decide +kernel
theorem dX7_isSet_4 : decode cX7_isSet 4 = .ok (.invokevirtual 87, 3) := by decide +kernel
theorem dX7_isSet_7 : decode cX7_isSet 7 = .ok (.i2l, 1) := by decide +kernel
theorem dX7_isSet_8 : decode cX7_isSet 8 = .ok (.invokestatic 79, 3) := by decide +kernel
theorem dX7_isSet_11 : decode cX7_isSet 11 = .ok (.ireturn, 1) := by decide +kernel
theorem dX7_has_0 : decode cX7_has 0 = .ok (.iload_n 0, 1) := by decide +kernel
theorem dX7_has_1 : decode cX7_has 1 = .ok (.iload_n 1, 1) := by decide +kernel
theorem dX7_has_2 : decode cX7_has 2 = .ok (.ishr, 1) := by decide +kernel
theorem dX7_has_3 : decode cX7_has 3 = .ok (.iconst 1, 1) := by decide +kernel
theorem dX7_has_4 : decode cX7_has 4 = .ok (.iand, 1) := by decide +kernel
theorem dX7_has_5 : decode cX7_has 5 = .ok (.iconst 1, 1) := by decide +kernel
theorem dX7_has_6 : decode cX7_has 6 = .ok (.if_icmp .ne 7, 3) := by decide +kernel
theorem dX7_has_9 : decode cX7_has 9 = .ok (.iconst 1, 1) := by decide +kernel
theorem dX7_has_10 : decode cX7_has 10 = .ok (.goto 4, 3) := by decide +kernel
theorem dX7_has_13 : decode cX7_has 13 = .ok (.iconst 0, 1) := by decide +kernel
theorem dX7_has_14 : decode cX7_has 14 = .ok (.ireturn, 1) := by decide +kernel
theorem dX7_many_0 : decode cX7_many 0 = .ok (.iload_n 0, 1) := by decide +kernel
theorem dX7_many_1 : decode cX7_many 1 = .ok (.invokestatic 90, 3) := by decide +kernel
theorem dX7_many_4 : decode cX7_many 4 = .ok (.ireturn, 1) := by decide +kernel
theorem dX7_points_0 : decode cX7_points 0 = .ok (.iload_n 1, 1) := by decide +kernel
theorem dX7_points_1 : decode cX7_points 1 = .ok (.i2l, 1) := by decide +kernel
theorem dX7_points_2 : decode cX7_points 2 = .ok (.lconst 1, 1) := by decide +kernel
theorem dX7_points_3 : decode cX7_points 3 = .ok (.ldc2_w 96, 3) := by decide +kernel
theorem dX7_points_6 : decode cX7_points 6 = .ok (.invokestatic 79, 3) := by decide +kernel
theorem dX7_points_9 : decode cX7_points 9 = .ok (.ifCond .ne 6, 3) := by decide +kernel
theorem dX7_points_12 : decode cX7_points 12 = .ok (.bipush (-2), 2) := by decide +kernel
theorem dX7_points_14 : decode cX7_points 14 = .ok (.ireturn, 1) := by decide +kernel
theorem dX7_points_15 : decode cX7_points 15 = .ok (.aload_n 0, 1) := by decide +kernel
theorem dX7_points_16 : decode cX7_points 16 = .ok (.getfield 9, 3) := by decide +kernel
theorem dX7_points_19 : decode cX7_points 19 = .ok (.istore_n 2, 1) := by decide +kernel
theorem dX7_points_20 : decode cX7_points 20 = .ok (.aload_n 0, 1) := by decide +kernel
theorem dX7_points_21 : decode cX7_points 21 = .ok (.iload_n 1, 1) := by decide +kernel
theorem dX7_points_22 : decode cX7_points 22 = .ok (.putfield 9, 3) := by decide +kernel
theorem dX7_points_25 : decode cX7_points 25 = .ok (.aload_n 0, 1) := by decide +kernel
theorem dX7_points_26 : decode cX7_points 26 = .ok (.invokevirtual 76, 3) := by decide +kernel
theorem dX7_points_29 : decode cX7_points 29 = .ok (.iload_n 2, 1) := by decide +kernel
theorem dX7_points_30 : decode cX7_points 30 = .ok (.ireturn, 1) := by decide +kernel
theorem dX7_arc_0 : decode cX7_arc 0 = .ok (.aload_n 0, 1) := by decide +kernel
theorem dX7_arc_1 : decode cX7_arc 1 = .ok (.iload_n 1, 1) := by decide +kernel
theorem dX7_arc_2 : decode cX7_arc 2 = .ok (.invokevirtual 98, 3) := by decide +kernel
theorem dX7_arc_5 : decode cX7_arc 5 = .ok (.ifCond .eq 16, 3) := by decide +kernel
theorem dX7_arc_8 : decode cX7_arc 8 = .ok (.aload_n 0, 1) := by decide +kernel
theorem dX7_arc_9 : decode cX7_arc 9 = .ok (.iload_n 2, 1) := by decide +kernel
theorem dX7_arc_10 : decode cX7_arc 10 = .ok (.invokevirtual 98, 3) := by decide +kernel
theorem dX7_arc_13 : decode cX7_arc 13 = .ok (.ifCond .eq 8, 3) := by decide +kernel
theorem dX7_arc_16 : decode cX7_arc 16 = .ok (.iload_n 1, 1) := by decide +kernel
theorem dX7_arc_17 : decode cX7_arc 17 = .ok (.iload_n 2, 1) := by decide +kernel
theorem dX7_arc_18 : decode cX7_arc 18 = .ok (.if_icmp .ne 5, 3) := by decide +kernel
theorem dX7_arc_21 : decode cX7_arc 21 = .ok (.iconst (-1), 1) := by decide +kernel
theorem dX7_arc_22 : decode cX7_arc 22 = .ok (.ireturn, 1) := by decide +kernel
theorem dX7_arc_23 : decode cX7_arc 23 = .ok (.iload_n 3, 1) := by decide +kernel
theorem dX7_arc_24 : decode cX7_arc 24 = .ok (.i2l, 1) := by decide +kernel
theorem dX7_arc_25 : decode cX7_arc 25 = .ok (.lconst 0, 1) := by decide +kernel
theorem dX7_arc_26 : decode cX7_arc 26 = .ok (.ldc2_w 102, 3) := by decide +kernel
theorem dX7_arc_29 : decode cX7_arc 29 = .ok (.invokestatic 79, 3) := by decide +kernel
theorem dX7_arc_32 : decode cX7_arc 32 = .ok (.ifCond .ne 6, 3) := by decide +kernel
theorem dX7_arc_35 : decode cX7_arc 35 = .ok (.bipush (-2), 2) := by decide +kernel
theorem dX7_arc_37 : decode cX7_arc 37 = .ok (.ireturn, 1) := by decide +kernel
theorem dX7_arc_38 : decode cX7_arc 38 = .ok (.aload_n 0, 1) := by decide +kernel
theorem dX7_arc_39 : decode cX7_arc 39 = .ok (.getfield 15, 3) := by decide +kernel
theorem dX7_arc_42 : decode cX7_arc 42 = .ok (.bipush 6, 2) := by decide +kernel
theorem dX7_arc_44 : decode cX7_arc 44 = .ok (.iload_n 1, 1) := by decide +kernel
theorem dX7_arc_45 : decode cX7_arc 45 = .ok (.imul, 1) := by decide +kernel
theorem dX7_arc_46 : decode cX7_arc 46 = .ok (.iload_n 2, 1) := by decide +kernel
theorem dX7_arc_47 : decode cX7_arc 47 = .ok (.iadd, 1) := by decide +kernel
theorem dX7_arc_48 : decode cX7_arc 48 = .ok (.iaload, 1) := by decide +kernel
theorem dX7_arc_49 : decode cX7_arc 49 = .ok (.istore 4, 2) := by decide +kernel
theorem dX7_arc_51 : decode cX7_arc 51 = .ok (.aload_n 0, 1) := by decide +kernel
theorem dX7_arc_52 : decode cX7_arc 52 = .ok (.getfield 15, 3) := by decide +kernel
theorem dX7_arc_55 : decode cX7_arc 55 = .ok (.bipush 6, 2) := by decide +kernel
theorem dX7_arc_57 : decode cX7_arc 57 = .ok (.iload_n 1, 1) := by decide +kernel
theorem dX7_arc_58 : decode cX7_arc 58 = .ok (.imul, 1) := by decide +kernel
theorem dX7_arc_59 : decode cX7_arc 59 = .ok (.iload_n 2, 1) := by decide +kernel
theorem dX7_arc_60 : decode cX7_arc 60 = .ok (.iadd, 1) := by decide +kernel
theorem dX7_arc_61 : decode cX7_arc 61 = .ok (.iload_n 3, 1) := by decide +kernel
theorem dX7_arc_62 : decode cX7_arc 62 = .ok (.iastore, 1) := by decide +kernel
theorem dX7_arc_63 : decode cX7_arc 63 = .ok (.iload 4, 2) := by decide +kernel
theorem dX7_arc_65 : decode cX7_arc 65 = .ok (.ireturn, 1) := by decide +kernel
theorem dX7_item_0 : decode cX7_item 0 = .ok (.iload_n 1, 1) := by decide +kernel
theorem dX7_item_1 : decode cX7_item 1 = .ok (.i2l, 1) := by decide +kernel
theorem dX7_item_2 : decode cX7_item 2 = .ok (.lconst 0, 1) := by decide +kernel
theorem dX7_item_3 : decode cX7_item 3 = .ok (.ldc2_w 104, 3) := by decide +kernel
theorem dX7_item_6 : decode cX7_item 6 = .ok (.invokestatic 79, 3) := by decide +kernel
theorem dX7_item_9 : decode cX7_item 9 = .ok (.ifCond .ne 5, 3) := by decide +kernel
theorem dX7_item_12 : decode cX7_item 12 = .ok (.iconst (-1), 1) := by decide +kernel
theorem dX7_item_13 : decode cX7_item 13 = .ok (.ireturn, 1) := by decide +kernel
theorem dX7_item_14 : decode cX7_item 14 = .ok (.iload_n 2, 1) := by decide +kernel
theorem dX7_item_15 : decode cX7_item 15 = .ok (.i2l, 1) := by decide +kernel
theorem dX7_item_16 : decode cX7_item 16 = .ok (.lconst 0, 1) := by decide +kernel
theorem dX7_item_17 : decode cX7_item 17 = .ok (.ldc2_w 102, 3) := by decide +kernel
theorem dX7_item_20 : decode cX7_item 20 = .ok (.invokestatic 79, 3) := by decide +kernel
theorem dX7_item_23 : decode cX7_item 23 = .ok (.ifCond .eq 11, 3) := by decide +kernel
theorem dX7_item_26 : decode cX7_item 26 = .ok (.aload_n 0, 1) := by decide +kernel
theorem dX7_item_27 : decode cX7_item 27 = .ok (.iload_n 3, 1) := by decide +kernel
theorem dX7_item_28 : decode cX7_item 28 = .ok (.invokevirtual 106, 3) := by decide +kernel
theorem dX7_item_31 : decode cX7_item 31 = .ok (.ifCond .ne 6, 3) := by decide +kernel
theorem dX7_item_34 : decode cX7_item 34 = .ok (.bipush (-2), 2) := by decide +kernel
theorem dX7_item_36 : decode cX7_item 36 = .ok (.ireturn, 1) := by decide +kernel
theorem dX7_item_37 : decode cX7_item 37 = .ok (.aload_n 0, 1) := by decide +kernel
theorem dX7_item_38 : decode cX7_item 38 = .ok (.getfield 19, 3) := by decide +kernel
theorem dX7_item_41 : decode cX7_item 41 = .ok (.iload_n 1, 1) := by decide +kernel
theorem dX7_item_42 : decode cX7_item 42 = .ok (.iaload, 1) := by decide +kernel
theorem dX7_item_43 : decode cX7_item 43 = .ok (.istore 4, 2) := by decide +kernel
theorem dX7_item_45 : decode cX7_item 45 = .ok (.aload_n 0, 1) := by decide +kernel
theorem dX7_item_46 : decode cX7_item 46 = .ok (.getfield 19, 3) := by decide +kernel
theorem dX7_item_49 : decode cX7_item 49 = .ok (.iload_n 1, 1) := by decide +kernel
theorem dX7_item_50 : decode cX7_item 50 = .ok (.iload_n 2, 1) := by decide +kernel
theorem dX7_item_51 : decode cX7_item 51 = .ok (.iastore, 1) := by decide +kernel
theorem dX7_item_52 : decode cX7_item 52 = .ok (.aload_n 0, 1) := by decide +kernel
theorem dX7_item_53 : decode cX7_item 53 = .ok (.getfield 22, 3) := by decide +kernel
theorem dX7_item_56 : decode cX7_item 56 = .ok (.iload_n 1, 1) := by decide +kernel
theorem dX7_item_57 : decode cX7_item 57 = .ok (.iload_n 3, 1) := by decide +kernel
theorem dX7_item_58 : decode cX7_item 58 = .ok (.iastore, 1) := by decide +kernel
theorem dX7_item_59 : decode cX7_item 59 = .ok (.iload 4, 2) := by decide +kernel
theorem dX7_item_61 : decode cX7_item 61 = .ok (.ireturn, 1) := by decide +kernel
theorem dX7_isBlock_0 : decode cX7_isBlock 0 = .ok (.iload_n 0, 1) := by decide +kernel
theorem dX7_isBlock_1 : decode cX7_isBlock 1 = .ok (.i2l, 1) := by decide +kernel
theorem dX7_isBlock_2 : decode cX7_isBlock 2 = .ok (.lconst 0, 1) := by decide +kernel
theorem dX7_isBlock_3 : decode cX7_isBlock 3 = .ok (.ldc2_w 109, 3) := by decide +kernel
theorem dX7_isBlock_6 : decode cX7_isBlock 6 = .ok (.invokestatic 79, 3) := by decide +kernel
theorem dX7_isBlock_9 : decode cX7_isBlock 9 = .ok (.ireturn, 1) := by decide +kernel
theorem dX7_block_0 : decode cX7_block 0 = .ok (.aload_n 0, 1) := by decide +kernel
theorem dX7_block_1 : decode cX7_block 1 = .ok (.iload_n 1, 1) := by decide +kernel
theorem dX7_block_2 : decode cX7_block 2 = .ok (.invokevirtual 98, 3) := by decide +kernel
theorem dX7_block_5 : decode cX7_block 5 = .ok (.ifCond .eq 10, 3) := by decide +kernel
theorem dX7_block_8 : decode cX7_block 8 = .ok (.iload_n 2, 1) := by decide +kernel
theorem dX7_block_9 : decode cX7_block 9 = .ok (.invokestatic 111, 3) := by decide +kernel
theorem dX7_block_12 : decode cX7_block 12 = .ok (.ifCond .ne 5, 3) := by decide +kernel
theorem dX7_block_15 : decode cX7_block 15 = .ok (.iconst (-1), 1) := by decide +kernel
theorem dX7_block_16 : decode cX7_block 16 = .ok (.ireturn, 1) := by decide +kernel
theorem dX7_block_17 : decode cX7_block 17 = .ok (.aload_n 0, 1) := by decide +kernel
theorem dX7_block_18 : decode cX7_block 18 = .ok (.getfield 25, 3) := by decide +kernel
theorem dX7_block_21 : decode cX7_block 21 = .ok (.iload_n 1, 1) := by decide +kernel
theorem dX7_block_22 : decode cX7_block 22 = .ok (.iaload, 1) := by decide +kernel
theorem dX7_block_23 : decode cX7_block 23 = .ok (.istore_n 3, 1) := by decide +kernel
theorem dX7_block_24 : decode cX7_block 24 = .ok (.aload_n 0, 1) := by decide +kernel
theorem dX7_block_25 : decode cX7_block 25 = .ok (.getfield 25, 3) := by decide +kernel
theorem dX7_block_28 : decode cX7_block 28 = .ok (.iload_n 1, 1) := by decide +kernel
theorem dX7_block_29 : decode cX7_block 29 = .ok (.iload_n 2, 1) := by decide +kernel
theorem dX7_block_30 : decode cX7_block 30 = .ok (.iastore, 1) := by decide +kernel
theorem dX7_block_31 : decode cX7_block 31 = .ok (.iload_n 3, 1) := by decide +kernel
theorem dX7_block_32 : decode cX7_block 32 = .ok (.ireturn, 1) := by decide +kernel
theorem dX7_cap_0 : decode cX7_cap 0 = .ok (.iload_n 1, 1) := by decide +kernel
theorem dX7_cap_1 : decode cX7_cap 1 = .ok (.invokestatic 111, 3) := by decide +kernel
theorem dX7_cap_4 : decode cX7_cap 4 = .ok (.ifCond .ne 5, 3) := by decide +kernel
theorem dX7_cap_7 : decode cX7_cap 7 = .ok (.iconst (-1), 1) := by decide +kernel
theorem dX7_cap_8 : decode cX7_cap 8 = .ok (.ireturn, 1) := by decide +kernel
theorem dX7_cap_9 : decode cX7_cap 9 = .ok (.iload_n 2, 1) := by decide +kernel
theorem dX7_cap_10 : decode cX7_cap 10 = .ok (.i2l, 1) := by decide +kernel
theorem dX7_cap_11 : decode cX7_cap 11 = .ok (.lconst 0, 1) := by decide +kernel
theorem dX7_cap_12 : decode cX7_cap 12 = .ok (.ldc2_w 96, 3) := by decide +kernel
theorem dX7_cap_15 : decode cX7_cap 15 = .ok (.invokestatic 79, 3) := by decide +kernel
theorem dX7_cap_18 : decode cX7_cap 18 = .ok (.ifCond .ne 6, 3) := by decide +kernel
theorem dX7_cap_21 : decode cX7_cap 21 = .ok (.bipush (-2), 2) := by decide +kernel
theorem dX7_cap_23 : decode cX7_cap 23 = .ok (.ireturn, 1) := by decide +kernel
theorem dX7_cap_24 : decode cX7_cap 24 = .ok (.aload_n 0, 1) := by decide +kernel
theorem dX7_cap_25 : decode cX7_cap 25 = .ok (.getfield 28, 3) := by decide +kernel
theorem dX7_cap_28 : decode cX7_cap 28 = .ok (.iload_n 1, 1) := by decide +kernel
theorem dX7_cap_29 : decode cX7_cap 29 = .ok (.iaload, 1) := by decide +kernel
theorem dX7_cap_30 : decode cX7_cap 30 = .ok (.istore_n 3, 1) := by decide +kernel
theorem dX7_cap_31 : decode cX7_cap 31 = .ok (.aload_n 0, 1) := by decide +kernel
theorem dX7_cap_32 : decode cX7_cap 32 = .ok (.getfield 28, 3) := by decide +kernel
theorem dX7_cap_35 : decode cX7_cap 35 = .ok (.iload_n 1, 1) := by decide +kernel
theorem dX7_cap_36 : decode cX7_cap 36 = .ok (.iload_n 2, 1) := by decide +kernel
theorem dX7_cap_37 : decode cX7_cap 37 = .ok (.iastore, 1) := by decide +kernel
theorem dX7_cap_38 : decode cX7_cap 38 = .ok (.iload_n 3, 1) := by decide +kernel
theorem dX7_cap_39 : decode cX7_cap 39 = .ok (.ireturn, 1) := by decide +kernel
theorem dX7_weight_0 : decode cX7_weight 0 = .ok (.aload_n 0, 1) := by decide +kernel
theorem dX7_weight_1 : decode cX7_weight 1 = .ok (.iload_n 1, 1) := by decide +kernel
theorem dX7_weight_2 : decode cX7_weight 2 = .ok (.invokevirtual 98, 3) := by decide +kernel
theorem dX7_weight_5 : decode cX7_weight 5 = .ok (.ifCond .ne 6, 3) := by decide +kernel
theorem dX7_weight_8 : decode cX7_weight 8 = .ok (.ldc 114, 2) := by decide +kernel
theorem dX7_weight_10 : decode cX7_weight 10 = .ok (.ireturn, 1) := by decide +kernel
theorem dX7_weight_11 : decode cX7_weight 11 = .ok (.iload_n 2, 1) := by decide +kernel
theorem dX7_weight_12 : decode cX7_weight 12 = .ok (.i2l, 1) := by decide +kernel
theorem dX7_weight_13 : decode cX7_weight 13 = .ok (.ldc2_w 115, 3) := by decide +kernel
theorem dX7_weight_16 : decode cX7_weight 16 = .ok (.ldc2_w 102, 3) := by decide +kernel
theorem dX7_weight_19 : decode cX7_weight 19 = .ok (.invokestatic 79, 3) := by decide +kernel
theorem dX7_weight_22 : decode cX7_weight 22 = .ok (.ifCond .ne 6, 3) := by decide +kernel
theorem dX7_weight_25 : decode cX7_weight 25 = .ok (.ldc 117, 2) := by decide +kernel
theorem dX7_weight_27 : decode cX7_weight 27 = .ok (.ireturn, 1) := by decide +kernel
theorem dX7_weight_28 : decode cX7_weight 28 = .ok (.aload_n 0, 1) := by decide +kernel
theorem dX7_weight_29 : decode cX7_weight 29 = .ok (.getfield 31, 3) := by decide +kernel
theorem dX7_weight_32 : decode cX7_weight 32 = .ok (.iload_n 1, 1) := by decide +kernel
theorem dX7_weight_33 : decode cX7_weight 33 = .ok (.iaload, 1) := by decide +kernel
theorem dX7_weight_34 : decode cX7_weight 34 = .ok (.istore_n 3, 1) := by decide +kernel
theorem dX7_weight_35 : decode cX7_weight 35 = .ok (.aload_n 0, 1) := by decide +kernel
theorem dX7_weight_36 : decode cX7_weight 36 = .ok (.getfield 31, 3) := by decide +kernel
theorem dX7_weight_39 : decode cX7_weight 39 = .ok (.iload_n 1, 1) := by decide +kernel
theorem dX7_weight_40 : decode cX7_weight 40 = .ok (.iload_n 2, 1) := by decide +kernel
theorem dX7_weight_41 : decode cX7_weight 41 = .ok (.iastore, 1) := by decide +kernel
theorem dX7_weight_42 : decode cX7_weight 42 = .ok (.iload_n 3, 1) := by decide +kernel
theorem dX7_weight_43 : decode cX7_weight 43 = .ok (.ireturn, 1) := by decide +kernel
theorem dX7_cutOf_0 : decode cX7_cutOf 0 = .ok (.iconst 0, 1) := by decide +kernel
theorem dX7_cutOf_1 : decode cX7_cutOf 1 = .ok (.istore_n 2, 1) := by decide +kernel
theorem dX7_cutOf_2 : decode cX7_cutOf 2 = .ok (.iconst 0, 1) := by decide +kernel
theorem dX7_cutOf_3 : decode cX7_cutOf 3 = .ok (.istore_n 3, 1) := by decide +kernel
theorem dX7_cutOf_4 : decode cX7_cutOf 4 = .ok (.iload_n 3, 1) := by decide +kernel
theorem dX7_cutOf_5 : decode cX7_cutOf 5 = .ok (.aload_n 0, 1) := by decide +kernel
theorem dX7_cutOf_6 : decode cX7_cutOf 6 = .ok (.getfield 9, 3) := by decide +kernel
theorem dX7_cutOf_9 : decode cX7_cutOf 9 = .ok (.if_icmp .ge 59, 3) := by decide +kernel
theorem dX7_cutOf_12 : decode cX7_cutOf 12 = .ok (.iconst 0, 1) := by decide +kernel
theorem dX7_cutOf_13 : decode cX7_cutOf 13 = .ok (.istore 4, 2) := by decide +kernel
theorem dX7_cutOf_15 : decode cX7_cutOf 15 = .ok (.iload 4, 2) := by decide +kernel
theorem dX7_cutOf_17 : decode cX7_cutOf 17 = .ok (.aload_n 0, 1) := by decide +kernel
theorem dX7_cutOf_18 : decode cX7_cutOf 18 = .ok (.getfield 9, 3) := by decide +kernel
theorem dX7_cutOf_21 : decode cX7_cutOf 21 = .ok (.if_icmp .ge 41, 3) := by decide +kernel
theorem dX7_cutOf_24 : decode cX7_cutOf 24 = .ok (.iload_n 1, 1) := by decide +kernel
theorem dX7_cutOf_25 : decode cX7_cutOf 25 = .ok (.iload_n 3, 1) := by decide +kernel
theorem dX7_cutOf_26 : decode cX7_cutOf 26 = .ok (.invokestatic 118, 3) := by decide +kernel
theorem dX7_cutOf_29 : decode cX7_cutOf 29 = .ok (.ifCond .eq 27, 3) := by decide +kernel
theorem dX7_cutOf_32 : decode cX7_cutOf 32 = .ok (.iload_n 1, 1) := by decide +kernel
theorem dX7_cutOf_33 : decode cX7_cutOf 33 = .ok (.iload 4, 2) := by decide +kernel
theorem dX7_cutOf_35 : decode cX7_cutOf 35 = .ok (.invokestatic 118, 3) := by decide +kernel
theorem dX7_cutOf_38 : decode cX7_cutOf 38 = .ok (.ifCond .ne 18, 3) := by decide +kernel
theorem dX7_cutOf_41 : decode cX7_cutOf 41 = .ok (.iload_n 2, 1) := by decide +kernel
theorem dX7_cutOf_42 : decode cX7_cutOf 42 = .ok (.aload_n 0, 1) := by decide +kernel
theorem dX7_cutOf_43 : decode cX7_cutOf 43 = .ok (.getfield 15, 3) := by decide +kernel
theorem dX7_cutOf_46 : decode cX7_cutOf 46 = .ok (.bipush 6, 2) := by decide +kernel
theorem dX7_cutOf_48 : decode cX7_cutOf 48 = .ok (.iload_n 3, 1) := by decide +kernel
theorem dX7_cutOf_49 : decode cX7_cutOf 49 = .ok (.imul, 1) := by decide +kernel
theorem dX7_cutOf_50 : decode cX7_cutOf 50 = .ok (.iload 4, 2) := by decide +kernel
theorem dX7_cutOf_52 : decode cX7_cutOf 52 = .ok (.iadd, 1) := by decide +kernel
theorem dX7_cutOf_53 : decode cX7_cutOf 53 = .ok (.iaload, 1) := by decide +kernel
theorem dX7_cutOf_54 : decode cX7_cutOf 54 = .ok (.iadd, 1) := by decide +kernel
theorem dX7_cutOf_55 : decode cX7_cutOf 55 = .ok (.istore_n 2, 1) := by decide +kernel
theorem dX7_cutOf_56 : decode cX7_cutOf 56 = .ok (.iinc 4 1, 3) := by decide +kernel
theorem dX7_cutOf_59 : decode cX7_cutOf 59 = .ok (.goto (-44), 3) := by decide +kernel
theorem dX7_cutOf_62 : decode cX7_cutOf 62 = .ok (.iinc 3 1, 3) := by decide +kernel
theorem dX7_cutOf_65 : decode cX7_cutOf 65 = .ok (.goto (-61), 3) := by decide +kernel
theorem dX7_cutOf_68 : decode cX7_cutOf 68 = .ok (.iload_n 2, 1) := by decide +kernel
theorem dX7_cutOf_69 : decode cX7_cutOf 69 = .ok (.ireturn, 1) := by decide +kernel
theorem dX7_coverOf_0 : decode cX7_coverOf 0 = .ok (.iconst 0, 1) := by decide +kernel
theorem dX7_coverOf_1 : decode cX7_coverOf 1 = .ok (.istore_n 2, 1) := by decide +kernel
theorem dX7_coverOf_2 : decode cX7_coverOf 2 = .ok (.iconst 0, 1) := by decide +kernel
theorem dX7_coverOf_3 : decode cX7_coverOf 3 = .ok (.istore_n 3, 1) := by decide +kernel
theorem dX7_coverOf_4 : decode cX7_coverOf 4 = .ok (.iload_n 3, 1) := by decide +kernel
theorem dX7_coverOf_5 : decode cX7_coverOf 5 = .ok (.bipush 8, 2) := by decide +kernel
theorem dX7_coverOf_7 : decode cX7_coverOf 7 = .ok (.if_icmp .ge 29, 3) := by decide +kernel
theorem dX7_coverOf_10 : decode cX7_coverOf 10 = .ok (.aload_n 0, 1) := by decide +kernel
theorem dX7_coverOf_11 : decode cX7_coverOf 11 = .ok (.getfield 22, 3) := by decide +kernel
theorem dX7_coverOf_14 : decode cX7_coverOf 14 = .ok (.iload_n 3, 1) := by decide +kernel
theorem dX7_coverOf_15 : decode cX7_coverOf 15 = .ok (.iaload, 1) := by decide +kernel
theorem dX7_coverOf_16 : decode cX7_coverOf 16 = .ok (.iload_n 1, 1) := by decide +kernel
theorem dX7_coverOf_17 : decode cX7_coverOf 17 = .ok (.iand, 1) := by decide +kernel
theorem dX7_coverOf_18 : decode cX7_coverOf 18 = .ok (.ifCond .eq 12, 3) := by decide +kernel
theorem dX7_coverOf_21 : decode cX7_coverOf 21 = .ok (.iload_n 2, 1) := by decide +kernel
theorem dX7_coverOf_22 : decode cX7_coverOf 22 = .ok (.aload_n 0, 1) := by decide +kernel
theorem dX7_coverOf_23 : decode cX7_coverOf 23 = .ok (.getfield 19, 3) := by decide +kernel
theorem dX7_coverOf_26 : decode cX7_coverOf 26 = .ok (.iload_n 3, 1) := by decide +kernel
theorem dX7_coverOf_27 : decode cX7_coverOf 27 = .ok (.iaload, 1) := by decide +kernel
theorem dX7_coverOf_28 : decode cX7_coverOf 28 = .ok (.iadd, 1) := by decide +kernel
theorem dX7_coverOf_29 : decode cX7_coverOf 29 = .ok (.istore_n 2, 1) := by decide +kernel
theorem dX7_coverOf_30 : decode cX7_coverOf 30 = .ok (.iinc 3 1, 3) := by decide +kernel
theorem dX7_coverOf_33 : decode cX7_coverOf 33 = .ok (.goto (-29), 3) := by decide +kernel
theorem dX7_coverOf_36 : decode cX7_coverOf 36 = .ok (.iload_n 2, 1) := by decide +kernel
theorem dX7_coverOf_37 : decode cX7_coverOf 37 = .ok (.ireturn, 1) := by decide +kernel
theorem dX7_cappedOf_0 : decode cX7_cappedOf 0 = .ok (.iconst 0, 1) := by decide +kernel
theorem dX7_cappedOf_1 : decode cX7_cappedOf 1 = .ok (.istore_n 2, 1) := by decide +kernel
theorem dX7_cappedOf_2 : decode cX7_cappedOf 2 = .ok (.iconst 0, 1) := by decide +kernel
theorem dX7_cappedOf_3 : decode cX7_cappedOf 3 = .ok (.istore_n 3, 1) := by decide +kernel
theorem dX7_cappedOf_4 : decode cX7_cappedOf 4 = .ok (.iload_n 3, 1) := by decide +kernel
theorem dX7_cappedOf_5 : decode cX7_cappedOf 5 = .ok (.bipush 6, 2) := by decide +kernel
theorem dX7_cappedOf_7 : decode cX7_cappedOf 7 = .ok (.if_icmp .ge 67, 3) := by decide +kernel
theorem dX7_cappedOf_10 : decode cX7_cappedOf 10 = .ok (.iconst 0, 1) := by decide +kernel
theorem dX7_cappedOf_11 : decode cX7_cappedOf 11 = .ok (.istore 4, 2) := by decide +kernel
theorem dX7_cappedOf_13 : decode cX7_cappedOf 13 = .ok (.iconst 0, 1) := by decide +kernel
theorem dX7_cappedOf_14 : decode cX7_cappedOf 14 = .ok (.istore 5, 2) := by decide +kernel
theorem dX7_cappedOf_16 : decode cX7_cappedOf 16 = .ok (.iload 5, 2) := by decide +kernel
theorem dX7_cappedOf_18 : decode cX7_cappedOf 18 = .ok (.aload_n 0, 1) := by decide +kernel
theorem dX7_cappedOf_19 : decode cX7_cappedOf 19 = .ok (.getfield 9, 3) := by decide +kernel
theorem dX7_cappedOf_22 : decode cX7_cappedOf 22 = .ok (.if_icmp .ge 32, 3) := by decide +kernel
theorem dX7_cappedOf_25 : decode cX7_cappedOf 25 = .ok (.iload_n 1, 1) := by decide +kernel
theorem dX7_cappedOf_26 : decode cX7_cappedOf 26 = .ok (.iload 5, 2) := by decide +kernel
theorem dX7_cappedOf_28 : decode cX7_cappedOf 28 = .ok (.invokestatic 118, 3) := by decide +kernel
theorem dX7_cappedOf_31 : decode cX7_cappedOf 31 = .ok (.ifCond .eq 17, 3) := by decide +kernel
theorem dX7_cappedOf_34 : decode cX7_cappedOf 34 = .ok (.aload_n 0, 1) := by decide +kernel
theorem dX7_cappedOf_35 : decode cX7_cappedOf 35 = .ok (.getfield 25, 3) := by decide +kernel
theorem dX7_cappedOf_38 : decode cX7_cappedOf 38 = .ok (.iload 5, 2) := by decide +kernel
theorem dX7_cappedOf_40 : decode cX7_cappedOf 40 = .ok (.iaload, 1) := by decide +kernel
theorem dX7_cappedOf_41 : decode cX7_cappedOf 41 = .ok (.iload_n 3, 1) := by decide +kernel
theorem dX7_cappedOf_42 : decode cX7_cappedOf 42 = .ok (.if_icmp .ne 6, 3) := by decide +kernel
theorem dX7_cappedOf_45 : decode cX7_cappedOf 45 = .ok (.iinc 4 1, 3) := by decide +kernel
theorem dX7_cappedOf_48 : decode cX7_cappedOf 48 = .ok (.iinc 5 1, 3) := by decide +kernel
theorem dX7_cappedOf_51 : decode cX7_cappedOf 51 = .ok (.goto (-35), 3) := by decide +kernel
theorem dX7_cappedOf_54 : decode cX7_cappedOf 54 = .ok (.iload_n 2, 1) := by decide +kernel
theorem dX7_cappedOf_55 : decode cX7_cappedOf 55 = .ok (.iload 4, 2) := by decide +kernel
theorem dX7_cappedOf_57 : decode cX7_cappedOf 57 = .ok (.aload_n 0, 1) := by decide +kernel
theorem dX7_cappedOf_58 : decode cX7_cappedOf 58 = .ok (.getfield 28, 3) := by decide +kernel
theorem dX7_cappedOf_61 : decode cX7_cappedOf 61 = .ok (.iload_n 3, 1) := by decide +kernel
theorem dX7_cappedOf_62 : decode cX7_cappedOf 62 = .ok (.iaload, 1) := by decide +kernel
theorem dX7_cappedOf_63 : decode cX7_cappedOf 63 = .ok (.invokestatic 122, 3) := by decide +kernel
theorem dX7_cappedOf_66 : decode cX7_cappedOf 66 = .ok (.iadd, 1) := by decide +kernel
theorem dX7_cappedOf_67 : decode cX7_cappedOf 67 = .ok (.istore_n 2, 1) := by decide +kernel
theorem dX7_cappedOf_68 : decode cX7_cappedOf 68 = .ok (.iinc 3 1, 3) := by decide +kernel
theorem dX7_cappedOf_71 : decode cX7_cappedOf 71 = .ok (.goto (-67), 3) := by decide +kernel
theorem dX7_cappedOf_74 : decode cX7_cappedOf 74 = .ok (.iload_n 2, 1) := by decide +kernel
theorem dX7_cappedOf_75 : decode cX7_cappedOf 75 = .ok (.ireturn, 1) := by decide +kernel
theorem dX7_weightOf_0 : decode cX7_weightOf 0 = .ok (.iconst 0, 1) := by decide +kernel
theorem dX7_weightOf_1 : decode cX7_weightOf 1 = .ok (.istore_n 2, 1) := by decide +kernel
theorem dX7_weightOf_2 : decode cX7_weightOf 2 = .ok (.iconst 0, 1) := by decide +kernel
theorem dX7_weightOf_3 : decode cX7_weightOf 3 = .ok (.istore_n 3, 1) := by decide +kernel
theorem dX7_weightOf_4 : decode cX7_weightOf 4 = .ok (.iload_n 3, 1) := by decide +kernel
theorem dX7_weightOf_5 : decode cX7_weightOf 5 = .ok (.aload_n 0, 1) := by decide +kernel
theorem dX7_weightOf_6 : decode cX7_weightOf 6 = .ok (.getfield 9, 3) := by decide +kernel
theorem dX7_weightOf_9 : decode cX7_weightOf 9 = .ok (.if_icmp .ge 26, 3) := by decide +kernel
theorem dX7_weightOf_12 : decode cX7_weightOf 12 = .ok (.iload_n 1, 1) := by decide +kernel
theorem dX7_weightOf_13 : decode cX7_weightOf 13 = .ok (.iload_n 3, 1) := by decide +kernel
theorem dX7_weightOf_14 : decode cX7_weightOf 14 = .ok (.invokestatic 118, 3) := by decide +kernel
theorem dX7_weightOf_17 : decode cX7_weightOf 17 = .ok (.ifCond .eq 12, 3) := by decide +kernel
theorem dX7_weightOf_20 : decode cX7_weightOf 20 = .ok (.iload_n 2, 1) := by decide +kernel
theorem dX7_weightOf_21 : decode cX7_weightOf 21 = .ok (.aload_n 0, 1) := by decide +kernel
theorem dX7_weightOf_22 : decode cX7_weightOf 22 = .ok (.getfield 31, 3) := by decide +kernel
theorem dX7_weightOf_25 : decode cX7_weightOf 25 = .ok (.iload_n 3, 1) := by decide +kernel
theorem dX7_weightOf_26 : decode cX7_weightOf 26 = .ok (.iaload, 1) := by decide +kernel
theorem dX7_weightOf_27 : decode cX7_weightOf 27 = .ok (.iadd, 1) := by decide +kernel
theorem dX7_weightOf_28 : decode cX7_weightOf 28 = .ok (.istore_n 2, 1) := by decide +kernel
theorem dX7_weightOf_29 : decode cX7_weightOf 29 = .ok (.iinc 3 1, 3) := by decide +kernel
theorem dX7_weightOf_32 : decode cX7_weightOf 32 = .ok (.goto (-28), 3) := by decide +kernel
theorem dX7_weightOf_35 : decode cX7_weightOf 35 = .ok (.iload_n 2, 1) := by decide +kernel
theorem dX7_weightOf_36 : decode cX7_weightOf 36 = .ok (.ireturn, 1) := by decide +kernel
theorem dX7_isFunction_0 : decode cX7_isFunction 0 = .ok (.iload_n 0, 1) := by decide +kernel
theorem dX7_isFunction_1 : decode cX7_isFunction 1 = .ok (.i2l, 1) := by decide +kernel
theorem dX7_isFunction_2 : decode cX7_isFunction 2 = .ok (.lconst 0, 1) := by decide +kernel
theorem dX7_isFunction_3 : decode cX7_isFunction 3 = .ok (.ldc2_w 109, 3) := by decide +kernel
theorem dX7_isFunction_6 : decode cX7_isFunction 6 = .ok (.invokestatic 79, 3) := by decide +kernel
theorem dX7_isFunction_9 : decode cX7_isFunction 9 = .ok (.ireturn, 1) := by decide +kernel
theorem dX7_isThere_0 : decode cX7_isThere 0 = .ok (.iload_n 1, 1) := by decide +kernel
theorem dX7_isThere_1 : decode cX7_isThere 1 = .ok (.invokestatic 128, 3) := by decide +kernel
theorem dX7_isThere_4 : decode cX7_isThere 4 = .ok (.ifCond .eq 16, 3) := by decide +kernel
theorem dX7_isThere_7 : decode cX7_isThere 7 = .ok (.aload_n 0, 1) := by decide +kernel
theorem dX7_isThere_8 : decode cX7_isThere 8 = .ok (.getfield 34, 3) := by decide +kernel
theorem dX7_isThere_11 : decode cX7_isThere 11 = .ok (.iload_n 1, 1) := by decide +kernel
theorem dX7_isThere_12 : decode cX7_isThere 12 = .ok (.iaload, 1) := by decide +kernel
theorem dX7_isThere_13 : decode cX7_isThere 13 = .ok (.ifCond .lt 7, 3) := by decide +kernel
theorem dX7_isThere_16 : decode cX7_isThere 16 = .ok (.iconst 1, 1) := by decide +kernel
theorem dX7_isThere_17 : decode cX7_isThere 17 = .ok (.goto 4, 3) := by decide +kernel
theorem dX7_isThere_20 : decode cX7_isThere 20 = .ok (.iconst 0, 1) := by decide +kernel
theorem dX7_isThere_21 : decode cX7_isThere 21 = .ok (.ireturn, 1) := by decide +kernel
theorem dX7_isValue_0 : decode cX7_isValue 0 = .ok (.lload_n 0, 1) := by decide +kernel
theorem dX7_isValue_1 : decode cX7_isValue 1 = .ok (.ldc2_w 131, 3) := by decide +kernel
theorem dX7_isValue_4 : decode cX7_isValue 4 = .ok (.ldc2_w 133, 3) := by decide +kernel
theorem dX7_isValue_7 : decode cX7_isValue 7 = .ok (.invokestatic 79, 3) := by decide +kernel
theorem dX7_isValue_10 : decode cX7_isValue 10 = .ok (.ireturn, 1) := by decide +kernel
theorem dX7_becomes_0 : decode cX7_becomes 0 = .ok (.aload_n 0, 1) := by decide +kernel
theorem dX7_becomes_1 : decode cX7_becomes 1 = .ok (.getfield 34, 3) := by decide +kernel
theorem dX7_becomes_4 : decode cX7_becomes 4 = .ok (.iload_n 1, 1) := by decide +kernel
theorem dX7_becomes_5 : decode cX7_becomes 5 = .ok (.iload_n 2, 1) := by decide +kernel
theorem dX7_becomes_6 : decode cX7_becomes 6 = .ok (.iastore, 1) := by decide +kernel
theorem dX7_becomes_7 : decode cX7_becomes 7 = .ok (.iconst 0, 1) := by decide +kernel
theorem dX7_becomes_8 : decode cX7_becomes 8 = .ok (.istore_n 3, 1) := by decide +kernel
theorem dX7_becomes_9 : decode cX7_becomes 9 = .ok (.iload_n 3, 1) := by decide +kernel
theorem dX7_becomes_10 : decode cX7_becomes 10 = .ok (.bipush 64, 2) := by decide +kernel
theorem dX7_becomes_12 : decode cX7_becomes 12 = .ok (.if_icmp .ge 35, 3) := by decide +kernel
theorem dX7_becomes_15 : decode cX7_becomes 15 = .ok (.aload_n 0, 1) := by decide +kernel
theorem dX7_becomes_16 : decode cX7_becomes 16 = .ok (.getfield 39, 3) := by decide +kernel
theorem dX7_becomes_19 : decode cX7_becomes 19 = .ok (.iload_n 1, 1) := by decide +kernel
theorem dX7_becomes_20 : decode cX7_becomes 20 = .ok (.aaload, 1) := by decide +kernel
theorem dX7_becomes_21 : decode cX7_becomes 21 = .ok (.iload_n 3, 1) := by decide +kernel
theorem dX7_becomes_22 : decode cX7_becomes 22 = .ok (.iload_n 3, 1) := by decide +kernel
theorem dX7_becomes_23 : decode cX7_becomes 23 = .ok (.aload_n 0, 1) := by decide +kernel
theorem dX7_becomes_24 : decode cX7_becomes 24 = .ok (.invokevirtual 83, 3) := by decide +kernel
theorem dX7_becomes_27 : decode cX7_becomes 27 = .ok (.if_icmp .ge 12, 3) := by decide +kernel
theorem dX7_becomes_30 : decode cX7_becomes 30 = .ok (.aload_n 0, 1) := by decide +kernel
theorem dX7_becomes_31 : decode cX7_becomes 31 = .ok (.getfield 42, 3) := by decide +kernel
theorem dX7_becomes_34 : decode cX7_becomes 34 = .ok (.iload_n 3, 1) := by decide +kernel
theorem dX7_becomes_35 : decode cX7_becomes 35 = .ok (.iaload, 1) := by decide +kernel
theorem dX7_becomes_36 : decode cX7_becomes 36 = .ok (.goto 4, 3) := by decide +kernel
theorem dX7_becomes_39 : decode cX7_becomes 39 = .ok (.iconst 0, 1) := by decide +kernel
theorem dX7_becomes_40 : decode cX7_becomes 40 = .ok (.iastore, 1) := by decide +kernel
theorem dX7_becomes_41 : decode cX7_becomes 41 = .ok (.iinc 3 1, 3) := by decide +kernel
theorem dX7_becomes_44 : decode cX7_becomes 44 = .ok (.goto (-35), 3) := by decide +kernel
theorem dX7_becomes_47 : decode cX7_becomes 47 = .ok (.return_, 1) := by decide +kernel
theorem dX7_areValues_0 : decode cX7_areValues 0 = .ok (.iconst 0, 1) := by decide +kernel
theorem dX7_areValues_1 : decode cX7_areValues 1 = .ok (.istore_n 1, 1) := by decide +kernel
theorem dX7_areValues_2 : decode cX7_areValues 2 = .ok (.iload_n 1, 1) := by decide +kernel
theorem dX7_areValues_3 : decode cX7_areValues 3 = .ok (.aload_n 0, 1) := by decide +kernel
theorem dX7_areValues_4 : decode cX7_areValues 4 = .ok (.invokevirtual 83, 3) := by decide +kernel
theorem dX7_areValues_7 : decode cX7_areValues 7 = .ok (.if_icmp .ge 24, 3) := by decide +kernel
theorem dX7_areValues_10 : decode cX7_areValues 10 = .ok (.aload_n 0, 1) := by decide +kernel
theorem dX7_areValues_11 : decode cX7_areValues 11 = .ok (.getfield 42, 3) := by decide +kernel
theorem dX7_areValues_14 : decode cX7_areValues 14 = .ok (.iload_n 1, 1) := by decide +kernel
theorem dX7_areValues_15 : decode cX7_areValues 15 = .ok (.iaload, 1) := by decide +kernel
theorem dX7_areValues_16 : decode cX7_areValues 16 = .ok (.i2l, 1) := by decide +kernel
theorem dX7_areValues_17 : decode cX7_areValues 17 = .ok (.invokestatic 135, 3) := by decide +kernel
theorem dX7_areValues_20 : decode cX7_areValues 20 = .ok (.ifCond .ne 5, 3) := by decide +kernel
theorem dX7_areValues_23 : decode cX7_areValues 23 = .ok (.iconst 0, 1) := by decide +kernel
theorem dX7_areValues_24 : decode cX7_areValues 24 = .ok (.ireturn, 1) := by decide +kernel
theorem dX7_areValues_25 : decode cX7_areValues 25 = .ok (.iinc 1 1, 3) := by decide +kernel
theorem dX7_areValues_28 : decode cX7_areValues 28 = .ok (.goto (-26), 3) := by decide +kernel
theorem dX7_areValues_31 : decode cX7_areValues 31 = .ok (.iconst 1, 1) := by decide +kernel
theorem dX7_areValues_32 : decode cX7_areValues 32 = .ok (.ireturn, 1) := by decide +kernel
theorem dX7_comes_0 : decode cX7_comes 0 = .ok (.aload_n 0, 1) := by decide +kernel
theorem dX7_comes_1 : decode cX7_comes 1 = .ok (.invokevirtual 139, 3) := by decide +kernel
theorem dX7_comes_4 : decode cX7_comes 4 = .ok (.ifCond .ne 6, 3) := by decide +kernel
theorem dX7_comes_7 : decode cX7_comes 7 = .ok (.bipush (-3), 2) := by decide +kernel
theorem dX7_comes_9 : decode cX7_comes 9 = .ok (.ireturn, 1) := by decide +kernel
theorem dX7_comes_10 : decode cX7_comes 10 = .ok (.aload_n 0, 1) := by decide +kernel
theorem dX7_comes_11 : decode cX7_comes 11 = .ok (.iload_n 1, 1) := by decide +kernel
theorem dX7_comes_12 : decode cX7_comes 12 = .ok (.iconst 5, 1) := by decide +kernel
theorem dX7_comes_13 : decode cX7_comes 13 = .ok (.invokevirtual 143, 3) := by decide +kernel
theorem dX7_comes_16 : decode cX7_comes 16 = .ok (.iconst 1, 1) := by decide +kernel
theorem dX7_comes_17 : decode cX7_comes 17 = .ok (.ireturn, 1) := by decide +kernel
theorem dX7_tell_0 : decode cX7_tell 0 = .ok (.iload_n 1, 1) := by decide +kernel
theorem dX7_tell_1 : decode cX7_tell 1 = .ok (.invokestatic 128, 3) := by decide +kernel
theorem dX7_tell_4 : decode cX7_tell 4 = .ok (.ifCond .ne 6, 3) := by decide +kernel
theorem dX7_tell_7 : decode cX7_tell 7 = .ok (.ldc 114, 2) := by decide +kernel
theorem dX7_tell_9 : decode cX7_tell 9 = .ok (.ireturn, 1) := by decide +kernel
theorem dX7_tell_10 : decode cX7_tell 10 = .ok (.aload_n 0, 1) := by decide +kernel
theorem dX7_tell_11 : decode cX7_tell 11 = .ok (.iload_n 2, 1) := by decide +kernel
theorem dX7_tell_12 : decode cX7_tell 12 = .ok (.invokevirtual 106, 3) := by decide +kernel
theorem dX7_tell_15 : decode cX7_tell 15 = .ok (.ifCond .eq 11, 3) := by decide +kernel
theorem dX7_tell_18 : decode cX7_tell 18 = .ok (.iload_n 3, 1) := by decide +kernel
theorem dX7_tell_19 : decode cX7_tell 19 = .ok (.i2l, 1) := by decide +kernel
theorem dX7_tell_20 : decode cX7_tell 20 = .ok (.invokestatic 135, 3) := by decide +kernel
theorem dX7_tell_23 : decode cX7_tell 23 = .ok (.ifCond .ne 6, 3) := by decide +kernel
theorem dX7_tell_26 : decode cX7_tell 26 = .ok (.ldc 117, 2) := by decide +kernel
theorem dX7_tell_28 : decode cX7_tell 28 = .ok (.ireturn, 1) := by decide +kernel
theorem dX7_tell_29 : decode cX7_tell 29 = .ok (.aload_n 0, 1) := by decide +kernel
theorem dX7_tell_30 : decode cX7_tell 30 = .ok (.getfield 34, 3) := by decide +kernel
theorem dX7_tell_33 : decode cX7_tell 33 = .ok (.iload_n 1, 1) := by decide +kernel
theorem dX7_tell_34 : decode cX7_tell 34 = .ok (.iaload, 1) := by decide +kernel
theorem dX7_tell_35 : decode cX7_tell 35 = .ok (.ifCond .ge 7, 3) := by decide +kernel
theorem dX7_tell_38 : decode cX7_tell 38 = .ok (.iconst 0, 1) := by decide +kernel
theorem dX7_tell_39 : decode cX7_tell 39 = .ok (.goto 11, 3) := by decide +kernel
theorem dX7_tell_42 : decode cX7_tell 42 = .ok (.aload_n 0, 1) := by decide +kernel
theorem dX7_tell_43 : decode cX7_tell 43 = .ok (.getfield 39, 3) := by decide +kernel
theorem dX7_tell_46 : decode cX7_tell 46 = .ok (.iload_n 1, 1) := by decide +kernel
theorem dX7_tell_47 : decode cX7_tell 47 = .ok (.aaload, 1) := by decide +kernel
theorem dX7_tell_48 : decode cX7_tell 48 = .ok (.iload_n 2, 1) := by decide +kernel
theorem dX7_tell_49 : decode cX7_tell 49 = .ok (.iaload, 1) := by decide +kernel
theorem dX7_tell_50 : decode cX7_tell 50 = .ok (.istore 4, 2) := by decide +kernel
theorem dX7_tell_52 : decode cX7_tell 52 = .ok (.iconst 0, 1) := by decide +kernel
theorem dX7_tell_53 : decode cX7_tell 53 = .ok (.istore 5, 2) := by decide +kernel
theorem dX7_tell_55 : decode cX7_tell 55 = .ok (.iload 5, 2) := by decide +kernel
theorem dX7_tell_57 : decode cX7_tell 57 = .ok (.aload_n 0, 1) := by decide +kernel
theorem dX7_tell_58 : decode cX7_tell 58 = .ok (.invokevirtual 83, 3) := by decide +kernel
theorem dX7_tell_61 : decode cX7_tell 61 = .ok (.if_icmp .ge 28, 3) := by decide +kernel
theorem dX7_tell_64 : decode cX7_tell 64 = .ok (.aload_n 0, 1) := by decide +kernel
theorem dX7_tell_65 : decode cX7_tell 65 = .ok (.getfield 34, 3) := by decide +kernel
theorem dX7_tell_68 : decode cX7_tell 68 = .ok (.iload_n 1, 1) := by decide +kernel
theorem dX7_tell_69 : decode cX7_tell 69 = .ok (.iaload, 1) := by decide +kernel
theorem dX7_tell_70 : decode cX7_tell 70 = .ok (.ifCond .ge 19, 3) := by decide +kernel
theorem dX7_tell_73 : decode cX7_tell 73 = .ok (.aload_n 0, 1) := by decide +kernel
theorem dX7_tell_74 : decode cX7_tell 74 = .ok (.getfield 39, 3) := by decide +kernel
theorem dX7_tell_77 : decode cX7_tell 77 = .ok (.iload_n 1, 1) := by decide +kernel
theorem dX7_tell_78 : decode cX7_tell 78 = .ok (.aaload, 1) := by decide +kernel
theorem dX7_tell_79 : decode cX7_tell 79 = .ok (.iload 5, 2) := by decide +kernel
theorem dX7_tell_81 : decode cX7_tell 81 = .ok (.iconst 0, 1) := by decide +kernel
theorem dX7_tell_82 : decode cX7_tell 82 = .ok (.iastore, 1) := by decide +kernel
theorem dX7_tell_83 : decode cX7_tell 83 = .ok (.iinc 5 1, 3) := by decide +kernel
theorem dX7_tell_86 : decode cX7_tell 86 = .ok (.goto (-31), 3) := by decide +kernel
theorem dX7_tell_89 : decode cX7_tell 89 = .ok (.aload_n 0, 1) := by decide +kernel
theorem dX7_tell_90 : decode cX7_tell 90 = .ok (.getfield 34, 3) := by decide +kernel
theorem dX7_tell_93 : decode cX7_tell 93 = .ok (.iload_n 1, 1) := by decide +kernel
theorem dX7_tell_94 : decode cX7_tell 94 = .ok (.iconst 0, 1) := by decide +kernel
theorem dX7_tell_95 : decode cX7_tell 95 = .ok (.iastore, 1) := by decide +kernel
theorem dX7_tell_96 : decode cX7_tell 96 = .ok (.aload_n 0, 1) := by decide +kernel
theorem dX7_tell_97 : decode cX7_tell 97 = .ok (.getfield 39, 3) := by decide +kernel
theorem dX7_tell_100 : decode cX7_tell 100 = .ok (.iload_n 1, 1) := by decide +kernel
theorem dX7_tell_101 : decode cX7_tell 101 = .ok (.aaload, 1) := by decide +kernel
theorem dX7_tell_102 : decode cX7_tell 102 = .ok (.iload_n 2, 1) := by decide +kernel
theorem dX7_tell_103 : decode cX7_tell 103 = .ok (.iload_n 3, 1) := by decide +kernel
theorem dX7_tell_104 : decode cX7_tell 104 = .ok (.iastore, 1) := by decide +kernel
theorem dX7_tell_105 : decode cX7_tell 105 = .ok (.iload 4, 2) := by decide +kernel
theorem dX7_tell_107 : decode cX7_tell 107 = .ok (.ireturn, 1) := by decide +kernel
theorem dX7_makes_0 : decode cX7_makes 0 = .ok (.iconst 0, 1) := by decide +kernel
theorem dX7_makes_1 : decode cX7_makes 1 = .ok (.istore 4, 2) := by decide +kernel
theorem dX7_makes_3 : decode cX7_makes 3 = .ok (.iload 4, 2) := by decide +kernel
theorem dX7_makes_5 : decode cX7_makes 5 = .ok (.aload_n 0, 1) := by decide +kernel
theorem dX7_makes_6 : decode cX7_makes 6 = .ok (.invokevirtual 83, 3) := by decide +kernel
theorem dX7_makes_9 : decode cX7_makes 9 = .ok (.if_icmp .ge 64, 3) := by decide +kernel
theorem dX7_makes_12 : decode cX7_makes 12 = .ok (.aload_n 0, 1) := by decide +kernel
theorem dX7_makes_13 : decode cX7_makes 13 = .ok (.getfield 42, 3) := by decide +kernel
theorem dX7_makes_16 : decode cX7_makes 16 = .ok (.iload 4, 2) := by decide +kernel
theorem dX7_makes_18 : decode cX7_makes 18 = .ok (.iload_n 2, 1) := by decide +kernel
theorem dX7_makes_19 : decode cX7_makes 19 = .ok (.iconst 1, 1) := by decide +kernel
theorem dX7_makes_20 : decode cX7_makes 20 = .ok (.if_icmp .ne 12, 3) := by decide +kernel
theorem dX7_makes_23 : decode cX7_makes 23 = .ok (.aload_n 0, 1) := by decide +kernel
theorem dX7_makes_24 : decode cX7_makes 24 = .ok (.iload 4, 2) := by decide +kernel
theorem dX7_makes_26 : decode cX7_makes 26 = .ok (.invokevirtual 147, 3) := by decide +kernel
theorem dX7_makes_29 : decode cX7_makes 29 = .ok (.goto 37, 3) := by decide +kernel
theorem dX7_makes_32 : decode cX7_makes 32 = .ok (.iload_n 2, 1) := by decide +kernel
theorem dX7_makes_33 : decode cX7_makes 33 = .ok (.iconst 2, 1) := by decide +kernel
theorem dX7_makes_34 : decode cX7_makes 34 = .ok (.if_icmp .ne 12, 3) := by decide +kernel
theorem dX7_makes_37 : decode cX7_makes 37 = .ok (.aload_n 0, 1) := by decide +kernel
theorem dX7_makes_38 : decode cX7_makes 38 = .ok (.iload 4, 2) := by decide +kernel
theorem dX7_makes_40 : decode cX7_makes 40 = .ok (.invokevirtual 150, 3) := by decide +kernel
theorem dX7_makes_43 : decode cX7_makes 43 = .ok (.goto 23, 3) := by decide +kernel
theorem dX7_makes_46 : decode cX7_makes 46 = .ok (.iload_n 2, 1) := by decide +kernel
theorem dX7_makes_47 : decode cX7_makes 47 = .ok (.iconst 3, 1) := by decide +kernel
theorem dX7_makes_48 : decode cX7_makes 48 = .ok (.if_icmp .ne 12, 3) := by decide +kernel
theorem dX7_makes_51 : decode cX7_makes 51 = .ok (.aload_n 0, 1) := by decide +kernel
theorem dX7_makes_52 : decode cX7_makes 52 = .ok (.iload 4, 2) := by decide +kernel
theorem dX7_makes_54 : decode cX7_makes 54 = .ok (.invokevirtual 153, 3) := by decide +kernel
theorem dX7_makes_57 : decode cX7_makes 57 = .ok (.goto 9, 3) := by decide +kernel
theorem dX7_makes_60 : decode cX7_makes 60 = .ok (.aload_n 0, 1) := by decide +kernel
theorem dX7_makes_61 : decode cX7_makes 61 = .ok (.iload 4, 2) := by decide +kernel
theorem dX7_makes_63 : decode cX7_makes 63 = .ok (.invokevirtual 156, 3) := by decide +kernel
theorem dX7_makes_66 : decode cX7_makes 66 = .ok (.iastore, 1) := by decide +kernel
theorem dX7_makes_67 : decode cX7_makes 67 = .ok (.iinc 4 1, 3) := by decide +kernel
theorem dX7_makes_70 : decode cX7_makes 70 = .ok (.goto (-67), 3) := by decide +kernel
theorem dX7_makes_73 : decode cX7_makes 73 = .ok (.aload_n 0, 1) := by decide +kernel
theorem dX7_makes_74 : decode cX7_makes 74 = .ok (.iload_n 1, 1) := by decide +kernel
theorem dX7_makes_75 : decode cX7_makes 75 = .ok (.iload_n 2, 1) := by decide +kernel
theorem dX7_makes_76 : decode cX7_makes 76 = .ok (.invokevirtual 143, 3) := by decide +kernel
theorem dX7_makes_79 : decode cX7_makes 79 = .ok (.aload_n 0, 1) := by decide +kernel
theorem dX7_makes_80 : decode cX7_makes 80 = .ok (.getfield 39, 3) := by decide +kernel
theorem dX7_makes_83 : decode cX7_makes 83 = .ok (.iload_n 1, 1) := by decide +kernel
theorem dX7_makes_84 : decode cX7_makes 84 = .ok (.aaload, 1) := by decide +kernel
theorem dX7_makes_85 : decode cX7_makes 85 = .ok (.iload_n 3, 1) := by decide +kernel
theorem dX7_makes_86 : decode cX7_makes 86 = .ok (.iaload, 1) := by decide +kernel
theorem dX7_makes_87 : decode cX7_makes 87 = .ok (.ireturn, 1) := by decide +kernel
