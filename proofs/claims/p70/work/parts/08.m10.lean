theorem dX12_bestBy_0 : decode cX12_bestBy 0 = .ok (.iconst 0, 1) := by decide +kernel
theorem dX12_bestBy_1 : decode cX12_bestBy 1 = .ok (.istore_n 1, 1) := by decide +kernel
theorem dX12_bestBy_10 : decode cX12_bestBy 10 = .ok (.iload_n 0, 1) := by decide +kernel
theorem dX12_bestBy_11 : decode cX12_bestBy 11 = .ok (.invokestatic 423, 3) := by decide +kernel
theorem dX12_bestBy_14 : decode cX12_bestBy 14 = .ok (.iload_n 1, 1) := by decide +kernel
theorem dX12_bestBy_15 : decode cX12_bestBy 15 = .ok (.iload_n 0, 1) := by decide +kernel
theorem dX12_bestBy_16 : decode cX12_bestBy 16 = .ok (.invokestatic 423, 3) := by decide +kernel
theorem dX12_bestBy_19 : decode cX12_bestBy 19 = .ok (.if_icmp .le 7, 3) := by decide +kernel
theorem dX12_bestBy_2 : decode cX12_bestBy 2 = .ok (.iconst 1, 1) := by decide +kernel
theorem dX12_bestBy_22 : decode cX12_bestBy 22 = .ok (.iload_n 2, 1) := by decide +kernel
theorem dX12_bestBy_23 : decode cX12_bestBy 23 = .ok (.goto 4, 3) := by decide +kernel
theorem dX12_bestBy_26 : decode cX12_bestBy 26 = .ok (.iload_n 1, 1) := by decide +kernel
theorem dX12_bestBy_27 : decode cX12_bestBy 27 = .ok (.istore_n 1, 1) := by decide +kernel
theorem dX12_bestBy_28 : decode cX12_bestBy 28 = .ok (.iinc 2 1, 3) := by decide +kernel
theorem dX12_bestBy_3 : decode cX12_bestBy 3 = .ok (.istore_n 2, 1) := by decide +kernel
theorem dX12_bestBy_31 : decode cX12_bestBy 31 = .ok (.goto (-27), 3) := by decide +kernel
theorem dX12_bestBy_34 : decode cX12_bestBy 34 = .ok (.iload_n 1, 1) := by decide +kernel
theorem dX12_bestBy_35 : decode cX12_bestBy 35 = .ok (.ireturn, 1) := by decide +kernel
theorem dX12_bestBy_4 : decode cX12_bestBy 4 = .ok (.iload_n 2, 1) := by decide +kernel
theorem dX12_bestBy_5 : decode cX12_bestBy 5 = .ok (.iconst 4, 1) := by decide +kernel
theorem dX12_bestBy_6 : decode cX12_bestBy 6 = .ok (.if_icmp .ge 28, 3) := by decide +kernel
theorem dX12_bestBy_9 : decode cX12_bestBy 9 = .ok (.iload_n 2, 1) := by decide +kernel
theorem dX12_blind_0 : decode cX12_blind 0 = .ok (.aload_n 0, 1) := by decide +kernel
theorem dX12_blind_1 : decode cX12_blind 1 = .ok (.invokevirtual 263, 3) := by decide +kernel
theorem dX12_blind_10 : decode cX12_blind 10 = .ok (.iconst 0, 1) := by decide +kernel
theorem dX12_blind_100 : decode cX12_blind 100 = .ok (.ifCond .eq 7, 3) := by decide +kernel
theorem dX12_blind_103 : decode cX12_blind 103 = .ok (.iconst 1, 1) := by decide +kernel
theorem dX12_blind_104 : decode cX12_blind 104 = .ok (.goto 4, 3) := by decide +kernel
theorem dX12_blind_107 : decode cX12_blind 107 = .ok (.iconst 0, 1) := by decide +kernel
theorem dX12_blind_108 : decode cX12_blind 108 = .ok (.iadd, 1) := by decide +kernel
theorem dX12_blind_109 : decode cX12_blind 109 = .ok (.istore_n 1, 1) := by decide +kernel
theorem dX12_blind_11 : decode cX12_blind 11 = .ok (.istore_n 1, 1) := by decide +kernel
theorem dX12_blind_110 : decode cX12_blind 110 = .ok (.iinc 3 1, 3) := by decide +kernel
theorem dX12_blind_113 : decode cX12_blind 113 = .ok (.goto (-89), 3) := by decide +kernel
theorem dX12_blind_116 : decode cX12_blind 116 = .ok (.iinc 2 1, 3) := by decide +kernel
theorem dX12_blind_119 : decode cX12_blind 119 = .ok (.goto (-105), 3) := by decide +kernel
theorem dX12_blind_12 : decode cX12_blind 12 = .ok (.iconst 0, 1) := by decide +kernel
theorem dX12_blind_122 : decode cX12_blind 122 = .ok (.iload_n 1, 1) := by decide +kernel
theorem dX12_blind_123 : decode cX12_blind 123 = .ok (.ireturn, 1) := by decide +kernel
theorem dX12_blind_13 : decode cX12_blind 13 = .ok (.istore_n 2, 1) := by decide +kernel
theorem dX12_blind_14 : decode cX12_blind 14 = .ok (.iload_n 2, 1) := by decide +kernel
theorem dX12_blind_15 : decode cX12_blind 15 = .ok (.bipush 100, 2) := by decide +kernel
theorem dX12_blind_17 : decode cX12_blind 17 = .ok (.if_icmp .ge 105, 3) := by decide +kernel
theorem dX12_blind_20 : decode cX12_blind 20 = .ok (.iload_n 2, 1) := by decide +kernel
theorem dX12_blind_21 : decode cX12_blind 21 = .ok (.iconst 1, 1) := by decide +kernel
theorem dX12_blind_22 : decode cX12_blind 22 = .ok (.iadd, 1) := by decide +kernel
theorem dX12_blind_23 : decode cX12_blind 23 = .ok (.istore_n 3, 1) := by decide +kernel
theorem dX12_blind_24 : decode cX12_blind 24 = .ok (.iload_n 3, 1) := by decide +kernel
theorem dX12_blind_25 : decode cX12_blind 25 = .ok (.bipush 100, 2) := by decide +kernel
theorem dX12_blind_27 : decode cX12_blind 27 = .ok (.if_icmp .ge 89, 3) := by decide +kernel
theorem dX12_blind_30 : decode cX12_blind 30 = .ok (.iconst 1, 1) := by decide +kernel
theorem dX12_blind_31 : decode cX12_blind 31 = .ok (.istore 4, 2) := by decide +kernel
theorem dX12_blind_33 : decode cX12_blind 33 = .ok (.iconst 1, 1) := by decide +kernel
theorem dX12_blind_34 : decode cX12_blind 34 = .ok (.istore 5, 2) := by decide +kernel
theorem dX12_blind_36 : decode cX12_blind 36 = .ok (.iload 5, 2) := by decide +kernel
theorem dX12_blind_38 : decode cX12_blind 38 = .ok (.aload_n 0, 1) := by decide +kernel
theorem dX12_blind_39 : decode cX12_blind 39 = .ok (.getfield 9, 3) := by decide +kernel
theorem dX12_blind_4 : decode cX12_blind 4 = .ok (.ifCond .ne 6, 3) := by decide +kernel
theorem dX12_blind_42 : decode cX12_blind 42 = .ok (.bipush 7, 2) := by decide +kernel
theorem dX12_blind_44 : decode cX12_blind 44 = .ok (.iaload, 1) := by decide +kernel
theorem dX12_blind_45 : decode cX12_blind 45 = .ok (.if_icmp .ge 52, 3) := by decide +kernel
theorem dX12_blind_48 : decode cX12_blind 48 = .ok (.iload 4, 2) := by decide +kernel
theorem dX12_blind_50 : decode cX12_blind 50 = .ok (.ifCond .eq 38, 3) := by decide +kernel
theorem dX12_blind_53 : decode cX12_blind 53 = .ok (.aload_n 0, 1) := by decide +kernel
theorem dX12_blind_54 : decode cX12_blind 54 = .ok (.iload_n 2, 1) := by decide +kernel
theorem dX12_blind_55 : decode cX12_blind 55 = .ok (.iload 5, 2) := by decide +kernel
theorem dX12_blind_57 : decode cX12_blind 57 = .ok (.invokevirtual 400, 3) := by decide +kernel
theorem dX12_blind_60 : decode cX12_blind 60 = .ok (.aload_n 0, 1) := by decide +kernel
theorem dX12_blind_61 : decode cX12_blind 61 = .ok (.iload_n 2, 1) := by decide +kernel
theorem dX12_blind_62 : decode cX12_blind 62 = .ok (.iconst 0, 1) := by decide +kernel
theorem dX12_blind_63 : decode cX12_blind 63 = .ok (.invokevirtual 400, 3) := by decide +kernel
theorem dX12_blind_66 : decode cX12_blind 66 = .ok (.isub, 1) := by decide +kernel
theorem dX12_blind_67 : decode cX12_blind 67 = .ok (.aload_n 0, 1) := by decide +kernel
theorem dX12_blind_68 : decode cX12_blind 68 = .ok (.iload_n 3, 1) := by decide +kernel
theorem dX12_blind_69 : decode cX12_blind 69 = .ok (.iload 5, 2) := by decide +kernel
theorem dX12_blind_7 : decode cX12_blind 7 = .ok (.bipush (-2), 2) := by decide +kernel
theorem dX12_blind_71 : decode cX12_blind 71 = .ok (.invokevirtual 400, 3) := by decide +kernel
theorem dX12_blind_74 : decode cX12_blind 74 = .ok (.aload_n 0, 1) := by decide +kernel
theorem dX12_blind_75 : decode cX12_blind 75 = .ok (.iload_n 3, 1) := by decide +kernel
theorem dX12_blind_76 : decode cX12_blind 76 = .ok (.iconst 0, 1) := by decide +kernel
theorem dX12_blind_77 : decode cX12_blind 77 = .ok (.invokevirtual 400, 3) := by decide +kernel
theorem dX12_blind_80 : decode cX12_blind 80 = .ok (.isub, 1) := by decide +kernel
theorem dX12_blind_81 : decode cX12_blind 81 = .ok (.if_icmp .ne 7, 3) := by decide +kernel
theorem dX12_blind_84 : decode cX12_blind 84 = .ok (.iconst 1, 1) := by decide +kernel
theorem dX12_blind_85 : decode cX12_blind 85 = .ok (.goto 4, 3) := by decide +kernel
theorem dX12_blind_88 : decode cX12_blind 88 = .ok (.iconst 0, 1) := by decide +kernel
theorem dX12_blind_89 : decode cX12_blind 89 = .ok (.istore 4, 2) := by decide +kernel
theorem dX12_blind_9 : decode cX12_blind 9 = .ok (.ireturn, 1) := by decide +kernel
theorem dX12_blind_91 : decode cX12_blind 91 = .ok (.iinc 5 1, 3) := by decide +kernel
theorem dX12_blind_94 : decode cX12_blind 94 = .ok (.goto (-58), 3) := by decide +kernel
theorem dX12_blind_97 : decode cX12_blind 97 = .ok (.iload_n 1, 1) := by decide +kernel
theorem dX12_blind_98 : decode cX12_blind 98 = .ok (.iload 4, 2) := by decide +kernel
theorem dX12_clock_0 : decode cX12_clock 0 = .ok (.iload_n 1, 1) := by decide +kernel
theorem dX12_clock_1 : decode cX12_clock 1 = .ok (.i2l, 1) := by decide +kernel
theorem dX12_clock_12 : decode cX12_clock 12 = .ok (.iload_n 2, 1) := by decide +kernel
theorem dX12_clock_13 : decode cX12_clock 13 = .ok (.i2l, 1) := by decide +kernel
theorem dX12_clock_14 : decode cX12_clock 14 = .ok (.ldc2_w 418, 3) := by decide +kernel
theorem dX12_clock_17 : decode cX12_clock 17 = .ok (.ldc2_w 420, 3) := by decide +kernel
theorem dX12_clock_2 : decode cX12_clock 2 = .ok (.lconst 0, 1) := by decide +kernel
theorem dX12_clock_20 : decode cX12_clock 20 = .ok (.invokestatic 95, 3) := by decide +kernel
theorem dX12_clock_23 : decode cX12_clock 23 = .ok (.ifCond .eq 10, 3) := by decide +kernel
theorem dX12_clock_26 : decode cX12_clock 26 = .ok (.aload_n 0, 1) := by decide +kernel
theorem dX12_clock_27 : decode cX12_clock 27 = .ok (.invokevirtual 269, 3) := by decide +kernel
theorem dX12_clock_3 : decode cX12_clock 3 = .ok (.ldc2_w 395, 3) := by decide +kernel
theorem dX12_clock_30 : decode cX12_clock 30 = .ok (.ifCond .ne 7, 3) := by decide +kernel
theorem dX12_clock_33 : decode cX12_clock 33 = .ok (.ldc_w 422, 3) := by decide +kernel
theorem dX12_clock_36 : decode cX12_clock 36 = .ok (.ireturn, 1) := by decide +kernel
theorem dX12_clock_37 : decode cX12_clock 37 = .ok (.iconst 0, 1) := by decide +kernel
theorem dX12_clock_38 : decode cX12_clock 38 = .ok (.istore_n 3, 1) := by decide +kernel
theorem dX12_clock_39 : decode cX12_clock 39 = .ok (.iconst 0, 1) := by decide +kernel
theorem dX12_clock_40 : decode cX12_clock 40 = .ok (.istore 4, 2) := by decide +kernel
theorem dX12_clock_42 : decode cX12_clock 42 = .ok (.iload 4, 2) := by decide +kernel
theorem dX12_clock_44 : decode cX12_clock 44 = .ok (.iload_n 1, 1) := by decide +kernel
theorem dX12_clock_45 : decode cX12_clock 45 = .ok (.bipush 60, 2) := by decide +kernel
theorem dX12_clock_47 : decode cX12_clock 47 = .ok (.invokestatic 139, 3) := by decide +kernel
theorem dX12_clock_50 : decode cX12_clock 50 = .ok (.if_icmp .gt 25, 3) := by decide +kernel
theorem dX12_clock_53 : decode cX12_clock 53 = .ok (.aload_n 0, 1) := by decide +kernel
theorem dX12_clock_54 : decode cX12_clock 54 = .ok (.iload 4, 2) := by decide +kernel
theorem dX12_clock_56 : decode cX12_clock 56 = .ok (.invokevirtual 276, 3) := by decide +kernel
theorem dX12_clock_59 : decode cX12_clock 59 = .ok (.ifCond .eq 8, 3) := by decide +kernel
theorem dX12_clock_6 : decode cX12_clock 6 = .ok (.invokestatic 95, 3) := by decide +kernel
theorem dX12_clock_62 : decode cX12_clock 62 = .ok (.iload 4, 2) := by decide +kernel
theorem dX12_clock_64 : decode cX12_clock 64 = .ok (.goto 4, 3) := by decide +kernel
theorem dX12_clock_67 : decode cX12_clock 67 = .ok (.iload_n 3, 1) := by decide +kernel
theorem dX12_clock_68 : decode cX12_clock 68 = .ok (.istore_n 3, 1) := by decide +kernel
theorem dX12_clock_69 : decode cX12_clock 69 = .ok (.iinc 4 1, 3) := by decide +kernel
theorem dX12_clock_72 : decode cX12_clock 72 = .ok (.goto (-30), 3) := by decide +kernel
theorem dX12_clock_75 : decode cX12_clock 75 = .ok (.iload_n 2, 1) := by decide +kernel
theorem dX12_clock_76 : decode cX12_clock 76 = .ok (.iload_n 1, 1) := by decide +kernel
theorem dX12_clock_77 : decode cX12_clock 77 = .ok (.iload_n 3, 1) := by decide +kernel
theorem dX12_clock_78 : decode cX12_clock 78 = .ok (.isub, 1) := by decide +kernel
theorem dX12_clock_79 : decode cX12_clock 79 = .ok (.imul, 1) := by decide +kernel
theorem dX12_clock_80 : decode cX12_clock 80 = .ok (.ireturn, 1) := by decide +kernel
theorem dX12_clock_9 : decode cX12_clock 9 = .ok (.ifCond .eq 24, 3) := by decide +kernel
theorem dX12_farther_0 : decode cX12_farther 0 = .ok (.aload_n 0, 1) := by decide +kernel
theorem dX12_farther_1 : decode cX12_farther 1 = .ok (.iload_n 1, 1) := by decide +kernel
theorem dX12_farther_11 : decode cX12_farther 11 = .ok (.iload_n 2, 1) := by decide +kernel
theorem dX12_farther_12 : decode cX12_farther 12 = .ok (.ireturn, 1) := by decide +kernel
theorem dX12_farther_13 : decode cX12_farther 13 = .ok (.aload_n 0, 1) := by decide +kernel
theorem dX12_farther_14 : decode cX12_farther 14 = .ok (.getfield 397, 3) := by decide +kernel
theorem dX12_farther_17 : decode cX12_farther 17 = .ok (.ifCond .ne 7, 3) := by decide +kernel
theorem dX12_farther_2 : decode cX12_farther 2 = .ok (.iconst 0, 1) := by decide +kernel
theorem dX12_farther_20 : decode cX12_farther 20 = .ok (.iconst (-1), 1) := by decide +kernel
theorem dX12_farther_21 : decode cX12_farther 21 = .ok (.goto 14, 3) := by decide +kernel
theorem dX12_farther_24 : decode cX12_farther 24 = .ok (.aload_n 0, 1) := by decide +kernel
theorem dX12_farther_25 : decode cX12_farther 25 = .ok (.getfield 68, 3) := by decide +kernel
theorem dX12_farther_28 : decode cX12_farther 28 = .ok (.aload_n 0, 1) := by decide +kernel
theorem dX12_farther_29 : decode cX12_farther 29 = .ok (.getfield 397, 3) := by decide +kernel
theorem dX12_farther_3 : decode cX12_farther 3 = .ok (.invokevirtual 403, 3) := by decide +kernel
theorem dX12_farther_32 : decode cX12_farther 32 = .ok (.iconst 1, 1) := by decide +kernel
theorem dX12_farther_33 : decode cX12_farther 33 = .ok (.isub, 1) := by decide +kernel
theorem dX12_farther_34 : decode cX12_farther 34 = .ok (.iaload, 1) := by decide +kernel
theorem dX12_farther_35 : decode cX12_farther 35 = .ok (.ireturn, 1) := by decide +kernel
theorem dX12_farther_6 : decode cX12_farther 6 = .ok (.istore_n 2, 1) := by decide +kernel
theorem dX12_farther_7 : decode cX12_farther 7 = .ok (.iload_n 2, 1) := by decide +kernel
theorem dX12_farther_8 : decode cX12_farther 8 = .ok (.ifCond .ge 5, 3) := by decide +kernel
theorem dX12_layParents_0 : decode cX12_layParents 0 = .ok (.aload_n 0, 1) := by decide +kernel
theorem dX12_layParents_1 : decode cX12_layParents 1 = .ok (.iconst (-1), 1) := by decide +kernel
theorem dX12_layParents_100 : decode cX12_layParents 100 = .ok (.bipush 10, 2) := by decide +kernel
theorem dX12_layParents_102 : decode cX12_layParents 102 = .ok (.iload_n 3, 1) := by decide +kernel
theorem dX12_layParents_103 : decode cX12_layParents 103 = .ok (.imul, 1) := by decide +kernel
theorem dX12_layParents_104 : decode cX12_layParents 104 = .ok (.iload 4, 2) := by decide +kernel
theorem dX12_layParents_106 : decode cX12_layParents 106 = .ok (.iadd, 1) := by decide +kernel
theorem dX12_layParents_107 : decode cX12_layParents 107 = .ok (.putfield 412, 3) := by decide +kernel
theorem dX12_layParents_11 : decode cX12_layParents 11 = .ok (.bipush 6, 2) := by decide +kernel
theorem dX12_layParents_110 : decode cX12_layParents 110 = .ok (.iinc 2 1, 3) := by decide +kernel
theorem dX12_layParents_113 : decode cX12_layParents 113 = .ok (.iinc 4 (-1), 3) := by decide +kernel
theorem dX12_layParents_116 : decode cX12_layParents 116 = .ok (.goto (-84), 3) := by decide +kernel
theorem dX12_layParents_119 : decode cX12_layParents 119 = .ok (.iinc 3 (-1), 3) := by decide +kernel
theorem dX12_layParents_122 : decode cX12_layParents 122 = .ok (.goto (-105), 3) := by decide +kernel
theorem dX12_layParents_125 : decode cX12_layParents 125 = .ok (.iload_n 2, 1) := by decide +kernel
theorem dX12_layParents_126 : decode cX12_layParents 126 = .ok (.ireturn, 1) := by decide +kernel
theorem dX12_layParents_13 : decode cX12_layParents 13 = .ok (.iaload, 1) := by decide +kernel
theorem dX12_layParents_14 : decode cX12_layParents 14 = .ok (.iconst 1, 1) := by decide +kernel
theorem dX12_layParents_15 : decode cX12_layParents 15 = .ok (.isub, 1) := by decide +kernel
theorem dX12_layParents_16 : decode cX12_layParents 16 = .ok (.istore_n 3, 1) := by decide +kernel
theorem dX12_layParents_17 : decode cX12_layParents 17 = .ok (.iload_n 3, 1) := by decide +kernel
theorem dX12_layParents_18 : decode cX12_layParents 18 = .ok (.ifCond .lt 107, 3) := by decide +kernel
theorem dX12_layParents_2 : decode cX12_layParents 2 = .ok (.putfield 412, 3) := by decide +kernel
theorem dX12_layParents_21 : decode cX12_layParents 21 = .ok (.aload_n 0, 1) := by decide +kernel
theorem dX12_layParents_22 : decode cX12_layParents 22 = .ok (.getfield 9, 3) := by decide +kernel
theorem dX12_layParents_25 : decode cX12_layParents 25 = .ok (.bipush 6, 2) := by decide +kernel
theorem dX12_layParents_27 : decode cX12_layParents 27 = .ok (.iaload, 1) := by decide +kernel
theorem dX12_layParents_28 : decode cX12_layParents 28 = .ok (.iconst 1, 1) := by decide +kernel
theorem dX12_layParents_29 : decode cX12_layParents 29 = .ok (.isub, 1) := by decide +kernel
theorem dX12_layParents_30 : decode cX12_layParents 30 = .ok (.istore 4, 2) := by decide +kernel
theorem dX12_layParents_32 : decode cX12_layParents 32 = .ok (.iload 4, 2) := by decide +kernel
theorem dX12_layParents_34 : decode cX12_layParents 34 = .ok (.iload_n 3, 1) := by decide +kernel
theorem dX12_layParents_35 : decode cX12_layParents 35 = .ok (.if_icmp .le 84, 3) := by decide +kernel
theorem dX12_layParents_38 : decode cX12_layParents 38 = .ok (.aload_n 0, 1) := by decide +kernel
theorem dX12_layParents_39 : decode cX12_layParents 39 = .ok (.getfield 9, 3) := by decide +kernel
theorem dX12_layParents_42 : decode cX12_layParents 42 = .ok (.bipush 10, 2) := by decide +kernel
theorem dX12_layParents_44 : decode cX12_layParents 44 = .ok (.iload_n 3, 1) := by decide +kernel
theorem dX12_layParents_45 : decode cX12_layParents 45 = .ok (.iadd, 1) := by decide +kernel
theorem dX12_layParents_46 : decode cX12_layParents 46 = .ok (.iaload, 1) := by decide +kernel
theorem dX12_layParents_47 : decode cX12_layParents 47 = .ok (.istore 5, 2) := by decide +kernel
theorem dX12_layParents_49 : decode cX12_layParents 49 = .ok (.aload_n 0, 1) := by decide +kernel
theorem dX12_layParents_5 : decode cX12_layParents 5 = .ok (.iconst 0, 1) := by decide +kernel
theorem dX12_layParents_50 : decode cX12_layParents 50 = .ok (.getfield 9, 3) := by decide +kernel
theorem dX12_layParents_53 : decode cX12_layParents 53 = .ok (.bipush 10, 2) := by decide +kernel
theorem dX12_layParents_55 : decode cX12_layParents 55 = .ok (.iload 4, 2) := by decide +kernel
theorem dX12_layParents_57 : decode cX12_layParents 57 = .ok (.iadd, 1) := by decide +kernel
theorem dX12_layParents_58 : decode cX12_layParents 58 = .ok (.iaload, 1) := by decide +kernel
theorem dX12_layParents_59 : decode cX12_layParents 59 = .ok (.istore 6, 2) := by decide +kernel
theorem dX12_layParents_6 : decode cX12_layParents 6 = .ok (.istore_n 2, 1) := by decide +kernel
theorem dX12_layParents_61 : decode cX12_layParents 61 = .ok (.iload 5, 2) := by decide +kernel
theorem dX12_layParents_63 : decode cX12_layParents 63 = .ok (.iconst (-1), 1) := by decide +kernel
theorem dX12_layParents_64 : decode cX12_layParents 64 = .ok (.if_icmp .eq 49, 3) := by decide +kernel
theorem dX12_layParents_67 : decode cX12_layParents 67 = .ok (.iload 6, 2) := by decide +kernel
theorem dX12_layParents_69 : decode cX12_layParents 69 = .ok (.iconst (-1), 1) := by decide +kernel
theorem dX12_layParents_7 : decode cX12_layParents 7 = .ok (.aload_n 0, 1) := by decide +kernel
theorem dX12_layParents_70 : decode cX12_layParents 70 = .ok (.if_icmp .eq 43, 3) := by decide +kernel
theorem dX12_layParents_73 : decode cX12_layParents 73 = .ok (.iload 5, 2) := by decide +kernel
theorem dX12_layParents_75 : decode cX12_layParents 75 = .ok (.iload 6, 2) := by decide +kernel
theorem dX12_layParents_77 : decode cX12_layParents 77 = .ok (.if_icmp .eq 36, 3) := by decide +kernel
theorem dX12_layParents_8 : decode cX12_layParents 8 = .ok (.getfield 9, 3) := by decide +kernel
theorem dX12_layParents_80 : decode cX12_layParents 80 = .ok (.iload 5, 2) := by decide +kernel
theorem dX12_layParents_82 : decode cX12_layParents 82 = .ok (.iload 6, 2) := by decide +kernel
theorem dX12_layParents_84 : decode cX12_layParents 84 = .ok (.iadd, 1) := by decide +kernel
theorem dX12_layParents_85 : decode cX12_layParents 85 = .ok (.aload_n 0, 1) := by decide +kernel
theorem dX12_layParents_86 : decode cX12_layParents 86 = .ok (.getfield 9, 3) := by decide +kernel
theorem dX12_layParents_89 : decode cX12_layParents 89 = .ok (.iconst 0, 1) := by decide +kernel
theorem dX12_layParents_90 : decode cX12_layParents 90 = .ok (.iaload, 1) := by decide +kernel
theorem dX12_layParents_91 : decode cX12_layParents 91 = .ok (.irem, 1) := by decide +kernel
theorem dX12_layParents_92 : decode cX12_layParents 92 = .ok (.iload_n 1, 1) := by decide +kernel
theorem dX12_layParents_93 : decode cX12_layParents 93 = .ok (.if_icmp .eq 6, 3) := by decide +kernel
theorem dX12_layParents_96 : decode cX12_layParents 96 = .ok (.goto 17, 3) := by decide +kernel
theorem dX12_layParents_99 : decode cX12_layParents 99 = .ok (.aload_n 0, 1) := by decide +kernel
theorem dX12_minuteOf_0 : decode cX12_minuteOf 0 = .ok (.aload_n 0, 1) := by decide +kernel
theorem dX12_minuteOf_1 : decode cX12_minuteOf 1 = .ok (.getfield 71, 3) := by decide +kernel
theorem dX12_minuteOf_10 : decode cX12_minuteOf 10 = .ok (.iload_n 1, 1) := by decide +kernel
theorem dX12_minuteOf_11 : decode cX12_minuteOf 11 = .ok (.iaload, 1) := by decide +kernel
theorem dX12_minuteOf_12 : decode cX12_minuteOf 12 = .ok (.iload_n 2, 1) := by decide +kernel
theorem dX12_minuteOf_13 : decode cX12_minuteOf 13 = .ok (.isub, 1) := by decide +kernel
theorem dX12_minuteOf_14 : decode cX12_minuteOf 14 = .ok (.invokestatic 303, 3) := by decide +kernel
theorem dX12_minuteOf_17 : decode cX12_minuteOf 17 = .ok (.iadd, 1) := by decide +kernel
theorem dX12_minuteOf_18 : decode cX12_minuteOf 18 = .ok (.ireturn, 1) := by decide +kernel
theorem dX12_minuteOf_4 : decode cX12_minuteOf 4 = .ok (.iload_n 1, 1) := by decide +kernel
theorem dX12_minuteOf_5 : decode cX12_minuteOf 5 = .ok (.iaload, 1) := by decide +kernel
theorem dX12_minuteOf_6 : decode cX12_minuteOf 6 = .ok (.aload_n 0, 1) := by decide +kernel
theorem dX12_minuteOf_7 : decode cX12_minuteOf 7 = .ok (.getfield 68, 3) := by decide +kernel
theorem dX12_parent_0 : decode cX12_parent 0 = .ok (.aload_n 0, 1) := by decide +kernel
theorem dX12_parent_1 : decode cX12_parent 1 = .ok (.invokevirtual 263, 3) := by decide +kernel
theorem dX12_parent_10 : decode cX12_parent 10 = .ok (.invokevirtual 288, 3) := by decide +kernel
theorem dX12_parent_13 : decode cX12_parent 13 = .ok (.ifCond .ne 6, 3) := by decide +kernel
theorem dX12_parent_16 : decode cX12_parent 16 = .ok (.bipush (-2), 2) := by decide +kernel
theorem dX12_parent_18 : decode cX12_parent 18 = .ok (.ireturn, 1) := by decide +kernel
theorem dX12_parent_19 : decode cX12_parent 19 = .ok (.aload_n 0, 1) := by decide +kernel
theorem dX12_parent_20 : decode cX12_parent 20 = .ok (.iload_n 1, 1) := by decide +kernel
theorem dX12_parent_21 : decode cX12_parent 21 = .ok (.invokevirtual 415, 3) := by decide +kernel
theorem dX12_parent_24 : decode cX12_parent 24 = .ok (.pop, 1) := by decide +kernel
theorem dX12_parent_25 : decode cX12_parent 25 = .ok (.aload_n 0, 1) := by decide +kernel
theorem dX12_parent_26 : decode cX12_parent 26 = .ok (.getfield 412, 3) := by decide +kernel
theorem dX12_parent_29 : decode cX12_parent 29 = .ok (.ireturn, 1) := by decide +kernel
theorem dX12_parent_4 : decode cX12_parent 4 = .ok (.ifCond .eq 12, 3) := by decide +kernel
theorem dX12_parent_7 : decode cX12_parent 7 = .ok (.aload_n 0, 1) := by decide +kernel
theorem dX12_parent_8 : decode cX12_parent 8 = .ok (.iload_n 1, 1) := by decide +kernel
theorem dX12_parent_9 : decode cX12_parent 9 = .ok (.i2l, 1) := by decide +kernel
theorem dX12_parents_0 : decode cX12_parents 0 = .ok (.aload_n 0, 1) := by decide +kernel
theorem dX12_parents_1 : decode cX12_parents 1 = .ok (.invokevirtual 263, 3) := by decide +kernel
theorem dX12_parents_10 : decode cX12_parents 10 = .ok (.invokevirtual 288, 3) := by decide +kernel
theorem dX12_parents_13 : decode cX12_parents 13 = .ok (.ifCond .eq 11, 3) := by decide +kernel
theorem dX12_parents_16 : decode cX12_parents 16 = .ok (.aload_n 0, 1) := by decide +kernel
theorem dX12_parents_17 : decode cX12_parents 17 = .ok (.iload_n 1, 1) := by decide +kernel
theorem dX12_parents_18 : decode cX12_parents 18 = .ok (.invokevirtual 415, 3) := by decide +kernel
theorem dX12_parents_21 : decode cX12_parents 21 = .ok (.goto 5, 3) := by decide +kernel
theorem dX12_parents_24 : decode cX12_parents 24 = .ok (.bipush (-2), 2) := by decide +kernel
theorem dX12_parents_26 : decode cX12_parents 26 = .ok (.ireturn, 1) := by decide +kernel
theorem dX12_parents_4 : decode cX12_parents 4 = .ok (.ifCond .eq 20, 3) := by decide +kernel
theorem dX12_parents_7 : decode cX12_parents 7 = .ok (.aload_n 0, 1) := by decide +kernel
theorem dX12_parents_8 : decode cX12_parents 8 = .ok (.iload_n 1, 1) := by decide +kernel
theorem dX12_parents_9 : decode cX12_parents 9 = .ok (.i2l, 1) := by decide +kernel
theorem dX12_place_0 : decode cX12_place 0 = .ok (.aload_n 0, 1) := by decide +kernel
theorem dX12_place_1 : decode cX12_place 1 = .ok (.iload_n 1, 1) := by decide +kernel
theorem dX12_place_11 : decode cX12_place 11 = .ok (.iload_n 2, 1) := by decide +kernel
theorem dX12_place_12 : decode cX12_place 12 = .ok (.ireturn, 1) := by decide +kernel
theorem dX12_place_13 : decode cX12_place 13 = .ok (.aload_n 0, 1) := by decide +kernel
theorem dX12_place_14 : decode cX12_place 14 = .ok (.getfield 397, 3) := by decide +kernel
theorem dX12_place_17 : decode cX12_place 17 = .ok (.ifCond .ne 7, 3) := by decide +kernel
theorem dX12_place_2 : decode cX12_place 2 = .ok (.iconst 0, 1) := by decide +kernel
theorem dX12_place_20 : decode cX12_place 20 = .ok (.iconst (-1), 1) := by decide +kernel
theorem dX12_place_21 : decode cX12_place 21 = .ok (.goto 9, 3) := by decide +kernel
theorem dX12_place_24 : decode cX12_place 24 = .ok (.aload_n 0, 1) := by decide +kernel
theorem dX12_place_25 : decode cX12_place 25 = .ok (.getfield 68, 3) := by decide +kernel
theorem dX12_place_28 : decode cX12_place 28 = .ok (.iconst 0, 1) := by decide +kernel
theorem dX12_place_29 : decode cX12_place 29 = .ok (.iaload, 1) := by decide +kernel
theorem dX12_place_3 : decode cX12_place 3 = .ok (.invokevirtual 403, 3) := by decide +kernel
theorem dX12_place_30 : decode cX12_place 30 = .ok (.ireturn, 1) := by decide +kernel
theorem dX12_place_6 : decode cX12_place 6 = .ok (.istore_n 2, 1) := by decide +kernel
theorem dX12_place_7 : decode cX12_place 7 = .ok (.iload_n 2, 1) := by decide +kernel
theorem dX12_place_8 : decode cX12_place 8 = .ok (.ifCond .ge 5, 3) := by decide +kernel
theorem dX12_places_0 : decode cX12_places 0 = .ok (.aload_n 0, 1) := by decide +kernel
theorem dX12_places_1 : decode cX12_places 1 = .ok (.iload_n 1, 1) := by decide +kernel
theorem dX12_places_11 : decode cX12_places 11 = .ok (.iload_n 2, 1) := by decide +kernel
theorem dX12_places_12 : decode cX12_places 12 = .ok (.goto 7, 3) := by decide +kernel
theorem dX12_places_15 : decode cX12_places 15 = .ok (.aload_n 0, 1) := by decide +kernel
theorem dX12_places_16 : decode cX12_places 16 = .ok (.getfield 397, 3) := by decide +kernel
theorem dX12_places_19 : decode cX12_places 19 = .ok (.ireturn, 1) := by decide +kernel
theorem dX12_places_2 : decode cX12_places 2 = .ok (.iconst 0, 1) := by decide +kernel
theorem dX12_places_3 : decode cX12_places 3 = .ok (.invokevirtual 403, 3) := by decide +kernel
theorem dX12_places_6 : decode cX12_places 6 = .ok (.istore_n 2, 1) := by decide +kernel
theorem dX12_places_7 : decode cX12_places 7 = .ok (.iload_n 2, 1) := by decide +kernel
theorem dX12_places_8 : decode cX12_places 8 = .ok (.ifCond .ge 7, 3) := by decide +kernel
theorem dX12_set_0 : decode cX12_set 0 = .ok (.aload_n 0, 1) := by decide +kernel
theorem dX12_set_1 : decode cX12_set 1 = .ok (.iload_n 1, 1) := by decide +kernel
theorem dX12_set_100 : decode cX12_set 100 = .ok (.invokestatic 300, 3) := by decide +kernel
theorem dX12_set_103 : decode cX12_set 103 = .ok (.istore 6, 2) := by decide +kernel
theorem dX12_set_105 : decode cX12_set 105 = .ok (.iinc 7 1, 3) := by decide +kernel
theorem dX12_set_108 : decode cX12_set 108 = .ok (.goto (-71), 3) := by decide +kernel
theorem dX12_set_11 : decode cX12_set 11 = .ok (.iload_n 2, 1) := by decide +kernel
theorem dX12_set_111 : decode cX12_set 111 = .ok (.iload 6, 2) := by decide +kernel
theorem dX12_set_113 : decode cX12_set 113 = .ok (.iload 4, 2) := by decide +kernel
theorem dX12_set_115 : decode cX12_set 115 = .ok (.if_icmp .lt 6, 3) := by decide +kernel
theorem dX12_set_118 : decode cX12_set 118 = .ok (.goto 10, 3) := by decide +kernel
theorem dX12_set_12 : decode cX12_set 12 = .ok (.ireturn, 1) := by decide +kernel
theorem dX12_set_121 : decode cX12_set 121 = .ok (.iload 6, 2) := by decide +kernel
theorem dX12_set_123 : decode cX12_set 123 = .ok (.istore 4, 2) := by decide +kernel
theorem dX12_set_125 : decode cX12_set 125 = .ok (.iload 5, 2) := by decide +kernel
theorem dX12_set_127 : decode cX12_set 127 = .ok (.istore_n 3, 1) := by decide +kernel
theorem dX12_set_128 : decode cX12_set 128 = .ok (.iinc 5 1, 3) := by decide +kernel
theorem dX12_set_13 : decode cX12_set 13 = .ok (.iconst (-1), 1) := by decide +kernel
theorem dX12_set_131 : decode cX12_set 131 = .ok (.goto (-107), 3) := by decide +kernel
theorem dX12_set_134 : decode cX12_set 134 = .ok (.iload_n 3, 1) := by decide +kernel
theorem dX12_set_135 : decode cX12_set 135 = .ok (.ireturn, 1) := by decide +kernel
theorem dX12_set_14 : decode cX12_set 14 = .ok (.istore_n 3, 1) := by decide +kernel
theorem dX12_set_15 : decode cX12_set 15 = .ok (.aload_n 0, 1) := by decide +kernel
theorem dX12_set_16 : decode cX12_set 16 = .ok (.getfield 397, 3) := by decide +kernel
theorem dX12_set_19 : decode cX12_set 19 = .ok (.istore 4, 2) := by decide +kernel
theorem dX12_set_2 : decode cX12_set 2 = .ok (.iconst 1, 1) := by decide +kernel
theorem dX12_set_21 : decode cX12_set 21 = .ok (.iconst 0, 1) := by decide +kernel
theorem dX12_set_22 : decode cX12_set 22 = .ok (.istore 5, 2) := by decide +kernel
theorem dX12_set_24 : decode cX12_set 24 = .ok (.iload 5, 2) := by decide +kernel
theorem dX12_set_26 : decode cX12_set 26 = .ok (.bipush 100, 2) := by decide +kernel
theorem dX12_set_28 : decode cX12_set 28 = .ok (.if_icmp .ge 106, 3) := by decide +kernel
theorem dX12_set_3 : decode cX12_set 3 = .ok (.invokevirtual 403, 3) := by decide +kernel
theorem dX12_set_31 : decode cX12_set 31 = .ok (.iconst 0, 1) := by decide +kernel
theorem dX12_set_32 : decode cX12_set 32 = .ok (.istore 6, 2) := by decide +kernel
theorem dX12_set_34 : decode cX12_set 34 = .ok (.iconst 0, 1) := by decide +kernel
theorem dX12_set_35 : decode cX12_set 35 = .ok (.istore 7, 2) := by decide +kernel
theorem dX12_set_37 : decode cX12_set 37 = .ok (.iload 7, 2) := by decide +kernel
theorem dX12_set_39 : decode cX12_set 39 = .ok (.aload_n 0, 1) := by decide +kernel
theorem dX12_set_40 : decode cX12_set 40 = .ok (.getfield 397, 3) := by decide +kernel
theorem dX12_set_43 : decode cX12_set 43 = .ok (.if_icmp .ge 68, 3) := by decide +kernel
theorem dX12_set_46 : decode cX12_set 46 = .ok (.iconst 0, 1) := by decide +kernel
theorem dX12_set_47 : decode cX12_set 47 = .ok (.istore 8, 2) := by decide +kernel
theorem dX12_set_49 : decode cX12_set 49 = .ok (.iconst 0, 1) := by decide +kernel
theorem dX12_set_50 : decode cX12_set 50 = .ok (.istore 9, 2) := by decide +kernel
theorem dX12_set_52 : decode cX12_set 52 = .ok (.iload 9, 2) := by decide +kernel
theorem dX12_set_54 : decode cX12_set 54 = .ok (.aload_n 0, 1) := by decide +kernel
theorem dX12_set_55 : decode cX12_set 55 = .ok (.getfield 397, 3) := by decide +kernel
theorem dX12_set_58 : decode cX12_set 58 = .ok (.if_icmp .ge 38, 3) := by decide +kernel
theorem dX12_set_6 : decode cX12_set 6 = .ok (.istore_n 2, 1) := by decide +kernel
theorem dX12_set_61 : decode cX12_set 61 = .ok (.iload 8, 2) := by decide +kernel
theorem dX12_set_63 : decode cX12_set 63 = .ok (.aload_n 0, 1) := by decide +kernel
theorem dX12_set_64 : decode cX12_set 64 = .ok (.iload 9, 2) := by decide +kernel
theorem dX12_set_66 : decode cX12_set 66 = .ok (.iload 5, 2) := by decide +kernel
theorem dX12_set_68 : decode cX12_set 68 = .ok (.invokevirtual 407, 3) := by decide +kernel
theorem dX12_set_7 : decode cX12_set 7 = .ok (.iload_n 2, 1) := by decide +kernel
theorem dX12_set_71 : decode cX12_set 71 = .ok (.aload_n 0, 1) := by decide +kernel
theorem dX12_set_72 : decode cX12_set 72 = .ok (.iload 7, 2) := by decide +kernel
theorem dX12_set_74 : decode cX12_set 74 = .ok (.iload 5, 2) := by decide +kernel
theorem dX12_set_76 : decode cX12_set 76 = .ok (.invokevirtual 407, 3) := by decide +kernel
theorem dX12_set_79 : decode cX12_set 79 = .ok (.if_icmp .ne 7, 3) := by decide +kernel
theorem dX12_set_8 : decode cX12_set 8 = .ok (.ifCond .ge 5, 3) := by decide +kernel
theorem dX12_set_82 : decode cX12_set 82 = .ok (.iconst 1, 1) := by decide +kernel
theorem dX12_set_83 : decode cX12_set 83 = .ok (.goto 4, 3) := by decide +kernel
theorem dX12_set_86 : decode cX12_set 86 = .ok (.iconst 0, 1) := by decide +kernel
theorem dX12_set_87 : decode cX12_set 87 = .ok (.iadd, 1) := by decide +kernel
theorem dX12_set_88 : decode cX12_set 88 = .ok (.istore 8, 2) := by decide +kernel
theorem dX12_set_90 : decode cX12_set 90 = .ok (.iinc 9 1, 3) := by decide +kernel
theorem dX12_set_93 : decode cX12_set 93 = .ok (.goto (-41), 3) := by decide +kernel
theorem dX12_set_96 : decode cX12_set 96 = .ok (.iload 6, 2) := by decide +kernel
theorem dX12_set_98 : decode cX12_set 98 = .ok (.iload 8, 2) := by decide +kernel
theorem dX12_soundsBy_0 : decode cX12_soundsBy 0 = .ok (.iload_n 0, 1) := by decide +kernel
theorem dX12_soundsBy_1 : decode cX12_soundsBy 1 = .ok (.iload_n 1, 1) := by decide +kernel
theorem dX12_soundsBy_10 : decode cX12_soundsBy 10 = .ok (.iload_n 0, 1) := by decide +kernel
theorem dX12_soundsBy_11 : decode cX12_soundsBy 11 = .ok (.iload_n 1, 1) := by decide +kernel
theorem dX12_soundsBy_12 : decode cX12_soundsBy 12 = .ok (.if_icmp .ne 7, 3) := by decide +kernel
theorem dX12_soundsBy_15 : decode cX12_soundsBy 15 = .ok (.iconst 4, 1) := by decide +kernel
theorem dX12_soundsBy_16 : decode cX12_soundsBy 16 = .ok (.goto 4, 3) := by decide +kernel
theorem dX12_soundsBy_19 : decode cX12_soundsBy 19 = .ok (.iconst 0, 1) := by decide +kernel
theorem dX12_soundsBy_2 : decode cX12_soundsBy 2 = .ok (.if_icmp .le 8, 3) := by decide +kernel
theorem dX12_soundsBy_20 : decode cX12_soundsBy 20 = .ok (.iload_n 0, 1) := by decide +kernel
theorem dX12_soundsBy_21 : decode cX12_soundsBy 21 = .ok (.iload_n 0, 1) := by decide +kernel
theorem dX12_soundsBy_22 : decode cX12_soundsBy 22 = .ok (.imul, 1) := by decide +kernel
theorem dX12_soundsBy_23 : decode cX12_soundsBy 23 = .ok (.isub, 1) := by decide +kernel
theorem dX12_soundsBy_24 : decode cX12_soundsBy 24 = .ok (.ireturn, 1) := by decide +kernel
theorem dX12_soundsBy_5 : decode cX12_soundsBy 5 = .ok (.bipush 10, 2) := by decide +kernel
theorem dX12_soundsBy_7 : decode cX12_soundsBy 7 = .ok (.goto 13, 3) := by decide +kernel
theorem dX12_spread_0 : decode cX12_spread 0 = .ok (.aload_n 0, 1) := by decide +kernel
theorem dX12_spread_1 : decode cX12_spread 1 = .ok (.invokevirtual 263, 3) := by decide +kernel
theorem dX12_spread_10 : decode cX12_spread 10 = .ok (.ldc2_w 410, 3) := by decide +kernel
theorem dX12_spread_13 : decode cX12_spread 13 = .ok (.invokestatic 95, 3) := by decide +kernel
theorem dX12_spread_16 : decode cX12_spread 16 = .ok (.ifCond .ne 6, 3) := by decide +kernel
theorem dX12_spread_19 : decode cX12_spread 19 = .ok (.bipush (-2), 2) := by decide +kernel
theorem dX12_spread_21 : decode cX12_spread 21 = .ok (.ireturn, 1) := by decide +kernel
theorem dX12_spread_22 : decode cX12_spread 22 = .ok (.aload_n 0, 1) := by decide +kernel
theorem dX12_spread_23 : decode cX12_spread 23 = .ok (.getfield 9, 3) := by decide +kernel
theorem dX12_spread_26 : decode cX12_spread 26 = .ok (.bipush 7, 2) := by decide +kernel
theorem dX12_spread_28 : decode cX12_spread 28 = .ok (.iaload, 1) := by decide +kernel
theorem dX12_spread_29 : decode cX12_spread 29 = .ok (.ifCond .ne 5, 3) := by decide +kernel
theorem dX12_spread_32 : decode cX12_spread 32 = .ok (.iconst (-1), 1) := by decide +kernel
theorem dX12_spread_33 : decode cX12_spread 33 = .ok (.ireturn, 1) := by decide +kernel
theorem dX12_spread_34 : decode cX12_spread 34 = .ok (.iconst 0, 1) := by decide +kernel
theorem dX12_spread_35 : decode cX12_spread 35 = .ok (.istore_n 2, 1) := by decide +kernel
theorem dX12_spread_36 : decode cX12_spread 36 = .ok (.ldc_w 350, 3) := by decide +kernel
theorem dX12_spread_39 : decode cX12_spread 39 = .ok (.istore_n 3, 1) := by decide +kernel
theorem dX12_spread_4 : decode cX12_spread 4 = .ok (.ifCond .eq 15, 3) := by decide +kernel
theorem dX12_spread_40 : decode cX12_spread 40 = .ok (.iconst 0, 1) := by decide +kernel
theorem dX12_spread_41 : decode cX12_spread 41 = .ok (.istore 4, 2) := by decide +kernel
theorem dX12_spread_43 : decode cX12_spread 43 = .ok (.iload 4, 2) := by decide +kernel
theorem dX12_spread_45 : decode cX12_spread 45 = .ok (.aload_n 0, 1) := by decide +kernel
theorem dX12_spread_46 : decode cX12_spread 46 = .ok (.getfield 9, 3) := by decide +kernel
theorem dX12_spread_49 : decode cX12_spread 49 = .ok (.bipush 7, 2) := by decide +kernel
theorem dX12_spread_51 : decode cX12_spread 51 = .ok (.iaload, 1) := by decide +kernel
theorem dX12_spread_52 : decode cX12_spread 52 = .ok (.if_icmp .ge 33, 3) := by decide +kernel
theorem dX12_spread_55 : decode cX12_spread 55 = .ok (.iload_n 2, 1) := by decide +kernel
theorem dX12_spread_56 : decode cX12_spread 56 = .ok (.aload_n 0, 1) := by decide +kernel
theorem dX12_spread_57 : decode cX12_spread 57 = .ok (.iload_n 1, 1) := by decide +kernel
theorem dX12_spread_58 : decode cX12_spread 58 = .ok (.iload 4, 2) := by decide +kernel
theorem dX12_spread_60 : decode cX12_spread 60 = .ok (.invokevirtual 400, 3) := by decide +kernel
theorem dX12_spread_63 : decode cX12_spread 63 = .ok (.invokestatic 300, 3) := by decide +kernel
theorem dX12_spread_66 : decode cX12_spread 66 = .ok (.istore_n 2, 1) := by decide +kernel
theorem dX12_spread_67 : decode cX12_spread 67 = .ok (.iload_n 3, 1) := by decide +kernel
theorem dX12_spread_68 : decode cX12_spread 68 = .ok (.aload_n 0, 1) := by decide +kernel
theorem dX12_spread_69 : decode cX12_spread 69 = .ok (.iload_n 1, 1) := by decide +kernel
theorem dX12_spread_7 : decode cX12_spread 7 = .ok (.iload_n 1, 1) := by decide +kernel
theorem dX12_spread_70 : decode cX12_spread 70 = .ok (.iload 4, 2) := by decide +kernel
theorem dX12_spread_72 : decode cX12_spread 72 = .ok (.invokevirtual 400, 3) := by decide +kernel
theorem dX12_spread_75 : decode cX12_spread 75 = .ok (.invokestatic 139, 3) := by decide +kernel
theorem dX12_spread_78 : decode cX12_spread 78 = .ok (.istore_n 3, 1) := by decide +kernel
theorem dX12_spread_79 : decode cX12_spread 79 = .ok (.iinc 4 1, 3) := by decide +kernel
theorem dX12_spread_8 : decode cX12_spread 8 = .ok (.i2l, 1) := by decide +kernel
theorem dX12_spread_82 : decode cX12_spread 82 = .ok (.goto (-39), 3) := by decide +kernel
theorem dX12_spread_85 : decode cX12_spread 85 = .ok (.iload_n 2, 1) := by decide +kernel
theorem dX12_spread_86 : decode cX12_spread 86 = .ok (.iload_n 3, 1) := by decide +kernel
theorem dX12_spread_87 : decode cX12_spread 87 = .ok (.isub, 1) := by decide +kernel
theorem dX12_spread_88 : decode cX12_spread 88 = .ok (.ireturn, 1) := by decide +kernel
theorem dX12_spread_9 : decode cX12_spread 9 = .ok (.lconst 0, 1) := by decide +kernel
set_option maxHeartbeats 4000000 in
set_option maxRecDepth 100000 in
theorem b_X12_places (l : Launch) (G : Gho) (D : va_G) (cB cI cJ cZ cS cT : ClassId) (sz : Nat) (h0 : Nat) (v0_thrown : Int32) (h_world : Nat) (h_images : Nat) (h_hasImage : Nat) (h_tape : Nat) (v0_taped : Int32) (h_five : Nat) (v0_size : Int32) (v0_at : Int32) (v0_from : Int32) (v0_token : Int32) (v0_value : Int32) (v0_faultKind : Int32) (v0_faultPlace : Int32) (h_fresh : Nat) (h_spokenAt : Nat) (h_heardAt : Nat) (h_lastAt : Nat) (h_answerAt : Nat) (v0_lawA : Int32) (v0_lawB : Int32) (v0_lawC : Int32) (v0_drawX : Int64) (v0_isDrawn : Int32) (v0_lostMany : Int32) (h_heardNow : Nat) (h_seenAt : Nat) (v0_roundFrom : Int32) (v0_roundTo : Int32) (v0_goLast : Int32) (v0_goAnswer : Int32) (v0_goHeard : Int32) (h_fewest : Nat) (h_costNow : Nat) (h_costThen : Nat) (h_lawsOf : Nat) (h_heardBy : Nat) (v0_lawMany : Int32) (v0_askWorst : Int32) (h_placesOf : Nat) (h_sentIn : Nat) (v0_placeMany : Int32) (v0_parentFirst : Int32) (h_lostBy : Nat) (h_many : Nat) (h_width : Nat) (h_numbers : Nat) (h_moving : Nat) (f_many : Nat → Int32) (f_numbers : Nat → Int64) (f_placesOf : Nat → Int32) (f_sentIn : Nat → Int32) (f_world : Nat → Int32) (v1 : Int32) (iv0_taped : 0 ≤ v0_taped.toInt ∧ v0_taped.toInt ≤ 500) (iv0_size : 0 ≤ v0_size.toInt ∧ v0_size.toInt ≤ 500) (iv0_at : 0 ≤ v0_at.toInt ∧ v0_at.toInt ≤ 500) (iv0_from : 0 ≤ v0_from.toInt ∧ v0_from.toInt ≤ 500) (iv0_faultKind : 0 ≤ v0_faultKind.toInt ∧ v0_faultKind.toInt ≤ 3) (iv0_lawA : 0 ≤ v0_lawA.toInt ∧ v0_lawA.toInt ≤ 8) (iv0_lawB : 0 ≤ v0_lawB.toInt ∧ v0_lawB.toInt ≤ 8) (iv0_lawC : 0 ≤ v0_lawC.toInt ∧ v0_lawC.toInt ≤ 9) (iv0_isDrawn : 0 ≤ v0_isDrawn.toInt ∧ v0_isDrawn.toInt ≤ 1) (iv0_roundFrom : 0 ≤ v0_roundFrom.toInt ∧ v0_roundFrom.toInt ≤ 648) (iv0_roundTo : 0 ≤ v0_roundTo.toInt ∧ v0_roundTo.toInt ≤ 648) (iv0_goLast : 0 ≤ v0_goLast.toInt ∧ v0_goLast.toInt ≤ 8) (iv0_goAnswer : 0 ≤ v0_goAnswer.toInt ∧ v0_goAnswer.toInt ≤ 8) (iv0_lawMany : 0 ≤ v0_lawMany.toInt ∧ v0_lawMany.toInt ≤ 729) (iv0_placeMany : 0 ≤ v0_placeMany.toInt ∧ v0_placeMany.toInt ≤ 100) (pf_many : sg sgMa f_many) (pf_world : sg sgWo f_world) (cf_world : 0 < (f_world 9).toInt → 2 ≤ (f_world 0).toInt) : Met l yX12_places (Cond.code yX12_places cX12_places 3 (some .int) :: wsL_law) ({ frames := 3, cells := 0, slots := 0, locals := 72 }) (wrP G D (tyL cB cI cJ cZ cS cT) [(mO h0 v0_thrown h_world h_images h_hasImage h_tape v0_taped h_five v0_size v0_at v0_from v0_token v0_value v0_faultKind v0_faultPlace h_fresh h_spokenAt h_heardAt h_lastAt h_answerAt v0_lawA v0_lawB v0_lawC v0_drawX v0_isDrawn v0_lostMany h_heardNow h_seenAt v0_roundFrom v0_roundTo v0_goLast v0_goAnswer v0_goHeard h_fewest h_costNow h_costThen h_lawsOf h_heardBy v0_lawMany v0_askWorst h_placesOf h_sentIn v0_placeMany v0_parentFirst h_lostBy h_many h_width h_numbers h_moving), (h_many, .inl (cI, 4, .inl f_many)), (h_numbers, .inl (cJ, 240, .inr (.inl f_numbers))), (h_placesOf, .inl (cI, 100, .inl f_placesOf)), (h_sentIn, .inl (cI, 100, .inl f_sentIn)), (h_world, .inl (cI, 53, .inl f_world))] sz [.ref h0, .int v1]) (va_Qi (fun (r : Int32) (x : Int32 × (Nat → Int32) × (Nat → Int32)) => (0 ≤ x.1.toInt ∧ x.1.toInt ≤ 100)) (atW D (tyL cB cI cJ cZ cS cT) (va_A [(mO h0 v0_thrown h_world h_images h_hasImage h_tape v0_taped h_five v0_size v0_at v0_from v0_token v0_value v0_faultKind v0_faultPlace h_fresh h_spokenAt h_heardAt h_lastAt h_answerAt v0_lawA v0_lawB v0_lawC v0_drawX v0_isDrawn v0_lostMany h_heardNow h_seenAt v0_roundFrom v0_roundTo v0_goLast v0_goAnswer v0_goHeard h_fewest h_costNow h_costThen h_lawsOf h_heardBy v0_lawMany v0_askWorst h_placesOf h_sentIn v0_placeMany v0_parentFirst h_lostBy h_many h_width h_numbers h_moving), (h_many, .inl (cI, 4, .inl f_many)), (h_numbers, .inl (cJ, 240, .inr (.inl f_numbers))), (h_placesOf, .inl (cI, 100, .inl f_placesOf)), (h_sentIn, .inl (cI, 100, .inl f_sentIn)), (h_world, .inl (cI, 53, .inl f_world))] sz) (fun x : Int32 × (Nat → Int32) × (Nat → Int32) => [(mO h0 v0_thrown h_world h_images h_hasImage h_tape v0_taped h_five v0_size v0_at v0_from v0_token v0_value v0_faultKind v0_faultPlace h_fresh h_spokenAt h_heardAt h_lastAt h_answerAt v0_lawA v0_lawB v0_lawC v0_drawX v0_isDrawn v0_lostMany h_heardNow h_seenAt v0_roundFrom v0_roundTo v0_goLast v0_goAnswer v0_goHeard h_fewest h_costNow h_costThen h_lawsOf h_heardBy v0_lawMany v0_askWorst h_placesOf h_sentIn x.1 v0_parentFirst h_lostBy h_many h_width h_numbers h_moving), (h_many, .inl (cI, 4, .inl f_many)), (h_numbers, .inl (cJ, 240, .inr (.inl f_numbers))), (h_placesOf, .inl (cI, 100, .inl x.2.1)), (h_sentIn, .inl (cI, 100, .inl x.2.2)), (h_world, .inl (cI, 53, .inl f_world))])) (va_A [(mO h0 v0_thrown h_world h_images h_hasImage h_tape v0_taped h_five v0_size v0_at v0_from v0_token v0_value v0_faultKind v0_faultPlace h_fresh h_spokenAt h_heardAt h_lastAt h_answerAt v0_lawA v0_lawB v0_lawC v0_drawX v0_isDrawn v0_lostMany h_heardNow h_seenAt v0_roundFrom v0_roundTo v0_goLast v0_goAnswer v0_goHeard h_fewest h_costNow h_costThen h_lawsOf h_heardBy v0_lawMany v0_askWorst h_placesOf h_sentIn v0_placeMany v0_parentFirst h_lostBy h_many h_width h_numbers h_moving), (h_many, .inl (cI, 4, .inl f_many)), (h_numbers, .inl (cJ, 240, .inr (.inl f_numbers))), (h_placesOf, .inl (cI, 100, .inl f_placesOf)), (h_sentIn, .inl (cI, 100, .inl f_sentIn)), (h_world, .inl (cI, 53, .inl f_world))] sz)) 0 0 (va_A [(mO h0 v0_thrown h_world h_images h_hasImage h_tape v0_taped h_five v0_size v0_at v0_from v0_token v0_value v0_faultKind v0_faultPlace h_fresh h_spokenAt h_heardAt h_lastAt h_answerAt v0_lawA v0_lawB v0_lawC v0_drawX v0_isDrawn v0_lostMany h_heardNow h_seenAt v0_roundFrom v0_roundTo v0_goLast v0_goAnswer v0_goHeard h_fewest h_costNow h_costThen h_lawsOf h_heardBy v0_lawMany v0_askWorst h_placesOf h_sentIn v0_placeMany v0_parentFirst h_lostBy h_many h_width h_numbers h_moving), (h_many, .inl (cI, 4, .inl f_many)), (h_numbers, .inl (cJ, 240, .inr (.inl f_numbers))), (h_placesOf, .inl (cI, 100, .inl f_placesOf)), (h_sentIn, .inl (cI, 100, .inl f_sentIn)), (h_world, .inl (cI, 53, .inl f_world))] sz) := by
  refine metI (own := RX12) (by decide) rfl ?_
  intro p e s m below meth c Q hsz C hG hP hD hAB ret
  obtain ⟨hx, hb, hml, hown, hts, hK, hN, hT⟩ := id C
  subst hsz
  generalize hAe : va_A [(mO h0 v0_thrown h_world h_images h_hasImage h_tape v0_taped h_five v0_size v0_at v0_from v0_token v0_value v0_faultKind v0_faultPlace h_fresh h_spokenAt h_heardAt h_lastAt h_answerAt v0_lawA v0_lawB v0_lawC v0_drawX v0_isDrawn v0_lostMany h_heardNow h_seenAt v0_roundFrom v0_roundTo v0_goLast v0_goAnswer v0_goHeard h_fewest h_costNow h_costThen h_lawsOf h_heardBy v0_lawMany v0_askWorst h_placesOf h_sentIn v0_placeMany v0_parentFirst h_lostBy h_many h_width h_numbers h_moving), (h_many, .inl (cI, 4, .inl f_many)), (h_numbers, .inl (cJ, 240, .inr (.inl f_numbers))), (h_placesOf, .inl (cI, 100, .inl f_placesOf)), (h_sentIn, .inl (cI, 100, .inl f_sentIn)), (h_world, .inl (cI, 53, .inl f_world))] s.heap.size = A at hD hAB ret ⊢
  have hA : ∀ q : Nat, s.heap.size ≤ q → A q := fun q h => by rw [← hAe]; exact Or.inr h
  have hS : va_S A s.heap s.heap [] := va_S.rf
  have hl := lv_entry ([.ref h0, .int v1]) (n := 3) (Nat.le_of_ble_eq_true rfl)
  rw [lg_entry_eq]
  generalize (lg_sl ([.ref h0, .int v1]) ++ List.replicate (3 - (lg_sl ([.ref h0, .int v1])).length) Slot.unset).toArray = ls at hl ⊢
  have hl : lv_has ls 3 [(0, .ref h0), (1, .int v1)] := hl
  have hP : va_P D vwCl [(mO h0 v0_thrown h_world h_images h_hasImage h_tape v0_taped h_five v0_size v0_at v0_from v0_token v0_value v0_faultKind v0_faultPlace h_fresh h_spokenAt h_heardAt h_lastAt h_answerAt v0_lawA v0_lawB v0_lawC v0_drawX v0_isDrawn v0_lostMany h_heardNow h_seenAt v0_roundFrom v0_roundTo v0_goLast v0_goAnswer v0_goHeard h_fewest h_costNow h_costThen h_lawsOf h_heardBy v0_lawMany v0_askWorst h_placesOf h_sentIn v0_placeMany v0_parentFirst h_lostBy h_many h_width h_numbers h_moving), (h_many, .inl (cI, 4, .inl f_many)), (h_numbers, .inl (cJ, 240, .inr (.inl f_numbers))), (h_placesOf, .inl (cI, 100, .inl f_placesOf)), (h_sentIn, .inl (cI, 100, .inl f_sentIn)), (h_world, .inl (cI, 53, .inl f_world))] s.heap := hP
  refine lv_aload_n hx hb dX12_places_0 rfl (lv_at hl 0 rfl) ?_
  refine lv_iload_n hx hb dX12_places_1 rfl (lv_at hl 1 rfl) ?_
  refine lv_iconst (v := 0) hx hb dX12_places_2 (by decide) ?_
  refine wrVi (As := [.int v1, .int 0]) (rest := []) (wr := []) ⟨hx, hb, hml, hown, hts⟩ (b_X12_layPlaces l G D cB cI cJ cZ cS cT s.heap.size h0 v0_thrown h_world h_images h_hasImage h_tape v0_taped h_five v0_size v0_at v0_from v0_token v0_value v0_faultKind v0_faultPlace h_fresh h_spokenAt h_heardAt h_lastAt h_answerAt v0_lawA v0_lawB v0_lawC v0_drawX v0_isDrawn v0_lostMany h_heardNow h_seenAt v0_roundFrom v0_roundTo v0_goLast v0_goAnswer v0_goHeard h_fewest h_costNow h_costThen h_lawsOf h_heardBy v0_lawMany v0_askWorst h_placesOf h_sentIn v0_placeMany v0_parentFirst h_lostBy h_many h_width h_numbers h_moving f_many f_numbers f_placesOf f_sentIn f_world v1 0 (by first | assumption | (have := zI0; have := zI1; have := zIm; omega) | decide) (by first | assumption | (have := zI0; have := zI1; have := zIm; omega) | decide) (by first | assumption | (have := zI0; have := zI1; have := zIm; omega) | decide) (by first | assumption | (have := zI0; have := zI1; have := zIm; omega) | decide) (by first | assumption | (have := zI0; have := zI1; have := zIm; omega) | decide) (by first | assumption | (have := zI0; have := zI1; have := zIm; omega) | decide) (by first | assumption | (have := zI0; have := zI1; have := zIm; omega) | decide) (by first | assumption | (have := zI0; have := zI1; have := zIm; omega) | decide) (by first | assumption | (have := zI0; have := zI1; have := zIm; omega) | decide) (by first | assumption | (have := zI0; have := zI1; have := zIm; omega) | decide) (by first | assumption | (have := zI0; have := zI1; have := zIm; omega) | decide) (by first | assumption | (have := zI0; have := zI1; have := zIm; omega) | decide) (by first | assumption | (have := zI0; have := zI1; have := zIm; omega) | decide) (by first | assumption | (have := zI0; have := zI1; have := zIm; omega) | decide) (by first | assumption | (have := zI0; have := zI1; have := zIm; omega) | decide) (by first | assumption | (have := zI0; have := zI1; have := zIm; omega) | decide) (by first | assumption | (have := zI0; have := zI1; have := zIm; omega) | decide) (by first | assumption | (have := zI0; have := zI1; have := zIm; omega) | decide)) hP hD hS hA hK hN hT hAB hG [0, 1, 2, 3, 4, 5] [] rfl rfl (by decide) (by decide) (by decide) (cvB (n := 2) (inr57 _ (List.mem_of_getElem? (i := 16) rfl)) (inr57 _ (List.mem_of_getElem? (i := 17) rfl)) (inr57 _ (List.mem_of_getElem? (i := 18) rfl)) (inr1 _ (List.mem_of_getElem? (i := 5) rfl)) (inr57 _ (List.mem_of_getElem? (i := 19) rfl)) (by decide +kernel) hts rfl rfl ⟨Nat.le_of_ble_eq_true rfl, Nat.le_of_ble_eq_true rfl⟩) 0 12 rfl rfl rfl rfl hl.1 rfl (Nat.le_of_ble_eq_true rfl) ⟨Nat.le_of_ble_eq_true rfl, Nat.le_of_ble_eq_true rfl⟩ dX12_places_3 (fun r_1 x9 H locs h_2 hP hD hS => ?_)
  obtain ⟨t_3, g_4, g_5⟩ := x9
  have hP : va_P D vwCl [(mO h0 v0_thrown h_world h_images h_hasImage h_tape v0_taped h_five v0_size v0_at v0_from v0_token v0_value v0_faultKind v0_faultPlace h_fresh h_spokenAt h_heardAt h_lastAt h_answerAt v0_lawA v0_lawB v0_lawC v0_drawX v0_isDrawn v0_lostMany h_heardNow h_seenAt v0_roundFrom v0_roundTo v0_goLast v0_goAnswer v0_goHeard h_fewest h_costNow h_costThen h_lawsOf h_heardBy v0_lawMany v0_askWorst h_placesOf h_sentIn t_3 v0_parentFirst h_lostBy h_many h_width h_numbers h_moving), (h_many, .inl (cI, 4, .inl f_many)), (h_numbers, .inl (cJ, 240, .inr (.inl f_numbers))), (h_placesOf, .inl (cI, 100, .inl g_4)), (h_sentIn, .inl (cI, 100, .inl g_5)), (h_world, .inl (cI, 53, .inl f_world))] H := hP
  have hD : va_D A [(mO h0 v0_thrown h_world h_images h_hasImage h_tape v0_taped h_five v0_size v0_at v0_from v0_token v0_value v0_faultKind v0_faultPlace h_fresh h_spokenAt h_heardAt h_lastAt h_answerAt v0_lawA v0_lawB v0_lawC v0_drawX v0_isDrawn v0_lostMany h_heardNow h_seenAt v0_roundFrom v0_roundTo v0_goLast v0_goAnswer v0_goHeard h_fewest h_costNow h_costThen h_lawsOf h_heardBy v0_lawMany v0_askWorst h_placesOf h_sentIn t_3 v0_parentFirst h_lostBy h_many h_width h_numbers h_moving), (h_many, .inl (cI, 4, .inl f_many)), (h_numbers, .inl (cJ, 240, .inr (.inl f_numbers))), (h_placesOf, .inl (cI, 100, .inl g_4)), (h_sentIn, .inl (cI, 100, .inl g_5)), (h_world, .inl (cI, 53, .inl f_world))] := hD
  have h_2 : (0 ≤ t_3.toInt ∧ t_3.toInt ≤ 100) := h_2
  have i_6 := h_2
  refine lv_istore_n (lv' := [(2, .int r_1), (0, .ref h0), (1, .int v1)]) hx hb dX12_places_6 rfl hl (by decide) rfl (fun ls hl => ?_)
  refine lv_iload_n hx hb dX12_places_7 rfl (lv_at hl 0 rfl) ?_
  refine lv_if_ge (tgt := 15) hx hb dX12_places_8 (by decide) (fun c_7 => ?_) (fun c_7 => ?_)
  · have c_7 : 0 ≤ r_1.toInt := ci_ge_t c_7
    have b_r_1 := i32b r_1
    refine lv_aload_n hx hb dX12_places_15 rfl (lv_at hl 1 rfl) ?_
    refine va_get (D := D) (ci := 12) (v := .int t_3) (C := RX12) (T := TX12) (N := 48) hx hb hts inlX12 hown hK hP 0 rfl rfl 41 (by decide) (hts _ (inr57 _ (List.mem_of_getElem? (i := 15) rfl))) (fun _ h9 => h9) rfl dX12_places_16 ?_
    exact ret _ _ _ _ _ (t_3, g_4, g_5) dX12_places_19 (show (0 ≤ t_3.toInt ∧ t_3.toInt ≤ 100) from (by first | assumption | (have := zI0; have := zI1; have := zIm; omega) | decide)) (hP.sub [0, 1, 2, 3, 4, 5] rfl) (hD.sub [0, 1, 2, 3, 4, 5] (by decide) rfl) hS
  · have c_7 : r_1.toInt < 0 := ci_ge_f c_7
    have b_r_1 := i32b r_1
    refine lv_iload_n hx hb dX12_places_11 rfl (lv_at hl 0 rfl) ?_
    refine lv_goto (tgt := 19) hx hb dX12_places_12 (by decide) ?_
    exact ret _ _ _ _ _ (t_3, g_4, g_5) dX12_places_19 (show (0 ≤ t_3.toInt ∧ t_3.toInt ≤ 100) from (by first | assumption | (have := zI0; have := zI1; have := zIm; omega) | decide)) (hP.sub [0, 1, 2, 3, 4, 5] rfl) (hD.sub [0, 1, 2, 3, 4, 5] (by decide) rfl) hS

set_option maxHeartbeats 4000000 in
set_option maxRecDepth 100000 in
theorem b_X12_place (l : Launch) (G : Gho) (D : va_G) (cB cI cJ cZ cS cT : ClassId) (sz : Nat) (h0 : Nat) (v0_thrown : Int32) (h_world : Nat) (h_images : Nat) (h_hasImage : Nat) (h_tape : Nat) (v0_taped : Int32) (h_five : Nat) (v0_size : Int32) (v0_at : Int32) (v0_from : Int32) (v0_token : Int32) (v0_value : Int32) (v0_faultKind : Int32) (v0_faultPlace : Int32) (h_fresh : Nat) (h_spokenAt : Nat) (h_heardAt : Nat) (h_lastAt : Nat) (h_answerAt : Nat) (v0_lawA : Int32) (v0_lawB : Int32) (v0_lawC : Int32) (v0_drawX : Int64) (v0_isDrawn : Int32) (v0_lostMany : Int32) (h_heardNow : Nat) (h_seenAt : Nat) (v0_roundFrom : Int32) (v0_roundTo : Int32) (v0_goLast : Int32) (v0_goAnswer : Int32) (v0_goHeard : Int32) (h_fewest : Nat) (h_costNow : Nat) (h_costThen : Nat) (h_lawsOf : Nat) (h_heardBy : Nat) (v0_lawMany : Int32) (v0_askWorst : Int32) (h_placesOf : Nat) (h_sentIn : Nat) (v0_placeMany : Int32) (v0_parentFirst : Int32) (h_lostBy : Nat) (h_many : Nat) (h_width : Nat) (h_numbers : Nat) (h_moving : Nat) (f_many : Nat → Int32) (f_numbers : Nat → Int64) (f_placesOf : Nat → Int32) (f_sentIn : Nat → Int32) (f_world : Nat → Int32) (v1 : Int32) (iv0_taped : 0 ≤ v0_taped.toInt ∧ v0_taped.toInt ≤ 500) (iv0_size : 0 ≤ v0_size.toInt ∧ v0_size.toInt ≤ 500) (iv0_at : 0 ≤ v0_at.toInt ∧ v0_at.toInt ≤ 500) (iv0_from : 0 ≤ v0_from.toInt ∧ v0_from.toInt ≤ 500) (iv0_faultKind : 0 ≤ v0_faultKind.toInt ∧ v0_faultKind.toInt ≤ 3) (iv0_lawA : 0 ≤ v0_lawA.toInt ∧ v0_lawA.toInt ≤ 8) (iv0_lawB : 0 ≤ v0_lawB.toInt ∧ v0_lawB.toInt ≤ 8) (iv0_lawC : 0 ≤ v0_lawC.toInt ∧ v0_lawC.toInt ≤ 9) (iv0_isDrawn : 0 ≤ v0_isDrawn.toInt ∧ v0_isDrawn.toInt ≤ 1) (iv0_roundFrom : 0 ≤ v0_roundFrom.toInt ∧ v0_roundFrom.toInt ≤ 648) (iv0_roundTo : 0 ≤ v0_roundTo.toInt ∧ v0_roundTo.toInt ≤ 648) (iv0_goLast : 0 ≤ v0_goLast.toInt ∧ v0_goLast.toInt ≤ 8) (iv0_goAnswer : 0 ≤ v0_goAnswer.toInt ∧ v0_goAnswer.toInt ≤ 8) (iv0_lawMany : 0 ≤ v0_lawMany.toInt ∧ v0_lawMany.toInt ≤ 729) (iv0_placeMany : 0 ≤ v0_placeMany.toInt ∧ v0_placeMany.toInt ≤ 100) (pf_many : sg sgMa f_many) (pf_world : sg sgWo f_world) (cf_world : 0 < (f_world 9).toInt → 2 ≤ (f_world 0).toInt) : Met l yX12_place (Cond.code yX12_place cX12_place 3 (some .int) :: wsL_law) ({ frames := 3, cells := 0, slots := 0, locals := 72 }) (wrP G D (tyL cB cI cJ cZ cS cT) [(mO h0 v0_thrown h_world h_images h_hasImage h_tape v0_taped h_five v0_size v0_at v0_from v0_token v0_value v0_faultKind v0_faultPlace h_fresh h_spokenAt h_heardAt h_lastAt h_answerAt v0_lawA v0_lawB v0_lawC v0_drawX v0_isDrawn v0_lostMany h_heardNow h_seenAt v0_roundFrom v0_roundTo v0_goLast v0_goAnswer v0_goHeard h_fewest h_costNow h_costThen h_lawsOf h_heardBy v0_lawMany v0_askWorst h_placesOf h_sentIn v0_placeMany v0_parentFirst h_lostBy h_many h_width h_numbers h_moving), (h_many, .inl (cI, 4, .inl f_many)), (h_numbers, .inl (cJ, 240, .inr (.inl f_numbers))), (h_placesOf, .inl (cI, 100, .inl f_placesOf)), (h_sentIn, .inl (cI, 100, .inl f_sentIn)), (h_world, .inl (cI, 53, .inl f_world))] sz [.ref h0, .int v1]) (va_Qi (fun (r : Int32) (x : Int32 × (Nat → Int32) × (Nat → Int32)) => (0 ≤ x.1.toInt ∧ x.1.toInt ≤ 100)) (atW D (tyL cB cI cJ cZ cS cT) (va_A [(mO h0 v0_thrown h_world h_images h_hasImage h_tape v0_taped h_five v0_size v0_at v0_from v0_token v0_value v0_faultKind v0_faultPlace h_fresh h_spokenAt h_heardAt h_lastAt h_answerAt v0_lawA v0_lawB v0_lawC v0_drawX v0_isDrawn v0_lostMany h_heardNow h_seenAt v0_roundFrom v0_roundTo v0_goLast v0_goAnswer v0_goHeard h_fewest h_costNow h_costThen h_lawsOf h_heardBy v0_lawMany v0_askWorst h_placesOf h_sentIn v0_placeMany v0_parentFirst h_lostBy h_many h_width h_numbers h_moving), (h_many, .inl (cI, 4, .inl f_many)), (h_numbers, .inl (cJ, 240, .inr (.inl f_numbers))), (h_placesOf, .inl (cI, 100, .inl f_placesOf)), (h_sentIn, .inl (cI, 100, .inl f_sentIn)), (h_world, .inl (cI, 53, .inl f_world))] sz) (fun x : Int32 × (Nat → Int32) × (Nat → Int32) => [(mO h0 v0_thrown h_world h_images h_hasImage h_tape v0_taped h_five v0_size v0_at v0_from v0_token v0_value v0_faultKind v0_faultPlace h_fresh h_spokenAt h_heardAt h_lastAt h_answerAt v0_lawA v0_lawB v0_lawC v0_drawX v0_isDrawn v0_lostMany h_heardNow h_seenAt v0_roundFrom v0_roundTo v0_goLast v0_goAnswer v0_goHeard h_fewest h_costNow h_costThen h_lawsOf h_heardBy v0_lawMany v0_askWorst h_placesOf h_sentIn x.1 v0_parentFirst h_lostBy h_many h_width h_numbers h_moving), (h_many, .inl (cI, 4, .inl f_many)), (h_numbers, .inl (cJ, 240, .inr (.inl f_numbers))), (h_placesOf, .inl (cI, 100, .inl x.2.1)), (h_sentIn, .inl (cI, 100, .inl x.2.2)), (h_world, .inl (cI, 53, .inl f_world))])) (va_A [(mO h0 v0_thrown h_world h_images h_hasImage h_tape v0_taped h_five v0_size v0_at v0_from v0_token v0_value v0_faultKind v0_faultPlace h_fresh h_spokenAt h_heardAt h_lastAt h_answerAt v0_lawA v0_lawB v0_lawC v0_drawX v0_isDrawn v0_lostMany h_heardNow h_seenAt v0_roundFrom v0_roundTo v0_goLast v0_goAnswer v0_goHeard h_fewest h_costNow h_costThen h_lawsOf h_heardBy v0_lawMany v0_askWorst h_placesOf h_sentIn v0_placeMany v0_parentFirst h_lostBy h_many h_width h_numbers h_moving), (h_many, .inl (cI, 4, .inl f_many)), (h_numbers, .inl (cJ, 240, .inr (.inl f_numbers))), (h_placesOf, .inl (cI, 100, .inl f_placesOf)), (h_sentIn, .inl (cI, 100, .inl f_sentIn)), (h_world, .inl (cI, 53, .inl f_world))] sz)) 0 0 (va_A [(mO h0 v0_thrown h_world h_images h_hasImage h_tape v0_taped h_five v0_size v0_at v0_from v0_token v0_value v0_faultKind v0_faultPlace h_fresh h_spokenAt h_heardAt h_lastAt h_answerAt v0_lawA v0_lawB v0_lawC v0_drawX v0_isDrawn v0_lostMany h_heardNow h_seenAt v0_roundFrom v0_roundTo v0_goLast v0_goAnswer v0_goHeard h_fewest h_costNow h_costThen h_lawsOf h_heardBy v0_lawMany v0_askWorst h_placesOf h_sentIn v0_placeMany v0_parentFirst h_lostBy h_many h_width h_numbers h_moving), (h_many, .inl (cI, 4, .inl f_many)), (h_numbers, .inl (cJ, 240, .inr (.inl f_numbers))), (h_placesOf, .inl (cI, 100, .inl f_placesOf)), (h_sentIn, .inl (cI, 100, .inl f_sentIn)), (h_world, .inl (cI, 53, .inl f_world))] sz) := by
  refine metI (own := RX12) (by decide) rfl ?_
  intro p e s m below meth c Q hsz C hG hP hD hAB ret
  obtain ⟨hx, hb, hml, hown, hts, hK, hN, hT⟩ := id C
  subst hsz
  generalize hAe : va_A [(mO h0 v0_thrown h_world h_images h_hasImage h_tape v0_taped h_five v0_size v0_at v0_from v0_token v0_value v0_faultKind v0_faultPlace h_fresh h_spokenAt h_heardAt h_lastAt h_answerAt v0_lawA v0_lawB v0_lawC v0_drawX v0_isDrawn v0_lostMany h_heardNow h_seenAt v0_roundFrom v0_roundTo v0_goLast v0_goAnswer v0_goHeard h_fewest h_costNow h_costThen h_lawsOf h_heardBy v0_lawMany v0_askWorst h_placesOf h_sentIn v0_placeMany v0_parentFirst h_lostBy h_many h_width h_numbers h_moving), (h_many, .inl (cI, 4, .inl f_many)), (h_numbers, .inl (cJ, 240, .inr (.inl f_numbers))), (h_placesOf, .inl (cI, 100, .inl f_placesOf)), (h_sentIn, .inl (cI, 100, .inl f_sentIn)), (h_world, .inl (cI, 53, .inl f_world))] s.heap.size = A at hD hAB ret ⊢
  have hA : ∀ q : Nat, s.heap.size ≤ q → A q := fun q h => by rw [← hAe]; exact Or.inr h
  have hS : va_S A s.heap s.heap [] := va_S.rf
  have hl := lv_entry ([.ref h0, .int v1]) (n := 3) (Nat.le_of_ble_eq_true rfl)
  rw [lg_entry_eq]
  generalize (lg_sl ([.ref h0, .int v1]) ++ List.replicate (3 - (lg_sl ([.ref h0, .int v1])).length) Slot.unset).toArray = ls at hl ⊢
  have hl : lv_has ls 3 [(0, .ref h0), (1, .int v1)] := hl
  have hP : va_P D vwCl [(mO h0 v0_thrown h_world h_images h_hasImage h_tape v0_taped h_five v0_size v0_at v0_from v0_token v0_value v0_faultKind v0_faultPlace h_fresh h_spokenAt h_heardAt h_lastAt h_answerAt v0_lawA v0_lawB v0_lawC v0_drawX v0_isDrawn v0_lostMany h_heardNow h_seenAt v0_roundFrom v0_roundTo v0_goLast v0_goAnswer v0_goHeard h_fewest h_costNow h_costThen h_lawsOf h_heardBy v0_lawMany v0_askWorst h_placesOf h_sentIn v0_placeMany v0_parentFirst h_lostBy h_many h_width h_numbers h_moving), (h_many, .inl (cI, 4, .inl f_many)), (h_numbers, .inl (cJ, 240, .inr (.inl f_numbers))), (h_placesOf, .inl (cI, 100, .inl f_placesOf)), (h_sentIn, .inl (cI, 100, .inl f_sentIn)), (h_world, .inl (cI, 53, .inl f_world))] s.heap := hP
  refine lv_aload_n hx hb dX12_place_0 rfl (lv_at hl 0 rfl) ?_
  refine lv_iload_n hx hb dX12_place_1 rfl (lv_at hl 1 rfl) ?_
  refine lv_iconst (v := 0) hx hb dX12_place_2 (by decide) ?_
  refine wrVi (As := [.int v1, .int 0]) (rest := []) (wr := []) ⟨hx, hb, hml, hown, hts⟩ (b_X12_layPlaces l G D cB cI cJ cZ cS cT s.heap.size h0 v0_thrown h_world h_images h_hasImage h_tape v0_taped h_five v0_size v0_at v0_from v0_token v0_value v0_faultKind v0_faultPlace h_fresh h_spokenAt h_heardAt h_lastAt h_answerAt v0_lawA v0_lawB v0_lawC v0_drawX v0_isDrawn v0_lostMany h_heardNow h_seenAt v0_roundFrom v0_roundTo v0_goLast v0_goAnswer v0_goHeard h_fewest h_costNow h_costThen h_lawsOf h_heardBy v0_lawMany v0_askWorst h_placesOf h_sentIn v0_placeMany v0_parentFirst h_lostBy h_many h_width h_numbers h_moving f_many f_numbers f_placesOf f_sentIn f_world v1 0 (by first | assumption | (have := zI0; have := zI1; have := zIm; omega) | decide) (by first | assumption | (have := zI0; have := zI1; have := zIm; omega) | decide) (by first | assumption | (have := zI0; have := zI1; have := zIm; omega) | decide) (by first | assumption | (have := zI0; have := zI1; have := zIm; omega) | decide) (by first | assumption | (have := zI0; have := zI1; have := zIm; omega) | decide) (by first | assumption | (have := zI0; have := zI1; have := zIm; omega) | decide) (by first | assumption | (have := zI0; have := zI1; have := zIm; omega) | decide) (by first | assumption | (have := zI0; have := zI1; have := zIm; omega) | decide) (by first | assumption | (have := zI0; have := zI1; have := zIm; omega) | decide) (by first | assumption | (have := zI0; have := zI1; have := zIm; omega) | decide) (by first | assumption | (have := zI0; have := zI1; have := zIm; omega) | decide) (by first | assumption | (have := zI0; have := zI1; have := zIm; omega) | decide) (by first | assumption | (have := zI0; have := zI1; have := zIm; omega) | decide) (by first | assumption | (have := zI0; have := zI1; have := zIm; omega) | decide) (by first | assumption | (have := zI0; have := zI1; have := zIm; omega) | decide) (by first | assumption | (have := zI0; have := zI1; have := zIm; omega) | decide) (by first | assumption | (have := zI0; have := zI1; have := zIm; omega) | decide) (by first | assumption | (have := zI0; have := zI1; have := zIm; omega) | decide)) hP hD hS hA hK hN hT hAB hG [0, 1, 2, 3, 4, 5] [] rfl rfl (by decide) (by decide) (by decide) (cvB (n := 2) (inr57 _ (List.mem_of_getElem? (i := 16) rfl)) (inr57 _ (List.mem_of_getElem? (i := 17) rfl)) (inr57 _ (List.mem_of_getElem? (i := 18) rfl)) (inr1 _ (List.mem_of_getElem? (i := 5) rfl)) (inr57 _ (List.mem_of_getElem? (i := 19) rfl)) (by decide +kernel) hts rfl rfl ⟨Nat.le_of_ble_eq_true rfl, Nat.le_of_ble_eq_true rfl⟩) 0 12 rfl rfl rfl rfl hl.1 rfl (Nat.le_of_ble_eq_true rfl) ⟨Nat.le_of_ble_eq_true rfl, Nat.le_of_ble_eq_true rfl⟩ dX12_place_3 (fun r_1 x9 H locs h_2 hP hD hS => ?_)
  obtain ⟨t_3, g_4, g_5⟩ := x9
  have hP : va_P D vwCl [(mO h0 v0_thrown h_world h_images h_hasImage h_tape v0_taped h_five v0_size v0_at v0_from v0_token v0_value v0_faultKind v0_faultPlace h_fresh h_spokenAt h_heardAt h_lastAt h_answerAt v0_lawA v0_lawB v0_lawC v0_drawX v0_isDrawn v0_lostMany h_heardNow h_seenAt v0_roundFrom v0_roundTo v0_goLast v0_goAnswer v0_goHeard h_fewest h_costNow h_costThen h_lawsOf h_heardBy v0_lawMany v0_askWorst h_placesOf h_sentIn t_3 v0_parentFirst h_lostBy h_many h_width h_numbers h_moving), (h_many, .inl (cI, 4, .inl f_many)), (h_numbers, .inl (cJ, 240, .inr (.inl f_numbers))), (h_placesOf, .inl (cI, 100, .inl g_4)), (h_sentIn, .inl (cI, 100, .inl g_5)), (h_world, .inl (cI, 53, .inl f_world))] H := hP
  have hD : va_D A [(mO h0 v0_thrown h_world h_images h_hasImage h_tape v0_taped h_five v0_size v0_at v0_from v0_token v0_value v0_faultKind v0_faultPlace h_fresh h_spokenAt h_heardAt h_lastAt h_answerAt v0_lawA v0_lawB v0_lawC v0_drawX v0_isDrawn v0_lostMany h_heardNow h_seenAt v0_roundFrom v0_roundTo v0_goLast v0_goAnswer v0_goHeard h_fewest h_costNow h_costThen h_lawsOf h_heardBy v0_lawMany v0_askWorst h_placesOf h_sentIn t_3 v0_parentFirst h_lostBy h_many h_width h_numbers h_moving), (h_many, .inl (cI, 4, .inl f_many)), (h_numbers, .inl (cJ, 240, .inr (.inl f_numbers))), (h_placesOf, .inl (cI, 100, .inl g_4)), (h_sentIn, .inl (cI, 100, .inl g_5)), (h_world, .inl (cI, 53, .inl f_world))] := hD
  have h_2 : (0 ≤ t_3.toInt ∧ t_3.toInt ≤ 100) := h_2
  have i_6 := h_2
  refine lv_istore_n (lv' := [(2, .int r_1), (0, .ref h0), (1, .int v1)]) hx hb dX12_place_6 rfl hl (by decide) rfl (fun ls hl => ?_)
  refine lv_iload_n hx hb dX12_place_7 rfl (lv_at hl 0 rfl) ?_
  refine lv_if_ge (tgt := 13) hx hb dX12_place_8 (by decide) (fun c_7 => ?_) (fun c_7 => ?_)
  · have c_7 : 0 ≤ r_1.toInt := ci_ge_t c_7
    have b_r_1 := i32b r_1
    refine lv_aload_n hx hb dX12_place_13 rfl (lv_at hl 1 rfl) ?_
    refine va_get (D := D) (ci := 12) (v := .int t_3) (C := RX12) (T := TX12) (N := 48) hx hb hts inlX12 hown hK hP 0 rfl rfl 41 (by decide) (hts _ (inr57 _ (List.mem_of_getElem? (i := 15) rfl))) (fun _ h9 => h9) rfl dX12_place_14 ?_
    refine lv_if_ne (tgt := 24) hx hb dX12_place_17 (by decide) (fun c_8 => ?_) (fun c_8 => ?_)
    · have c_8 : ¬ t_3.toInt = 0 := ci_ne_t c_8
      have b_t_3 := i32b t_3
      refine lv_aload_n hx hb dX12_place_24 rfl (lv_at hl 1 rfl) ?_
      refine va_get (D := D) (ci := 12) (v := .ref h_placesOf) (C := RX12) (T := TX12) (N := 48) hx hb hts inlX12 hown hK hP 0 rfl rfl 39 (by decide) (hts _ (inr7 _ (List.mem_of_getElem? (i := 11) rfl))) (fun _ h9 => h9) rfl dX12_place_25 ?_
      refine lv_iconst (v := 0) hx hb dX12_place_28 (by decide) ?_
      obtain ⟨t_9, et_9⟩ : ∃ v9 : Int32, g_4 (0 : Int32).toNatClampNeg = v9 := ⟨_, rfl⟩
      refine z_iald (v := t_9) hx hb hK hP 3 1 rfl rfl (by unfold vp_in; decide) et_9 dX12_place_29 ?_
      exact ret _ _ _ _ _ (t_3, g_4, g_5) dX12_place_30 (show (0 ≤ t_3.toInt ∧ t_3.toInt ≤ 100) from (by first | assumption | (have := zI0; have := zI1; have := zIm; omega) | decide)) (hP.sub [0, 1, 2, 3, 4, 5] rfl) (hD.sub [0, 1, 2, 3, 4, 5] (by decide) rfl) hS
    · have c_8 : t_3.toInt = 0 := ci_ne_f c_8
      have b_t_3 := i32b t_3
      refine lv_iconst (v := (-1)) hx hb dX12_place_20 (by decide) ?_
      refine lv_goto (tgt := 30) hx hb dX12_place_21 (by decide) ?_
      exact ret _ _ _ _ _ (t_3, g_4, g_5) dX12_place_30 (show (0 ≤ t_3.toInt ∧ t_3.toInt ≤ 100) from (by first | assumption | (have := zI0; have := zI1; have := zIm; omega) | decide)) (hP.sub [0, 1, 2, 3, 4, 5] rfl) (hD.sub [0, 1, 2, 3, 4, 5] (by decide) rfl) hS
  · have c_7 : r_1.toInt < 0 := ci_ge_f c_7
    have b_r_1 := i32b r_1
    refine lv_iload_n hx hb dX12_place_11 rfl (lv_at hl 0 rfl) ?_
    exact ret _ _ _ _ _ (t_3, g_4, g_5) dX12_place_12 (show (0 ≤ t_3.toInt ∧ t_3.toInt ≤ 100) from (by first | assumption | (have := zI0; have := zI1; have := zIm; omega) | decide)) (hP.sub [0, 1, 2, 3, 4, 5] rfl) (hD.sub [0, 1, 2, 3, 4, 5] (by decide) rfl) hS

set_option maxHeartbeats 4000000 in
set_option maxRecDepth 100000 in
theorem b_X12_farther (l : Launch) (G : Gho) (D : va_G) (cB cI cJ cZ cS cT : ClassId) (sz : Nat) (h0 : Nat) (v0_thrown : Int32) (h_world : Nat) (h_images : Nat) (h_hasImage : Nat) (h_tape : Nat) (v0_taped : Int32) (h_five : Nat) (v0_size : Int32) (v0_at : Int32) (v0_from : Int32) (v0_token : Int32) (v0_value : Int32) (v0_faultKind : Int32) (v0_faultPlace : Int32) (h_fresh : Nat) (h_spokenAt : Nat) (h_heardAt : Nat) (h_lastAt : Nat) (h_answerAt : Nat) (v0_lawA : Int32) (v0_lawB : Int32) (v0_lawC : Int32) (v0_drawX : Int64) (v0_isDrawn : Int32) (v0_lostMany : Int32) (h_heardNow : Nat) (h_seenAt : Nat) (v0_roundFrom : Int32) (v0_roundTo : Int32) (v0_goLast : Int32) (v0_goAnswer : Int32) (v0_goHeard : Int32) (h_fewest : Nat) (h_costNow : Nat) (h_costThen : Nat) (h_lawsOf : Nat) (h_heardBy : Nat) (v0_lawMany : Int32) (v0_askWorst : Int32) (h_placesOf : Nat) (h_sentIn : Nat) (v0_placeMany : Int32) (v0_parentFirst : Int32) (h_lostBy : Nat) (h_many : Nat) (h_width : Nat) (h_numbers : Nat) (h_moving : Nat) (f_many : Nat → Int32) (f_numbers : Nat → Int64) (f_placesOf : Nat → Int32) (f_sentIn : Nat → Int32) (f_world : Nat → Int32) (v1 : Int32) (iv0_taped : 0 ≤ v0_taped.toInt ∧ v0_taped.toInt ≤ 500) (iv0_size : 0 ≤ v0_size.toInt ∧ v0_size.toInt ≤ 500) (iv0_at : 0 ≤ v0_at.toInt ∧ v0_at.toInt ≤ 500) (iv0_from : 0 ≤ v0_from.toInt ∧ v0_from.toInt ≤ 500) (iv0_faultKind : 0 ≤ v0_faultKind.toInt ∧ v0_faultKind.toInt ≤ 3) (iv0_lawA : 0 ≤ v0_lawA.toInt ∧ v0_lawA.toInt ≤ 8) (iv0_lawB : 0 ≤ v0_lawB.toInt ∧ v0_lawB.toInt ≤ 8) (iv0_lawC : 0 ≤ v0_lawC.toInt ∧ v0_lawC.toInt ≤ 9) (iv0_isDrawn : 0 ≤ v0_isDrawn.toInt ∧ v0_isDrawn.toInt ≤ 1) (iv0_roundFrom : 0 ≤ v0_roundFrom.toInt ∧ v0_roundFrom.toInt ≤ 648) (iv0_roundTo : 0 ≤ v0_roundTo.toInt ∧ v0_roundTo.toInt ≤ 648) (iv0_goLast : 0 ≤ v0_goLast.toInt ∧ v0_goLast.toInt ≤ 8) (iv0_goAnswer : 0 ≤ v0_goAnswer.toInt ∧ v0_goAnswer.toInt ≤ 8) (iv0_lawMany : 0 ≤ v0_lawMany.toInt ∧ v0_lawMany.toInt ≤ 729) (iv0_placeMany : 0 ≤ v0_placeMany.toInt ∧ v0_placeMany.toInt ≤ 100) (pf_many : sg sgMa f_many) (pf_world : sg sgWo f_world) (cf_world : 0 < (f_world 9).toInt → 2 ≤ (f_world 0).toInt) : Met l yX12_farther (Cond.code yX12_farther cX12_farther 3 (some .int) :: wsL_law) ({ frames := 3, cells := 0, slots := 0, locals := 72 }) (wrP G D (tyL cB cI cJ cZ cS cT) [(mO h0 v0_thrown h_world h_images h_hasImage h_tape v0_taped h_five v0_size v0_at v0_from v0_token v0_value v0_faultKind v0_faultPlace h_fresh h_spokenAt h_heardAt h_lastAt h_answerAt v0_lawA v0_lawB v0_lawC v0_drawX v0_isDrawn v0_lostMany h_heardNow h_seenAt v0_roundFrom v0_roundTo v0_goLast v0_goAnswer v0_goHeard h_fewest h_costNow h_costThen h_lawsOf h_heardBy v0_lawMany v0_askWorst h_placesOf h_sentIn v0_placeMany v0_parentFirst h_lostBy h_many h_width h_numbers h_moving), (h_many, .inl (cI, 4, .inl f_many)), (h_numbers, .inl (cJ, 240, .inr (.inl f_numbers))), (h_placesOf, .inl (cI, 100, .inl f_placesOf)), (h_sentIn, .inl (cI, 100, .inl f_sentIn)), (h_world, .inl (cI, 53, .inl f_world))] sz [.ref h0, .int v1]) (va_Qi (fun (r : Int32) (x : Int32 × (Nat → Int32) × (Nat → Int32)) => (0 ≤ x.1.toInt ∧ x.1.toInt ≤ 100)) (atW D (tyL cB cI cJ cZ cS cT) (va_A [(mO h0 v0_thrown h_world h_images h_hasImage h_tape v0_taped h_five v0_size v0_at v0_from v0_token v0_value v0_faultKind v0_faultPlace h_fresh h_spokenAt h_heardAt h_lastAt h_answerAt v0_lawA v0_lawB v0_lawC v0_drawX v0_isDrawn v0_lostMany h_heardNow h_seenAt v0_roundFrom v0_roundTo v0_goLast v0_goAnswer v0_goHeard h_fewest h_costNow h_costThen h_lawsOf h_heardBy v0_lawMany v0_askWorst h_placesOf h_sentIn v0_placeMany v0_parentFirst h_lostBy h_many h_width h_numbers h_moving), (h_many, .inl (cI, 4, .inl f_many)), (h_numbers, .inl (cJ, 240, .inr (.inl f_numbers))), (h_placesOf, .inl (cI, 100, .inl f_placesOf)), (h_sentIn, .inl (cI, 100, .inl f_sentIn)), (h_world, .inl (cI, 53, .inl f_world))] sz) (fun x : Int32 × (Nat → Int32) × (Nat → Int32) => [(mO h0 v0_thrown h_world h_images h_hasImage h_tape v0_taped h_five v0_size v0_at v0_from v0_token v0_value v0_faultKind v0_faultPlace h_fresh h_spokenAt h_heardAt h_lastAt h_answerAt v0_lawA v0_lawB v0_lawC v0_drawX v0_isDrawn v0_lostMany h_heardNow h_seenAt v0_roundFrom v0_roundTo v0_goLast v0_goAnswer v0_goHeard h_fewest h_costNow h_costThen h_lawsOf h_heardBy v0_lawMany v0_askWorst h_placesOf h_sentIn x.1 v0_parentFirst h_lostBy h_many h_width h_numbers h_moving), (h_many, .inl (cI, 4, .inl f_many)), (h_numbers, .inl (cJ, 240, .inr (.inl f_numbers))), (h_placesOf, .inl (cI, 100, .inl x.2.1)), (h_sentIn, .inl (cI, 100, .inl x.2.2)), (h_world, .inl (cI, 53, .inl f_world))])) (va_A [(mO h0 v0_thrown h_world h_images h_hasImage h_tape v0_taped h_five v0_size v0_at v0_from v0_token v0_value v0_faultKind v0_faultPlace h_fresh h_spokenAt h_heardAt h_lastAt h_answerAt v0_lawA v0_lawB v0_lawC v0_drawX v0_isDrawn v0_lostMany h_heardNow h_seenAt v0_roundFrom v0_roundTo v0_goLast v0_goAnswer v0_goHeard h_fewest h_costNow h_costThen h_lawsOf h_heardBy v0_lawMany v0_askWorst h_placesOf h_sentIn v0_placeMany v0_parentFirst h_lostBy h_many h_width h_numbers h_moving), (h_many, .inl (cI, 4, .inl f_many)), (h_numbers, .inl (cJ, 240, .inr (.inl f_numbers))), (h_placesOf, .inl (cI, 100, .inl f_placesOf)), (h_sentIn, .inl (cI, 100, .inl f_sentIn)), (h_world, .inl (cI, 53, .inl f_world))] sz)) 0 0 (va_A [(mO h0 v0_thrown h_world h_images h_hasImage h_tape v0_taped h_five v0_size v0_at v0_from v0_token v0_value v0_faultKind v0_faultPlace h_fresh h_spokenAt h_heardAt h_lastAt h_answerAt v0_lawA v0_lawB v0_lawC v0_drawX v0_isDrawn v0_lostMany h_heardNow h_seenAt v0_roundFrom v0_roundTo v0_goLast v0_goAnswer v0_goHeard h_fewest h_costNow h_costThen h_lawsOf h_heardBy v0_lawMany v0_askWorst h_placesOf h_sentIn v0_placeMany v0_parentFirst h_lostBy h_many h_width h_numbers h_moving), (h_many, .inl (cI, 4, .inl f_many)), (h_numbers, .inl (cJ, 240, .inr (.inl f_numbers))), (h_placesOf, .inl (cI, 100, .inl f_placesOf)), (h_sentIn, .inl (cI, 100, .inl f_sentIn)), (h_world, .inl (cI, 53, .inl f_world))] sz) := by
  refine metI (own := RX12) (by decide) rfl ?_
  intro p e s m below meth c Q hsz C hG hP hD hAB ret
  obtain ⟨hx, hb, hml, hown, hts, hK, hN, hT⟩ := id C
  subst hsz
  generalize hAe : va_A [(mO h0 v0_thrown h_world h_images h_hasImage h_tape v0_taped h_five v0_size v0_at v0_from v0_token v0_value v0_faultKind v0_faultPlace h_fresh h_spokenAt h_heardAt h_lastAt h_answerAt v0_lawA v0_lawB v0_lawC v0_drawX v0_isDrawn v0_lostMany h_heardNow h_seenAt v0_roundFrom v0_roundTo v0_goLast v0_goAnswer v0_goHeard h_fewest h_costNow h_costThen h_lawsOf h_heardBy v0_lawMany v0_askWorst h_placesOf h_sentIn v0_placeMany v0_parentFirst h_lostBy h_many h_width h_numbers h_moving), (h_many, .inl (cI, 4, .inl f_many)), (h_numbers, .inl (cJ, 240, .inr (.inl f_numbers))), (h_placesOf, .inl (cI, 100, .inl f_placesOf)), (h_sentIn, .inl (cI, 100, .inl f_sentIn)), (h_world, .inl (cI, 53, .inl f_world))] s.heap.size = A at hD hAB ret ⊢
  have hA : ∀ q : Nat, s.heap.size ≤ q → A q := fun q h => by rw [← hAe]; exact Or.inr h
  have hS : va_S A s.heap s.heap [] := va_S.rf
  have hl := lv_entry ([.ref h0, .int v1]) (n := 3) (Nat.le_of_ble_eq_true rfl)
  rw [lg_entry_eq]
  generalize (lg_sl ([.ref h0, .int v1]) ++ List.replicate (3 - (lg_sl ([.ref h0, .int v1])).length) Slot.unset).toArray = ls at hl ⊢
  have hl : lv_has ls 3 [(0, .ref h0), (1, .int v1)] := hl
  have hP : va_P D vwCl [(mO h0 v0_thrown h_world h_images h_hasImage h_tape v0_taped h_five v0_size v0_at v0_from v0_token v0_value v0_faultKind v0_faultPlace h_fresh h_spokenAt h_heardAt h_lastAt h_answerAt v0_lawA v0_lawB v0_lawC v0_drawX v0_isDrawn v0_lostMany h_heardNow h_seenAt v0_roundFrom v0_roundTo v0_goLast v0_goAnswer v0_goHeard h_fewest h_costNow h_costThen h_lawsOf h_heardBy v0_lawMany v0_askWorst h_placesOf h_sentIn v0_placeMany v0_parentFirst h_lostBy h_many h_width h_numbers h_moving), (h_many, .inl (cI, 4, .inl f_many)), (h_numbers, .inl (cJ, 240, .inr (.inl f_numbers))), (h_placesOf, .inl (cI, 100, .inl f_placesOf)), (h_sentIn, .inl (cI, 100, .inl f_sentIn)), (h_world, .inl (cI, 53, .inl f_world))] s.heap := hP
  refine lv_aload_n hx hb dX12_farther_0 rfl (lv_at hl 0 rfl) ?_
  refine lv_iload_n hx hb dX12_farther_1 rfl (lv_at hl 1 rfl) ?_
  refine lv_iconst (v := 0) hx hb dX12_farther_2 (by decide) ?_
  refine wrVi (As := [.int v1, .int 0]) (rest := []) (wr := []) ⟨hx, hb, hml, hown, hts⟩ (b_X12_layPlaces l G D cB cI cJ cZ cS cT s.heap.size h0 v0_thrown h_world h_images h_hasImage h_tape v0_taped h_five v0_size v0_at v0_from v0_token v0_value v0_faultKind v0_faultPlace h_fresh h_spokenAt h_heardAt h_lastAt h_answerAt v0_lawA v0_lawB v0_lawC v0_drawX v0_isDrawn v0_lostMany h_heardNow h_seenAt v0_roundFrom v0_roundTo v0_goLast v0_goAnswer v0_goHeard h_fewest h_costNow h_costThen h_lawsOf h_heardBy v0_lawMany v0_askWorst h_placesOf h_sentIn v0_placeMany v0_parentFirst h_lostBy h_many h_width h_numbers h_moving f_many f_numbers f_placesOf f_sentIn f_world v1 0 (by first | assumption | (have := zI0; have := zI1; have := zIm; omega) | decide) (by first | assumption | (have := zI0; have := zI1; have := zIm; omega) | decide) (by first | assumption | (have := zI0; have := zI1; have := zIm; omega) | decide) (by first | assumption | (have := zI0; have := zI1; have := zIm; omega) | decide) (by first | assumption | (have := zI0; have := zI1; have := zIm; omega) | decide) (by first | assumption | (have := zI0; have := zI1; have := zIm; omega) | decide) (by first | assumption | (have := zI0; have := zI1; have := zIm; omega) | decide) (by first | assumption | (have := zI0; have := zI1; have := zIm; omega) | decide) (by first | assumption | (have := zI0; have := zI1; have := zIm; omega) | decide) (by first | assumption | (have := zI0; have := zI1; have := zIm; omega) | decide) (by first | assumption | (have := zI0; have := zI1; have := zIm; omega) | decide) (by first | assumption | (have := zI0; have := zI1; have := zIm; omega) | decide) (by first | assumption | (have := zI0; have := zI1; have := zIm; omega) | decide) (by first | assumption | (have := zI0; have := zI1; have := zIm; omega) | decide) (by first | assumption | (have := zI0; have := zI1; have := zIm; omega) | decide) (by first | assumption | (have := zI0; have := zI1; have := zIm; omega) | decide) (by first | assumption | (have := zI0; have := zI1; have := zIm; omega) | decide) (by first | assumption | (have := zI0; have := zI1; have := zIm; omega) | decide)) hP hD hS hA hK hN hT hAB hG [0, 1, 2, 3, 4, 5] [] rfl rfl (by decide) (by decide) (by decide) (cvB (n := 2) (inr57 _ (List.mem_of_getElem? (i := 16) rfl)) (inr57 _ (List.mem_of_getElem? (i := 17) rfl)) (inr57 _ (List.mem_of_getElem? (i := 18) rfl)) (inr1 _ (List.mem_of_getElem? (i := 5) rfl)) (inr57 _ (List.mem_of_getElem? (i := 19) rfl)) (by decide +kernel) hts rfl rfl ⟨Nat.le_of_ble_eq_true rfl, Nat.le_of_ble_eq_true rfl⟩) 0 12 rfl rfl rfl rfl hl.1 rfl (Nat.le_of_ble_eq_true rfl) ⟨Nat.le_of_ble_eq_true rfl, Nat.le_of_ble_eq_true rfl⟩ dX12_farther_3 (fun r_1 x9 H locs h_2 hP hD hS => ?_)
  obtain ⟨t_3, g_4, g_5⟩ := x9
  have hP : va_P D vwCl [(mO h0 v0_thrown h_world h_images h_hasImage h_tape v0_taped h_five v0_size v0_at v0_from v0_token v0_value v0_faultKind v0_faultPlace h_fresh h_spokenAt h_heardAt h_lastAt h_answerAt v0_lawA v0_lawB v0_lawC v0_drawX v0_isDrawn v0_lostMany h_heardNow h_seenAt v0_roundFrom v0_roundTo v0_goLast v0_goAnswer v0_goHeard h_fewest h_costNow h_costThen h_lawsOf h_heardBy v0_lawMany v0_askWorst h_placesOf h_sentIn t_3 v0_parentFirst h_lostBy h_many h_width h_numbers h_moving), (h_many, .inl (cI, 4, .inl f_many)), (h_numbers, .inl (cJ, 240, .inr (.inl f_numbers))), (h_placesOf, .inl (cI, 100, .inl g_4)), (h_sentIn, .inl (cI, 100, .inl g_5)), (h_world, .inl (cI, 53, .inl f_world))] H := hP
  have hD : va_D A [(mO h0 v0_thrown h_world h_images h_hasImage h_tape v0_taped h_five v0_size v0_at v0_from v0_token v0_value v0_faultKind v0_faultPlace h_fresh h_spokenAt h_heardAt h_lastAt h_answerAt v0_lawA v0_lawB v0_lawC v0_drawX v0_isDrawn v0_lostMany h_heardNow h_seenAt v0_roundFrom v0_roundTo v0_goLast v0_goAnswer v0_goHeard h_fewest h_costNow h_costThen h_lawsOf h_heardBy v0_lawMany v0_askWorst h_placesOf h_sentIn t_3 v0_parentFirst h_lostBy h_many h_width h_numbers h_moving), (h_many, .inl (cI, 4, .inl f_many)), (h_numbers, .inl (cJ, 240, .inr (.inl f_numbers))), (h_placesOf, .inl (cI, 100, .inl g_4)), (h_sentIn, .inl (cI, 100, .inl g_5)), (h_world, .inl (cI, 53, .inl f_world))] := hD
  have h_2 : (0 ≤ t_3.toInt ∧ t_3.toInt ≤ 100) := h_2
  have i_6 := h_2
  refine lv_istore_n (lv' := [(2, .int r_1), (0, .ref h0), (1, .int v1)]) hx hb dX12_farther_6 rfl hl (by decide) rfl (fun ls hl => ?_)
  refine lv_iload_n hx hb dX12_farther_7 rfl (lv_at hl 0 rfl) ?_
  refine lv_if_ge (tgt := 13) hx hb dX12_farther_8 (by decide) (fun c_7 => ?_) (fun c_7 => ?_)
  · have c_7 : 0 ≤ r_1.toInt := ci_ge_t c_7
    have b_r_1 := i32b r_1
    refine lv_aload_n hx hb dX12_farther_13 rfl (lv_at hl 1 rfl) ?_
    refine va_get (D := D) (ci := 12) (v := .int t_3) (C := RX12) (T := TX12) (N := 48) hx hb hts inlX12 hown hK hP 0 rfl rfl 41 (by decide) (hts _ (inr57 _ (List.mem_of_getElem? (i := 15) rfl))) (fun _ h9 => h9) rfl dX12_farther_14 ?_
    refine lv_if_ne (tgt := 24) hx hb dX12_farther_17 (by decide) (fun c_8 => ?_) (fun c_8 => ?_)
    · have c_8 : ¬ t_3.toInt = 0 := ci_ne_t c_8
      have b_t_3 := i32b t_3
      refine lv_aload_n hx hb dX12_farther_24 rfl (lv_at hl 1 rfl) ?_
      refine va_get (D := D) (ci := 12) (v := .ref h_placesOf) (C := RX12) (T := TX12) (N := 48) hx hb hts inlX12 hown hK hP 0 rfl rfl 39 (by decide) (hts _ (inr7 _ (List.mem_of_getElem? (i := 11) rfl))) (fun _ h9 => h9) rfl dX12_farther_25 ?_
      refine lv_aload_n hx hb dX12_farther_28 rfl (lv_at hl 1 rfl) ?_
      refine va_get (D := D) (ci := 12) (v := .int t_3) (C := RX12) (T := TX12) (N := 48) hx hb hts inlX12 hown hK hP 0 rfl rfl 41 (by decide) (hts _ (inr57 _ (List.mem_of_getElem? (i := 15) rfl))) (fun _ h9 => h9) rfl dX12_farther_29 ?_
      refine lv_iconst (v := 1) hx hb dX12_farther_32 (by decide) ?_
      obtain ⟨t_9, et_9⟩ : ∃ v9 : Int32, t_3 - 1 = v9 := ⟨_, rfl⟩
      refine z_isub (v := t_9) hx hb dX12_farther_33 et_9 ?_
      have ft_9 : t_9.toInt = t_3.toInt - 1 := subT (a := t_3.toInt) (b := 1) rfl (by decide) et_9 (by omega) (by omega)
      obtain ⟨t_10, et_10⟩ : ∃ v9 : Int32, g_4 (t_9 : Int32).toNatClampNeg = v9 := ⟨_, rfl⟩
      refine z_iald (v := t_10) hx hb hK hP 3 1 rfl rfl (vin_nat (by omega) (by omega)) et_10 dX12_farther_34 ?_
      exact ret _ _ _ _ _ (t_3, g_4, g_5) dX12_farther_35 (show (0 ≤ t_3.toInt ∧ t_3.toInt ≤ 100) from (by first | assumption | (have := zI0; have := zI1; have := zIm; omega) | decide)) (hP.sub [0, 1, 2, 3, 4, 5] rfl) (hD.sub [0, 1, 2, 3, 4, 5] (by decide) rfl) hS
    · have c_8 : t_3.toInt = 0 := ci_ne_f c_8
      have b_t_3 := i32b t_3
      refine lv_iconst (v := (-1)) hx hb dX12_farther_20 (by decide) ?_
      refine lv_goto (tgt := 35) hx hb dX12_farther_21 (by decide) ?_
      exact ret _ _ _ _ _ (t_3, g_4, g_5) dX12_farther_35 (show (0 ≤ t_3.toInt ∧ t_3.toInt ≤ 100) from (by first | assumption | (have := zI0; have := zI1; have := zIm; omega) | decide)) (hP.sub [0, 1, 2, 3, 4, 5] rfl) (hD.sub [0, 1, 2, 3, 4, 5] (by decide) rfl) hS
  · have c_7 : r_1.toInt < 0 := ci_ge_f c_7
    have b_r_1 := i32b r_1
    refine lv_iload_n hx hb dX12_farther_11 rfl (lv_at hl 0 rfl) ?_
    exact ret _ _ _ _ _ (t_3, g_4, g_5) dX12_farther_12 (show (0 ≤ t_3.toInt ∧ t_3.toInt ≤ 100) from (by first | assumption | (have := zI0; have := zI1; have := zIm; omega) | decide)) (hP.sub [0, 1, 2, 3, 4, 5] rfl) (hD.sub [0, 1, 2, 3, 4, 5] (by decide) rfl) hS

set_option maxHeartbeats 4000000 in
set_option maxRecDepth 100000 in
theorem b_X12_minuteOf (l : Launch) (G : Gho) (D : va_G) (cB cI cJ cZ cS cT : ClassId) (h0 : Nat) (v0_thrown : Int32) (h_world : Nat) (h_images : Nat) (h_hasImage : Nat) (h_tape : Nat) (v0_taped : Int32) (h_five : Nat) (v0_size : Int32) (v0_at : Int32) (v0_from : Int32) (v0_token : Int32) (v0_value : Int32) (v0_faultKind : Int32) (v0_faultPlace : Int32) (h_fresh : Nat) (h_spokenAt : Nat) (h_heardAt : Nat) (h_lastAt : Nat) (h_answerAt : Nat) (v0_lawA : Int32) (v0_lawB : Int32) (v0_lawC : Int32) (v0_drawX : Int64) (v0_isDrawn : Int32) (v0_lostMany : Int32) (h_heardNow : Nat) (h_seenAt : Nat) (v0_roundFrom : Int32) (v0_roundTo : Int32) (v0_goLast : Int32) (v0_goAnswer : Int32) (v0_goHeard : Int32) (h_fewest : Nat) (h_costNow : Nat) (h_costThen : Nat) (h_lawsOf : Nat) (h_heardBy : Nat) (v0_lawMany : Int32) (v0_askWorst : Int32) (h_placesOf : Nat) (h_sentIn : Nat) (v0_placeMany : Int32) (v0_parentFirst : Int32) (h_lostBy : Nat) (h_many : Nat) (h_width : Nat) (h_numbers : Nat) (h_moving : Nat) (f_placesOf : Nat → Int32) (f_sentIn : Nat → Int32) (v1 : Int32) (v2 : Int32) (iv0_taped : 0 ≤ v0_taped.toInt ∧ v0_taped.toInt ≤ 500) (iv0_size : 0 ≤ v0_size.toInt ∧ v0_size.toInt ≤ 500) (iv0_at : 0 ≤ v0_at.toInt ∧ v0_at.toInt ≤ 500) (iv0_from : 0 ≤ v0_from.toInt ∧ v0_from.toInt ≤ 500) (iv0_faultKind : 0 ≤ v0_faultKind.toInt ∧ v0_faultKind.toInt ≤ 3) (iv0_lawA : 0 ≤ v0_lawA.toInt ∧ v0_lawA.toInt ≤ 8) (iv0_lawB : 0 ≤ v0_lawB.toInt ∧ v0_lawB.toInt ≤ 8) (iv0_lawC : 0 ≤ v0_lawC.toInt ∧ v0_lawC.toInt ≤ 9) (iv0_isDrawn : 0 ≤ v0_isDrawn.toInt ∧ v0_isDrawn.toInt ≤ 1) (iv0_roundFrom : 0 ≤ v0_roundFrom.toInt ∧ v0_roundFrom.toInt ≤ 648) (iv0_roundTo : 0 ≤ v0_roundTo.toInt ∧ v0_roundTo.toInt ≤ 648) (iv0_goLast : 0 ≤ v0_goLast.toInt ∧ v0_goLast.toInt ≤ 8) (iv0_goAnswer : 0 ≤ v0_goAnswer.toInt ∧ v0_goAnswer.toInt ≤ 8) (iv0_lawMany : 0 ≤ v0_lawMany.toInt ∧ v0_lawMany.toInt ≤ 729) (iv0_placeMany : 0 ≤ v0_placeMany.toInt ∧ v0_placeMany.toInt ≤ 100) (hv1 : 0 ≤ v1.toInt ∧ v1.toInt ≤ 99) : Met l yX12_minuteOf (Cond.code yX12_minuteOf cX12_minuteOf 3 (some .int) :: wsL_law) ({ frames := 1, cells := 0, slots := 0, locals := 14 }) (roP G D (tyL cB cI cJ cZ cS cT) [(mO h0 v0_thrown h_world h_images h_hasImage h_tape v0_taped h_five v0_size v0_at v0_from v0_token v0_value v0_faultKind v0_faultPlace h_fresh h_spokenAt h_heardAt h_lastAt h_answerAt v0_lawA v0_lawB v0_lawC v0_drawX v0_isDrawn v0_lostMany h_heardNow h_seenAt v0_roundFrom v0_roundTo v0_goLast v0_goAnswer v0_goHeard h_fewest h_costNow h_costThen h_lawsOf h_heardBy v0_lawMany v0_askWorst h_placesOf h_sentIn v0_placeMany v0_parentFirst h_lostBy h_many h_width h_numbers h_moving), (h_placesOf, .inl (cI, 100, .inl f_placesOf)), (h_sentIn, .inl (cI, 100, .inl f_sentIn))] [.ref h0, .int v1, .int v2]) (vp_Si (fun r : Int32 => True)) 0 0 (fun _ => False) := by
  refine metRO (own := RX12) (by decide) rfl ?_
  intro p e s m below meth c Q C hP ret
  obtain ⟨hx, hb, hml, hown, hts, hK, hN, hT⟩ := id C
  have hl := lv_entry ([.ref h0, .int v1, .int v2]) (n := 3) (Nat.le_of_ble_eq_true rfl)
  rw [lg_entry_eq]
  generalize (lg_sl ([.ref h0, .int v1, .int v2]) ++ List.replicate (3 - (lg_sl ([.ref h0, .int v1, .int v2])).length) Slot.unset).toArray = ls at hl ⊢
  have hl : lv_has ls 3 [(0, .ref h0), (1, .int v1), (2, .int v2)] := hl
  have hP : va_P D vwCl [(mO h0 v0_thrown h_world h_images h_hasImage h_tape v0_taped h_five v0_size v0_at v0_from v0_token v0_value v0_faultKind v0_faultPlace h_fresh h_spokenAt h_heardAt h_lastAt h_answerAt v0_lawA v0_lawB v0_lawC v0_drawX v0_isDrawn v0_lostMany h_heardNow h_seenAt v0_roundFrom v0_roundTo v0_goLast v0_goAnswer v0_goHeard h_fewest h_costNow h_costThen h_lawsOf h_heardBy v0_lawMany v0_askWorst h_placesOf h_sentIn v0_placeMany v0_parentFirst h_lostBy h_many h_width h_numbers h_moving), (h_placesOf, .inl (cI, 100, .inl f_placesOf)), (h_sentIn, .inl (cI, 100, .inl f_sentIn))] s.heap := hP
  refine lv_aload_n hx hb dX12_minuteOf_0 rfl (lv_at hl 0 rfl) ?_
  refine va_get (D := D) (ci := 12) (v := .ref h_sentIn) (C := RX12) (T := TX12) (N := 48) hx hb hts inlX12 hown hK hP 0 rfl rfl 40 (by decide) (hts _ (inr7 _ (List.mem_of_getElem? (i := 12) rfl))) (fun _ h9 => h9) rfl dX12_minuteOf_1 ?_
  refine lv_iload_n hx hb dX12_minuteOf_4 rfl (lv_at hl 1 rfl) ?_
  obtain ⟨t_1, et_1⟩ : ∃ v9 : Int32, f_sentIn (v1 : Int32).toNatClampNeg = v9 := ⟨_, rfl⟩
  refine z_iald (v := t_1) hx hb hK hP 2 1 rfl rfl (vin_nat (by omega) (by omega)) et_1 dX12_minuteOf_5 ?_
  refine lv_aload_n hx hb dX12_minuteOf_6 rfl (lv_at hl 0 rfl) ?_
  refine va_get (D := D) (ci := 12) (v := .ref h_placesOf) (C := RX12) (T := TX12) (N := 48) hx hb hts inlX12 hown hK hP 0 rfl rfl 39 (by decide) (hts _ (inr7 _ (List.mem_of_getElem? (i := 11) rfl))) (fun _ h9 => h9) rfl dX12_minuteOf_7 ?_
  refine lv_iload_n hx hb dX12_minuteOf_10 rfl (lv_at hl 1 rfl) ?_
  obtain ⟨t_2, et_2⟩ : ∃ v9 : Int32, f_placesOf (v1 : Int32).toNatClampNeg = v9 := ⟨_, rfl⟩
  refine z_iald (v := t_2) hx hb hK hP 1 1 rfl rfl (vin_nat (by omega) (by omega)) et_2 dX12_minuteOf_11 ?_
  refine lv_iload_n hx hb dX12_minuteOf_12 rfl (lv_at hl 2 rfl) ?_
  obtain ⟨t_3, et_3⟩ : ∃ v9 : Int32, t_2 - v2 = v9 := ⟨_, rfl⟩
  refine z_isub (v := t_3) hx hb dX12_minuteOf_13 et_3 ?_
  refine va_mabs hx hb (by rw [hml]; exact hl.1.symm) hown (hts _ (inr34 _ (List.mem_of_getElem? (i := 17) rfl))) (hts _ (inr34 _ (List.mem_of_getElem? (i := 11) rfl))) (hts _ (inr18 _ (List.mem_of_getElem? (i := 12) rfl))) (hts _ (inr34 _ (List.mem_of_getElem? (i := 12) rfl))) (Nat.le_of_ble_eq_true rfl) (Nat.le_of_ble_eq_true rfl) (Nat.le_of_ble_eq_true rfl) (Nat.le_of_ble_eq_true rfl) dX12_minuteOf_14 ?_
  refine lv_topi (fun t_4 et_4 => ?_)
  obtain ⟨t_5, et_5⟩ : ∃ v9 : Int32, t_1 + t_4 = v9 := ⟨_, rfl⟩
  refine z_iadd (v := t_5) hx hb dX12_minuteOf_17 et_5 ?_
  exact ret _ _ _ dX12_minuteOf_18 trivial

set_option maxHeartbeats 4000000 in
set_option maxRecDepth 100000 in
theorem b_X12_set_l52 {p : Program} {l : Launch} {e : Env} {s : State} {m : MethodId} {args : Array Value} {below : List Frame} {meth : Method} {c : Code} {Q : State → Prop} {G : Gho} {D : va_G} {cB cI cJ cZ cS cT : ClassId} {A : Nat → Prop} (h0 : Nat) (v0_thrown : Int32) (h_world : Nat) (h_images : Nat) (h_hasImage : Nat) (h_tape : Nat) (v0_taped : Int32) (h_five : Nat) (v0_size : Int32) (v0_at : Int32) (v0_from : Int32) (v0_token : Int32) (v0_value : Int32) (v0_faultKind : Int32) (v0_faultPlace : Int32) (h_fresh : Nat) (h_spokenAt : Nat) (h_heardAt : Nat) (h_lastAt : Nat) (h_answerAt : Nat) (v0_lawA : Int32) (v0_lawB : Int32) (v0_lawC : Int32) (v0_drawX : Int64) (v0_isDrawn : Int32) (v0_lostMany : Int32) (h_heardNow : Nat) (h_seenAt : Nat) (v0_roundFrom : Int32) (v0_roundTo : Int32) (v0_goLast : Int32) (v0_goAnswer : Int32) (v0_goHeard : Int32) (h_fewest : Nat) (h_costNow : Nat) (h_costThen : Nat) (h_lawsOf : Nat) (h_heardBy : Nat) (v0_lawMany : Int32) (v0_askWorst : Int32) (h_placesOf : Nat) (h_sentIn : Nat) (v0_placeMany : Int32) (v0_parentFirst : Int32) (h_lostBy : Nat) (h_many : Nat) (h_width : Nat) (h_numbers : Nat) (h_moving : Nat) (f_many : Nat → Int32) (f_numbers : Nat → Int64) (f_world : Nat → Int32) (t_3 : Int32) (g_4 : Nat → Int32) (g_5 : Nat → Int32) (l37_7 : Int32) (l37_6 : Int32) (l24_5 : Int32) (l24_4 : Int32) (l24_3 : Int32) (N_24 : Nat) (N_37 : Nat) (iv0_taped : 0 ≤ v0_taped.toInt ∧ v0_taped.toInt ≤ 500) (iv0_size : 0 ≤ v0_size.toInt ∧ v0_size.toInt ≤ 500) (iv0_at : 0 ≤ v0_at.toInt ∧ v0_at.toInt ≤ 500) (iv0_from : 0 ≤ v0_from.toInt ∧ v0_from.toInt ≤ 500) (iv0_faultKind : 0 ≤ v0_faultKind.toInt ∧ v0_faultKind.toInt ≤ 3) (iv0_lawA : 0 ≤ v0_lawA.toInt ∧ v0_lawA.toInt ≤ 8) (iv0_lawB : 0 ≤ v0_lawB.toInt ∧ v0_lawB.toInt ≤ 8) (iv0_lawC : 0 ≤ v0_lawC.toInt ∧ v0_lawC.toInt ≤ 9) (iv0_isDrawn : 0 ≤ v0_isDrawn.toInt ∧ v0_isDrawn.toInt ≤ 1) (iv0_roundFrom : 0 ≤ v0_roundFrom.toInt ∧ v0_roundFrom.toInt ≤ 648) (iv0_roundTo : 0 ≤ v0_roundTo.toInt ∧ v0_roundTo.toInt ≤ 648) (iv0_goLast : 0 ≤ v0_goLast.toInt ∧ v0_goLast.toInt ≤ 8) (iv0_goAnswer : 0 ≤ v0_goAnswer.toInt ∧ v0_goAnswer.toInt ≤ 8) (iv0_lawMany : 0 ≤ v0_lawMany.toInt ∧ v0_lawMany.toInt ≤ 729) (iv0_placeMany : 0 ≤ v0_placeMany.toInt ∧ v0_placeMany.toInt ≤ 100) (pf_many : sg sgMa f_many) (pf_world : sg sgWo f_world) (cf_world : 0 < (f_world 9).toInt → 2 ≤ (f_world 0).toInt) (zt_3 : 1 ≤ t_3.toInt ∧ t_3.toInt ≤ 100) (zl37_7 : 0 ≤ l37_7.toInt ∧ l37_7.toInt ≤ 99) (zl24_5 : 0 ≤ l24_5.toInt ∧ l24_5.toInt ≤ 99) (i_6 : 0 ≤ t_3.toInt ∧ t_3.toInt ≤ 100) (kl24_5 : 0 ≤ l24_5.toInt ∧ l24_5.toInt ≤ 100) (c_8 : l24_5.toInt < 100) (kl37_7 : 0 ≤ l37_7.toInt) (c_9 : l37_7.toInt < t_3.toInt) (ih_24 : ∀ (l24_5 : Int32) (l24_4 : Int32) (l24_3 : Int32) (H : Heap) (locs : List Loc) (ls : Array Slot), 0 ≤ l24_5.toInt ∧ l24_5.toInt ≤ 100 → (100 - l24_5.toInt).toNat < N_24 → va_P D vwCl [(mO h0 v0_thrown h_world h_images h_hasImage h_tape v0_taped h_five v0_size v0_at v0_from v0_token v0_value v0_faultKind v0_faultPlace h_fresh h_spokenAt h_heardAt h_lastAt h_answerAt v0_lawA v0_lawB v0_lawC v0_drawX v0_isDrawn v0_lostMany h_heardNow h_seenAt v0_roundFrom v0_roundTo v0_goLast v0_goAnswer v0_goHeard h_fewest h_costNow h_costThen h_lawsOf h_heardBy v0_lawMany v0_askWorst h_placesOf h_sentIn t_3 v0_parentFirst h_lostBy h_many h_width h_numbers h_moving), (h_many, .inl (cI, 4, .inl f_many)), (h_numbers, .inl (cJ, 240, .inr (.inl f_numbers))), (h_placesOf, .inl (cI, 100, .inl g_4)), (h_sentIn, .inl (cI, 100, .inl g_5)), (h_world, .inl (cI, 53, .inl f_world))] H → va_D A [(mO h0 v0_thrown h_world h_images h_hasImage h_tape v0_taped h_five v0_size v0_at v0_from v0_token v0_value v0_faultKind v0_faultPlace h_fresh h_spokenAt h_heardAt h_lastAt h_answerAt v0_lawA v0_lawB v0_lawC v0_drawX v0_isDrawn v0_lostMany h_heardNow h_seenAt v0_roundFrom v0_roundTo v0_goLast v0_goAnswer v0_goHeard h_fewest h_costNow h_costThen h_lawsOf h_heardBy v0_lawMany v0_askWorst h_placesOf h_sentIn t_3 v0_parentFirst h_lostBy h_many h_width h_numbers h_moving), (h_many, .inl (cI, 4, .inl f_many)), (h_numbers, .inl (cJ, 240, .inr (.inl f_numbers))), (h_placesOf, .inl (cI, 100, .inl g_4)), (h_sentIn, .inl (cI, 100, .inl g_5)), (h_world, .inl (cI, 53, .inl f_world))] → va_S A s.heap H locs → lv_has ls 10 [(5, .int l24_5), (4, .int l24_4), (3, .int l24_3), (0, .ref h0)] → W p l e ({ frames := 3, cells := 0, slots := 0, locals := 72 }) s m args below meth c H locs 0 0 Q (F0 m 24 ls [])) (hM_24 : (100 - l24_5.toInt).toNat < N_24 + 1) (ih_37 : ∀ (l37_7 : Int32) (l37_6 : Int32) (H : Heap) (locs : List Loc) (ls : Array Slot), 0 ≤ l37_7.toInt → (100 - l37_7.toInt).toNat < N_37 → va_P D vwCl [(mO h0 v0_thrown h_world h_images h_hasImage h_tape v0_taped h_five v0_size v0_at v0_from v0_token v0_value v0_faultKind v0_faultPlace h_fresh h_spokenAt h_heardAt h_lastAt h_answerAt v0_lawA v0_lawB v0_lawC v0_drawX v0_isDrawn v0_lostMany h_heardNow h_seenAt v0_roundFrom v0_roundTo v0_goLast v0_goAnswer v0_goHeard h_fewest h_costNow h_costThen h_lawsOf h_heardBy v0_lawMany v0_askWorst h_placesOf h_sentIn t_3 v0_parentFirst h_lostBy h_many h_width h_numbers h_moving), (h_many, .inl (cI, 4, .inl f_many)), (h_numbers, .inl (cJ, 240, .inr (.inl f_numbers))), (h_placesOf, .inl (cI, 100, .inl g_4)), (h_sentIn, .inl (cI, 100, .inl g_5)), (h_world, .inl (cI, 53, .inl f_world))] H → va_D A [(mO h0 v0_thrown h_world h_images h_hasImage h_tape v0_taped h_five v0_size v0_at v0_from v0_token v0_value v0_faultKind v0_faultPlace h_fresh h_spokenAt h_heardAt h_lastAt h_answerAt v0_lawA v0_lawB v0_lawC v0_drawX v0_isDrawn v0_lostMany h_heardNow h_seenAt v0_roundFrom v0_roundTo v0_goLast v0_goAnswer v0_goHeard h_fewest h_costNow h_costThen h_lawsOf h_heardBy v0_lawMany v0_askWorst h_placesOf h_sentIn t_3 v0_parentFirst h_lostBy h_many h_width h_numbers h_moving), (h_many, .inl (cI, 4, .inl f_many)), (h_numbers, .inl (cJ, 240, .inr (.inl f_numbers))), (h_placesOf, .inl (cI, 100, .inl g_4)), (h_sentIn, .inl (cI, 100, .inl g_5)), (h_world, .inl (cI, 53, .inl f_world))] → va_S A s.heap H locs → lv_has ls 10 [(7, .int l37_7), (6, .int l37_6), (5, .int l24_5), (4, .int l24_4), (3, .int l24_3), (0, .ref h0)] → W p l e ({ frames := 3, cells := 0, slots := 0, locals := 72 }) s m args below meth c H locs 0 0 Q (F0 m 37 ls [])) (hM_37 : (100 - l37_7.toInt).toNat < N_37 + 1) (C : Cx p s m args c RX12 cX12_set 10 G D (tyL cB cI cJ cZ cS cT)) (hG : G.1 ≤ s.heap.size) (hAB : ∀ q, A q → G.1 ≤ q) (hA : ∀ q : Nat, s.heap.size ≤ q → A q) (ret : RetI p l e ({ frames := 3, cells := 0, slots := 0, locals := 72 }) s m args below meth c cX12_set D A (fun x : Int32 × (Nat → Int32) × (Nat → Int32) => [(mO h0 v0_thrown h_world h_images h_hasImage h_tape v0_taped h_five v0_size v0_at v0_from v0_token v0_value v0_faultKind v0_faultPlace h_fresh h_spokenAt h_heardAt h_lastAt h_answerAt v0_lawA v0_lawB v0_lawC v0_drawX v0_isDrawn v0_lostMany h_heardNow h_seenAt v0_roundFrom v0_roundTo v0_goLast v0_goAnswer v0_goHeard h_fewest h_costNow h_costThen h_lawsOf h_heardBy v0_lawMany v0_askWorst h_placesOf h_sentIn x.1 v0_parentFirst h_lostBy h_many h_width h_numbers h_moving), (h_many, .inl (cI, 4, .inl f_many)), (h_numbers, .inl (cJ, 240, .inr (.inl f_numbers))), (h_placesOf, .inl (cI, 100, .inl x.2.1)), (h_sentIn, .inl (cI, 100, .inl x.2.2)), (h_world, .inl (cI, 53, .inl f_world))]) (fun (r : Int32) (x : Int32 × (Nat → Int32) × (Nat → Int32)) => (0 ≤ x.1.toInt ∧ x.1.toInt ≤ 100)) Q) :
    ∀ (N : Nat) (l52_9 : Int32) (l52_8 : Int32) (H : Heap) (locs : List Loc) (ls : Array Slot), 0 ≤ l52_9.toInt → (100 - l52_9.toInt).toNat < N → va_P D vwCl [(mO h0 v0_thrown h_world h_images h_hasImage h_tape v0_taped h_five v0_size v0_at v0_from v0_token v0_value v0_faultKind v0_faultPlace h_fresh h_spokenAt h_heardAt h_lastAt h_answerAt v0_lawA v0_lawB v0_lawC v0_drawX v0_isDrawn v0_lostMany h_heardNow h_seenAt v0_roundFrom v0_roundTo v0_goLast v0_goAnswer v0_goHeard h_fewest h_costNow h_costThen h_lawsOf h_heardBy v0_lawMany v0_askWorst h_placesOf h_sentIn t_3 v0_parentFirst h_lostBy h_many h_width h_numbers h_moving), (h_many, .inl (cI, 4, .inl f_many)), (h_numbers, .inl (cJ, 240, .inr (.inl f_numbers))), (h_placesOf, .inl (cI, 100, .inl g_4)), (h_sentIn, .inl (cI, 100, .inl g_5)), (h_world, .inl (cI, 53, .inl f_world))] H → va_D A [(mO h0 v0_thrown h_world h_images h_hasImage h_tape v0_taped h_five v0_size v0_at v0_from v0_token v0_value v0_faultKind v0_faultPlace h_fresh h_spokenAt h_heardAt h_lastAt h_answerAt v0_lawA v0_lawB v0_lawC v0_drawX v0_isDrawn v0_lostMany h_heardNow h_seenAt v0_roundFrom v0_roundTo v0_goLast v0_goAnswer v0_goHeard h_fewest h_costNow h_costThen h_lawsOf h_heardBy v0_lawMany v0_askWorst h_placesOf h_sentIn t_3 v0_parentFirst h_lostBy h_many h_width h_numbers h_moving), (h_many, .inl (cI, 4, .inl f_many)), (h_numbers, .inl (cJ, 240, .inr (.inl f_numbers))), (h_placesOf, .inl (cI, 100, .inl g_4)), (h_sentIn, .inl (cI, 100, .inl g_5)), (h_world, .inl (cI, 53, .inl f_world))] → va_S A s.heap H locs → lv_has ls 10 [(9, .int l52_9), (8, .int l52_8), (7, .int l37_7), (6, .int l37_6), (5, .int l24_5), (4, .int l24_4), (3, .int l24_3), (0, .ref h0)] → W p l e ({ frames := 3, cells := 0, slots := 0, locals := 72 }) s m args below meth c H locs 0 0 Q (F0 m 52 ls []) := by
  obtain ⟨hx, hb, hml, hown, hts, hK, hN, hT⟩ := id C
  intro N
  induction N with
  | zero =>
    intro l52_9 l52_8 H locs ls kl52_9 hM_52 hP hD hS hl
    omega
  | succ N_52 ih_52 =>
    intro l52_9 l52_8 H locs ls kl52_9 hM_52 hP hD hS hl
    have b_l52_9 := i32b l52_9
    refine lv_iload hx hb dX12_set_52 (lv_at hl 0 rfl) ?_
    refine lv_aload_n hx hb dX12_set_54 rfl (lv_at hl 7 rfl) ?_
    refine va_get (D := D) (ci := 12) (v := .int t_3) (C := RX12) (T := TX12) (N := 48) hx hb hts inlX12 hown hK hP 0 rfl rfl 41 (by decide) (hts _ (inr57 _ (List.mem_of_getElem? (i := 15) rfl))) (fun _ h9 => h9) rfl dX12_set_55 ?_
    refine lv_icmp_ge (tgt := 96) hx hb dX12_set_58 (by decide) (fun c_13 => ?_) (fun c_13 => ?_)
    · have c_13 : t_3.toInt ≤ l52_9.toInt := ci_ge_t c_13
      have b_t_3 := i32b t_3
      refine lv_iload hx hb dX12_set_96 (lv_at hl 3 rfl) ?_
      refine lv_iload hx hb dX12_set_98 (lv_at hl 1 rfl) ?_
      refine va_mmax hx hb (by rw [hml]; exact hl.1.symm) hown (hts _ (inr32 _ (List.mem_of_getElem? (i := 11) rfl))) (hts _ (inr32 _ (List.mem_of_getElem? (i := 5) rfl))) (hts _ (inr18 _ (List.mem_of_getElem? (i := 12) rfl))) (hts _ (inr32 _ (List.mem_of_getElem? (i := 6) rfl))) (Nat.le_of_ble_eq_true rfl) (Nat.le_of_ble_eq_true rfl) (Nat.le_of_ble_eq_true rfl) (Nat.le_of_ble_eq_true rfl) dX12_set_100 ?_
      refine lv_topi (fun t_14 et_14 => ?_)
      have b_l37_6 := i32b l37_6
      have b_l52_8 := i32b l52_8
      have ft_14 : l37_6.toInt ≤ t_14.toInt ∧ l52_8.toInt ≤ t_14.toInt ∧ (t_14.toInt = l37_6.toInt ∨ t_14.toInt = l52_8.toInt) := maxT et_14
      refine lv_istore (lv' := [(6, .int t_14), (9, .int l52_9), (8, .int l52_8), (7, .int l37_7), (5, .int l24_5), (4, .int l24_4), (3, .int l24_3), (0, .ref h0)]) hx hb dX12_set_103 hl (by decide) rfl (fun ls hl => ?_)
      obtain ⟨t_15, et_15⟩ : ∃ v9 : Int32, l37_7 + 1 = v9 := ⟨_, rfl⟩
      have b_l37_7 := i32b l37_7
      have ft_15 : t_15.toInt = l37_7.toInt + 1 := addT (a := l37_7.toInt) (b := 1) rfl (by decide) et_15 (by omega) (by omega)
      refine lv_iinc (v := t_15) (lv' := [(7, .int t_15), (6, .int t_14), (9, .int l52_9), (8, .int l52_8), (5, .int l24_5), (4, .int l24_4), (3, .int l24_3), (0, .ref h0)]) hx hb dX12_set_105 hl (k := 3) rfl (by rw [← et_15]; rfl) (by decide) rfl (fun ls hl => ?_)
      refine lv_goto (tgt := 37) hx hb dX12_set_108 (by decide) ?_
      exact ih_37 (t_15) (t_14) _ _ _ (by first | assumption | (have := zI0; have := zI1; have := zIm; omega) | decide) (by omega) (hP.sub [0, 1, 2, 3, 4, 5] rfl) (hD.sub [0, 1, 2, 3, 4, 5] (by decide) rfl) hS (lv_sub hl [0, 1, 4, 5, 6, 7] rfl)
    · have c_13 : l52_9.toInt < t_3.toInt := ci_ge_f c_13
      have b_t_3 := i32b t_3
      refine lv_iload hx hb dX12_set_61 (lv_at hl 1 rfl) ?_
      refine lv_aload_n hx hb dX12_set_63 rfl (lv_at hl 7 rfl) ?_
      refine lv_iload hx hb dX12_set_64 (lv_at hl 0 rfl) ?_
      refine lv_iload hx hb dX12_set_66 (lv_at hl 4 rfl) ?_
      refine roi (As := [.int l52_9, .int l24_5]) (rest := [.int l52_8]) ⟨hx, hb, hml, hown, hts⟩ (b_X12_minuteOf l G D cB cI cJ cZ cS cT h0 v0_thrown h_world h_images h_hasImage h_tape v0_taped h_five v0_size v0_at v0_from v0_token v0_value v0_faultKind v0_faultPlace h_fresh h_spokenAt h_heardAt h_lastAt h_answerAt v0_lawA v0_lawB v0_lawC v0_drawX v0_isDrawn v0_lostMany h_heardNow h_seenAt v0_roundFrom v0_roundTo v0_goLast v0_goAnswer v0_goHeard h_fewest h_costNow h_costThen h_lawsOf h_heardBy v0_lawMany v0_askWorst h_placesOf h_sentIn t_3 v0_parentFirst h_lostBy h_many h_width h_numbers h_moving g_4 g_5 l52_9 l24_5 (by first | assumption | (have := zI0; have := zI1; have := zIm; omega) | decide) (by first | assumption | (have := zI0; have := zI1; have := zIm; omega) | decide) (by first | assumption | (have := zI0; have := zI1; have := zIm; omega) | decide) (by first | assumption | (have := zI0; have := zI1; have := zIm; omega) | decide) (by first | assumption | (have := zI0; have := zI1; have := zIm; omega) | decide) (by first | assumption | (have := zI0; have := zI1; have := zIm; omega) | decide) (by first | assumption | (have := zI0; have := zI1; have := zIm; omega) | decide) (by first | assumption | (have := zI0; have := zI1; have := zIm; omega) | decide) (by first | assumption | (have := zI0; have := zI1; have := zIm; omega) | decide) (by first | assumption | (have := zI0; have := zI1; have := zIm; omega) | decide) (by first | assumption | (have := zI0; have := zI1; have := zIm; omega) | decide) (by first | assumption | (have := zI0; have := zI1; have := zIm; omega) | decide) (by first | assumption | (have := zI0; have := zI1; have := zIm; omega) | decide) (by first | assumption | (have := zI0; have := zI1; have := zIm; omega) | decide) (by first | assumption | (have := zI0; have := zI1; have := zIm; omega) | decide) (by first | assumption | (have := zI0; have := zI1; have := zIm; omega) | decide)) (cvB (n := 2) (inr59 _ (List.mem_of_getElem? (i := 20) rfl)) (inr59 _ (List.mem_of_getElem? (i := 21) rfl)) (inr59 _ (List.mem_of_getElem? (i := 22) rfl)) (inr1 _ (List.mem_of_getElem? (i := 5) rfl)) (inr59 _ (List.mem_of_getElem? (i := 23) rfl)) (by decide +kernel) hts rfl rfl ⟨Nat.le_of_ble_eq_true rfl, Nat.le_of_ble_eq_true rfl⟩) 0 12 rfl rfl rfl (hP.sub [0, 3, 4] rfl) hK hN (kT.to hT hS hAB) rfl hl.1 rfl (Nat.le_of_ble_eq_true rfl) ⟨Nat.le_of_ble_eq_true rfl, Nat.le_of_ble_eq_true rfl⟩ dX12_set_68 (fun r_16 h_17 => ?_)
      refine lv_aload_n hx hb dX12_set_71 rfl (lv_at hl 7 rfl) ?_
      refine lv_iload hx hb dX12_set_72 (lv_at hl 2 rfl) ?_
      refine lv_iload hx hb dX12_set_74 (lv_at hl 4 rfl) ?_
      refine roi (As := [.int l37_7, .int l24_5]) (rest := [.int r_16, .int l52_8]) ⟨hx, hb, hml, hown, hts⟩ (b_X12_minuteOf l G D cB cI cJ cZ cS cT h0 v0_thrown h_world h_images h_hasImage h_tape v0_taped h_five v0_size v0_at v0_from v0_token v0_value v0_faultKind v0_faultPlace h_fresh h_spokenAt h_heardAt h_lastAt h_answerAt v0_lawA v0_lawB v0_lawC v0_drawX v0_isDrawn v0_lostMany h_heardNow h_seenAt v0_roundFrom v0_roundTo v0_goLast v0_goAnswer v0_goHeard h_fewest h_costNow h_costThen h_lawsOf h_heardBy v0_lawMany v0_askWorst h_placesOf h_sentIn t_3 v0_parentFirst h_lostBy h_many h_width h_numbers h_moving g_4 g_5 l37_7 l24_5 (by first | assumption | (have := zI0; have := zI1; have := zIm; omega) | decide) (by first | assumption | (have := zI0; have := zI1; have := zIm; omega) | decide) (by first | assumption | (have := zI0; have := zI1; have := zIm; omega) | decide) (by first | assumption | (have := zI0; have := zI1; have := zIm; omega) | decide) (by first | assumption | (have := zI0; have := zI1; have := zIm; omega) | decide) (by first | assumption | (have := zI0; have := zI1; have := zIm; omega) | decide) (by first | assumption | (have := zI0; have := zI1; have := zIm; omega) | decide) (by first | assumption | (have := zI0; have := zI1; have := zIm; omega) | decide) (by first | assumption | (have := zI0; have := zI1; have := zIm; omega) | decide) (by first | assumption | (have := zI0; have := zI1; have := zIm; omega) | decide) (by first | assumption | (have := zI0; have := zI1; have := zIm; omega) | decide) (by first | assumption | (have := zI0; have := zI1; have := zIm; omega) | decide) (by first | assumption | (have := zI0; have := zI1; have := zIm; omega) | decide) (by first | assumption | (have := zI0; have := zI1; have := zIm; omega) | decide) (by first | assumption | (have := zI0; have := zI1; have := zIm; omega) | decide) (by first | assumption | (have := zI0; have := zI1; have := zIm; omega) | decide)) (cvB (n := 2) (inr59 _ (List.mem_of_getElem? (i := 20) rfl)) (inr59 _ (List.mem_of_getElem? (i := 21) rfl)) (inr59 _ (List.mem_of_getElem? (i := 22) rfl)) (inr1 _ (List.mem_of_getElem? (i := 5) rfl)) (inr59 _ (List.mem_of_getElem? (i := 23) rfl)) (by decide +kernel) hts rfl rfl ⟨Nat.le_of_ble_eq_true rfl, Nat.le_of_ble_eq_true rfl⟩) 0 12 rfl rfl rfl (hP.sub [0, 3, 4] rfl) hK hN (kT.to hT hS hAB) rfl hl.1 rfl (Nat.le_of_ble_eq_true rfl) ⟨Nat.le_of_ble_eq_true rfl, Nat.le_of_ble_eq_true rfl⟩ dX12_set_76 (fun r_18 h_19 => ?_)
      refine lv_icmp_ne (tgt := 86) hx hb dX12_set_79 (by decide) (fun c_20 => ?_) (fun c_20 => ?_)
      · have c_20 : ¬ r_16.toInt = r_18.toInt := ci_ne_t c_20
        have b_r_16 := i32b r_16
        have b_r_18 := i32b r_18
        refine lv_iconst (v := 0) hx hb dX12_set_86 (by decide) ?_
        obtain ⟨t_21, et_21⟩ : ∃ v9 : Int32, l52_8 + 0 = v9 := ⟨_, rfl⟩
        refine z_iadd (v := t_21) hx hb dX12_set_87 et_21 ?_
        have b_l52_8 := i32b l52_8
        have ft_21 : t_21.toInt = l52_8.toInt + 0 := addT (a := l52_8.toInt) (b := 0) rfl (by decide) et_21 (by omega) (by omega)
        refine lv_istore (lv' := [(8, .int t_21), (9, .int l52_9), (7, .int l37_7), (6, .int l37_6), (5, .int l24_5), (4, .int l24_4), (3, .int l24_3), (0, .ref h0)]) hx hb dX12_set_88 hl (by decide) rfl (fun ls hl => ?_)
        obtain ⟨t_22, et_22⟩ : ∃ v9 : Int32, l52_9 + 1 = v9 := ⟨_, rfl⟩
        have ft_22 : t_22.toInt = l52_9.toInt + 1 := addT (a := l52_9.toInt) (b := 1) rfl (by decide) et_22 (by omega) (by omega)
        refine lv_iinc (v := t_22) (lv' := [(9, .int t_22), (8, .int t_21), (7, .int l37_7), (6, .int l37_6), (5, .int l24_5), (4, .int l24_4), (3, .int l24_3), (0, .ref h0)]) hx hb dX12_set_90 hl (k := 1) rfl (by rw [← et_22]; rfl) (by decide) rfl (fun ls hl => ?_)
        refine lv_goto (tgt := 52) hx hb dX12_set_93 (by decide) ?_
        exact ih_52 (t_22) (t_21) _ _ _ (by first | assumption | (have := zI0; have := zI1; have := zIm; omega) | decide) (by omega) (hP.sub [0, 1, 2, 3, 4, 5] rfl) (hD.sub [0, 1, 2, 3, 4, 5] (by decide) rfl) hS (lv_sub hl [0, 1, 2, 3, 4, 5, 6, 7] rfl)
      · have c_20 : r_16.toInt = r_18.toInt := ci_ne_f c_20
        have b_r_16 := i32b r_16
        have b_r_18 := i32b r_18
        refine lv_iconst (v := 1) hx hb dX12_set_82 (by decide) ?_
        refine lv_goto (tgt := 87) hx hb dX12_set_83 (by decide) ?_
        obtain ⟨t_23, et_23⟩ : ∃ v9 : Int32, l52_8 + 1 = v9 := ⟨_, rfl⟩
        refine z_iadd (v := t_23) hx hb dX12_set_87 et_23 ?_
        refine lv_istore (lv' := [(8, .int t_23), (9, .int l52_9), (7, .int l37_7), (6, .int l37_6), (5, .int l24_5), (4, .int l24_4), (3, .int l24_3), (0, .ref h0)]) hx hb dX12_set_88 hl (by decide) rfl (fun ls hl => ?_)
        obtain ⟨t_24, et_24⟩ : ∃ v9 : Int32, l52_9 + 1 = v9 := ⟨_, rfl⟩
        have ft_24 : t_24.toInt = l52_9.toInt + 1 := addT (a := l52_9.toInt) (b := 1) rfl (by decide) et_24 (by omega) (by omega)
        refine lv_iinc (v := t_24) (lv' := [(9, .int t_24), (8, .int t_23), (7, .int l37_7), (6, .int l37_6), (5, .int l24_5), (4, .int l24_4), (3, .int l24_3), (0, .ref h0)]) hx hb dX12_set_90 hl (k := 1) rfl (by rw [← et_24]; rfl) (by decide) rfl (fun ls hl => ?_)
        refine lv_goto (tgt := 52) hx hb dX12_set_93 (by decide) ?_
        exact ih_52 (t_24) (t_23) _ _ _ (by first | assumption | (have := zI0; have := zI1; have := zIm; omega) | decide) (by omega) (hP.sub [0, 1, 2, 3, 4, 5] rfl) (hD.sub [0, 1, 2, 3, 4, 5] (by decide) rfl) hS (lv_sub hl [0, 1, 2, 3, 4, 5, 6, 7] rfl)

set_option maxHeartbeats 4000000 in
set_option maxRecDepth 100000 in
theorem b_X12_set_l37 {p : Program} {l : Launch} {e : Env} {s : State} {m : MethodId} {args : Array Value} {below : List Frame} {meth : Method} {c : Code} {Q : State → Prop} {G : Gho} {D : va_G} {cB cI cJ cZ cS cT : ClassId} {A : Nat → Prop} (h0 : Nat) (v0_thrown : Int32) (h_world : Nat) (h_images : Nat) (h_hasImage : Nat) (h_tape : Nat) (v0_taped : Int32) (h_five : Nat) (v0_size : Int32) (v0_at : Int32) (v0_from : Int32) (v0_token : Int32) (v0_value : Int32) (v0_faultKind : Int32) (v0_faultPlace : Int32) (h_fresh : Nat) (h_spokenAt : Nat) (h_heardAt : Nat) (h_lastAt : Nat) (h_answerAt : Nat) (v0_lawA : Int32) (v0_lawB : Int32) (v0_lawC : Int32) (v0_drawX : Int64) (v0_isDrawn : Int32) (v0_lostMany : Int32) (h_heardNow : Nat) (h_seenAt : Nat) (v0_roundFrom : Int32) (v0_roundTo : Int32) (v0_goLast : Int32) (v0_goAnswer : Int32) (v0_goHeard : Int32) (h_fewest : Nat) (h_costNow : Nat) (h_costThen : Nat) (h_lawsOf : Nat) (h_heardBy : Nat) (v0_lawMany : Int32) (v0_askWorst : Int32) (h_placesOf : Nat) (h_sentIn : Nat) (v0_placeMany : Int32) (v0_parentFirst : Int32) (h_lostBy : Nat) (h_many : Nat) (h_width : Nat) (h_numbers : Nat) (h_moving : Nat) (f_many : Nat → Int32) (f_numbers : Nat → Int64) (f_world : Nat → Int32) (t_3 : Int32) (g_4 : Nat → Int32) (g_5 : Nat → Int32) (l24_5 : Int32) (l24_4 : Int32) (l24_3 : Int32) (N_24 : Nat) (iv0_taped : 0 ≤ v0_taped.toInt ∧ v0_taped.toInt ≤ 500) (iv0_size : 0 ≤ v0_size.toInt ∧ v0_size.toInt ≤ 500) (iv0_at : 0 ≤ v0_at.toInt ∧ v0_at.toInt ≤ 500) (iv0_from : 0 ≤ v0_from.toInt ∧ v0_from.toInt ≤ 500) (iv0_faultKind : 0 ≤ v0_faultKind.toInt ∧ v0_faultKind.toInt ≤ 3) (iv0_lawA : 0 ≤ v0_lawA.toInt ∧ v0_lawA.toInt ≤ 8) (iv0_lawB : 0 ≤ v0_lawB.toInt ∧ v0_lawB.toInt ≤ 8) (iv0_lawC : 0 ≤ v0_lawC.toInt ∧ v0_lawC.toInt ≤ 9) (iv0_isDrawn : 0 ≤ v0_isDrawn.toInt ∧ v0_isDrawn.toInt ≤ 1) (iv0_roundFrom : 0 ≤ v0_roundFrom.toInt ∧ v0_roundFrom.toInt ≤ 648) (iv0_roundTo : 0 ≤ v0_roundTo.toInt ∧ v0_roundTo.toInt ≤ 648) (iv0_goLast : 0 ≤ v0_goLast.toInt ∧ v0_goLast.toInt ≤ 8) (iv0_goAnswer : 0 ≤ v0_goAnswer.toInt ∧ v0_goAnswer.toInt ≤ 8) (iv0_lawMany : 0 ≤ v0_lawMany.toInt ∧ v0_lawMany.toInt ≤ 729) (iv0_placeMany : 0 ≤ v0_placeMany.toInt ∧ v0_placeMany.toInt ≤ 100) (pf_many : sg sgMa f_many) (pf_world : sg sgWo f_world) (cf_world : 0 < (f_world 9).toInt → 2 ≤ (f_world 0).toInt) (zt_3 : 0 ≤ t_3.toInt ∧ t_3.toInt ≤ 100) (zl24_5 : 0 ≤ l24_5.toInt ∧ l24_5.toInt ≤ 99) (i_6 : 0 ≤ t_3.toInt ∧ t_3.toInt ≤ 100) (kl24_5 : 0 ≤ l24_5.toInt ∧ l24_5.toInt ≤ 100) (c_8 : l24_5.toInt < 100) (ih_24 : ∀ (l24_5 : Int32) (l24_4 : Int32) (l24_3 : Int32) (H : Heap) (locs : List Loc) (ls : Array Slot), 0 ≤ l24_5.toInt ∧ l24_5.toInt ≤ 100 → (100 - l24_5.toInt).toNat < N_24 → va_P D vwCl [(mO h0 v0_thrown h_world h_images h_hasImage h_tape v0_taped h_five v0_size v0_at v0_from v0_token v0_value v0_faultKind v0_faultPlace h_fresh h_spokenAt h_heardAt h_lastAt h_answerAt v0_lawA v0_lawB v0_lawC v0_drawX v0_isDrawn v0_lostMany h_heardNow h_seenAt v0_roundFrom v0_roundTo v0_goLast v0_goAnswer v0_goHeard h_fewest h_costNow h_costThen h_lawsOf h_heardBy v0_lawMany v0_askWorst h_placesOf h_sentIn t_3 v0_parentFirst h_lostBy h_many h_width h_numbers h_moving), (h_many, .inl (cI, 4, .inl f_many)), (h_numbers, .inl (cJ, 240, .inr (.inl f_numbers))), (h_placesOf, .inl (cI, 100, .inl g_4)), (h_sentIn, .inl (cI, 100, .inl g_5)), (h_world, .inl (cI, 53, .inl f_world))] H → va_D A [(mO h0 v0_thrown h_world h_images h_hasImage h_tape v0_taped h_five v0_size v0_at v0_from v0_token v0_value v0_faultKind v0_faultPlace h_fresh h_spokenAt h_heardAt h_lastAt h_answerAt v0_lawA v0_lawB v0_lawC v0_drawX v0_isDrawn v0_lostMany h_heardNow h_seenAt v0_roundFrom v0_roundTo v0_goLast v0_goAnswer v0_goHeard h_fewest h_costNow h_costThen h_lawsOf h_heardBy v0_lawMany v0_askWorst h_placesOf h_sentIn t_3 v0_parentFirst h_lostBy h_many h_width h_numbers h_moving), (h_many, .inl (cI, 4, .inl f_many)), (h_numbers, .inl (cJ, 240, .inr (.inl f_numbers))), (h_placesOf, .inl (cI, 100, .inl g_4)), (h_sentIn, .inl (cI, 100, .inl g_5)), (h_world, .inl (cI, 53, .inl f_world))] → va_S A s.heap H locs → lv_has ls 10 [(5, .int l24_5), (4, .int l24_4), (3, .int l24_3), (0, .ref h0)] → W p l e ({ frames := 3, cells := 0, slots := 0, locals := 72 }) s m args below meth c H locs 0 0 Q (F0 m 24 ls [])) (hM_24 : (100 - l24_5.toInt).toNat < N_24 + 1) (C : Cx p s m args c RX12 cX12_set 10 G D (tyL cB cI cJ cZ cS cT)) (hG : G.1 ≤ s.heap.size) (hAB : ∀ q, A q → G.1 ≤ q) (hA : ∀ q : Nat, s.heap.size ≤ q → A q) (ret : RetI p l e ({ frames := 3, cells := 0, slots := 0, locals := 72 }) s m args below meth c cX12_set D A (fun x : Int32 × (Nat → Int32) × (Nat → Int32) => [(mO h0 v0_thrown h_world h_images h_hasImage h_tape v0_taped h_five v0_size v0_at v0_from v0_token v0_value v0_faultKind v0_faultPlace h_fresh h_spokenAt h_heardAt h_lastAt h_answerAt v0_lawA v0_lawB v0_lawC v0_drawX v0_isDrawn v0_lostMany h_heardNow h_seenAt v0_roundFrom v0_roundTo v0_goLast v0_goAnswer v0_goHeard h_fewest h_costNow h_costThen h_lawsOf h_heardBy v0_lawMany v0_askWorst h_placesOf h_sentIn x.1 v0_parentFirst h_lostBy h_many h_width h_numbers h_moving), (h_many, .inl (cI, 4, .inl f_many)), (h_numbers, .inl (cJ, 240, .inr (.inl f_numbers))), (h_placesOf, .inl (cI, 100, .inl x.2.1)), (h_sentIn, .inl (cI, 100, .inl x.2.2)), (h_world, .inl (cI, 53, .inl f_world))]) (fun (r : Int32) (x : Int32 × (Nat → Int32) × (Nat → Int32)) => (0 ≤ x.1.toInt ∧ x.1.toInt ≤ 100)) Q) :
    ∀ (N : Nat) (l37_7 : Int32) (l37_6 : Int32) (H : Heap) (locs : List Loc) (ls : Array Slot), 0 ≤ l37_7.toInt → (100 - l37_7.toInt).toNat < N → va_P D vwCl [(mO h0 v0_thrown h_world h_images h_hasImage h_tape v0_taped h_five v0_size v0_at v0_from v0_token v0_value v0_faultKind v0_faultPlace h_fresh h_spokenAt h_heardAt h_lastAt h_answerAt v0_lawA v0_lawB v0_lawC v0_drawX v0_isDrawn v0_lostMany h_heardNow h_seenAt v0_roundFrom v0_roundTo v0_goLast v0_goAnswer v0_goHeard h_fewest h_costNow h_costThen h_lawsOf h_heardBy v0_lawMany v0_askWorst h_placesOf h_sentIn t_3 v0_parentFirst h_lostBy h_many h_width h_numbers h_moving), (h_many, .inl (cI, 4, .inl f_many)), (h_numbers, .inl (cJ, 240, .inr (.inl f_numbers))), (h_placesOf, .inl (cI, 100, .inl g_4)), (h_sentIn, .inl (cI, 100, .inl g_5)), (h_world, .inl (cI, 53, .inl f_world))] H → va_D A [(mO h0 v0_thrown h_world h_images h_hasImage h_tape v0_taped h_five v0_size v0_at v0_from v0_token v0_value v0_faultKind v0_faultPlace h_fresh h_spokenAt h_heardAt h_lastAt h_answerAt v0_lawA v0_lawB v0_lawC v0_drawX v0_isDrawn v0_lostMany h_heardNow h_seenAt v0_roundFrom v0_roundTo v0_goLast v0_goAnswer v0_goHeard h_fewest h_costNow h_costThen h_lawsOf h_heardBy v0_lawMany v0_askWorst h_placesOf h_sentIn t_3 v0_parentFirst h_lostBy h_many h_width h_numbers h_moving), (h_many, .inl (cI, 4, .inl f_many)), (h_numbers, .inl (cJ, 240, .inr (.inl f_numbers))), (h_placesOf, .inl (cI, 100, .inl g_4)), (h_sentIn, .inl (cI, 100, .inl g_5)), (h_world, .inl (cI, 53, .inl f_world))] → va_S A s.heap H locs → lv_has ls 10 [(7, .int l37_7), (6, .int l37_6), (5, .int l24_5), (4, .int l24_4), (3, .int l24_3), (0, .ref h0)] → W p l e ({ frames := 3, cells := 0, slots := 0, locals := 72 }) s m args below meth c H locs 0 0 Q (F0 m 37 ls []) := by
  obtain ⟨hx, hb, hml, hown, hts, hK, hN, hT⟩ := id C
  intro N
  induction N with
  | zero =>
    intro l37_7 l37_6 H locs ls kl37_7 hM_37 hP hD hS hl
    omega
  | succ N_37 ih_37 =>
    intro l37_7 l37_6 H locs ls kl37_7 hM_37 hP hD hS hl
    have b_l37_7 := i32b l37_7
    refine lv_iload hx hb dX12_set_37 (lv_at hl 0 rfl) ?_
    refine lv_aload_n hx hb dX12_set_39 rfl (lv_at hl 5 rfl) ?_
    refine va_get (D := D) (ci := 12) (v := .int t_3) (C := RX12) (T := TX12) (N := 48) hx hb hts inlX12 hown hK hP 0 rfl rfl 41 (by decide) (hts _ (inr57 _ (List.mem_of_getElem? (i := 15) rfl))) (fun _ h9 => h9) rfl dX12_set_40 ?_
    refine lv_icmp_ge (tgt := 111) hx hb dX12_set_43 (by decide) (fun c_9 => ?_) (fun c_9 => ?_)
    · have c_9 : t_3.toInt ≤ l37_7.toInt := ci_ge_t c_9
      have b_t_3 := i32b t_3
      refine lv_iload hx hb dX12_set_111 (lv_at hl 1 rfl) ?_
      refine lv_iload hx hb dX12_set_113 (lv_at hl 3 rfl) ?_
      refine lv_icmp_lt (tgt := 121) hx hb dX12_set_115 (by decide) (fun c_10 => ?_) (fun c_10 => ?_)
      · have c_10 : l37_6.toInt < l24_4.toInt := ci_lt_t c_10
        have b_l37_6 := i32b l37_6
        have b_l24_4 := i32b l24_4
        refine lv_iload hx hb dX12_set_121 (lv_at hl 1 rfl) ?_
        refine lv_istore (lv' := [(4, .int l37_6), (7, .int l37_7), (6, .int l37_6), (5, .int l24_5), (3, .int l24_3), (0, .ref h0)]) hx hb dX12_set_123 hl (by decide) rfl (fun ls hl => ?_)
        refine lv_iload hx hb dX12_set_125 (lv_at hl 3 rfl) ?_
        refine lv_istore_n (lv' := [(3, .int l24_5), (4, .int l37_6), (7, .int l37_7), (6, .int l37_6), (5, .int l24_5), (0, .ref h0)]) hx hb dX12_set_127 rfl hl (by decide) rfl (fun ls hl => ?_)
        obtain ⟨t_11, et_11⟩ : ∃ v9 : Int32, l24_5 + 1 = v9 := ⟨_, rfl⟩
        have b_l24_5 := i32b l24_5
        have ft_11 : t_11.toInt = l24_5.toInt + 1 := addT (a := l24_5.toInt) (b := 1) rfl (by decide) et_11 (by omega) (by omega)
        refine lv_iinc (v := t_11) (lv' := [(5, .int t_11), (3, .int l24_5), (4, .int l37_6), (7, .int l37_7), (6, .int l37_6), (0, .ref h0)]) hx hb dX12_set_128 hl (k := 4) rfl (by rw [← et_11]; rfl) (by decide) rfl (fun ls hl => ?_)
        refine lv_goto (tgt := 24) hx hb dX12_set_131 (by decide) ?_
        exact ih_24 (t_11) (l37_6) (l24_5) _ _ _ (by first | assumption | (have := zI0; have := zI1; have := zIm; omega) | decide) (by omega) (hP.sub [0, 1, 2, 3, 4, 5] rfl) (hD.sub [0, 1, 2, 3, 4, 5] (by decide) rfl) hS (lv_sub hl [0, 2, 1, 5] rfl)
      · have c_10 : l24_4.toInt ≤ l37_6.toInt := ci_lt_f c_10
        have b_l37_6 := i32b l37_6
        have b_l24_4 := i32b l24_4
        refine lv_goto (tgt := 128) hx hb dX12_set_118 (by decide) ?_
        obtain ⟨t_12, et_12⟩ : ∃ v9 : Int32, l24_5 + 1 = v9 := ⟨_, rfl⟩
        have b_l24_5 := i32b l24_5
        have ft_12 : t_12.toInt = l24_5.toInt + 1 := addT (a := l24_5.toInt) (b := 1) rfl (by decide) et_12 (by omega) (by omega)
        refine lv_iinc (v := t_12) (lv' := [(5, .int t_12), (7, .int l37_7), (6, .int l37_6), (4, .int l24_4), (3, .int l24_3), (0, .ref h0)]) hx hb dX12_set_128 hl (k := 2) rfl (by rw [← et_12]; rfl) (by decide) rfl (fun ls hl => ?_)
        refine lv_goto (tgt := 24) hx hb dX12_set_131 (by decide) ?_
        exact ih_24 (t_12) (l24_4) (l24_3) _ _ _ (by first | assumption | (have := zI0; have := zI1; have := zIm; omega) | decide) (by omega) (hP.sub [0, 1, 2, 3, 4, 5] rfl) (hD.sub [0, 1, 2, 3, 4, 5] (by decide) rfl) hS (lv_sub hl [0, 3, 4, 5] rfl)
    · have c_9 : l37_7.toInt < t_3.toInt := ci_ge_f c_9
      have b_t_3 := i32b t_3
      refine lv_iconst (v := 0) hx hb dX12_set_46 (by decide) ?_
      refine lv_istore (lv' := [(8, .int 0), (7, .int l37_7), (6, .int l37_6), (5, .int l24_5), (4, .int l24_4), (3, .int l24_3), (0, .ref h0)]) hx hb dX12_set_47 hl (by decide) rfl (fun ls hl => ?_)
      refine lv_iconst (v := 0) hx hb dX12_set_49 (by decide) ?_
      refine lv_istore (lv' := [(9, .int 0), (8, .int 0), (7, .int l37_7), (6, .int l37_6), (5, .int l24_5), (4, .int l24_4), (3, .int l24_3), (0, .ref h0)]) hx hb dX12_set_50 hl (by decide) rfl (fun ls hl => ?_)
      exact b_X12_set_l52 h0 v0_thrown h_world h_images h_hasImage h_tape v0_taped h_five v0_size v0_at v0_from v0_token v0_value v0_faultKind v0_faultPlace h_fresh h_spokenAt h_heardAt h_lastAt h_answerAt v0_lawA v0_lawB v0_lawC v0_drawX v0_isDrawn v0_lostMany h_heardNow h_seenAt v0_roundFrom v0_roundTo v0_goLast v0_goAnswer v0_goHeard h_fewest h_costNow h_costThen h_lawsOf h_heardBy v0_lawMany v0_askWorst h_placesOf h_sentIn v0_placeMany v0_parentFirst h_lostBy h_many h_width h_numbers h_moving f_many f_numbers f_world t_3 g_4 g_5 l37_7 l37_6 l24_5 l24_4 l24_3 N_24 N_37 (by first | assumption | (have := zI0; have := zI1; have := zIm; omega) | decide) (by first | assumption | (have := zI0; have := zI1; have := zIm; omega) | decide) (by first | assumption | (have := zI0; have := zI1; have := zIm; omega) | decide) (by first | assumption | (have := zI0; have := zI1; have := zIm; omega) | decide) (by first | assumption | (have := zI0; have := zI1; have := zIm; omega) | decide) (by first | assumption | (have := zI0; have := zI1; have := zIm; omega) | decide) (by first | assumption | (have := zI0; have := zI1; have := zIm; omega) | decide) (by first | assumption | (have := zI0; have := zI1; have := zIm; omega) | decide) (by first | assumption | (have := zI0; have := zI1; have := zIm; omega) | decide) (by first | assumption | (have := zI0; have := zI1; have := zIm; omega) | decide) (by first | assumption | (have := zI0; have := zI1; have := zIm; omega) | decide) (by first | assumption | (have := zI0; have := zI1; have := zIm; omega) | decide) (by first | assumption | (have := zI0; have := zI1; have := zIm; omega) | decide) (by first | assumption | (have := zI0; have := zI1; have := zIm; omega) | decide) (by first | assumption | (have := zI0; have := zI1; have := zIm; omega) | decide) (by first | assumption | (have := zI0; have := zI1; have := zIm; omega) | decide) (by first | assumption | (have := zI0; have := zI1; have := zIm; omega) | decide) (by first | assumption | (have := zI0; have := zI1; have := zIm; omega) | decide) (by first | assumption | (have := zI0; have := zI1; have := zIm; omega) | decide) (by first | assumption | (have := zI0; have := zI1; have := zIm; omega) | decide) (by first | assumption | (have := zI0; have := zI1; have := zIm; omega) | decide) (by first | assumption | (have := zI0; have := zI1; have := zIm; omega) | decide) (by first | assumption | (have := zI0; have := zI1; have := zIm; omega) | decide) (by first | assumption | (have := zI0; have := zI1; have := zIm; omega) | decide) (by first | assumption | (have := zI0; have := zI1; have := zIm; omega) | decide) (by first | assumption | (have := zI0; have := zI1; have := zIm; omega) | decide) (by first | assumption | (have := zI0; have := zI1; have := zIm; omega) | decide) (by first | assumption | (have := zI0; have := zI1; have := zIm; omega) | decide) (by first | assumption | (have := zI0; have := zI1; have := zIm; omega) | decide) (by first | assumption | (have := zI0; have := zI1; have := zIm; omega) | decide) C hG hAB hA ret _ (0) (0) _ _ _ (by first | assumption | (have := zI0; have := zI1; have := zIm; omega) | decide) (Nat.lt_succ_self _) (hP.sub [0, 1, 2, 3, 4, 5] rfl) (hD.sub [0, 1, 2, 3, 4, 5] (by decide) rfl) hS (lv_sub hl [0, 1, 2, 3, 4, 5, 6, 7] rfl)

set_option maxHeartbeats 4000000 in
set_option maxRecDepth 100000 in
theorem b_X12_set_l24 {p : Program} {l : Launch} {e : Env} {s : State} {m : MethodId} {args : Array Value} {below : List Frame} {meth : Method} {c : Code} {Q : State → Prop} {G : Gho} {D : va_G} {cB cI cJ cZ cS cT : ClassId} {A : Nat → Prop} (h0 : Nat) (v0_thrown : Int32) (h_world : Nat) (h_images : Nat) (h_hasImage : Nat) (h_tape : Nat) (v0_taped : Int32) (h_five : Nat) (v0_size : Int32) (v0_at : Int32) (v0_from : Int32) (v0_token : Int32) (v0_value : Int32) (v0_faultKind : Int32) (v0_faultPlace : Int32) (h_fresh : Nat) (h_spokenAt : Nat) (h_heardAt : Nat) (h_lastAt : Nat) (h_answerAt : Nat) (v0_lawA : Int32) (v0_lawB : Int32) (v0_lawC : Int32) (v0_drawX : Int64) (v0_isDrawn : Int32) (v0_lostMany : Int32) (h_heardNow : Nat) (h_seenAt : Nat) (v0_roundFrom : Int32) (v0_roundTo : Int32) (v0_goLast : Int32) (v0_goAnswer : Int32) (v0_goHeard : Int32) (h_fewest : Nat) (h_costNow : Nat) (h_costThen : Nat) (h_lawsOf : Nat) (h_heardBy : Nat) (v0_lawMany : Int32) (v0_askWorst : Int32) (h_placesOf : Nat) (h_sentIn : Nat) (v0_placeMany : Int32) (v0_parentFirst : Int32) (h_lostBy : Nat) (h_many : Nat) (h_width : Nat) (h_numbers : Nat) (h_moving : Nat) (f_many : Nat → Int32) (f_numbers : Nat → Int64) (f_world : Nat → Int32) (t_3 : Int32) (g_4 : Nat → Int32) (g_5 : Nat → Int32) (iv0_taped : 0 ≤ v0_taped.toInt ∧ v0_taped.toInt ≤ 500) (iv0_size : 0 ≤ v0_size.toInt ∧ v0_size.toInt ≤ 500) (iv0_at : 0 ≤ v0_at.toInt ∧ v0_at.toInt ≤ 500) (iv0_from : 0 ≤ v0_from.toInt ∧ v0_from.toInt ≤ 500) (iv0_faultKind : 0 ≤ v0_faultKind.toInt ∧ v0_faultKind.toInt ≤ 3) (iv0_lawA : 0 ≤ v0_lawA.toInt ∧ v0_lawA.toInt ≤ 8) (iv0_lawB : 0 ≤ v0_lawB.toInt ∧ v0_lawB.toInt ≤ 8) (iv0_lawC : 0 ≤ v0_lawC.toInt ∧ v0_lawC.toInt ≤ 9) (iv0_isDrawn : 0 ≤ v0_isDrawn.toInt ∧ v0_isDrawn.toInt ≤ 1) (iv0_roundFrom : 0 ≤ v0_roundFrom.toInt ∧ v0_roundFrom.toInt ≤ 648) (iv0_roundTo : 0 ≤ v0_roundTo.toInt ∧ v0_roundTo.toInt ≤ 648) (iv0_goLast : 0 ≤ v0_goLast.toInt ∧ v0_goLast.toInt ≤ 8) (iv0_goAnswer : 0 ≤ v0_goAnswer.toInt ∧ v0_goAnswer.toInt ≤ 8) (iv0_lawMany : 0 ≤ v0_lawMany.toInt ∧ v0_lawMany.toInt ≤ 729) (iv0_placeMany : 0 ≤ v0_placeMany.toInt ∧ v0_placeMany.toInt ≤ 100) (pf_many : sg sgMa f_many) (pf_world : sg sgWo f_world) (cf_world : 0 < (f_world 9).toInt → 2 ≤ (f_world 0).toInt) (zt_3 : 0 ≤ t_3.toInt ∧ t_3.toInt ≤ 100) (i_6 : 0 ≤ t_3.toInt ∧ t_3.toInt ≤ 100) (C : Cx p s m args c RX12 cX12_set 10 G D (tyL cB cI cJ cZ cS cT)) (hG : G.1 ≤ s.heap.size) (hAB : ∀ q, A q → G.1 ≤ q) (hA : ∀ q : Nat, s.heap.size ≤ q → A q) (ret : RetI p l e ({ frames := 3, cells := 0, slots := 0, locals := 72 }) s m args below meth c cX12_set D A (fun x : Int32 × (Nat → Int32) × (Nat → Int32) => [(mO h0 v0_thrown h_world h_images h_hasImage h_tape v0_taped h_five v0_size v0_at v0_from v0_token v0_value v0_faultKind v0_faultPlace h_fresh h_spokenAt h_heardAt h_lastAt h_answerAt v0_lawA v0_lawB v0_lawC v0_drawX v0_isDrawn v0_lostMany h_heardNow h_seenAt v0_roundFrom v0_roundTo v0_goLast v0_goAnswer v0_goHeard h_fewest h_costNow h_costThen h_lawsOf h_heardBy v0_lawMany v0_askWorst h_placesOf h_sentIn x.1 v0_parentFirst h_lostBy h_many h_width h_numbers h_moving), (h_many, .inl (cI, 4, .inl f_many)), (h_numbers, .inl (cJ, 240, .inr (.inl f_numbers))), (h_placesOf, .inl (cI, 100, .inl x.2.1)), (h_sentIn, .inl (cI, 100, .inl x.2.2)), (h_world, .inl (cI, 53, .inl f_world))]) (fun (r : Int32) (x : Int32 × (Nat → Int32) × (Nat → Int32)) => (0 ≤ x.1.toInt ∧ x.1.toInt ≤ 100)) Q) :
    ∀ (N : Nat) (l24_5 : Int32) (l24_4 : Int32) (l24_3 : Int32) (H : Heap) (locs : List Loc) (ls : Array Slot), 0 ≤ l24_5.toInt ∧ l24_5.toInt ≤ 100 → (100 - l24_5.toInt).toNat < N → va_P D vwCl [(mO h0 v0_thrown h_world h_images h_hasImage h_tape v0_taped h_five v0_size v0_at v0_from v0_token v0_value v0_faultKind v0_faultPlace h_fresh h_spokenAt h_heardAt h_lastAt h_answerAt v0_lawA v0_lawB v0_lawC v0_drawX v0_isDrawn v0_lostMany h_heardNow h_seenAt v0_roundFrom v0_roundTo v0_goLast v0_goAnswer v0_goHeard h_fewest h_costNow h_costThen h_lawsOf h_heardBy v0_lawMany v0_askWorst h_placesOf h_sentIn t_3 v0_parentFirst h_lostBy h_many h_width h_numbers h_moving), (h_many, .inl (cI, 4, .inl f_many)), (h_numbers, .inl (cJ, 240, .inr (.inl f_numbers))), (h_placesOf, .inl (cI, 100, .inl g_4)), (h_sentIn, .inl (cI, 100, .inl g_5)), (h_world, .inl (cI, 53, .inl f_world))] H → va_D A [(mO h0 v0_thrown h_world h_images h_hasImage h_tape v0_taped h_five v0_size v0_at v0_from v0_token v0_value v0_faultKind v0_faultPlace h_fresh h_spokenAt h_heardAt h_lastAt h_answerAt v0_lawA v0_lawB v0_lawC v0_drawX v0_isDrawn v0_lostMany h_heardNow h_seenAt v0_roundFrom v0_roundTo v0_goLast v0_goAnswer v0_goHeard h_fewest h_costNow h_costThen h_lawsOf h_heardBy v0_lawMany v0_askWorst h_placesOf h_sentIn t_3 v0_parentFirst h_lostBy h_many h_width h_numbers h_moving), (h_many, .inl (cI, 4, .inl f_many)), (h_numbers, .inl (cJ, 240, .inr (.inl f_numbers))), (h_placesOf, .inl (cI, 100, .inl g_4)), (h_sentIn, .inl (cI, 100, .inl g_5)), (h_world, .inl (cI, 53, .inl f_world))] → va_S A s.heap H locs → lv_has ls 10 [(5, .int l24_5), (4, .int l24_4), (3, .int l24_3), (0, .ref h0)] → W p l e ({ frames := 3, cells := 0, slots := 0, locals := 72 }) s m args below meth c H locs 0 0 Q (F0 m 24 ls []) := by
  obtain ⟨hx, hb, hml, hown, hts, hK, hN, hT⟩ := id C
  intro N
  induction N with
  | zero =>
    intro l24_5 l24_4 l24_3 H locs ls kl24_5 hM_24 hP hD hS hl
    omega
  | succ N_24 ih_24 =>
    intro l24_5 l24_4 l24_3 H locs ls kl24_5 hM_24 hP hD hS hl
    have b_l24_5 := i32b l24_5
    refine lv_iload hx hb dX12_set_24 (lv_at hl 0 rfl) ?_
    refine lv_bipush (v := 100) hx hb dX12_set_26 (by decide) ?_
    refine lv_icmp_ge (tgt := 134) hx hb dX12_set_28 (by decide) (fun c_8 => ?_) (fun c_8 => ?_)
    · have c_8 : 100 ≤ l24_5.toInt := ci_ge_t c_8
      refine lv_iload_n hx hb dX12_set_134 rfl (lv_at hl 2 rfl) ?_
      exact ret _ _ _ _ _ (t_3, g_4, g_5) dX12_set_135 (show (0 ≤ t_3.toInt ∧ t_3.toInt ≤ 100) from (by first | assumption | (have := zI0; have := zI1; have := zIm; omega) | decide)) (hP.sub [0, 1, 2, 3, 4, 5] rfl) (hD.sub [0, 1, 2, 3, 4, 5] (by decide) rfl) hS
    · have c_8 : l24_5.toInt < 100 := ci_ge_f c_8
      refine lv_iconst (v := 0) hx hb dX12_set_31 (by decide) ?_
      refine lv_istore (lv' := [(6, .int 0), (5, .int l24_5), (4, .int l24_4), (3, .int l24_3), (0, .ref h0)]) hx hb dX12_set_32 hl (by decide) rfl (fun ls hl => ?_)
      refine lv_iconst (v := 0) hx hb dX12_set_34 (by decide) ?_
      refine lv_istore (lv' := [(7, .int 0), (6, .int 0), (5, .int l24_5), (4, .int l24_4), (3, .int l24_3), (0, .ref h0)]) hx hb dX12_set_35 hl (by decide) rfl (fun ls hl => ?_)
      exact b_X12_set_l37 h0 v0_thrown h_world h_images h_hasImage h_tape v0_taped h_five v0_size v0_at v0_from v0_token v0_value v0_faultKind v0_faultPlace h_fresh h_spokenAt h_heardAt h_lastAt h_answerAt v0_lawA v0_lawB v0_lawC v0_drawX v0_isDrawn v0_lostMany h_heardNow h_seenAt v0_roundFrom v0_roundTo v0_goLast v0_goAnswer v0_goHeard h_fewest h_costNow h_costThen h_lawsOf h_heardBy v0_lawMany v0_askWorst h_placesOf h_sentIn v0_placeMany v0_parentFirst h_lostBy h_many h_width h_numbers h_moving f_many f_numbers f_world t_3 g_4 g_5 l24_5 l24_4 l24_3 N_24 (by first | assumption | (have := zI0; have := zI1; have := zIm; omega) | decide) (by first | assumption | (have := zI0; have := zI1; have := zIm; omega) | decide) (by first | assumption | (have := zI0; have := zI1; have := zIm; omega) | decide) (by first | assumption | (have := zI0; have := zI1; have := zIm; omega) | decide) (by first | assumption | (have := zI0; have := zI1; have := zIm; omega) | decide) (by first | assumption | (have := zI0; have := zI1; have := zIm; omega) | decide) (by first | assumption | (have := zI0; have := zI1; have := zIm; omega) | decide) (by first | assumption | (have := zI0; have := zI1; have := zIm; omega) | decide) (by first | assumption | (have := zI0; have := zI1; have := zIm; omega) | decide) (by first | assumption | (have := zI0; have := zI1; have := zIm; omega) | decide) (by first | assumption | (have := zI0; have := zI1; have := zIm; omega) | decide) (by first | assumption | (have := zI0; have := zI1; have := zIm; omega) | decide) (by first | assumption | (have := zI0; have := zI1; have := zIm; omega) | decide) (by first | assumption | (have := zI0; have := zI1; have := zIm; omega) | decide) (by first | assumption | (have := zI0; have := zI1; have := zIm; omega) | decide) (by first | assumption | (have := zI0; have := zI1; have := zIm; omega) | decide) (by first | assumption | (have := zI0; have := zI1; have := zIm; omega) | decide) (by first | assumption | (have := zI0; have := zI1; have := zIm; omega) | decide) (by first | assumption | (have := zI0; have := zI1; have := zIm; omega) | decide) (by first | assumption | (have := zI0; have := zI1; have := zIm; omega) | decide) (by first | assumption | (have := zI0; have := zI1; have := zIm; omega) | decide) (by first | assumption | (have := zI0; have := zI1; have := zIm; omega) | decide) (by first | assumption | (have := zI0; have := zI1; have := zIm; omega) | decide) (by first | assumption | (have := zI0; have := zI1; have := zIm; omega) | decide) (by first | assumption | (have := zI0; have := zI1; have := zIm; omega) | decide) C hG hAB hA ret _ (0) (0) _ _ _ (by first | assumption | (have := zI0; have := zI1; have := zIm; omega) | decide) (Nat.lt_succ_self _) (hP.sub [0, 1, 2, 3, 4, 5] rfl) (hD.sub [0, 1, 2, 3, 4, 5] (by decide) rfl) hS (lv_sub hl [0, 1, 2, 3, 4, 5] rfl)

set_option maxHeartbeats 4000000 in
set_option maxRecDepth 100000 in
theorem b_X12_set (l : Launch) (G : Gho) (D : va_G) (cB cI cJ cZ cS cT : ClassId) (sz : Nat) (h0 : Nat) (v0_thrown : Int32) (h_world : Nat) (h_images : Nat) (h_hasImage : Nat) (h_tape : Nat) (v0_taped : Int32) (h_five : Nat) (v0_size : Int32) (v0_at : Int32) (v0_from : Int32) (v0_token : Int32) (v0_value : Int32) (v0_faultKind : Int32) (v0_faultPlace : Int32) (h_fresh : Nat) (h_spokenAt : Nat) (h_heardAt : Nat) (h_lastAt : Nat) (h_answerAt : Nat) (v0_lawA : Int32) (v0_lawB : Int32) (v0_lawC : Int32) (v0_drawX : Int64) (v0_isDrawn : Int32) (v0_lostMany : Int32) (h_heardNow : Nat) (h_seenAt : Nat) (v0_roundFrom : Int32) (v0_roundTo : Int32) (v0_goLast : Int32) (v0_goAnswer : Int32) (v0_goHeard : Int32) (h_fewest : Nat) (h_costNow : Nat) (h_costThen : Nat) (h_lawsOf : Nat) (h_heardBy : Nat) (v0_lawMany : Int32) (v0_askWorst : Int32) (h_placesOf : Nat) (h_sentIn : Nat) (v0_placeMany : Int32) (v0_parentFirst : Int32) (h_lostBy : Nat) (h_many : Nat) (h_width : Nat) (h_numbers : Nat) (h_moving : Nat) (f_many : Nat → Int32) (f_numbers : Nat → Int64) (f_placesOf : Nat → Int32) (f_sentIn : Nat → Int32) (f_world : Nat → Int32) (v1 : Int32) (iv0_taped : 0 ≤ v0_taped.toInt ∧ v0_taped.toInt ≤ 500) (iv0_size : 0 ≤ v0_size.toInt ∧ v0_size.toInt ≤ 500) (iv0_at : 0 ≤ v0_at.toInt ∧ v0_at.toInt ≤ 500) (iv0_from : 0 ≤ v0_from.toInt ∧ v0_from.toInt ≤ 500) (iv0_faultKind : 0 ≤ v0_faultKind.toInt ∧ v0_faultKind.toInt ≤ 3) (iv0_lawA : 0 ≤ v0_lawA.toInt ∧ v0_lawA.toInt ≤ 8) (iv0_lawB : 0 ≤ v0_lawB.toInt ∧ v0_lawB.toInt ≤ 8) (iv0_lawC : 0 ≤ v0_lawC.toInt ∧ v0_lawC.toInt ≤ 9) (iv0_isDrawn : 0 ≤ v0_isDrawn.toInt ∧ v0_isDrawn.toInt ≤ 1) (iv0_roundFrom : 0 ≤ v0_roundFrom.toInt ∧ v0_roundFrom.toInt ≤ 648) (iv0_roundTo : 0 ≤ v0_roundTo.toInt ∧ v0_roundTo.toInt ≤ 648) (iv0_goLast : 0 ≤ v0_goLast.toInt ∧ v0_goLast.toInt ≤ 8) (iv0_goAnswer : 0 ≤ v0_goAnswer.toInt ∧ v0_goAnswer.toInt ≤ 8) (iv0_lawMany : 0 ≤ v0_lawMany.toInt ∧ v0_lawMany.toInt ≤ 729) (iv0_placeMany : 0 ≤ v0_placeMany.toInt ∧ v0_placeMany.toInt ≤ 100) (pf_many : sg sgMa f_many) (pf_world : sg sgWo f_world) (cf_world : 0 < (f_world 9).toInt → 2 ≤ (f_world 0).toInt) : Met l yX12_set (Cond.code yX12_set cX12_set 10 (some .int) :: wsL_law) ({ frames := 3, cells := 0, slots := 0, locals := 72 }) (wrP G D (tyL cB cI cJ cZ cS cT) [(mO h0 v0_thrown h_world h_images h_hasImage h_tape v0_taped h_five v0_size v0_at v0_from v0_token v0_value v0_faultKind v0_faultPlace h_fresh h_spokenAt h_heardAt h_lastAt h_answerAt v0_lawA v0_lawB v0_lawC v0_drawX v0_isDrawn v0_lostMany h_heardNow h_seenAt v0_roundFrom v0_roundTo v0_goLast v0_goAnswer v0_goHeard h_fewest h_costNow h_costThen h_lawsOf h_heardBy v0_lawMany v0_askWorst h_placesOf h_sentIn v0_placeMany v0_parentFirst h_lostBy h_many h_width h_numbers h_moving), (h_many, .inl (cI, 4, .inl f_many)), (h_numbers, .inl (cJ, 240, .inr (.inl f_numbers))), (h_placesOf, .inl (cI, 100, .inl f_placesOf)), (h_sentIn, .inl (cI, 100, .inl f_sentIn)), (h_world, .inl (cI, 53, .inl f_world))] sz [.ref h0, .int v1]) (va_Qi (fun (r : Int32) (x : Int32 × (Nat → Int32) × (Nat → Int32)) => (0 ≤ x.1.toInt ∧ x.1.toInt ≤ 100)) (atW D (tyL cB cI cJ cZ cS cT) (va_A [(mO h0 v0_thrown h_world h_images h_hasImage h_tape v0_taped h_five v0_size v0_at v0_from v0_token v0_value v0_faultKind v0_faultPlace h_fresh h_spokenAt h_heardAt h_lastAt h_answerAt v0_lawA v0_lawB v0_lawC v0_drawX v0_isDrawn v0_lostMany h_heardNow h_seenAt v0_roundFrom v0_roundTo v0_goLast v0_goAnswer v0_goHeard h_fewest h_costNow h_costThen h_lawsOf h_heardBy v0_lawMany v0_askWorst h_placesOf h_sentIn v0_placeMany v0_parentFirst h_lostBy h_many h_width h_numbers h_moving), (h_many, .inl (cI, 4, .inl f_many)), (h_numbers, .inl (cJ, 240, .inr (.inl f_numbers))), (h_placesOf, .inl (cI, 100, .inl f_placesOf)), (h_sentIn, .inl (cI, 100, .inl f_sentIn)), (h_world, .inl (cI, 53, .inl f_world))] sz) (fun x : Int32 × (Nat → Int32) × (Nat → Int32) => [(mO h0 v0_thrown h_world h_images h_hasImage h_tape v0_taped h_five v0_size v0_at v0_from v0_token v0_value v0_faultKind v0_faultPlace h_fresh h_spokenAt h_heardAt h_lastAt h_answerAt v0_lawA v0_lawB v0_lawC v0_drawX v0_isDrawn v0_lostMany h_heardNow h_seenAt v0_roundFrom v0_roundTo v0_goLast v0_goAnswer v0_goHeard h_fewest h_costNow h_costThen h_lawsOf h_heardBy v0_lawMany v0_askWorst h_placesOf h_sentIn x.1 v0_parentFirst h_lostBy h_many h_width h_numbers h_moving), (h_many, .inl (cI, 4, .inl f_many)), (h_numbers, .inl (cJ, 240, .inr (.inl f_numbers))), (h_placesOf, .inl (cI, 100, .inl x.2.1)), (h_sentIn, .inl (cI, 100, .inl x.2.2)), (h_world, .inl (cI, 53, .inl f_world))])) (va_A [(mO h0 v0_thrown h_world h_images h_hasImage h_tape v0_taped h_five v0_size v0_at v0_from v0_token v0_value v0_faultKind v0_faultPlace h_fresh h_spokenAt h_heardAt h_lastAt h_answerAt v0_lawA v0_lawB v0_lawC v0_drawX v0_isDrawn v0_lostMany h_heardNow h_seenAt v0_roundFrom v0_roundTo v0_goLast v0_goAnswer v0_goHeard h_fewest h_costNow h_costThen h_lawsOf h_heardBy v0_lawMany v0_askWorst h_placesOf h_sentIn v0_placeMany v0_parentFirst h_lostBy h_many h_width h_numbers h_moving), (h_many, .inl (cI, 4, .inl f_many)), (h_numbers, .inl (cJ, 240, .inr (.inl f_numbers))), (h_placesOf, .inl (cI, 100, .inl f_placesOf)), (h_sentIn, .inl (cI, 100, .inl f_sentIn)), (h_world, .inl (cI, 53, .inl f_world))] sz)) 0 0 (va_A [(mO h0 v0_thrown h_world h_images h_hasImage h_tape v0_taped h_five v0_size v0_at v0_from v0_token v0_value v0_faultKind v0_faultPlace h_fresh h_spokenAt h_heardAt h_lastAt h_answerAt v0_lawA v0_lawB v0_lawC v0_drawX v0_isDrawn v0_lostMany h_heardNow h_seenAt v0_roundFrom v0_roundTo v0_goLast v0_goAnswer v0_goHeard h_fewest h_costNow h_costThen h_lawsOf h_heardBy v0_lawMany v0_askWorst h_placesOf h_sentIn v0_placeMany v0_parentFirst h_lostBy h_many h_width h_numbers h_moving), (h_many, .inl (cI, 4, .inl f_many)), (h_numbers, .inl (cJ, 240, .inr (.inl f_numbers))), (h_placesOf, .inl (cI, 100, .inl f_placesOf)), (h_sentIn, .inl (cI, 100, .inl f_sentIn)), (h_world, .inl (cI, 53, .inl f_world))] sz) := by
  refine metI (own := RX12) (by decide) rfl ?_
  intro p e s m below meth c Q hsz C hG hP hD hAB ret
  obtain ⟨hx, hb, hml, hown, hts, hK, hN, hT⟩ := id C
  subst hsz
  generalize hAe : va_A [(mO h0 v0_thrown h_world h_images h_hasImage h_tape v0_taped h_five v0_size v0_at v0_from v0_token v0_value v0_faultKind v0_faultPlace h_fresh h_spokenAt h_heardAt h_lastAt h_answerAt v0_lawA v0_lawB v0_lawC v0_drawX v0_isDrawn v0_lostMany h_heardNow h_seenAt v0_roundFrom v0_roundTo v0_goLast v0_goAnswer v0_goHeard h_fewest h_costNow h_costThen h_lawsOf h_heardBy v0_lawMany v0_askWorst h_placesOf h_sentIn v0_placeMany v0_parentFirst h_lostBy h_many h_width h_numbers h_moving), (h_many, .inl (cI, 4, .inl f_many)), (h_numbers, .inl (cJ, 240, .inr (.inl f_numbers))), (h_placesOf, .inl (cI, 100, .inl f_placesOf)), (h_sentIn, .inl (cI, 100, .inl f_sentIn)), (h_world, .inl (cI, 53, .inl f_world))] s.heap.size = A at hD hAB ret ⊢
  have hA : ∀ q : Nat, s.heap.size ≤ q → A q := fun q h => by rw [← hAe]; exact Or.inr h
  have hS : va_S A s.heap s.heap [] := va_S.rf
  have hl := lv_entry ([.ref h0, .int v1]) (n := 10) (Nat.le_of_ble_eq_true rfl)
  rw [lg_entry_eq]
  generalize (lg_sl ([.ref h0, .int v1]) ++ List.replicate (10 - (lg_sl ([.ref h0, .int v1])).length) Slot.unset).toArray = ls at hl ⊢
  have hl : lv_has ls 10 [(0, .ref h0), (1, .int v1)] := hl
  have hP : va_P D vwCl [(mO h0 v0_thrown h_world h_images h_hasImage h_tape v0_taped h_five v0_size v0_at v0_from v0_token v0_value v0_faultKind v0_faultPlace h_fresh h_spokenAt h_heardAt h_lastAt h_answerAt v0_lawA v0_lawB v0_lawC v0_drawX v0_isDrawn v0_lostMany h_heardNow h_seenAt v0_roundFrom v0_roundTo v0_goLast v0_goAnswer v0_goHeard h_fewest h_costNow h_costThen h_lawsOf h_heardBy v0_lawMany v0_askWorst h_placesOf h_sentIn v0_placeMany v0_parentFirst h_lostBy h_many h_width h_numbers h_moving), (h_many, .inl (cI, 4, .inl f_many)), (h_numbers, .inl (cJ, 240, .inr (.inl f_numbers))), (h_placesOf, .inl (cI, 100, .inl f_placesOf)), (h_sentIn, .inl (cI, 100, .inl f_sentIn)), (h_world, .inl (cI, 53, .inl f_world))] s.heap := hP
  refine lv_aload_n hx hb dX12_set_0 rfl (lv_at hl 0 rfl) ?_
  refine lv_iload_n hx hb dX12_set_1 rfl (lv_at hl 1 rfl) ?_
  refine lv_iconst (v := 1) hx hb dX12_set_2 (by decide) ?_
  refine wrVi (As := [.int v1, .int 1]) (rest := []) (wr := []) ⟨hx, hb, hml, hown, hts⟩ (b_X12_layPlaces l G D cB cI cJ cZ cS cT s.heap.size h0 v0_thrown h_world h_images h_hasImage h_tape v0_taped h_five v0_size v0_at v0_from v0_token v0_value v0_faultKind v0_faultPlace h_fresh h_spokenAt h_heardAt h_lastAt h_answerAt v0_lawA v0_lawB v0_lawC v0_drawX v0_isDrawn v0_lostMany h_heardNow h_seenAt v0_roundFrom v0_roundTo v0_goLast v0_goAnswer v0_goHeard h_fewest h_costNow h_costThen h_lawsOf h_heardBy v0_lawMany v0_askWorst h_placesOf h_sentIn v0_placeMany v0_parentFirst h_lostBy h_many h_width h_numbers h_moving f_many f_numbers f_placesOf f_sentIn f_world v1 1 (by first | assumption | (have := zI0; have := zI1; have := zIm; omega) | decide) (by first | assumption | (have := zI0; have := zI1; have := zIm; omega) | decide) (by first | assumption | (have := zI0; have := zI1; have := zIm; omega) | decide) (by first | assumption | (have := zI0; have := zI1; have := zIm; omega) | decide) (by first | assumption | (have := zI0; have := zI1; have := zIm; omega) | decide) (by first | assumption | (have := zI0; have := zI1; have := zIm; omega) | decide) (by first | assumption | (have := zI0; have := zI1; have := zIm; omega) | decide) (by first | assumption | (have := zI0; have := zI1; have := zIm; omega) | decide) (by first | assumption | (have := zI0; have := zI1; have := zIm; omega) | decide) (by first | assumption | (have := zI0; have := zI1; have := zIm; omega) | decide) (by first | assumption | (have := zI0; have := zI1; have := zIm; omega) | decide) (by first | assumption | (have := zI0; have := zI1; have := zIm; omega) | decide) (by first | assumption | (have := zI0; have := zI1; have := zIm; omega) | decide) (by first | assumption | (have := zI0; have := zI1; have := zIm; omega) | decide) (by first | assumption | (have := zI0; have := zI1; have := zIm; omega) | decide) (by first | assumption | (have := zI0; have := zI1; have := zIm; omega) | decide) (by first | assumption | (have := zI0; have := zI1; have := zIm; omega) | decide) (by first | assumption | (have := zI0; have := zI1; have := zIm; omega) | decide)) hP hD hS hA hK hN hT hAB hG [0, 1, 2, 3, 4, 5] [] rfl rfl (by decide) (by decide) (by decide) (cvB (n := 2) (inr57 _ (List.mem_of_getElem? (i := 16) rfl)) (inr57 _ (List.mem_of_getElem? (i := 17) rfl)) (inr57 _ (List.mem_of_getElem? (i := 18) rfl)) (inr1 _ (List.mem_of_getElem? (i := 5) rfl)) (inr57 _ (List.mem_of_getElem? (i := 19) rfl)) (by decide +kernel) hts rfl rfl ⟨Nat.le_of_ble_eq_true rfl, Nat.le_of_ble_eq_true rfl⟩) 0 12 rfl rfl rfl rfl hl.1 rfl (Nat.le_of_ble_eq_true rfl) ⟨Nat.le_of_ble_eq_true rfl, Nat.le_of_ble_eq_true rfl⟩ dX12_set_3 (fun r_1 x9 H locs h_2 hP hD hS => ?_)
  obtain ⟨t_3, g_4, g_5⟩ := x9
  have hP : va_P D vwCl [(mO h0 v0_thrown h_world h_images h_hasImage h_tape v0_taped h_five v0_size v0_at v0_from v0_token v0_value v0_faultKind v0_faultPlace h_fresh h_spokenAt h_heardAt h_lastAt h_answerAt v0_lawA v0_lawB v0_lawC v0_drawX v0_isDrawn v0_lostMany h_heardNow h_seenAt v0_roundFrom v0_roundTo v0_goLast v0_goAnswer v0_goHeard h_fewest h_costNow h_costThen h_lawsOf h_heardBy v0_lawMany v0_askWorst h_placesOf h_sentIn t_3 v0_parentFirst h_lostBy h_many h_width h_numbers h_moving), (h_many, .inl (cI, 4, .inl f_many)), (h_numbers, .inl (cJ, 240, .inr (.inl f_numbers))), (h_placesOf, .inl (cI, 100, .inl g_4)), (h_sentIn, .inl (cI, 100, .inl g_5)), (h_world, .inl (cI, 53, .inl f_world))] H := hP
  have hD : va_D A [(mO h0 v0_thrown h_world h_images h_hasImage h_tape v0_taped h_five v0_size v0_at v0_from v0_token v0_value v0_faultKind v0_faultPlace h_fresh h_spokenAt h_heardAt h_lastAt h_answerAt v0_lawA v0_lawB v0_lawC v0_drawX v0_isDrawn v0_lostMany h_heardNow h_seenAt v0_roundFrom v0_roundTo v0_goLast v0_goAnswer v0_goHeard h_fewest h_costNow h_costThen h_lawsOf h_heardBy v0_lawMany v0_askWorst h_placesOf h_sentIn t_3 v0_parentFirst h_lostBy h_many h_width h_numbers h_moving), (h_many, .inl (cI, 4, .inl f_many)), (h_numbers, .inl (cJ, 240, .inr (.inl f_numbers))), (h_placesOf, .inl (cI, 100, .inl g_4)), (h_sentIn, .inl (cI, 100, .inl g_5)), (h_world, .inl (cI, 53, .inl f_world))] := hD
  have h_2 : (0 ≤ t_3.toInt ∧ t_3.toInt ≤ 100) := h_2
  have i_6 := h_2
  refine lv_istore_n (lv' := [(2, .int r_1), (0, .ref h0), (1, .int v1)]) hx hb dX12_set_6 rfl hl (by decide) rfl (fun ls hl => ?_)
  refine lv_iload_n hx hb dX12_set_7 rfl (lv_at hl 0 rfl) ?_
  refine lv_if_ge (tgt := 13) hx hb dX12_set_8 (by decide) (fun c_7 => ?_) (fun c_7 => ?_)
  · have c_7 : 0 ≤ r_1.toInt := ci_ge_t c_7
    have b_r_1 := i32b r_1
    refine lv_iconst (v := (-1)) hx hb dX12_set_13 (by decide) ?_
    refine lv_istore_n (lv' := [(3, .int (-1)), (2, .int r_1), (0, .ref h0), (1, .int v1)]) hx hb dX12_set_14 rfl hl (by decide) rfl (fun ls hl => ?_)
    refine lv_aload_n hx hb dX12_set_15 rfl (lv_at hl 2 rfl) ?_
    refine va_get (D := D) (ci := 12) (v := .int t_3) (C := RX12) (T := TX12) (N := 48) hx hb hts inlX12 hown hK hP 0 rfl rfl 41 (by decide) (hts _ (inr57 _ (List.mem_of_getElem? (i := 15) rfl))) (fun _ h9 => h9) rfl dX12_set_16 ?_
    refine lv_istore (lv' := [(4, .int t_3), (3, .int (-1)), (2, .int r_1), (0, .ref h0), (1, .int v1)]) hx hb dX12_set_19 hl (by decide) rfl (fun ls hl => ?_)
    refine lv_iconst (v := 0) hx hb dX12_set_21 (by decide) ?_
    refine lv_istore (lv' := [(5, .int 0), (4, .int t_3), (3, .int (-1)), (2, .int r_1), (0, .ref h0), (1, .int v1)]) hx hb dX12_set_22 hl (by decide) rfl (fun ls hl => ?_)
    exact b_X12_set_l24 h0 v0_thrown h_world h_images h_hasImage h_tape v0_taped h_five v0_size v0_at v0_from v0_token v0_value v0_faultKind v0_faultPlace h_fresh h_spokenAt h_heardAt h_lastAt h_answerAt v0_lawA v0_lawB v0_lawC v0_drawX v0_isDrawn v0_lostMany h_heardNow h_seenAt v0_roundFrom v0_roundTo v0_goLast v0_goAnswer v0_goHeard h_fewest h_costNow h_costThen h_lawsOf h_heardBy v0_lawMany v0_askWorst h_placesOf h_sentIn v0_placeMany v0_parentFirst h_lostBy h_many h_width h_numbers h_moving f_many f_numbers f_world t_3 g_4 g_5 (by first | assumption | (have := zI0; have := zI1; have := zIm; omega) | decide) (by first | assumption | (have := zI0; have := zI1; have := zIm; omega) | decide) (by first | assumption | (have := zI0; have := zI1; have := zIm; omega) | decide) (by first | assumption | (have := zI0; have := zI1; have := zIm; omega) | decide) (by first | assumption | (have := zI0; have := zI1; have := zIm; omega) | decide) (by first | assumption | (have := zI0; have := zI1; have := zIm; omega) | decide) (by first | assumption | (have := zI0; have := zI1; have := zIm; omega) | decide) (by first | assumption | (have := zI0; have := zI1; have := zIm; omega) | decide) (by first | assumption | (have := zI0; have := zI1; have := zIm; omega) | decide) (by first | assumption | (have := zI0; have := zI1; have := zIm; omega) | decide) (by first | assumption | (have := zI0; have := zI1; have := zIm; omega) | decide) (by first | assumption | (have := zI0; have := zI1; have := zIm; omega) | decide) (by first | assumption | (have := zI0; have := zI1; have := zIm; omega) | decide) (by first | assumption | (have := zI0; have := zI1; have := zIm; omega) | decide) (by first | assumption | (have := zI0; have := zI1; have := zIm; omega) | decide) (by first | assumption | (have := zI0; have := zI1; have := zIm; omega) | decide) (by first | assumption | (have := zI0; have := zI1; have := zIm; omega) | decide) (by first | assumption | (have := zI0; have := zI1; have := zIm; omega) | decide) (by first | assumption | (have := zI0; have := zI1; have := zIm; omega) | decide) (by first | assumption | (have := zI0; have := zI1; have := zIm; omega) | decide) C hG hAB hA ret _ (0) (t_3) ((-1)) _ _ _ (by first | assumption | (have := zI0; have := zI1; have := zIm; omega) | decide) (Nat.lt_succ_self _) (hP.sub [0, 1, 2, 3, 4, 5] rfl) (hD.sub [0, 1, 2, 3, 4, 5] (by decide) rfl) hS (lv_sub hl [0, 1, 2, 4] rfl)
  · have c_7 : r_1.toInt < 0 := ci_ge_f c_7
    have b_r_1 := i32b r_1
    refine lv_iload_n hx hb dX12_set_11 rfl (lv_at hl 0 rfl) ?_
    exact ret _ _ _ _ _ (t_3, g_4, g_5) dX12_set_12 (show (0 ≤ t_3.toInt ∧ t_3.toInt ≤ 100) from (by first | assumption | (have := zI0; have := zI1; have := zIm; omega) | decide)) (hP.sub [0, 1, 2, 3, 4, 5] rfl) (hD.sub [0, 1, 2, 3, 4, 5] (by decide) rfl) hS

set_option maxHeartbeats 4000000 in
set_option maxRecDepth 100000 in
theorem b_X12_spread_l43 {p : Program} {l : Launch} {e : Env} {s : State} {m : MethodId} {args : Array Value} {below : List Frame} {meth : Method} {c : Code} {Q : State → Prop} {G : Gho} {D : va_G} {cB cI cJ cZ cS cT : ClassId} (h0 : Nat) (v0_thrown : Int32) (h_world : Nat) (h_images : Nat) (h_hasImage : Nat) (h_tape : Nat) (v0_taped : Int32) (h_five : Nat) (v0_size : Int32) (v0_at : Int32) (v0_from : Int32) (v0_token : Int32) (v0_value : Int32) (v0_faultKind : Int32) (v0_faultPlace : Int32) (h_fresh : Nat) (h_spokenAt : Nat) (h_heardAt : Nat) (h_lastAt : Nat) (h_answerAt : Nat) (v0_lawA : Int32) (v0_lawB : Int32) (v0_lawC : Int32) (v0_drawX : Int64) (v0_isDrawn : Int32) (v0_lostMany : Int32) (h_heardNow : Nat) (h_seenAt : Nat) (v0_roundFrom : Int32) (v0_roundTo : Int32) (v0_goLast : Int32) (v0_goAnswer : Int32) (v0_goHeard : Int32) (h_fewest : Nat) (h_costNow : Nat) (h_costThen : Nat) (h_lawsOf : Nat) (h_heardBy : Nat) (v0_lawMany : Int32) (v0_askWorst : Int32) (h_placesOf : Nat) (h_sentIn : Nat) (v0_placeMany : Int32) (v0_parentFirst : Int32) (h_lostBy : Nat) (h_many : Nat) (h_width : Nat) (h_numbers : Nat) (h_moving : Nat) (f_world : Nat → Int32) (v1 : Int32) (iv0_taped : 0 ≤ v0_taped.toInt ∧ v0_taped.toInt ≤ 500) (iv0_size : 0 ≤ v0_size.toInt ∧ v0_size.toInt ≤ 500) (iv0_at : 0 ≤ v0_at.toInt ∧ v0_at.toInt ≤ 500) (iv0_from : 0 ≤ v0_from.toInt ∧ v0_from.toInt ≤ 500) (iv0_faultKind : 0 ≤ v0_faultKind.toInt ∧ v0_faultKind.toInt ≤ 3) (iv0_lawA : 0 ≤ v0_lawA.toInt ∧ v0_lawA.toInt ≤ 8) (iv0_lawB : 0 ≤ v0_lawB.toInt ∧ v0_lawB.toInt ≤ 8) (iv0_lawC : 0 ≤ v0_lawC.toInt ∧ v0_lawC.toInt ≤ 9) (iv0_isDrawn : 0 ≤ v0_isDrawn.toInt ∧ v0_isDrawn.toInt ≤ 1) (iv0_roundFrom : 0 ≤ v0_roundFrom.toInt ∧ v0_roundFrom.toInt ≤ 648) (iv0_roundTo : 0 ≤ v0_roundTo.toInt ∧ v0_roundTo.toInt ≤ 648) (iv0_goLast : 0 ≤ v0_goLast.toInt ∧ v0_goLast.toInt ≤ 8) (iv0_goAnswer : 0 ≤ v0_goAnswer.toInt ∧ v0_goAnswer.toInt ≤ 8) (iv0_lawMany : 0 ≤ v0_lawMany.toInt ∧ v0_lawMany.toInt ≤ 729) (iv0_placeMany : 0 ≤ v0_placeMany.toInt ∧ v0_placeMany.toInt ≤ 100) (pf_world : sg sgWo f_world) (cf_world : 0 < (f_world 9).toInt → 2 ≤ (f_world 0).toInt) (zv1 : 0 ≤ v1.toInt ∧ v1.toInt ≤ 99) (d_7 : 0 < (f_world 9).toInt) (C : Cx p s m args c RX12 cX12_spread 5 G D (tyL cB cI cJ cZ cS cT)) (hP : va_P D vwCl [(mO h0 v0_thrown h_world h_images h_hasImage h_tape v0_taped h_five v0_size v0_at v0_from v0_token v0_value v0_faultKind v0_faultPlace h_fresh h_spokenAt h_heardAt h_lastAt h_answerAt v0_lawA v0_lawB v0_lawC v0_drawX v0_isDrawn v0_lostMany h_heardNow h_seenAt v0_roundFrom v0_roundTo v0_goLast v0_goAnswer v0_goHeard h_fewest h_costNow h_costThen h_lawsOf h_heardBy v0_lawMany v0_askWorst h_placesOf h_sentIn v0_placeMany v0_parentFirst h_lostBy h_many h_width h_numbers h_moving), (h_world, .inl (cI, 53, .inl f_world))] s.heap) (ret : RroI p l e ({ frames := 2, cells := 0, slots := 0, locals := 35 }) s m args below meth c cX12_spread (fun r : Int32 => True) Q) :
    ∀ (N : Nat) (l43_4 : Int32) (l43_3 : Int32) (l43_2 : Int32) (ls : Array Slot), 0 ≤ l43_4.toInt → ((f_world 7).toInt - l43_4.toInt).toNat < N → lv_has ls 5 [(4, .int l43_4), (3, .int l43_3), (2, .int l43_2), (0, .ref h0), (1, .int v1)] → W p l e ({ frames := 2, cells := 0, slots := 0, locals := 35 }) s m args below meth c s.heap [] 0 0 Q (F0 m 43 ls []) := by
  obtain ⟨hx, hb, hml, hown, hts, hK, hN, hT⟩ := id C
  intro N
  induction N with
  | zero =>
    intro l43_4 l43_3 l43_2 ls kl43_4 hM_43 hl
    omega
  | succ N_43 ih_43 =>
    intro l43_4 l43_3 l43_2 ls kl43_4 hM_43 hl
    have b_l43_4 := i32b l43_4
    refine lv_iload hx hb dX12_spread_43 (lv_at hl 0 rfl) ?_
    refine lv_aload_n hx hb dX12_spread_45 rfl (lv_at hl 3 rfl) ?_
    refine va_get (D := D) (ci := 12) (v := .ref h_world) (C := RX12) (T := TX12) (N := 48) hx hb hts inlX12 hown hK hP 0 rfl rfl 1 (by decide) (hts _ (inr6 _ (List.mem_of_getElem? (i := 16) rfl))) (fun _ h9 => h9) rfl dX12_spread_46 ?_
    refine lv_bipush (v := 7) hx hb dX12_spread_49 (by decide) ?_
    obtain ⟨t_17, et_17⟩ : ∃ v9 : Int32, f_world (7 : Int32).toNatClampNeg = v9 := ⟨_, rfl⟩
    refine z_iald (v := t_17) hx hb hK hP 1 1 rfl rfl (by unfold vp_in; decide) et_17 dX12_spread_51 ?_
    have ft_17 : 0 ≤ t_17.toInt ∧ t_17.toInt ≤ 5 := sgL (by assumption : sg sgWo f_world) 4 rfl (by decide) (by decide) (by decide) et_17
    have qt_17 : (f_world 7).toInt = t_17.toInt := by rw [← et_17]; rfl
    refine lv_icmp_ge (tgt := 85) hx hb dX12_spread_52 (by decide) (fun c_18 => ?_) (fun c_18 => ?_)
    · have c_18 : t_17.toInt ≤ l43_4.toInt := ci_ge_t c_18
      have b_t_17 := i32b t_17
      have c_18q : (f_world 7).toInt ≤ l43_4.toInt := by omega
      refine lv_iload_n hx hb dX12_spread_85 rfl (lv_at hl 2 rfl) ?_
      refine lv_iload_n hx hb dX12_spread_86 rfl (lv_at hl 1 rfl) ?_
      obtain ⟨t_19, et_19⟩ : ∃ v9 : Int32, l43_2 - l43_3 = v9 := ⟨_, rfl⟩
      refine z_isub (v := t_19) hx hb dX12_spread_87 et_19 ?_
      exact ret _ _ _ dX12_spread_88 trivial
    · have c_18 : l43_4.toInt < t_17.toInt := ci_ge_f c_18
      have b_t_17 := i32b t_17
      have c_18q : l43_4.toInt < (f_world 7).toInt := by omega
      refine lv_iload_n hx hb dX12_spread_55 rfl (lv_at hl 2 rfl) ?_
      refine lv_aload_n hx hb dX12_spread_56 rfl (lv_at hl 3 rfl) ?_
      refine lv_iload_n hx hb dX12_spread_57 rfl (lv_at hl 4 rfl) ?_
      refine lv_iload hx hb dX12_spread_58 (lv_at hl 0 rfl) ?_
      refine roi (As := [.int v1, .int l43_4]) (rest := [.int l43_2]) ⟨hx, hb, hml, hown, hts⟩ (b_X12_wayTo l G D cB cI cJ cZ cS cT h0 v0_thrown h_world h_images h_hasImage h_tape v0_taped h_five v0_size v0_at v0_from v0_token v0_value v0_faultKind v0_faultPlace h_fresh h_spokenAt h_heardAt h_lastAt h_answerAt v0_lawA v0_lawB v0_lawC v0_drawX v0_isDrawn v0_lostMany h_heardNow h_seenAt v0_roundFrom v0_roundTo v0_goLast v0_goAnswer v0_goHeard h_fewest h_costNow h_costThen h_lawsOf h_heardBy v0_lawMany v0_askWorst h_placesOf h_sentIn v0_placeMany v0_parentFirst h_lostBy h_many h_width h_numbers h_moving f_world v1 l43_4 (by first | assumption | (have := zI0; have := zI1; have := zIm; omega) | decide) (by first | assumption | (have := zI0; have := zI1; have := zIm; omega) | decide) (by first | assumption | (have := zI0; have := zI1; have := zIm; omega) | decide) (by first | assumption | (have := zI0; have := zI1; have := zIm; omega) | decide) (by first | assumption | (have := zI0; have := zI1; have := zIm; omega) | decide) (by first | assumption | (have := zI0; have := zI1; have := zIm; omega) | decide) (by first | assumption | (have := zI0; have := zI1; have := zIm; omega) | decide) (by first | assumption | (have := zI0; have := zI1; have := zIm; omega) | decide) (by first | assumption | (have := zI0; have := zI1; have := zIm; omega) | decide) (by first | assumption | (have := zI0; have := zI1; have := zIm; omega) | decide) (by first | assumption | (have := zI0; have := zI1; have := zIm; omega) | decide) (by first | assumption | (have := zI0; have := zI1; have := zIm; omega) | decide) (by first | assumption | (have := zI0; have := zI1; have := zIm; omega) | decide) (by first | assumption | (have := zI0; have := zI1; have := zIm; omega) | decide) (by first | assumption | (have := zI0; have := zI1; have := zIm; omega) | decide) (by first | assumption | (have := zI0; have := zI1; have := zIm; omega) | decide) (by first | assumption | (have := zI0; have := zI1; have := zIm; omega) | decide) (by first | assumption | (have := zI0; have := zI1; have := zIm; omega) | decide)) (cvB (n := 2) (inr43 _ (List.mem_of_getElem? (i := 23) rfl)) (inr44 _ (List.mem_of_getElem? (i := 0) rfl)) (inr44 _ (List.mem_of_getElem? (i := 1) rfl)) (inr1 _ (List.mem_of_getElem? (i := 5) rfl)) (inr44 _ (List.mem_of_getElem? (i := 2) rfl)) (by decide +kernel) hts rfl rfl ⟨Nat.le_of_ble_eq_true rfl, Nat.le_of_ble_eq_true rfl⟩) 0 12 rfl rfl rfl (hP.sub [0, 1] rfl) hK hN hT rfl hl.1 rfl (Nat.le_of_ble_eq_true rfl) ⟨Nat.le_of_ble_eq_true rfl, Nat.le_of_ble_eq_true rfl⟩ dX12_spread_60 (fun r_20 h_21 => ?_)
      refine va_mmax hx hb (by rw [hml]; exact hl.1.symm) hown (hts _ (inr32 _ (List.mem_of_getElem? (i := 11) rfl))) (hts _ (inr32 _ (List.mem_of_getElem? (i := 5) rfl))) (hts _ (inr18 _ (List.mem_of_getElem? (i := 12) rfl))) (hts _ (inr32 _ (List.mem_of_getElem? (i := 6) rfl))) (Nat.le_of_ble_eq_true rfl) (Nat.le_of_ble_eq_true rfl) (Nat.le_of_ble_eq_true rfl) (Nat.le_of_ble_eq_true rfl) dX12_spread_63 ?_
      refine lv_topi (fun t_22 et_22 => ?_)
      have b_l43_2 := i32b l43_2
      have b_r_20 := i32b r_20
      have ft_22 : l43_2.toInt ≤ t_22.toInt ∧ r_20.toInt ≤ t_22.toInt ∧ (t_22.toInt = l43_2.toInt ∨ t_22.toInt = r_20.toInt) := maxT et_22
      refine lv_istore_n (lv' := [(2, .int t_22), (4, .int l43_4), (3, .int l43_3), (0, .ref h0), (1, .int v1)]) hx hb dX12_spread_66 rfl hl (by decide) rfl (fun ls hl => ?_)
      refine lv_iload_n hx hb dX12_spread_67 rfl (lv_at hl 2 rfl) ?_
      refine lv_aload_n hx hb dX12_spread_68 rfl (lv_at hl 3 rfl) ?_
      refine lv_iload_n hx hb dX12_spread_69 rfl (lv_at hl 4 rfl) ?_
      refine lv_iload hx hb dX12_spread_70 (lv_at hl 1 rfl) ?_
      refine roi (As := [.int v1, .int l43_4]) (rest := [.int l43_3]) ⟨hx, hb, hml, hown, hts⟩ (b_X12_wayTo l G D cB cI cJ cZ cS cT h0 v0_thrown h_world h_images h_hasImage h_tape v0_taped h_five v0_size v0_at v0_from v0_token v0_value v0_faultKind v0_faultPlace h_fresh h_spokenAt h_heardAt h_lastAt h_answerAt v0_lawA v0_lawB v0_lawC v0_drawX v0_isDrawn v0_lostMany h_heardNow h_seenAt v0_roundFrom v0_roundTo v0_goLast v0_goAnswer v0_goHeard h_fewest h_costNow h_costThen h_lawsOf h_heardBy v0_lawMany v0_askWorst h_placesOf h_sentIn v0_placeMany v0_parentFirst h_lostBy h_many h_width h_numbers h_moving f_world v1 l43_4 (by first | assumption | (have := zI0; have := zI1; have := zIm; omega) | decide) (by first | assumption | (have := zI0; have := zI1; have := zIm; omega) | decide) (by first | assumption | (have := zI0; have := zI1; have := zIm; omega) | decide) (by first | assumption | (have := zI0; have := zI1; have := zIm; omega) | decide) (by first | assumption | (have := zI0; have := zI1; have := zIm; omega) | decide) (by first | assumption | (have := zI0; have := zI1; have := zIm; omega) | decide) (by first | assumption | (have := zI0; have := zI1; have := zIm; omega) | decide) (by first | assumption | (have := zI0; have := zI1; have := zIm; omega) | decide) (by first | assumption | (have := zI0; have := zI1; have := zIm; omega) | decide) (by first | assumption | (have := zI0; have := zI1; have := zIm; omega) | decide) (by first | assumption | (have := zI0; have := zI1; have := zIm; omega) | decide) (by first | assumption | (have := zI0; have := zI1; have := zIm; omega) | decide) (by first | assumption | (have := zI0; have := zI1; have := zIm; omega) | decide) (by first | assumption | (have := zI0; have := zI1; have := zIm; omega) | decide) (by first | assumption | (have := zI0; have := zI1; have := zIm; omega) | decide) (by first | assumption | (have := zI0; have := zI1; have := zIm; omega) | decide) (by first | assumption | (have := zI0; have := zI1; have := zIm; omega) | decide) (by first | assumption | (have := zI0; have := zI1; have := zIm; omega) | decide)) (cvB (n := 2) (inr43 _ (List.mem_of_getElem? (i := 23) rfl)) (inr44 _ (List.mem_of_getElem? (i := 0) rfl)) (inr44 _ (List.mem_of_getElem? (i := 1) rfl)) (inr1 _ (List.mem_of_getElem? (i := 5) rfl)) (inr44 _ (List.mem_of_getElem? (i := 2) rfl)) (by decide +kernel) hts rfl rfl ⟨Nat.le_of_ble_eq_true rfl, Nat.le_of_ble_eq_true rfl⟩) 0 12 rfl rfl rfl (hP.sub [0, 1] rfl) hK hN hT rfl hl.1 rfl (Nat.le_of_ble_eq_true rfl) ⟨Nat.le_of_ble_eq_true rfl, Nat.le_of_ble_eq_true rfl⟩ dX12_spread_72 (fun r_23 h_24 => ?_)
      refine va_mmin hx hb (by rw [hml]; exact hl.1.symm) hown (hts _ (inr18 _ (List.mem_of_getElem? (i := 10) rfl))) (hts _ (inr18 _ (List.mem_of_getElem? (i := 11) rfl))) (hts _ (inr18 _ (List.mem_of_getElem? (i := 12) rfl))) (hts _ (inr18 _ (List.mem_of_getElem? (i := 13) rfl))) (Nat.le_of_ble_eq_true rfl) (Nat.le_of_ble_eq_true rfl) (Nat.le_of_ble_eq_true rfl) (Nat.le_of_ble_eq_true rfl) dX12_spread_75 ?_
      refine lv_topi (fun t_25 et_25 => ?_)
      have b_l43_3 := i32b l43_3
      have b_r_23 := i32b r_23
      have ft_25 : t_25.toInt ≤ l43_3.toInt ∧ t_25.toInt ≤ r_23.toInt ∧ (t_25.toInt = l43_3.toInt ∨ t_25.toInt = r_23.toInt) := minT et_25
      refine lv_istore_n (lv' := [(3, .int t_25), (2, .int t_22), (4, .int l43_4), (0, .ref h0), (1, .int v1)]) hx hb dX12_spread_78 rfl hl (by decide) rfl (fun ls hl => ?_)
      obtain ⟨t_26, et_26⟩ : ∃ v9 : Int32, l43_4 + 1 = v9 := ⟨_, rfl⟩
      have ft_26 : t_26.toInt = l43_4.toInt + 1 := addT (a := l43_4.toInt) (b := 1) rfl (by decide) et_26 (by omega) (by omega)
      refine lv_iinc (v := t_26) (lv' := [(4, .int t_26), (3, .int t_25), (2, .int t_22), (0, .ref h0), (1, .int v1)]) hx hb dX12_spread_79 hl (k := 2) rfl (by rw [← et_26]; rfl) (by decide) rfl (fun ls hl => ?_)
      refine lv_goto (tgt := 43) hx hb dX12_spread_82 (by decide) ?_
      exact ih_43 (t_26) (t_25) (t_22) _ (by first | assumption | (have := zI0; have := zI1; have := zIm; omega) | decide) (by omega) (lv_sub hl [0, 1, 2, 3, 4] rfl)

set_option maxHeartbeats 4000000 in
set_option maxRecDepth 100000 in
theorem b_X12_spread (l : Launch) (G : Gho) (D : va_G) (cB cI cJ cZ cS cT : ClassId) (h0 : Nat) (v0_thrown : Int32) (h_world : Nat) (h_images : Nat) (h_hasImage : Nat) (h_tape : Nat) (v0_taped : Int32) (h_five : Nat) (v0_size : Int32) (v0_at : Int32) (v0_from : Int32) (v0_token : Int32) (v0_value : Int32) (v0_faultKind : Int32) (v0_faultPlace : Int32) (h_fresh : Nat) (h_spokenAt : Nat) (h_heardAt : Nat) (h_lastAt : Nat) (h_answerAt : Nat) (v0_lawA : Int32) (v0_lawB : Int32) (v0_lawC : Int32) (v0_drawX : Int64) (v0_isDrawn : Int32) (v0_lostMany : Int32) (h_heardNow : Nat) (h_seenAt : Nat) (v0_roundFrom : Int32) (v0_roundTo : Int32) (v0_goLast : Int32) (v0_goAnswer : Int32) (v0_goHeard : Int32) (h_fewest : Nat) (h_costNow : Nat) (h_costThen : Nat) (h_lawsOf : Nat) (h_heardBy : Nat) (v0_lawMany : Int32) (v0_askWorst : Int32) (h_placesOf : Nat) (h_sentIn : Nat) (v0_placeMany : Int32) (v0_parentFirst : Int32) (h_lostBy : Nat) (h_many : Nat) (h_width : Nat) (h_numbers : Nat) (h_moving : Nat) (f_world : Nat → Int32) (v1 : Int32) (iv0_taped : 0 ≤ v0_taped.toInt ∧ v0_taped.toInt ≤ 500) (iv0_size : 0 ≤ v0_size.toInt ∧ v0_size.toInt ≤ 500) (iv0_at : 0 ≤ v0_at.toInt ∧ v0_at.toInt ≤ 500) (iv0_from : 0 ≤ v0_from.toInt ∧ v0_from.toInt ≤ 500) (iv0_faultKind : 0 ≤ v0_faultKind.toInt ∧ v0_faultKind.toInt ≤ 3) (iv0_lawA : 0 ≤ v0_lawA.toInt ∧ v0_lawA.toInt ≤ 8) (iv0_lawB : 0 ≤ v0_lawB.toInt ∧ v0_lawB.toInt ≤ 8) (iv0_lawC : 0 ≤ v0_lawC.toInt ∧ v0_lawC.toInt ≤ 9) (iv0_isDrawn : 0 ≤ v0_isDrawn.toInt ∧ v0_isDrawn.toInt ≤ 1) (iv0_roundFrom : 0 ≤ v0_roundFrom.toInt ∧ v0_roundFrom.toInt ≤ 648) (iv0_roundTo : 0 ≤ v0_roundTo.toInt ∧ v0_roundTo.toInt ≤ 648) (iv0_goLast : 0 ≤ v0_goLast.toInt ∧ v0_goLast.toInt ≤ 8) (iv0_goAnswer : 0 ≤ v0_goAnswer.toInt ∧ v0_goAnswer.toInt ≤ 8) (iv0_lawMany : 0 ≤ v0_lawMany.toInt ∧ v0_lawMany.toInt ≤ 729) (iv0_placeMany : 0 ≤ v0_placeMany.toInt ∧ v0_placeMany.toInt ≤ 100) (pf_world : sg sgWo f_world) (cf_world : 0 < (f_world 9).toInt → 2 ≤ (f_world 0).toInt) : Met l yX12_spread (Cond.code yX12_spread cX12_spread 5 (some .int) :: wsL_law) ({ frames := 2, cells := 0, slots := 0, locals := 35 }) (roP G D (tyL cB cI cJ cZ cS cT) [(mO h0 v0_thrown h_world h_images h_hasImage h_tape v0_taped h_five v0_size v0_at v0_from v0_token v0_value v0_faultKind v0_faultPlace h_fresh h_spokenAt h_heardAt h_lastAt h_answerAt v0_lawA v0_lawB v0_lawC v0_drawX v0_isDrawn v0_lostMany h_heardNow h_seenAt v0_roundFrom v0_roundTo v0_goLast v0_goAnswer v0_goHeard h_fewest h_costNow h_costThen h_lawsOf h_heardBy v0_lawMany v0_askWorst h_placesOf h_sentIn v0_placeMany v0_parentFirst h_lostBy h_many h_width h_numbers h_moving), (h_world, .inl (cI, 53, .inl f_world))] [.ref h0, .int v1]) (vp_Si (fun r : Int32 => True)) 0 0 (fun _ => False) := by
  refine metRO (own := RX12) (by decide) rfl ?_
  intro p e s m below meth c Q C hP ret
  obtain ⟨hx, hb, hml, hown, hts, hK, hN, hT⟩ := id C
  have hl := lv_entry ([.ref h0, .int v1]) (n := 5) (Nat.le_of_ble_eq_true rfl)
  rw [lg_entry_eq]
  generalize (lg_sl ([.ref h0, .int v1]) ++ List.replicate (5 - (lg_sl ([.ref h0, .int v1])).length) Slot.unset).toArray = ls at hl ⊢
  have hl : lv_has ls 5 [(0, .ref h0), (1, .int v1)] := hl
  have hP : va_P D vwCl [(mO h0 v0_thrown h_world h_images h_hasImage h_tape v0_taped h_five v0_size v0_at v0_from v0_token v0_value v0_faultKind v0_faultPlace h_fresh h_spokenAt h_heardAt h_lastAt h_answerAt v0_lawA v0_lawB v0_lawC v0_drawX v0_isDrawn v0_lostMany h_heardNow h_seenAt v0_roundFrom v0_roundTo v0_goLast v0_goAnswer v0_goHeard h_fewest h_costNow h_costThen h_lawsOf h_heardBy v0_lawMany v0_askWorst h_placesOf h_sentIn v0_placeMany v0_parentFirst h_lostBy h_many h_width h_numbers h_moving), (h_world, .inl (cI, 53, .inl f_world))] s.heap := hP
  refine lv_aload_n hx hb dX12_spread_0 rfl (lv_at hl 0 rfl) ?_
  refine roi (As := []) (rest := []) ⟨hx, hb, hml, hown, hts⟩ (b_X12_isStation l G D cB cI cJ cZ cS cT h0 v0_thrown h_world h_images h_hasImage h_tape v0_taped h_five v0_size v0_at v0_from v0_token v0_value v0_faultKind v0_faultPlace h_fresh h_spokenAt h_heardAt h_lastAt h_answerAt v0_lawA v0_lawB v0_lawC v0_drawX v0_isDrawn v0_lostMany h_heardNow h_seenAt v0_roundFrom v0_roundTo v0_goLast v0_goAnswer v0_goHeard h_fewest h_costNow h_costThen h_lawsOf h_heardBy v0_lawMany v0_askWorst h_placesOf h_sentIn v0_placeMany v0_parentFirst h_lostBy h_many h_width h_numbers h_moving f_world (by first | assumption | (have := zI0; have := zI1; have := zIm; omega) | decide) (by first | assumption | (have := zI0; have := zI1; have := zIm; omega) | decide) (by first | assumption | (have := zI0; have := zI1; have := zIm; omega) | decide) (by first | assumption | (have := zI0; have := zI1; have := zIm; omega) | decide) (by first | assumption | (have := zI0; have := zI1; have := zIm; omega) | decide) (by first | assumption | (have := zI0; have := zI1; have := zIm; omega) | decide) (by first | assumption | (have := zI0; have := zI1; have := zIm; omega) | decide) (by first | assumption | (have := zI0; have := zI1; have := zIm; omega) | decide) (by first | assumption | (have := zI0; have := zI1; have := zIm; omega) | decide) (by first | assumption | (have := zI0; have := zI1; have := zIm; omega) | decide) (by first | assumption | (have := zI0; have := zI1; have := zIm; omega) | decide) (by first | assumption | (have := zI0; have := zI1; have := zIm; omega) | decide) (by first | assumption | (have := zI0; have := zI1; have := zIm; omega) | decide) (by first | assumption | (have := zI0; have := zI1; have := zIm; omega) | decide) (by first | assumption | (have := zI0; have := zI1; have := zIm; omega) | decide) (by first | assumption | (have := zI0; have := zI1; have := zIm; omega) | decide) (by first | assumption | (have := zI0; have := zI1; have := zIm; omega) | decide)) (cvB (n := 0) (inr24 _ (List.mem_of_getElem? (i := 19) rfl)) (inr24 _ (List.mem_of_getElem? (i := 20) rfl)) (inr24 _ (List.mem_of_getElem? (i := 21) rfl)) (inr1 _ (List.mem_of_getElem? (i := 5) rfl)) (inr24 _ (List.mem_of_getElem? (i := 22) rfl)) (by decide +kernel) hts rfl rfl ⟨Nat.le_of_ble_eq_true rfl, Nat.le_of_ble_eq_true rfl⟩) 0 12 rfl rfl rfl (hP.sub [0, 1] rfl) hK hN hT rfl hl.1 rfl (Nat.le_of_ble_eq_true rfl) ⟨Nat.le_of_ble_eq_true rfl, Nat.le_of_ble_eq_true rfl⟩ dX12_spread_1 (fun r_1 h_2 => ?_)
  have h_2 : ((r_1.toInt = 1 ∧ 0 < (f_world 9).toInt) ∨ (r_1.toInt = 0 ∧ (f_world 9).toInt ≤ 0)) ∧ (r_1 = 0 ∨ r_1 = 1) := h_2
  obtain ⟨i_3, i_4⟩ := h_2
  have ar_1 : 0 ≤ r_1.toInt ∧ r_1.toInt ≤ 1 := by rcases i_4 with h | h <;> rw [h] <;> decide
  refine lv_if_eq (tgt := 19) hx hb dX12_spread_4 (by decide) (fun c_5 => ?_) (fun c_5 => ?_)
  · have c_5 : r_1.toInt = 0 := ci_eq_t c_5
    have b_r_1 := i32b r_1
    have d_6 : (f_world 9).toInt ≤ 0 := by omega
    clear i_3
    refine lv_bipush (v := (-2)) hx hb dX12_spread_19 (by decide) ?_
    exact ret _ _ _ dX12_spread_21 trivial
  · have c_5 : ¬ r_1.toInt = 0 := ci_eq_f c_5
    have b_r_1 := i32b r_1
    have d_7 : 0 < (f_world 9).toInt := by omega
    clear i_3
    refine lv_iload_n hx hb dX12_spread_7 rfl (lv_at hl 1 rfl) ?_
    have b_v1 := i32b v1
    obtain ⟨t_8, et_8⟩ : ∃ v9 : Int64, (v1 : Int32).toInt64 = v9 := ⟨_, rfl⟩
    refine lv_i2l (v := t_8) hx hb dX12_spread_8 et_8 ?_
    have ft_8 : t_8.toInt = v1.toInt := by rw [← et_8]; exact Int32.toInt_toInt64 _
    refine lv_lconst (v := 0) hx hb dX12_spread_9 (by decide) ?_
    refine lv_ldc2 hx hb hown (hts _ (inr43 _ (List.mem_of_getElem? (i := 22) rfl))) dX12_spread_10 ?_
    refine rosi (As := [.long t_8, .long 0, .long 99]) (rest := []) ⟨hx, hb, hml, hown, hts⟩ (b_X12_in l G D cB cI cJ cZ cS cT t_8 0 99 ) (csB (n := 3) (inr9 _ (List.mem_of_getElem? (i := 3) rfl)) (inr9 _ (List.mem_of_getElem? (i := 4) rfl)) (inr1 _ (List.mem_of_getElem? (i := 5) rfl)) (inr9 _ (List.mem_of_getElem? (i := 5) rfl)) (by decide +kernel) hts rfl rfl ⟨Nat.le_of_ble_eq_true rfl, Nat.le_of_ble_eq_true rfl⟩) (hP.sub [] rfl) hK hN hT rfl hl.1 rfl (Nat.le_of_ble_eq_true rfl) ⟨Nat.le_of_ble_eq_true rfl, Nat.le_of_ble_eq_true rfl⟩ dX12_spread_13 (fun r_9 h_10 => ?_)
    have h_10 : ((r_9.toInt = 1 ∧ 0 ≤ t_8.toInt ∧ t_8.toInt ≤ 99) ∨ (r_9.toInt = 0 ∧ (t_8.toInt < 0 ∨ 99 < t_8.toInt))) ∧ (r_9 = 0 ∨ r_9 = 1) := h_10
    obtain ⟨i_11, i_12⟩ := h_10
    have ar_9 : 0 ≤ r_9.toInt ∧ r_9.toInt ≤ 1 := by rcases i_12 with h | h <;> rw [h] <;> decide
    refine lv_if_ne (tgt := 22) hx hb dX12_spread_16 (by decide) (fun c_13 => ?_) (fun c_13 => ?_)
    · have c_13 : ¬ r_9.toInt = 0 := ci_ne_t c_13
      have b_r_9 := i32b r_9
      have d_14 : 0 ≤ t_8.toInt ∧ t_8.toInt ≤ 99 := by omega
      clear i_11
      refine lv_aload_n hx hb dX12_spread_22 rfl (lv_at hl 0 rfl) ?_
      refine va_get (D := D) (ci := 12) (v := .ref h_world) (C := RX12) (T := TX12) (N := 48) hx hb hts inlX12 hown hK hP 0 rfl rfl 1 (by decide) (hts _ (inr6 _ (List.mem_of_getElem? (i := 16) rfl))) (fun _ h9 => h9) rfl dX12_spread_23 ?_
      refine lv_bipush (v := 7) hx hb dX12_spread_26 (by decide) ?_
      obtain ⟨t_15, et_15⟩ : ∃ v9 : Int32, f_world (7 : Int32).toNatClampNeg = v9 := ⟨_, rfl⟩
      refine z_iald (v := t_15) hx hb hK hP 1 1 rfl rfl (by unfold vp_in; decide) et_15 dX12_spread_28 ?_
      have ft_15 : 0 ≤ t_15.toInt ∧ t_15.toInt ≤ 5 := sgL (by assumption : sg sgWo f_world) 4 rfl (by decide) (by decide) (by decide) et_15
      have qt_15 : (f_world 7).toInt = t_15.toInt := by rw [← et_15]; rfl
      refine lv_if_ne (tgt := 34) hx hb dX12_spread_29 (by decide) (fun c_16 => ?_) (fun c_16 => ?_)
      · have c_16 : ¬ t_15.toInt = 0 := ci_ne_t c_16
        have b_t_15 := i32b t_15
        refine lv_iconst (v := 0) hx hb dX12_spread_34 (by decide) ?_
        refine lv_istore_n (lv' := [(2, .int 0), (0, .ref h0), (1, .int v1)]) hx hb dX12_spread_35 rfl hl (by decide) rfl (fun ls hl => ?_)
        refine lv_ldcw hx hb hown (hts _ (inr40 _ (List.mem_of_getElem? (i := 9) rfl))) dX12_spread_36 ?_
        refine lv_istore_n (lv' := [(3, .int 1000000000), (2, .int 0), (0, .ref h0), (1, .int v1)]) hx hb dX12_spread_39 rfl hl (by decide) rfl (fun ls hl => ?_)
        refine lv_iconst (v := 0) hx hb dX12_spread_40 (by decide) ?_
        refine lv_istore (lv' := [(4, .int 0), (3, .int 1000000000), (2, .int 0), (0, .ref h0), (1, .int v1)]) hx hb dX12_spread_41 hl (by decide) rfl (fun ls hl => ?_)
        exact b_X12_spread_l43 h0 v0_thrown h_world h_images h_hasImage h_tape v0_taped h_five v0_size v0_at v0_from v0_token v0_value v0_faultKind v0_faultPlace h_fresh h_spokenAt h_heardAt h_lastAt h_answerAt v0_lawA v0_lawB v0_lawC v0_drawX v0_isDrawn v0_lostMany h_heardNow h_seenAt v0_roundFrom v0_roundTo v0_goLast v0_goAnswer v0_goHeard h_fewest h_costNow h_costThen h_lawsOf h_heardBy v0_lawMany v0_askWorst h_placesOf h_sentIn v0_placeMany v0_parentFirst h_lostBy h_many h_width h_numbers h_moving f_world v1 (by first | assumption | (have := zI0; have := zI1; have := zIm; omega) | decide) (by first | assumption | (have := zI0; have := zI1; have := zIm; omega) | decide) (by first | assumption | (have := zI0; have := zI1; have := zIm; omega) | decide) (by first | assumption | (have := zI0; have := zI1; have := zIm; omega) | decide) (by first | assumption | (have := zI0; have := zI1; have := zIm; omega) | decide) (by first | assumption | (have := zI0; have := zI1; have := zIm; omega) | decide) (by first | assumption | (have := zI0; have := zI1; have := zIm; omega) | decide) (by first | assumption | (have := zI0; have := zI1; have := zIm; omega) | decide) (by first | assumption | (have := zI0; have := zI1; have := zIm; omega) | decide) (by first | assumption | (have := zI0; have := zI1; have := zIm; omega) | decide) (by first | assumption | (have := zI0; have := zI1; have := zIm; omega) | decide) (by first | assumption | (have := zI0; have := zI1; have := zIm; omega) | decide) (by first | assumption | (have := zI0; have := zI1; have := zIm; omega) | decide) (by first | assumption | (have := zI0; have := zI1; have := zIm; omega) | decide) (by first | assumption | (have := zI0; have := zI1; have := zIm; omega) | decide) (by first | assumption | (have := zI0; have := zI1; have := zIm; omega) | decide) (by first | assumption | (have := zI0; have := zI1; have := zIm; omega) | decide) (by first | assumption | (have := zI0; have := zI1; have := zIm; omega) | decide) (by first | assumption | (have := zI0; have := zI1; have := zIm; omega) | decide) C (hP.sub [0, 1] rfl) ret _ (0) (1000000000) (0) _ (by first | assumption | (have := zI0; have := zI1; have := zIm; omega) | decide) (Nat.lt_succ_self _) (lv_sub hl [0, 1, 2, 3, 4] rfl)
      · have c_16 : t_15.toInt = 0 := ci_ne_f c_16
        have b_t_15 := i32b t_15
        refine lv_iconst (v := (-1)) hx hb dX12_spread_32 (by decide) ?_
        exact ret _ _ _ dX12_spread_33 trivial
    · have c_13 : r_9.toInt = 0 := ci_ne_f c_13
      have b_r_9 := i32b r_9
      have d_17 : (t_8.toInt < 0 ∨ 99 < t_8.toInt) := by omega
      clear i_11
      refine lv_bipush (v := (-2)) hx hb dX12_spread_19 (by decide) ?_
      exact ret _ _ _ dX12_spread_21 trivial

set_option maxHeartbeats 4000000 in
set_option maxRecDepth 100000 in
theorem b_X12_blind_l36 {p : Program} {l : Launch} {e : Env} {s : State} {m : MethodId} {args : Array Value} {below : List Frame} {meth : Method} {c : Code} {Q : State → Prop} {G : Gho} {D : va_G} {cB cI cJ cZ cS cT : ClassId} (h0 : Nat) (v0_thrown : Int32) (h_world : Nat) (h_images : Nat) (h_hasImage : Nat) (h_tape : Nat) (v0_taped : Int32) (h_five : Nat) (v0_size : Int32) (v0_at : Int32) (v0_from : Int32) (v0_token : Int32) (v0_value : Int32) (v0_faultKind : Int32) (v0_faultPlace : Int32) (h_fresh : Nat) (h_spokenAt : Nat) (h_heardAt : Nat) (h_lastAt : Nat) (h_answerAt : Nat) (v0_lawA : Int32) (v0_lawB : Int32) (v0_lawC : Int32) (v0_drawX : Int64) (v0_isDrawn : Int32) (v0_lostMany : Int32) (h_heardNow : Nat) (h_seenAt : Nat) (v0_roundFrom : Int32) (v0_roundTo : Int32) (v0_goLast : Int32) (v0_goAnswer : Int32) (v0_goHeard : Int32) (h_fewest : Nat) (h_costNow : Nat) (h_costThen : Nat) (h_lawsOf : Nat) (h_heardBy : Nat) (v0_lawMany : Int32) (v0_askWorst : Int32) (h_placesOf : Nat) (h_sentIn : Nat) (v0_placeMany : Int32) (v0_parentFirst : Int32) (h_lostBy : Nat) (h_many : Nat) (h_width : Nat) (h_numbers : Nat) (h_moving : Nat) (f_world : Nat → Int32) (l24_3 : Int32) (l14_2 : Int32) (l24_1 : Int32) (l14_1 : Int32) (N_14 : Nat) (N_24 : Nat) (iv0_taped : 0 ≤ v0_taped.toInt ∧ v0_taped.toInt ≤ 500) (iv0_size : 0 ≤ v0_size.toInt ∧ v0_size.toInt ≤ 500) (iv0_at : 0 ≤ v0_at.toInt ∧ v0_at.toInt ≤ 500) (iv0_from : 0 ≤ v0_from.toInt ∧ v0_from.toInt ≤ 500) (iv0_faultKind : 0 ≤ v0_faultKind.toInt ∧ v0_faultKind.toInt ≤ 3) (iv0_lawA : 0 ≤ v0_lawA.toInt ∧ v0_lawA.toInt ≤ 8) (iv0_lawB : 0 ≤ v0_lawB.toInt ∧ v0_lawB.toInt ≤ 8) (iv0_lawC : 0 ≤ v0_lawC.toInt ∧ v0_lawC.toInt ≤ 9) (iv0_isDrawn : 0 ≤ v0_isDrawn.toInt ∧ v0_isDrawn.toInt ≤ 1) (iv0_roundFrom : 0 ≤ v0_roundFrom.toInt ∧ v0_roundFrom.toInt ≤ 648) (iv0_roundTo : 0 ≤ v0_roundTo.toInt ∧ v0_roundTo.toInt ≤ 648) (iv0_goLast : 0 ≤ v0_goLast.toInt ∧ v0_goLast.toInt ≤ 8) (iv0_goAnswer : 0 ≤ v0_goAnswer.toInt ∧ v0_goAnswer.toInt ≤ 8) (iv0_lawMany : 0 ≤ v0_lawMany.toInt ∧ v0_lawMany.toInt ≤ 729) (iv0_placeMany : 0 ≤ v0_placeMany.toInt ∧ v0_placeMany.toInt ≤ 100) (pf_world : sg sgWo f_world) (cf_world : 0 < (f_world 9).toInt → 2 ≤ (f_world 0).toInt) (zl24_3 : 1 ≤ l24_3.toInt ∧ l24_3.toInt ≤ 99) (zl14_2 : 0 ≤ l14_2.toInt ∧ l14_2.toInt ≤ 99) (d_6 : 0 < (f_world 9).toInt) (kl14_2 : 0 ≤ l14_2.toInt ∧ l14_2.toInt ≤ 100) (c_7 : l14_2.toInt < 100) (kl24_3 : 1 ≤ l24_3.toInt ∧ l24_3.toInt ≤ 100) (c_9 : l24_3.toInt < 100) (ih_14 : ∀ (l14_2 : Int32) (l14_1 : Int32) (ls : Array Slot), 0 ≤ l14_2.toInt ∧ l14_2.toInt ≤ 100 → (100 - l14_2.toInt).toNat < N_14 → lv_has ls 6 [(2, .int l14_2), (1, .int l14_1), (0, .ref h0)] → W p l e ({ frames := 2, cells := 0, slots := 0, locals := 35 }) s m args below meth c s.heap [] 0 0 Q (F0 m 14 ls [])) (hM_14 : (100 - l14_2.toInt).toNat < N_14 + 1) (ih_24 : ∀ (l24_3 : Int32) (l24_1 : Int32) (ls : Array Slot), 1 ≤ l24_3.toInt ∧ l24_3.toInt ≤ 100 → (100 - l24_3.toInt).toNat < N_24 → lv_has ls 6 [(3, .int l24_3), (2, .int l14_2), (1, .int l24_1), (0, .ref h0)] → W p l e ({ frames := 2, cells := 0, slots := 0, locals := 35 }) s m args below meth c s.heap [] 0 0 Q (F0 m 24 ls [])) (hM_24 : (100 - l24_3.toInt).toNat < N_24 + 1) (C : Cx p s m args c RX12 cX12_blind 6 G D (tyL cB cI cJ cZ cS cT)) (hP : va_P D vwCl [(mO h0 v0_thrown h_world h_images h_hasImage h_tape v0_taped h_five v0_size v0_at v0_from v0_token v0_value v0_faultKind v0_faultPlace h_fresh h_spokenAt h_heardAt h_lastAt h_answerAt v0_lawA v0_lawB v0_lawC v0_drawX v0_isDrawn v0_lostMany h_heardNow h_seenAt v0_roundFrom v0_roundTo v0_goLast v0_goAnswer v0_goHeard h_fewest h_costNow h_costThen h_lawsOf h_heardBy v0_lawMany v0_askWorst h_placesOf h_sentIn v0_placeMany v0_parentFirst h_lostBy h_many h_width h_numbers h_moving), (h_world, .inl (cI, 53, .inl f_world))] s.heap) (ret : RroI p l e ({ frames := 2, cells := 0, slots := 0, locals := 35 }) s m args below meth c cX12_blind (fun r : Int32 => True) Q) :
    ∀ (N : Nat) (l36_5 : Int32) (l36_4 : Int32) (ls : Array Slot), 1 ≤ l36_5.toInt → ((f_world 7).toInt - l36_5.toInt).toNat < N → lv_has ls 6 [(5, .int l36_5), (4, .int l36_4), (3, .int l24_3), (2, .int l14_2), (1, .int l24_1), (0, .ref h0)] → W p l e ({ frames := 2, cells := 0, slots := 0, locals := 35 }) s m args below meth c s.heap [] 0 0 Q (F0 m 36 ls []) := by
  obtain ⟨hx, hb, hml, hown, hts, hK, hN, hT⟩ := id C
  intro N
  induction N with
  | zero =>
    intro l36_5 l36_4 ls kl36_5 hM_36 hl
    omega
  | succ N_36 ih_36 =>
    intro l36_5 l36_4 ls kl36_5 hM_36 hl
    have b_l36_5 := i32b l36_5
    refine lv_iload hx hb dX12_blind_36 (lv_at hl 0 rfl) ?_
    refine lv_aload_n hx hb dX12_blind_38 rfl (lv_at hl 5 rfl) ?_
    refine va_get (D := D) (ci := 12) (v := .ref h_world) (C := RX12) (T := TX12) (N := 48) hx hb hts inlX12 hown hK hP 0 rfl rfl 1 (by decide) (hts _ (inr6 _ (List.mem_of_getElem? (i := 16) rfl))) (fun _ h9 => h9) rfl dX12_blind_39 ?_
    refine lv_bipush (v := 7) hx hb dX12_blind_42 (by decide) ?_
    obtain ⟨t_11, et_11⟩ : ∃ v9 : Int32, f_world (7 : Int32).toNatClampNeg = v9 := ⟨_, rfl⟩
    refine z_iald (v := t_11) hx hb hK hP 1 1 rfl rfl (by unfold vp_in; decide) et_11 dX12_blind_44 ?_
    have ft_11 : 0 ≤ t_11.toInt ∧ t_11.toInt ≤ 5 := sgL (by assumption : sg sgWo f_world) 4 rfl (by decide) (by decide) (by decide) et_11
    have qt_11 : (f_world 7).toInt = t_11.toInt := by rw [← et_11]; rfl
    refine lv_icmp_ge (tgt := 97) hx hb dX12_blind_45 (by decide) (fun c_12 => ?_) (fun c_12 => ?_)
    · have c_12 : t_11.toInt ≤ l36_5.toInt := ci_ge_t c_12
      have b_t_11 := i32b t_11
      have c_12q : (f_world 7).toInt ≤ l36_5.toInt := by omega
      refine lv_iload_n hx hb dX12_blind_97 rfl (lv_at hl 4 rfl) ?_
      refine lv_iload hx hb dX12_blind_98 (lv_at hl 1 rfl) ?_
      refine lv_if_eq (tgt := 107) hx hb dX12_blind_100 (by decide) (fun c_13 => ?_) (fun c_13 => ?_)
      · have c_13 : l36_4.toInt = 0 := ci_eq_t c_13
        have b_l36_4 := i32b l36_4
        refine lv_iconst (v := 0) hx hb dX12_blind_107 (by decide) ?_
        obtain ⟨t_14, et_14⟩ : ∃ v9 : Int32, l24_1 + 0 = v9 := ⟨_, rfl⟩
        refine z_iadd (v := t_14) hx hb dX12_blind_108 et_14 ?_
        have b_l24_1 := i32b l24_1
        have ft_14 : t_14.toInt = l24_1.toInt + 0 := addT (a := l24_1.toInt) (b := 0) rfl (by decide) et_14 (by omega) (by omega)
        refine lv_istore_n (lv' := [(1, .int t_14), (5, .int l36_5), (4, .int l36_4), (3, .int l24_3), (2, .int l14_2), (0, .ref h0)]) hx hb dX12_blind_109 rfl hl (by decide) rfl (fun ls hl => ?_)
        obtain ⟨t_15, et_15⟩ : ∃ v9 : Int32, l24_3 + 1 = v9 := ⟨_, rfl⟩
        have b_l24_3 := i32b l24_3
        have ft_15 : t_15.toInt = l24_3.toInt + 1 := addT (a := l24_3.toInt) (b := 1) rfl (by decide) et_15 (by omega) (by omega)
        refine lv_iinc (v := t_15) (lv' := [(3, .int t_15), (1, .int t_14), (5, .int l36_5), (4, .int l36_4), (2, .int l14_2), (0, .ref h0)]) hx hb dX12_blind_110 hl (k := 3) rfl (by rw [← et_15]; rfl) (by decide) rfl (fun ls hl => ?_)
        refine lv_goto (tgt := 24) hx hb dX12_blind_113 (by decide) ?_
        exact ih_24 (t_15) (t_14) _ (by first | assumption | (have := zI0; have := zI1; have := zIm; omega) | decide) (by omega) (lv_sub hl [0, 4, 1, 5] rfl)
      · have c_13 : ¬ l36_4.toInt = 0 := ci_eq_f c_13
        have b_l36_4 := i32b l36_4
        refine lv_iconst (v := 1) hx hb dX12_blind_103 (by decide) ?_
        refine lv_goto (tgt := 108) hx hb dX12_blind_104 (by decide) ?_
        obtain ⟨t_16, et_16⟩ : ∃ v9 : Int32, l24_1 + 1 = v9 := ⟨_, rfl⟩
        refine z_iadd (v := t_16) hx hb dX12_blind_108 et_16 ?_
        refine lv_istore_n (lv' := [(1, .int t_16), (5, .int l36_5), (4, .int l36_4), (3, .int l24_3), (2, .int l14_2), (0, .ref h0)]) hx hb dX12_blind_109 rfl hl (by decide) rfl (fun ls hl => ?_)
        obtain ⟨t_17, et_17⟩ : ∃ v9 : Int32, l24_3 + 1 = v9 := ⟨_, rfl⟩
        have b_l24_3 := i32b l24_3
        have ft_17 : t_17.toInt = l24_3.toInt + 1 := addT (a := l24_3.toInt) (b := 1) rfl (by decide) et_17 (by omega) (by omega)
        refine lv_iinc (v := t_17) (lv' := [(3, .int t_17), (1, .int t_16), (5, .int l36_5), (4, .int l36_4), (2, .int l14_2), (0, .ref h0)]) hx hb dX12_blind_110 hl (k := 3) rfl (by rw [← et_17]; rfl) (by decide) rfl (fun ls hl => ?_)
        refine lv_goto (tgt := 24) hx hb dX12_blind_113 (by decide) ?_
        exact ih_24 (t_17) (t_16) _ (by first | assumption | (have := zI0; have := zI1; have := zIm; omega) | decide) (by omega) (lv_sub hl [0, 4, 1, 5] rfl)
    · have c_12 : l36_5.toInt < t_11.toInt := ci_ge_f c_12
      have b_t_11 := i32b t_11
      have c_12q : l36_5.toInt < (f_world 7).toInt := by omega
      refine lv_iload hx hb dX12_blind_48 (lv_at hl 1 rfl) ?_
      refine lv_if_eq (tgt := 88) hx hb dX12_blind_50 (by decide) (fun c_18 => ?_) (fun c_18 => ?_)
      · have c_18 : l36_4.toInt = 0 := ci_eq_t c_18
        have b_l36_4 := i32b l36_4
        refine lv_iconst (v := 0) hx hb dX12_blind_88 (by decide) ?_
        refine lv_istore (lv' := [(4, .int 0), (5, .int l36_5), (3, .int l24_3), (2, .int l14_2), (1, .int l24_1), (0, .ref h0)]) hx hb dX12_blind_89 hl (by decide) rfl (fun ls hl => ?_)
        obtain ⟨t_19, et_19⟩ : ∃ v9 : Int32, l36_5 + 1 = v9 := ⟨_, rfl⟩
        have ft_19 : t_19.toInt = l36_5.toInt + 1 := addT (a := l36_5.toInt) (b := 1) rfl (by decide) et_19 (by omega) (by omega)
        refine lv_iinc (v := t_19) (lv' := [(5, .int t_19), (4, .int 0), (3, .int l24_3), (2, .int l14_2), (1, .int l24_1), (0, .ref h0)]) hx hb dX12_blind_91 hl (k := 1) rfl (by rw [← et_19]; rfl) (by decide) rfl (fun ls hl => ?_)
        refine lv_goto (tgt := 36) hx hb dX12_blind_94 (by decide) ?_
        exact ih_36 (t_19) (0) _ (by first | assumption | (have := zI0; have := zI1; have := zIm; omega) | decide) (by omega) (lv_sub hl [0, 1, 2, 3, 4, 5] rfl)
      · have c_18 : ¬ l36_4.toInt = 0 := ci_eq_f c_18
        have b_l36_4 := i32b l36_4
        refine lv_aload_n hx hb dX12_blind_53 rfl (lv_at hl 5 rfl) ?_
        refine lv_iload_n hx hb dX12_blind_54 rfl (lv_at hl 3 rfl) ?_
        refine lv_iload hx hb dX12_blind_55 (lv_at hl 0 rfl) ?_
        refine roi (As := [.int l14_2, .int l36_5]) (rest := []) ⟨hx, hb, hml, hown, hts⟩ (b_X12_wayTo l G D cB cI cJ cZ cS cT h0 v0_thrown h_world h_images h_hasImage h_tape v0_taped h_five v0_size v0_at v0_from v0_token v0_value v0_faultKind v0_faultPlace h_fresh h_spokenAt h_heardAt h_lastAt h_answerAt v0_lawA v0_lawB v0_lawC v0_drawX v0_isDrawn v0_lostMany h_heardNow h_seenAt v0_roundFrom v0_roundTo v0_goLast v0_goAnswer v0_goHeard h_fewest h_costNow h_costThen h_lawsOf h_heardBy v0_lawMany v0_askWorst h_placesOf h_sentIn v0_placeMany v0_parentFirst h_lostBy h_many h_width h_numbers h_moving f_world l14_2 l36_5 (by first | assumption | (have := zI0; have := zI1; have := zIm; omega) | decide) (by first | assumption | (have := zI0; have := zI1; have := zIm; omega) | decide) (by first | assumption | (have := zI0; have := zI1; have := zIm; omega) | decide) (by first | assumption | (have := zI0; have := zI1; have := zIm; omega) | decide) (by first | assumption | (have := zI0; have := zI1; have := zIm; omega) | decide) (by first | assumption | (have := zI0; have := zI1; have := zIm; omega) | decide) (by first | assumption | (have := zI0; have := zI1; have := zIm; omega) | decide) (by first | assumption | (have := zI0; have := zI1; have := zIm; omega) | decide) (by first | assumption | (have := zI0; have := zI1; have := zIm; omega) | decide) (by first | assumption | (have := zI0; have := zI1; have := zIm; omega) | decide) (by first | assumption | (have := zI0; have := zI1; have := zIm; omega) | decide) (by first | assumption | (have := zI0; have := zI1; have := zIm; omega) | decide) (by first | assumption | (have := zI0; have := zI1; have := zIm; omega) | decide) (by first | assumption | (have := zI0; have := zI1; have := zIm; omega) | decide) (by first | assumption | (have := zI0; have := zI1; have := zIm; omega) | decide) (by first | assumption | (have := zI0; have := zI1; have := zIm; omega) | decide) (by first | assumption | (have := zI0; have := zI1; have := zIm; omega) | decide) (by first | assumption | (have := zI0; have := zI1; have := zIm; omega) | decide)) (cvB (n := 2) (inr43 _ (List.mem_of_getElem? (i := 23) rfl)) (inr44 _ (List.mem_of_getElem? (i := 0) rfl)) (inr44 _ (List.mem_of_getElem? (i := 1) rfl)) (inr1 _ (List.mem_of_getElem? (i := 5) rfl)) (inr44 _ (List.mem_of_getElem? (i := 2) rfl)) (by decide +kernel) hts rfl rfl ⟨Nat.le_of_ble_eq_true rfl, Nat.le_of_ble_eq_true rfl⟩) 0 12 rfl rfl rfl (hP.sub [0, 1] rfl) hK hN hT rfl hl.1 rfl (Nat.le_of_ble_eq_true rfl) ⟨Nat.le_of_ble_eq_true rfl, Nat.le_of_ble_eq_true rfl⟩ dX12_blind_57 (fun r_20 h_21 => ?_)
        refine lv_aload_n hx hb dX12_blind_60 rfl (lv_at hl 5 rfl) ?_
        refine lv_iload_n hx hb dX12_blind_61 rfl (lv_at hl 3 rfl) ?_
        refine lv_iconst (v := 0) hx hb dX12_blind_62 (by decide) ?_
        refine roi (As := [.int l14_2, .int 0]) (rest := [.int r_20]) ⟨hx, hb, hml, hown, hts⟩ (b_X12_wayTo l G D cB cI cJ cZ cS cT h0 v0_thrown h_world h_images h_hasImage h_tape v0_taped h_five v0_size v0_at v0_from v0_token v0_value v0_faultKind v0_faultPlace h_fresh h_spokenAt h_heardAt h_lastAt h_answerAt v0_lawA v0_lawB v0_lawC v0_drawX v0_isDrawn v0_lostMany h_heardNow h_seenAt v0_roundFrom v0_roundTo v0_goLast v0_goAnswer v0_goHeard h_fewest h_costNow h_costThen h_lawsOf h_heardBy v0_lawMany v0_askWorst h_placesOf h_sentIn v0_placeMany v0_parentFirst h_lostBy h_many h_width h_numbers h_moving f_world l14_2 0 (by first | assumption | (have := zI0; have := zI1; have := zIm; omega) | decide) (by first | assumption | (have := zI0; have := zI1; have := zIm; omega) | decide) (by first | assumption | (have := zI0; have := zI1; have := zIm; omega) | decide) (by first | assumption | (have := zI0; have := zI1; have := zIm; omega) | decide) (by first | assumption | (have := zI0; have := zI1; have := zIm; omega) | decide) (by first | assumption | (have := zI0; have := zI1; have := zIm; omega) | decide) (by first | assumption | (have := zI0; have := zI1; have := zIm; omega) | decide) (by first | assumption | (have := zI0; have := zI1; have := zIm; omega) | decide) (by first | assumption | (have := zI0; have := zI1; have := zIm; omega) | decide) (by first | assumption | (have := zI0; have := zI1; have := zIm; omega) | decide) (by first | assumption | (have := zI0; have := zI1; have := zIm; omega) | decide) (by first | assumption | (have := zI0; have := zI1; have := zIm; omega) | decide) (by first | assumption | (have := zI0; have := zI1; have := zIm; omega) | decide) (by first | assumption | (have := zI0; have := zI1; have := zIm; omega) | decide) (by first | assumption | (have := zI0; have := zI1; have := zIm; omega) | decide) (by first | assumption | (have := zI0; have := zI1; have := zIm; omega) | decide) (by first | assumption | (have := zI0; have := zI1; have := zIm; omega) | decide) (by first | assumption | (have := zI0; have := zI1; have := zIm; omega) | decide)) (cvB (n := 2) (inr43 _ (List.mem_of_getElem? (i := 23) rfl)) (inr44 _ (List.mem_of_getElem? (i := 0) rfl)) (inr44 _ (List.mem_of_getElem? (i := 1) rfl)) (inr1 _ (List.mem_of_getElem? (i := 5) rfl)) (inr44 _ (List.mem_of_getElem? (i := 2) rfl)) (by decide +kernel) hts rfl rfl ⟨Nat.le_of_ble_eq_true rfl, Nat.le_of_ble_eq_true rfl⟩) 0 12 rfl rfl rfl (hP.sub [0, 1] rfl) hK hN hT rfl hl.1 rfl (Nat.le_of_ble_eq_true rfl) ⟨Nat.le_of_ble_eq_true rfl, Nat.le_of_ble_eq_true rfl⟩ dX12_blind_63 (fun r_22 h_23 => ?_)
        obtain ⟨t_24, et_24⟩ : ∃ v9 : Int32, r_20 - r_22 = v9 := ⟨_, rfl⟩
        refine z_isub (v := t_24) hx hb dX12_blind_66 et_24 ?_
        refine lv_aload_n hx hb dX12_blind_67 rfl (lv_at hl 5 rfl) ?_
        refine lv_iload_n hx hb dX12_blind_68 rfl (lv_at hl 2 rfl) ?_
        refine lv_iload hx hb dX12_blind_69 (lv_at hl 0 rfl) ?_
        refine roi (As := [.int l24_3, .int l36_5]) (rest := [.int t_24]) ⟨hx, hb, hml, hown, hts⟩ (b_X12_wayTo l G D cB cI cJ cZ cS cT h0 v0_thrown h_world h_images h_hasImage h_tape v0_taped h_five v0_size v0_at v0_from v0_token v0_value v0_faultKind v0_faultPlace h_fresh h_spokenAt h_heardAt h_lastAt h_answerAt v0_lawA v0_lawB v0_lawC v0_drawX v0_isDrawn v0_lostMany h_heardNow h_seenAt v0_roundFrom v0_roundTo v0_goLast v0_goAnswer v0_goHeard h_fewest h_costNow h_costThen h_lawsOf h_heardBy v0_lawMany v0_askWorst h_placesOf h_sentIn v0_placeMany v0_parentFirst h_lostBy h_many h_width h_numbers h_moving f_world l24_3 l36_5 (by first | assumption | (have := zI0; have := zI1; have := zIm; omega) | decide) (by first | assumption | (have := zI0; have := zI1; have := zIm; omega) | decide) (by first | assumption | (have := zI0; have := zI1; have := zIm; omega) | decide) (by first | assumption | (have := zI0; have := zI1; have := zIm; omega) | decide) (by first | assumption | (have := zI0; have := zI1; have := zIm; omega) | decide) (by first | assumption | (have := zI0; have := zI1; have := zIm; omega) | decide) (by first | assumption | (have := zI0; have := zI1; have := zIm; omega) | decide) (by first | assumption | (have := zI0; have := zI1; have := zIm; omega) | decide) (by first | assumption | (have := zI0; have := zI1; have := zIm; omega) | decide) (by first | assumption | (have := zI0; have := zI1; have := zIm; omega) | decide) (by first | assumption | (have := zI0; have := zI1; have := zIm; omega) | decide) (by first | assumption | (have := zI0; have := zI1; have := zIm; omega) | decide) (by first | assumption | (have := zI0; have := zI1; have := zIm; omega) | decide) (by first | assumption | (have := zI0; have := zI1; have := zIm; omega) | decide) (by first | assumption | (have := zI0; have := zI1; have := zIm; omega) | decide) (by first | assumption | (have := zI0; have := zI1; have := zIm; omega) | decide) (by first | assumption | (have := zI0; have := zI1; have := zIm; omega) | decide) (by first | assumption | (have := zI0; have := zI1; have := zIm; omega) | decide)) (cvB (n := 2) (inr43 _ (List.mem_of_getElem? (i := 23) rfl)) (inr44 _ (List.mem_of_getElem? (i := 0) rfl)) (inr44 _ (List.mem_of_getElem? (i := 1) rfl)) (inr1 _ (List.mem_of_getElem? (i := 5) rfl)) (inr44 _ (List.mem_of_getElem? (i := 2) rfl)) (by decide +kernel) hts rfl rfl ⟨Nat.le_of_ble_eq_true rfl, Nat.le_of_ble_eq_true rfl⟩) 0 12 rfl rfl rfl (hP.sub [0, 1] rfl) hK hN hT rfl hl.1 rfl (Nat.le_of_ble_eq_true rfl) ⟨Nat.le_of_ble_eq_true rfl, Nat.le_of_ble_eq_true rfl⟩ dX12_blind_71 (fun r_25 h_26 => ?_)
        refine lv_aload_n hx hb dX12_blind_74 rfl (lv_at hl 5 rfl) ?_
        refine lv_iload_n hx hb dX12_blind_75 rfl (lv_at hl 2 rfl) ?_
        refine lv_iconst (v := 0) hx hb dX12_blind_76 (by decide) ?_
        refine roi (As := [.int l24_3, .int 0]) (rest := [.int r_25, .int t_24]) ⟨hx, hb, hml, hown, hts⟩ (b_X12_wayTo l G D cB cI cJ cZ cS cT h0 v0_thrown h_world h_images h_hasImage h_tape v0_taped h_five v0_size v0_at v0_from v0_token v0_value v0_faultKind v0_faultPlace h_fresh h_spokenAt h_heardAt h_lastAt h_answerAt v0_lawA v0_lawB v0_lawC v0_drawX v0_isDrawn v0_lostMany h_heardNow h_seenAt v0_roundFrom v0_roundTo v0_goLast v0_goAnswer v0_goHeard h_fewest h_costNow h_costThen h_lawsOf h_heardBy v0_lawMany v0_askWorst h_placesOf h_sentIn v0_placeMany v0_parentFirst h_lostBy h_many h_width h_numbers h_moving f_world l24_3 0 (by first | assumption | (have := zI0; have := zI1; have := zIm; omega) | decide) (by first | assumption | (have := zI0; have := zI1; have := zIm; omega) | decide) (by first | assumption | (have := zI0; have := zI1; have := zIm; omega) | decide) (by first | assumption | (have := zI0; have := zI1; have := zIm; omega) | decide) (by first | assumption | (have := zI0; have := zI1; have := zIm; omega) | decide) (by first | assumption | (have := zI0; have := zI1; have := zIm; omega) | decide) (by first | assumption | (have := zI0; have := zI1; have := zIm; omega) | decide) (by first | assumption | (have := zI0; have := zI1; have := zIm; omega) | decide) (by first | assumption | (have := zI0; have := zI1; have := zIm; omega) | decide) (by first | assumption | (have := zI0; have := zI1; have := zIm; omega) | decide) (by first | assumption | (have := zI0; have := zI1; have := zIm; omega) | decide) (by first | assumption | (have := zI0; have := zI1; have := zIm; omega) | decide) (by first | assumption | (have := zI0; have := zI1; have := zIm; omega) | decide) (by first | assumption | (have := zI0; have := zI1; have := zIm; omega) | decide) (by first | assumption | (have := zI0; have := zI1; have := zIm; omega) | decide) (by first | assumption | (have := zI0; have := zI1; have := zIm; omega) | decide) (by first | assumption | (have := zI0; have := zI1; have := zIm; omega) | decide) (by first | assumption | (have := zI0; have := zI1; have := zIm; omega) | decide)) (cvB (n := 2) (inr43 _ (List.mem_of_getElem? (i := 23) rfl)) (inr44 _ (List.mem_of_getElem? (i := 0) rfl)) (inr44 _ (List.mem_of_getElem? (i := 1) rfl)) (inr1 _ (List.mem_of_getElem? (i := 5) rfl)) (inr44 _ (List.mem_of_getElem? (i := 2) rfl)) (by decide +kernel) hts rfl rfl ⟨Nat.le_of_ble_eq_true rfl, Nat.le_of_ble_eq_true rfl⟩) 0 12 rfl rfl rfl (hP.sub [0, 1] rfl) hK hN hT rfl hl.1 rfl (Nat.le_of_ble_eq_true rfl) ⟨Nat.le_of_ble_eq_true rfl, Nat.le_of_ble_eq_true rfl⟩ dX12_blind_77 (fun r_27 h_28 => ?_)
        obtain ⟨t_29, et_29⟩ : ∃ v9 : Int32, r_25 - r_27 = v9 := ⟨_, rfl⟩
        refine z_isub (v := t_29) hx hb dX12_blind_80 et_29 ?_
        refine lv_icmp_ne (tgt := 88) hx hb dX12_blind_81 (by decide) (fun c_30 => ?_) (fun c_30 => ?_)
        · have c_30 : ¬ t_24.toInt = t_29.toInt := ci_ne_t c_30
          have b_t_24 := i32b t_24
          have b_t_29 := i32b t_29
          refine lv_iconst (v := 0) hx hb dX12_blind_88 (by decide) ?_
          refine lv_istore (lv' := [(4, .int 0), (5, .int l36_5), (3, .int l24_3), (2, .int l14_2), (1, .int l24_1), (0, .ref h0)]) hx hb dX12_blind_89 hl (by decide) rfl (fun ls hl => ?_)
          obtain ⟨t_31, et_31⟩ : ∃ v9 : Int32, l36_5 + 1 = v9 := ⟨_, rfl⟩
          have ft_31 : t_31.toInt = l36_5.toInt + 1 := addT (a := l36_5.toInt) (b := 1) rfl (by decide) et_31 (by omega) (by omega)
          refine lv_iinc (v := t_31) (lv' := [(5, .int t_31), (4, .int 0), (3, .int l24_3), (2, .int l14_2), (1, .int l24_1), (0, .ref h0)]) hx hb dX12_blind_91 hl (k := 1) rfl (by rw [← et_31]; rfl) (by decide) rfl (fun ls hl => ?_)
          refine lv_goto (tgt := 36) hx hb dX12_blind_94 (by decide) ?_
          exact ih_36 (t_31) (0) _ (by first | assumption | (have := zI0; have := zI1; have := zIm; omega) | decide) (by omega) (lv_sub hl [0, 1, 2, 3, 4, 5] rfl)
        · have c_30 : t_24.toInt = t_29.toInt := ci_ne_f c_30
          have b_t_24 := i32b t_24
          have b_t_29 := i32b t_29
          refine lv_iconst (v := 1) hx hb dX12_blind_84 (by decide) ?_
          refine lv_goto (tgt := 89) hx hb dX12_blind_85 (by decide) ?_
          refine lv_istore (lv' := [(4, .int 1), (5, .int l36_5), (3, .int l24_3), (2, .int l14_2), (1, .int l24_1), (0, .ref h0)]) hx hb dX12_blind_89 hl (by decide) rfl (fun ls hl => ?_)
          obtain ⟨t_32, et_32⟩ : ∃ v9 : Int32, l36_5 + 1 = v9 := ⟨_, rfl⟩
          have ft_32 : t_32.toInt = l36_5.toInt + 1 := addT (a := l36_5.toInt) (b := 1) rfl (by decide) et_32 (by omega) (by omega)
          refine lv_iinc (v := t_32) (lv' := [(5, .int t_32), (4, .int 1), (3, .int l24_3), (2, .int l14_2), (1, .int l24_1), (0, .ref h0)]) hx hb dX12_blind_91 hl (k := 1) rfl (by rw [← et_32]; rfl) (by decide) rfl (fun ls hl => ?_)
          refine lv_goto (tgt := 36) hx hb dX12_blind_94 (by decide) ?_
          exact ih_36 (t_32) (1) _ (by first | assumption | (have := zI0; have := zI1; have := zIm; omega) | decide) (by omega) (lv_sub hl [0, 1, 2, 3, 4, 5] rfl)

set_option maxHeartbeats 4000000 in
set_option maxRecDepth 100000 in
theorem b_X12_blind_l24 {p : Program} {l : Launch} {e : Env} {s : State} {m : MethodId} {args : Array Value} {below : List Frame} {meth : Method} {c : Code} {Q : State → Prop} {G : Gho} {D : va_G} {cB cI cJ cZ cS cT : ClassId} (h0 : Nat) (v0_thrown : Int32) (h_world : Nat) (h_images : Nat) (h_hasImage : Nat) (h_tape : Nat) (v0_taped : Int32) (h_five : Nat) (v0_size : Int32) (v0_at : Int32) (v0_from : Int32) (v0_token : Int32) (v0_value : Int32) (v0_faultKind : Int32) (v0_faultPlace : Int32) (h_fresh : Nat) (h_spokenAt : Nat) (h_heardAt : Nat) (h_lastAt : Nat) (h_answerAt : Nat) (v0_lawA : Int32) (v0_lawB : Int32) (v0_lawC : Int32) (v0_drawX : Int64) (v0_isDrawn : Int32) (v0_lostMany : Int32) (h_heardNow : Nat) (h_seenAt : Nat) (v0_roundFrom : Int32) (v0_roundTo : Int32) (v0_goLast : Int32) (v0_goAnswer : Int32) (v0_goHeard : Int32) (h_fewest : Nat) (h_costNow : Nat) (h_costThen : Nat) (h_lawsOf : Nat) (h_heardBy : Nat) (v0_lawMany : Int32) (v0_askWorst : Int32) (h_placesOf : Nat) (h_sentIn : Nat) (v0_placeMany : Int32) (v0_parentFirst : Int32) (h_lostBy : Nat) (h_many : Nat) (h_width : Nat) (h_numbers : Nat) (h_moving : Nat) (f_world : Nat → Int32) (l14_2 : Int32) (l14_1 : Int32) (N_14 : Nat) (iv0_taped : 0 ≤ v0_taped.toInt ∧ v0_taped.toInt ≤ 500) (iv0_size : 0 ≤ v0_size.toInt ∧ v0_size.toInt ≤ 500) (iv0_at : 0 ≤ v0_at.toInt ∧ v0_at.toInt ≤ 500) (iv0_from : 0 ≤ v0_from.toInt ∧ v0_from.toInt ≤ 500) (iv0_faultKind : 0 ≤ v0_faultKind.toInt ∧ v0_faultKind.toInt ≤ 3) (iv0_lawA : 0 ≤ v0_lawA.toInt ∧ v0_lawA.toInt ≤ 8) (iv0_lawB : 0 ≤ v0_lawB.toInt ∧ v0_lawB.toInt ≤ 8) (iv0_lawC : 0 ≤ v0_lawC.toInt ∧ v0_lawC.toInt ≤ 9) (iv0_isDrawn : 0 ≤ v0_isDrawn.toInt ∧ v0_isDrawn.toInt ≤ 1) (iv0_roundFrom : 0 ≤ v0_roundFrom.toInt ∧ v0_roundFrom.toInt ≤ 648) (iv0_roundTo : 0 ≤ v0_roundTo.toInt ∧ v0_roundTo.toInt ≤ 648) (iv0_goLast : 0 ≤ v0_goLast.toInt ∧ v0_goLast.toInt ≤ 8) (iv0_goAnswer : 0 ≤ v0_goAnswer.toInt ∧ v0_goAnswer.toInt ≤ 8) (iv0_lawMany : 0 ≤ v0_lawMany.toInt ∧ v0_lawMany.toInt ≤ 729) (iv0_placeMany : 0 ≤ v0_placeMany.toInt ∧ v0_placeMany.toInt ≤ 100) (pf_world : sg sgWo f_world) (cf_world : 0 < (f_world 9).toInt → 2 ≤ (f_world 0).toInt) (zl14_2 : 0 ≤ l14_2.toInt ∧ l14_2.toInt ≤ 99) (d_6 : 0 < (f_world 9).toInt) (kl14_2 : 0 ≤ l14_2.toInt ∧ l14_2.toInt ≤ 100) (c_7 : l14_2.toInt < 100) (ih_14 : ∀ (l14_2 : Int32) (l14_1 : Int32) (ls : Array Slot), 0 ≤ l14_2.toInt ∧ l14_2.toInt ≤ 100 → (100 - l14_2.toInt).toNat < N_14 → lv_has ls 6 [(2, .int l14_2), (1, .int l14_1), (0, .ref h0)] → W p l e ({ frames := 2, cells := 0, slots := 0, locals := 35 }) s m args below meth c s.heap [] 0 0 Q (F0 m 14 ls [])) (hM_14 : (100 - l14_2.toInt).toNat < N_14 + 1) (C : Cx p s m args c RX12 cX12_blind 6 G D (tyL cB cI cJ cZ cS cT)) (hP : va_P D vwCl [(mO h0 v0_thrown h_world h_images h_hasImage h_tape v0_taped h_five v0_size v0_at v0_from v0_token v0_value v0_faultKind v0_faultPlace h_fresh h_spokenAt h_heardAt h_lastAt h_answerAt v0_lawA v0_lawB v0_lawC v0_drawX v0_isDrawn v0_lostMany h_heardNow h_seenAt v0_roundFrom v0_roundTo v0_goLast v0_goAnswer v0_goHeard h_fewest h_costNow h_costThen h_lawsOf h_heardBy v0_lawMany v0_askWorst h_placesOf h_sentIn v0_placeMany v0_parentFirst h_lostBy h_many h_width h_numbers h_moving), (h_world, .inl (cI, 53, .inl f_world))] s.heap) (ret : RroI p l e ({ frames := 2, cells := 0, slots := 0, locals := 35 }) s m args below meth c cX12_blind (fun r : Int32 => True) Q) :
    ∀ (N : Nat) (l24_3 : Int32) (l24_1 : Int32) (ls : Array Slot), 1 ≤ l24_3.toInt ∧ l24_3.toInt ≤ 100 → (100 - l24_3.toInt).toNat < N → lv_has ls 6 [(3, .int l24_3), (2, .int l14_2), (1, .int l24_1), (0, .ref h0)] → W p l e ({ frames := 2, cells := 0, slots := 0, locals := 35 }) s m args below meth c s.heap [] 0 0 Q (F0 m 24 ls []) := by
  obtain ⟨hx, hb, hml, hown, hts, hK, hN, hT⟩ := id C
  intro N
  induction N with
  | zero =>
    intro l24_3 l24_1 ls kl24_3 hM_24 hl
    omega
  | succ N_24 ih_24 =>
    intro l24_3 l24_1 ls kl24_3 hM_24 hl
    have b_l24_3 := i32b l24_3
    refine lv_iload_n hx hb dX12_blind_24 rfl (lv_at hl 0 rfl) ?_
    refine lv_bipush (v := 100) hx hb dX12_blind_25 (by decide) ?_
    refine lv_icmp_ge (tgt := 116) hx hb dX12_blind_27 (by decide) (fun c_9 => ?_) (fun c_9 => ?_)
    · have c_9 : 100 ≤ l24_3.toInt := ci_ge_t c_9
      obtain ⟨t_10, et_10⟩ : ∃ v9 : Int32, l14_2 + 1 = v9 := ⟨_, rfl⟩
      have b_l14_2 := i32b l14_2
      have ft_10 : t_10.toInt = l14_2.toInt + 1 := addT (a := l14_2.toInt) (b := 1) rfl (by decide) et_10 (by omega) (by omega)
      refine lv_iinc (v := t_10) (lv' := [(2, .int t_10), (3, .int l24_3), (1, .int l24_1), (0, .ref h0)]) hx hb dX12_blind_116 hl (k := 1) rfl (by rw [← et_10]; rfl) (by decide) rfl (fun ls hl => ?_)
      refine lv_goto (tgt := 14) hx hb dX12_blind_119 (by decide) ?_
      exact ih_14 (t_10) (l24_1) _ (by first | assumption | (have := zI0; have := zI1; have := zIm; omega) | decide) (by omega) (lv_sub hl [0, 2, 3] rfl)
    · have c_9 : l24_3.toInt < 100 := ci_ge_f c_9
      refine lv_iconst (v := 1) hx hb dX12_blind_30 (by decide) ?_
      refine lv_istore (lv' := [(4, .int 1), (3, .int l24_3), (2, .int l14_2), (1, .int l24_1), (0, .ref h0)]) hx hb dX12_blind_31 hl (by decide) rfl (fun ls hl => ?_)
      refine lv_iconst (v := 1) hx hb dX12_blind_33 (by decide) ?_
      refine lv_istore (lv' := [(5, .int 1), (4, .int 1), (3, .int l24_3), (2, .int l14_2), (1, .int l24_1), (0, .ref h0)]) hx hb dX12_blind_34 hl (by decide) rfl (fun ls hl => ?_)
      exact b_X12_blind_l36 h0 v0_thrown h_world h_images h_hasImage h_tape v0_taped h_five v0_size v0_at v0_from v0_token v0_value v0_faultKind v0_faultPlace h_fresh h_spokenAt h_heardAt h_lastAt h_answerAt v0_lawA v0_lawB v0_lawC v0_drawX v0_isDrawn v0_lostMany h_heardNow h_seenAt v0_roundFrom v0_roundTo v0_goLast v0_goAnswer v0_goHeard h_fewest h_costNow h_costThen h_lawsOf h_heardBy v0_lawMany v0_askWorst h_placesOf h_sentIn v0_placeMany v0_parentFirst h_lostBy h_many h_width h_numbers h_moving f_world l24_3 l14_2 l24_1 l14_1 N_14 N_24 (by first | assumption | (have := zI0; have := zI1; have := zIm; omega) | decide) (by first | assumption | (have := zI0; have := zI1; have := zIm; omega) | decide) (by first | assumption | (have := zI0; have := zI1; have := zIm; omega) | decide) (by first | assumption | (have := zI0; have := zI1; have := zIm; omega) | decide) (by first | assumption | (have := zI0; have := zI1; have := zIm; omega) | decide) (by first | assumption | (have := zI0; have := zI1; have := zIm; omega) | decide) (by first | assumption | (have := zI0; have := zI1; have := zIm; omega) | decide) (by first | assumption | (have := zI0; have := zI1; have := zIm; omega) | decide) (by first | assumption | (have := zI0; have := zI1; have := zIm; omega) | decide) (by first | assumption | (have := zI0; have := zI1; have := zIm; omega) | decide) (by first | assumption | (have := zI0; have := zI1; have := zIm; omega) | decide) (by first | assumption | (have := zI0; have := zI1; have := zIm; omega) | decide) (by first | assumption | (have := zI0; have := zI1; have := zIm; omega) | decide) (by first | assumption | (have := zI0; have := zI1; have := zIm; omega) | decide) (by first | assumption | (have := zI0; have := zI1; have := zIm; omega) | decide) (by first | assumption | (have := zI0; have := zI1; have := zIm; omega) | decide) (by first | assumption | (have := zI0; have := zI1; have := zIm; omega) | decide) (by first | assumption | (have := zI0; have := zI1; have := zIm; omega) | decide) (by first | assumption | (have := zI0; have := zI1; have := zIm; omega) | decide) (by first | assumption | (have := zI0; have := zI1; have := zIm; omega) | decide) (by first | assumption | (have := zI0; have := zI1; have := zIm; omega) | decide) (by first | assumption | (have := zI0; have := zI1; have := zIm; omega) | decide) (by first | assumption | (have := zI0; have := zI1; have := zIm; omega) | decide) (by first | assumption | (have := zI0; have := zI1; have := zIm; omega) | decide) (by first | assumption | (have := zI0; have := zI1; have := zIm; omega) | decide) (by first | assumption | (have := zI0; have := zI1; have := zIm; omega) | decide) (by first | assumption | (have := zI0; have := zI1; have := zIm; omega) | decide) (by first | assumption | (have := zI0; have := zI1; have := zIm; omega) | decide) C (hP.sub [0, 1] rfl) ret _ (1) (1) _ (by first | assumption | (have := zI0; have := zI1; have := zIm; omega) | decide) (Nat.lt_succ_self _) (lv_sub hl [0, 1, 2, 3, 4, 5] rfl)

set_option maxHeartbeats 4000000 in
set_option maxRecDepth 100000 in
theorem b_X12_blind_l14 {p : Program} {l : Launch} {e : Env} {s : State} {m : MethodId} {args : Array Value} {below : List Frame} {meth : Method} {c : Code} {Q : State → Prop} {G : Gho} {D : va_G} {cB cI cJ cZ cS cT : ClassId} (h0 : Nat) (v0_thrown : Int32) (h_world : Nat) (h_images : Nat) (h_hasImage : Nat) (h_tape : Nat) (v0_taped : Int32) (h_five : Nat) (v0_size : Int32) (v0_at : Int32) (v0_from : Int32) (v0_token : Int32) (v0_value : Int32) (v0_faultKind : Int32) (v0_faultPlace : Int32) (h_fresh : Nat) (h_spokenAt : Nat) (h_heardAt : Nat) (h_lastAt : Nat) (h_answerAt : Nat) (v0_lawA : Int32) (v0_lawB : Int32) (v0_lawC : Int32) (v0_drawX : Int64) (v0_isDrawn : Int32) (v0_lostMany : Int32) (h_heardNow : Nat) (h_seenAt : Nat) (v0_roundFrom : Int32) (v0_roundTo : Int32) (v0_goLast : Int32) (v0_goAnswer : Int32) (v0_goHeard : Int32) (h_fewest : Nat) (h_costNow : Nat) (h_costThen : Nat) (h_lawsOf : Nat) (h_heardBy : Nat) (v0_lawMany : Int32) (v0_askWorst : Int32) (h_placesOf : Nat) (h_sentIn : Nat) (v0_placeMany : Int32) (v0_parentFirst : Int32) (h_lostBy : Nat) (h_many : Nat) (h_width : Nat) (h_numbers : Nat) (h_moving : Nat) (f_world : Nat → Int32) (iv0_taped : 0 ≤ v0_taped.toInt ∧ v0_taped.toInt ≤ 500) (iv0_size : 0 ≤ v0_size.toInt ∧ v0_size.toInt ≤ 500) (iv0_at : 0 ≤ v0_at.toInt ∧ v0_at.toInt ≤ 500) (iv0_from : 0 ≤ v0_from.toInt ∧ v0_from.toInt ≤ 500) (iv0_faultKind : 0 ≤ v0_faultKind.toInt ∧ v0_faultKind.toInt ≤ 3) (iv0_lawA : 0 ≤ v0_lawA.toInt ∧ v0_lawA.toInt ≤ 8) (iv0_lawB : 0 ≤ v0_lawB.toInt ∧ v0_lawB.toInt ≤ 8) (iv0_lawC : 0 ≤ v0_lawC.toInt ∧ v0_lawC.toInt ≤ 9) (iv0_isDrawn : 0 ≤ v0_isDrawn.toInt ∧ v0_isDrawn.toInt ≤ 1) (iv0_roundFrom : 0 ≤ v0_roundFrom.toInt ∧ v0_roundFrom.toInt ≤ 648) (iv0_roundTo : 0 ≤ v0_roundTo.toInt ∧ v0_roundTo.toInt ≤ 648) (iv0_goLast : 0 ≤ v0_goLast.toInt ∧ v0_goLast.toInt ≤ 8) (iv0_goAnswer : 0 ≤ v0_goAnswer.toInt ∧ v0_goAnswer.toInt ≤ 8) (iv0_lawMany : 0 ≤ v0_lawMany.toInt ∧ v0_lawMany.toInt ≤ 729) (iv0_placeMany : 0 ≤ v0_placeMany.toInt ∧ v0_placeMany.toInt ≤ 100) (pf_world : sg sgWo f_world) (cf_world : 0 < (f_world 9).toInt → 2 ≤ (f_world 0).toInt) (d_6 : 0 < (f_world 9).toInt) (C : Cx p s m args c RX12 cX12_blind 6 G D (tyL cB cI cJ cZ cS cT)) (hP : va_P D vwCl [(mO h0 v0_thrown h_world h_images h_hasImage h_tape v0_taped h_five v0_size v0_at v0_from v0_token v0_value v0_faultKind v0_faultPlace h_fresh h_spokenAt h_heardAt h_lastAt h_answerAt v0_lawA v0_lawB v0_lawC v0_drawX v0_isDrawn v0_lostMany h_heardNow h_seenAt v0_roundFrom v0_roundTo v0_goLast v0_goAnswer v0_goHeard h_fewest h_costNow h_costThen h_lawsOf h_heardBy v0_lawMany v0_askWorst h_placesOf h_sentIn v0_placeMany v0_parentFirst h_lostBy h_many h_width h_numbers h_moving), (h_world, .inl (cI, 53, .inl f_world))] s.heap) (ret : RroI p l e ({ frames := 2, cells := 0, slots := 0, locals := 35 }) s m args below meth c cX12_blind (fun r : Int32 => True) Q) :
    ∀ (N : Nat) (l14_2 : Int32) (l14_1 : Int32) (ls : Array Slot), 0 ≤ l14_2.toInt ∧ l14_2.toInt ≤ 100 → (100 - l14_2.toInt).toNat < N → lv_has ls 6 [(2, .int l14_2), (1, .int l14_1), (0, .ref h0)] → W p l e ({ frames := 2, cells := 0, slots := 0, locals := 35 }) s m args below meth c s.heap [] 0 0 Q (F0 m 14 ls []) := by
  obtain ⟨hx, hb, hml, hown, hts, hK, hN, hT⟩ := id C
  intro N
  induction N with
  | zero =>
    intro l14_2 l14_1 ls kl14_2 hM_14 hl
    omega
  | succ N_14 ih_14 =>
    intro l14_2 l14_1 ls kl14_2 hM_14 hl
    have b_l14_2 := i32b l14_2
    refine lv_iload_n hx hb dX12_blind_14 rfl (lv_at hl 0 rfl) ?_
    refine lv_bipush (v := 100) hx hb dX12_blind_15 (by decide) ?_
    refine lv_icmp_ge (tgt := 122) hx hb dX12_blind_17 (by decide) (fun c_7 => ?_) (fun c_7 => ?_)
    · have c_7 : 100 ≤ l14_2.toInt := ci_ge_t c_7
      refine lv_iload_n hx hb dX12_blind_122 rfl (lv_at hl 1 rfl) ?_
      exact ret _ _ _ dX12_blind_123 trivial
    · have c_7 : l14_2.toInt < 100 := ci_ge_f c_7
      refine lv_iload_n hx hb dX12_blind_20 rfl (lv_at hl 0 rfl) ?_
      refine lv_iconst (v := 1) hx hb dX12_blind_21 (by decide) ?_
      obtain ⟨t_8, et_8⟩ : ∃ v9 : Int32, l14_2 + 1 = v9 := ⟨_, rfl⟩
      refine z_iadd (v := t_8) hx hb dX12_blind_22 et_8 ?_
      have ft_8 : t_8.toInt = l14_2.toInt + 1 := addT (a := l14_2.toInt) (b := 1) rfl (by decide) et_8 (by omega) (by omega)
      refine lv_istore_n (lv' := [(3, .int t_8), (2, .int l14_2), (1, .int l14_1), (0, .ref h0)]) hx hb dX12_blind_23 rfl hl (by decide) rfl (fun ls hl => ?_)
      exact b_X12_blind_l24 h0 v0_thrown h_world h_images h_hasImage h_tape v0_taped h_five v0_size v0_at v0_from v0_token v0_value v0_faultKind v0_faultPlace h_fresh h_spokenAt h_heardAt h_lastAt h_answerAt v0_lawA v0_lawB v0_lawC v0_drawX v0_isDrawn v0_lostMany h_heardNow h_seenAt v0_roundFrom v0_roundTo v0_goLast v0_goAnswer v0_goHeard h_fewest h_costNow h_costThen h_lawsOf h_heardBy v0_lawMany v0_askWorst h_placesOf h_sentIn v0_placeMany v0_parentFirst h_lostBy h_many h_width h_numbers h_moving f_world l14_2 l14_1 N_14 (by first | assumption | (have := zI0; have := zI1; have := zIm; omega) | decide) (by first | assumption | (have := zI0; have := zI1; have := zIm; omega) | decide) (by first | assumption | (have := zI0; have := zI1; have := zIm; omega) | decide) (by first | assumption | (have := zI0; have := zI1; have := zIm; omega) | decide) (by first | assumption | (have := zI0; have := zI1; have := zIm; omega) | decide) (by first | assumption | (have := zI0; have := zI1; have := zIm; omega) | decide) (by first | assumption | (have := zI0; have := zI1; have := zIm; omega) | decide) (by first | assumption | (have := zI0; have := zI1; have := zIm; omega) | decide) (by first | assumption | (have := zI0; have := zI1; have := zIm; omega) | decide) (by first | assumption | (have := zI0; have := zI1; have := zIm; omega) | decide) (by first | assumption | (have := zI0; have := zI1; have := zIm; omega) | decide) (by first | assumption | (have := zI0; have := zI1; have := zIm; omega) | decide) (by first | assumption | (have := zI0; have := zI1; have := zIm; omega) | decide) (by first | assumption | (have := zI0; have := zI1; have := zIm; omega) | decide) (by first | assumption | (have := zI0; have := zI1; have := zIm; omega) | decide) (by first | assumption | (have := zI0; have := zI1; have := zIm; omega) | decide) (by first | assumption | (have := zI0; have := zI1; have := zIm; omega) | decide) (by first | assumption | (have := zI0; have := zI1; have := zIm; omega) | decide) (by first | assumption | (have := zI0; have := zI1; have := zIm; omega) | decide) (by first | assumption | (have := zI0; have := zI1; have := zIm; omega) | decide) (by first | assumption | (have := zI0; have := zI1; have := zIm; omega) | decide) (by first | assumption | (have := zI0; have := zI1; have := zIm; omega) | decide) (by first | assumption | (have := zI0; have := zI1; have := zIm; omega) | decide) C (hP.sub [0, 1] rfl) ret _ (t_8) (l14_1) _ (by first | assumption | (have := zI0; have := zI1; have := zIm; omega) | decide) (Nat.lt_succ_self _) (lv_sub hl [0, 1, 2, 3] rfl)

set_option maxHeartbeats 4000000 in
set_option maxRecDepth 100000 in
theorem b_X12_blind (l : Launch) (G : Gho) (D : va_G) (cB cI cJ cZ cS cT : ClassId) (h0 : Nat) (v0_thrown : Int32) (h_world : Nat) (h_images : Nat) (h_hasImage : Nat) (h_tape : Nat) (v0_taped : Int32) (h_five : Nat) (v0_size : Int32) (v0_at : Int32) (v0_from : Int32) (v0_token : Int32) (v0_value : Int32) (v0_faultKind : Int32) (v0_faultPlace : Int32) (h_fresh : Nat) (h_spokenAt : Nat) (h_heardAt : Nat) (h_lastAt : Nat) (h_answerAt : Nat) (v0_lawA : Int32) (v0_lawB : Int32) (v0_lawC : Int32) (v0_drawX : Int64) (v0_isDrawn : Int32) (v0_lostMany : Int32) (h_heardNow : Nat) (h_seenAt : Nat) (v0_roundFrom : Int32) (v0_roundTo : Int32) (v0_goLast : Int32) (v0_goAnswer : Int32) (v0_goHeard : Int32) (h_fewest : Nat) (h_costNow : Nat) (h_costThen : Nat) (h_lawsOf : Nat) (h_heardBy : Nat) (v0_lawMany : Int32) (v0_askWorst : Int32) (h_placesOf : Nat) (h_sentIn : Nat) (v0_placeMany : Int32) (v0_parentFirst : Int32) (h_lostBy : Nat) (h_many : Nat) (h_width : Nat) (h_numbers : Nat) (h_moving : Nat) (f_world : Nat → Int32) (iv0_taped : 0 ≤ v0_taped.toInt ∧ v0_taped.toInt ≤ 500) (iv0_size : 0 ≤ v0_size.toInt ∧ v0_size.toInt ≤ 500) (iv0_at : 0 ≤ v0_at.toInt ∧ v0_at.toInt ≤ 500) (iv0_from : 0 ≤ v0_from.toInt ∧ v0_from.toInt ≤ 500) (iv0_faultKind : 0 ≤ v0_faultKind.toInt ∧ v0_faultKind.toInt ≤ 3) (iv0_lawA : 0 ≤ v0_lawA.toInt ∧ v0_lawA.toInt ≤ 8) (iv0_lawB : 0 ≤ v0_lawB.toInt ∧ v0_lawB.toInt ≤ 8) (iv0_lawC : 0 ≤ v0_lawC.toInt ∧ v0_lawC.toInt ≤ 9) (iv0_isDrawn : 0 ≤ v0_isDrawn.toInt ∧ v0_isDrawn.toInt ≤ 1) (iv0_roundFrom : 0 ≤ v0_roundFrom.toInt ∧ v0_roundFrom.toInt ≤ 648) (iv0_roundTo : 0 ≤ v0_roundTo.toInt ∧ v0_roundTo.toInt ≤ 648) (iv0_goLast : 0 ≤ v0_goLast.toInt ∧ v0_goLast.toInt ≤ 8) (iv0_goAnswer : 0 ≤ v0_goAnswer.toInt ∧ v0_goAnswer.toInt ≤ 8) (iv0_lawMany : 0 ≤ v0_lawMany.toInt ∧ v0_lawMany.toInt ≤ 729) (iv0_placeMany : 0 ≤ v0_placeMany.toInt ∧ v0_placeMany.toInt ≤ 100) (pf_world : sg sgWo f_world) (cf_world : 0 < (f_world 9).toInt → 2 ≤ (f_world 0).toInt) : Met l yX12_blind (Cond.code yX12_blind cX12_blind 6 (some .int) :: wsL_law) ({ frames := 2, cells := 0, slots := 0, locals := 35 }) (roP G D (tyL cB cI cJ cZ cS cT) [(mO h0 v0_thrown h_world h_images h_hasImage h_tape v0_taped h_five v0_size v0_at v0_from v0_token v0_value v0_faultKind v0_faultPlace h_fresh h_spokenAt h_heardAt h_lastAt h_answerAt v0_lawA v0_lawB v0_lawC v0_drawX v0_isDrawn v0_lostMany h_heardNow h_seenAt v0_roundFrom v0_roundTo v0_goLast v0_goAnswer v0_goHeard h_fewest h_costNow h_costThen h_lawsOf h_heardBy v0_lawMany v0_askWorst h_placesOf h_sentIn v0_placeMany v0_parentFirst h_lostBy h_many h_width h_numbers h_moving), (h_world, .inl (cI, 53, .inl f_world))] [.ref h0]) (vp_Si (fun r : Int32 => True)) 0 0 (fun _ => False) := by
  refine metRO (own := RX12) (by decide) rfl ?_
  intro p e s m below meth c Q C hP ret
  obtain ⟨hx, hb, hml, hown, hts, hK, hN, hT⟩ := id C
  have hl := lv_entry ([.ref h0]) (n := 6) (Nat.le_of_ble_eq_true rfl)
  rw [lg_entry_eq]
  generalize (lg_sl ([.ref h0]) ++ List.replicate (6 - (lg_sl ([.ref h0])).length) Slot.unset).toArray = ls at hl ⊢
  have hl : lv_has ls 6 [(0, .ref h0)] := hl
  have hP : va_P D vwCl [(mO h0 v0_thrown h_world h_images h_hasImage h_tape v0_taped h_five v0_size v0_at v0_from v0_token v0_value v0_faultKind v0_faultPlace h_fresh h_spokenAt h_heardAt h_lastAt h_answerAt v0_lawA v0_lawB v0_lawC v0_drawX v0_isDrawn v0_lostMany h_heardNow h_seenAt v0_roundFrom v0_roundTo v0_goLast v0_goAnswer v0_goHeard h_fewest h_costNow h_costThen h_lawsOf h_heardBy v0_lawMany v0_askWorst h_placesOf h_sentIn v0_placeMany v0_parentFirst h_lostBy h_many h_width h_numbers h_moving), (h_world, .inl (cI, 53, .inl f_world))] s.heap := hP
  refine lv_aload_n hx hb dX12_blind_0 rfl (lv_at hl 0 rfl) ?_
  refine roi (As := []) (rest := []) ⟨hx, hb, hml, hown, hts⟩ (b_X12_isStation l G D cB cI cJ cZ cS cT h0 v0_thrown h_world h_images h_hasImage h_tape v0_taped h_five v0_size v0_at v0_from v0_token v0_value v0_faultKind v0_faultPlace h_fresh h_spokenAt h_heardAt h_lastAt h_answerAt v0_lawA v0_lawB v0_lawC v0_drawX v0_isDrawn v0_lostMany h_heardNow h_seenAt v0_roundFrom v0_roundTo v0_goLast v0_goAnswer v0_goHeard h_fewest h_costNow h_costThen h_lawsOf h_heardBy v0_lawMany v0_askWorst h_placesOf h_sentIn v0_placeMany v0_parentFirst h_lostBy h_many h_width h_numbers h_moving f_world (by first | assumption | (have := zI0; have := zI1; have := zIm; omega) | decide) (by first | assumption | (have := zI0; have := zI1; have := zIm; omega) | decide) (by first | assumption | (have := zI0; have := zI1; have := zIm; omega) | decide) (by first | assumption | (have := zI0; have := zI1; have := zIm; omega) | decide) (by first | assumption | (have := zI0; have := zI1; have := zIm; omega) | decide) (by first | assumption | (have := zI0; have := zI1; have := zIm; omega) | decide) (by first | assumption | (have := zI0; have := zI1; have := zIm; omega) | decide) (by first | assumption | (have := zI0; have := zI1; have := zIm; omega) | decide) (by first | assumption | (have := zI0; have := zI1; have := zIm; omega) | decide) (by first | assumption | (have := zI0; have := zI1; have := zIm; omega) | decide) (by first | assumption | (have := zI0; have := zI1; have := zIm; omega) | decide) (by first | assumption | (have := zI0; have := zI1; have := zIm; omega) | decide) (by first | assumption | (have := zI0; have := zI1; have := zIm; omega) | decide) (by first | assumption | (have := zI0; have := zI1; have := zIm; omega) | decide) (by first | assumption | (have := zI0; have := zI1; have := zIm; omega) | decide) (by first | assumption | (have := zI0; have := zI1; have := zIm; omega) | decide) (by first | assumption | (have := zI0; have := zI1; have := zIm; omega) | decide)) (cvB (n := 0) (inr24 _ (List.mem_of_getElem? (i := 19) rfl)) (inr24 _ (List.mem_of_getElem? (i := 20) rfl)) (inr24 _ (List.mem_of_getElem? (i := 21) rfl)) (inr1 _ (List.mem_of_getElem? (i := 5) rfl)) (inr24 _ (List.mem_of_getElem? (i := 22) rfl)) (by decide +kernel) hts rfl rfl ⟨Nat.le_of_ble_eq_true rfl, Nat.le_of_ble_eq_true rfl⟩) 0 12 rfl rfl rfl (hP.sub [0, 1] rfl) hK hN hT rfl hl.1 rfl (Nat.le_of_ble_eq_true rfl) ⟨Nat.le_of_ble_eq_true rfl, Nat.le_of_ble_eq_true rfl⟩ dX12_blind_1 (fun r_1 h_2 => ?_)
  have h_2 : ((r_1.toInt = 1 ∧ 0 < (f_world 9).toInt) ∨ (r_1.toInt = 0 ∧ (f_world 9).toInt ≤ 0)) ∧ (r_1 = 0 ∨ r_1 = 1) := h_2
  obtain ⟨i_3, i_4⟩ := h_2
  have ar_1 : 0 ≤ r_1.toInt ∧ r_1.toInt ≤ 1 := by rcases i_4 with h | h <;> rw [h] <;> decide
  refine lv_if_ne (tgt := 10) hx hb dX12_blind_4 (by decide) (fun c_5 => ?_) (fun c_5 => ?_)
  · have c_5 : ¬ r_1.toInt = 0 := ci_ne_t c_5
    have b_r_1 := i32b r_1
    have d_6 : 0 < (f_world 9).toInt := by omega
    clear i_3
    refine lv_iconst (v := 0) hx hb dX12_blind_10 (by decide) ?_
    refine lv_istore_n (lv' := [(1, .int 0), (0, .ref h0)]) hx hb dX12_blind_11 rfl hl (by decide) rfl (fun ls hl => ?_)
    refine lv_iconst (v := 0) hx hb dX12_blind_12 (by decide) ?_
    refine lv_istore_n (lv' := [(2, .int 0), (1, .int 0), (0, .ref h0)]) hx hb dX12_blind_13 rfl hl (by decide) rfl (fun ls hl => ?_)
    exact b_X12_blind_l14 h0 v0_thrown h_world h_images h_hasImage h_tape v0_taped h_five v0_size v0_at v0_from v0_token v0_value v0_faultKind v0_faultPlace h_fresh h_spokenAt h_heardAt h_lastAt h_answerAt v0_lawA v0_lawB v0_lawC v0_drawX v0_isDrawn v0_lostMany h_heardNow h_seenAt v0_roundFrom v0_roundTo v0_goLast v0_goAnswer v0_goHeard h_fewest h_costNow h_costThen h_lawsOf h_heardBy v0_lawMany v0_askWorst h_placesOf h_sentIn v0_placeMany v0_parentFirst h_lostBy h_many h_width h_numbers h_moving f_world (by first | assumption | (have := zI0; have := zI1; have := zIm; omega) | decide) (by first | assumption | (have := zI0; have := zI1; have := zIm; omega) | decide) (by first | assumption | (have := zI0; have := zI1; have := zIm; omega) | decide) (by first | assumption | (have := zI0; have := zI1; have := zIm; omega) | decide) (by first | assumption | (have := zI0; have := zI1; have := zIm; omega) | decide) (by first | assumption | (have := zI0; have := zI1; have := zIm; omega) | decide) (by first | assumption | (have := zI0; have := zI1; have := zIm; omega) | decide) (by first | assumption | (have := zI0; have := zI1; have := zIm; omega) | decide) (by first | assumption | (have := zI0; have := zI1; have := zIm; omega) | decide) (by first | assumption | (have := zI0; have := zI1; have := zIm; omega) | decide) (by first | assumption | (have := zI0; have := zI1; have := zIm; omega) | decide) (by first | assumption | (have := zI0; have := zI1; have := zIm; omega) | decide) (by first | assumption | (have := zI0; have := zI1; have := zIm; omega) | decide) (by first | assumption | (have := zI0; have := zI1; have := zIm; omega) | decide) (by first | assumption | (have := zI0; have := zI1; have := zIm; omega) | decide) (by first | assumption | (have := zI0; have := zI1; have := zIm; omega) | decide) (by first | assumption | (have := zI0; have := zI1; have := zIm; omega) | decide) (by first | assumption | (have := zI0; have := zI1; have := zIm; omega) | decide) C (hP.sub [0, 1] rfl) ret _ (0) (0) _ (by first | assumption | (have := zI0; have := zI1; have := zIm; omega) | decide) (Nat.lt_succ_self _) (lv_sub hl [0, 1, 2] rfl)
  · have c_5 : r_1.toInt = 0 := ci_ne_f c_5
    have b_r_1 := i32b r_1
    have d_7 : (f_world 9).toInt ≤ 0 := by omega
    clear i_3
    refine lv_bipush (v := (-2)) hx hb dX12_blind_7 (by decide) ?_
    exact ret _ _ _ dX12_blind_9 trivial

set_option maxHeartbeats 4000000 in
set_option maxRecDepth 100000 in
theorem b_X12_layParents_l32 {p : Program} {l : Launch} {e : Env} {s : State} {m : MethodId} {args : Array Value} {below : List Frame} {meth : Method} {c : Code} {Q : State → Prop} {G : Gho} {D : va_G} {cB cI cJ cZ cS cT : ClassId} {A : Nat → Prop} (h0 : Nat) (v0_thrown : Int32) (h_world : Nat) (h_images : Nat) (h_hasImage : Nat) (h_tape : Nat) (v0_taped : Int32) (h_five : Nat) (v0_size : Int32) (v0_at : Int32) (v0_from : Int32) (v0_token : Int32) (v0_value : Int32) (v0_faultKind : Int32) (v0_faultPlace : Int32) (h_fresh : Nat) (h_spokenAt : Nat) (h_heardAt : Nat) (h_lastAt : Nat) (h_answerAt : Nat) (v0_lawA : Int32) (v0_lawB : Int32) (v0_lawC : Int32) (v0_drawX : Int64) (v0_isDrawn : Int32) (v0_lostMany : Int32) (h_heardNow : Nat) (h_seenAt : Nat) (v0_roundFrom : Int32) (v0_roundTo : Int32) (v0_goLast : Int32) (v0_goAnswer : Int32) (v0_goHeard : Int32) (h_fewest : Nat) (h_costNow : Nat) (h_costThen : Nat) (h_lawsOf : Nat) (h_heardBy : Nat) (v0_lawMany : Int32) (v0_askWorst : Int32) (h_placesOf : Nat) (h_sentIn : Nat) (v0_placeMany : Int32) (h_lostBy : Nat) (h_many : Nat) (h_width : Nat) (h_numbers : Nat) (h_moving : Nat) (f_world : Nat → Int32) (v1 : Int32) (l17_3 : Int32) (u17_0_parentFirst : Int32) (l17_2 : Int32) (N_17 : Nat) (iv0_taped : 0 ≤ v0_taped.toInt ∧ v0_taped.toInt ≤ 500) (iv0_size : 0 ≤ v0_size.toInt ∧ v0_size.toInt ≤ 500) (iv0_at : 0 ≤ v0_at.toInt ∧ v0_at.toInt ≤ 500) (iv0_from : 0 ≤ v0_from.toInt ∧ v0_from.toInt ≤ 500) (iv0_faultKind : 0 ≤ v0_faultKind.toInt ∧ v0_faultKind.toInt ≤ 3) (iv0_lawA : 0 ≤ v0_lawA.toInt ∧ v0_lawA.toInt ≤ 8) (iv0_lawB : 0 ≤ v0_lawB.toInt ∧ v0_lawB.toInt ≤ 8) (iv0_lawC : 0 ≤ v0_lawC.toInt ∧ v0_lawC.toInt ≤ 9) (iv0_isDrawn : 0 ≤ v0_isDrawn.toInt ∧ v0_isDrawn.toInt ≤ 1) (iv0_roundFrom : 0 ≤ v0_roundFrom.toInt ∧ v0_roundFrom.toInt ≤ 648) (iv0_roundTo : 0 ≤ v0_roundTo.toInt ∧ v0_roundTo.toInt ≤ 648) (iv0_goLast : 0 ≤ v0_goLast.toInt ∧ v0_goLast.toInt ≤ 8) (iv0_goAnswer : 0 ≤ v0_goAnswer.toInt ∧ v0_goAnswer.toInt ≤ 8) (iv0_lawMany : 0 ≤ v0_lawMany.toInt ∧ v0_lawMany.toInt ≤ 729) (iv0_placeMany : 0 ≤ v0_placeMany.toInt ∧ v0_placeMany.toInt ≤ 100) (pf_world : sg sgWo f_world) (cf_world : 0 < (f_world 9).toInt → 2 ≤ (f_world 0).toInt) (h0w : 2 ≤ (f_world 0).toInt) (zl17_3 : 0 ≤ l17_3.toInt ∧ l17_3.toInt ≤ 7) (kl17_3 : (-1) ≤ l17_3.toInt ∧ l17_3.toInt ≤ 7) (c_3 : 0 ≤ l17_3.toInt) (ih_17 : ∀ (u17_0_parentFirst : Int32) (l17_3 : Int32) (l17_2 : Int32) (H : Heap) (locs : List Loc) (ls : Array Slot), (-1) ≤ l17_3.toInt ∧ l17_3.toInt ≤ 7 → (l17_3.toInt - 0 + 1).toNat < N_17 → va_P D vwCl [(mO h0 v0_thrown h_world h_images h_hasImage h_tape v0_taped h_five v0_size v0_at v0_from v0_token v0_value v0_faultKind v0_faultPlace h_fresh h_spokenAt h_heardAt h_lastAt h_answerAt v0_lawA v0_lawB v0_lawC v0_drawX v0_isDrawn v0_lostMany h_heardNow h_seenAt v0_roundFrom v0_roundTo v0_goLast v0_goAnswer v0_goHeard h_fewest h_costNow h_costThen h_lawsOf h_heardBy v0_lawMany v0_askWorst h_placesOf h_sentIn v0_placeMany u17_0_parentFirst h_lostBy h_many h_width h_numbers h_moving), (h_world, .inl (cI, 53, .inl f_world))] H → va_D A [(mO h0 v0_thrown h_world h_images h_hasImage h_tape v0_taped h_five v0_size v0_at v0_from v0_token v0_value v0_faultKind v0_faultPlace h_fresh h_spokenAt h_heardAt h_lastAt h_answerAt v0_lawA v0_lawB v0_lawC v0_drawX v0_isDrawn v0_lostMany h_heardNow h_seenAt v0_roundFrom v0_roundTo v0_goLast v0_goAnswer v0_goHeard h_fewest h_costNow h_costThen h_lawsOf h_heardBy v0_lawMany v0_askWorst h_placesOf h_sentIn v0_placeMany u17_0_parentFirst h_lostBy h_many h_width h_numbers h_moving), (h_world, .inl (cI, 53, .inl f_world))] → va_S A s.heap H locs → lv_has ls 7 [(3, .int l17_3), (2, .int l17_2), (0, .ref h0), (1, .int v1)] → W p l e ({ frames := 0, cells := 0, slots := 0, locals := 0 }) s m args below meth c H locs 0 0 Q (F0 m 17 ls [])) (hM_17 : (l17_3.toInt - 0 + 1).toNat < N_17 + 1) (C : Cx p s m args c RX12 cX12_layParents 7 G D (tyL cB cI cJ cZ cS cT)) (hG : G.1 ≤ s.heap.size) (hAB : ∀ q, A q → G.1 ≤ q) (hA : ∀ q : Nat, s.heap.size ≤ q → A q) (ret : RetI p l e ({ frames := 0, cells := 0, slots := 0, locals := 0 }) s m args below meth c cX12_layParents D A (fun x : Int32 => [(mO h0 v0_thrown h_world h_images h_hasImage h_tape v0_taped h_five v0_size v0_at v0_from v0_token v0_value v0_faultKind v0_faultPlace h_fresh h_spokenAt h_heardAt h_lastAt h_answerAt v0_lawA v0_lawB v0_lawC v0_drawX v0_isDrawn v0_lostMany h_heardNow h_seenAt v0_roundFrom v0_roundTo v0_goLast v0_goAnswer v0_goHeard h_fewest h_costNow h_costThen h_lawsOf h_heardBy v0_lawMany v0_askWorst h_placesOf h_sentIn v0_placeMany x h_lostBy h_many h_width h_numbers h_moving), (h_world, .inl (cI, 53, .inl f_world))]) (fun (r : Int32) (x : Int32) => True) Q) :
    ∀ (N : Nat) (u32_0_parentFirst : Int32) (l32_4 : Int32) (l32_2 : Int32) (H : Heap) (locs : List Loc) (ls : Array Slot), l32_4.toInt ≤ 7 → (l32_4.toInt - l17_3.toInt).toNat < N → va_P D vwCl [(mO h0 v0_thrown h_world h_images h_hasImage h_tape v0_taped h_five v0_size v0_at v0_from v0_token v0_value v0_faultKind v0_faultPlace h_fresh h_spokenAt h_heardAt h_lastAt h_answerAt v0_lawA v0_lawB v0_lawC v0_drawX v0_isDrawn v0_lostMany h_heardNow h_seenAt v0_roundFrom v0_roundTo v0_goLast v0_goAnswer v0_goHeard h_fewest h_costNow h_costThen h_lawsOf h_heardBy v0_lawMany v0_askWorst h_placesOf h_sentIn v0_placeMany u32_0_parentFirst h_lostBy h_many h_width h_numbers h_moving), (h_world, .inl (cI, 53, .inl f_world))] H → va_D A [(mO h0 v0_thrown h_world h_images h_hasImage h_tape v0_taped h_five v0_size v0_at v0_from v0_token v0_value v0_faultKind v0_faultPlace h_fresh h_spokenAt h_heardAt h_lastAt h_answerAt v0_lawA v0_lawB v0_lawC v0_drawX v0_isDrawn v0_lostMany h_heardNow h_seenAt v0_roundFrom v0_roundTo v0_goLast v0_goAnswer v0_goHeard h_fewest h_costNow h_costThen h_lawsOf h_heardBy v0_lawMany v0_askWorst h_placesOf h_sentIn v0_placeMany u32_0_parentFirst h_lostBy h_many h_width h_numbers h_moving), (h_world, .inl (cI, 53, .inl f_world))] → va_S A s.heap H locs → lv_has ls 7 [(4, .int l32_4), (3, .int l17_3), (2, .int l32_2), (0, .ref h0), (1, .int v1)] → W p l e ({ frames := 0, cells := 0, slots := 0, locals := 0 }) s m args below meth c H locs 0 0 Q (F0 m 32 ls []) := by
  obtain ⟨hx, hb, hml, hown, hts, hK, hN, hT⟩ := id C
  intro N
  induction N with
  | zero =>
    intro u32_0_parentFirst l32_4 l32_2 H locs ls kl32_4 hM_32 hP hD hS hl
    omega
  | succ N_32 ih_32 =>
    intro u32_0_parentFirst l32_4 l32_2 H locs ls kl32_4 hM_32 hP hD hS hl
    have b_l32_4 := i32b l32_4
    refine lv_iload hx hb dX12_layParents_32 (lv_at hl 0 rfl) ?_
    refine lv_iload_n hx hb dX12_layParents_34 rfl (lv_at hl 1 rfl) ?_
    refine lv_icmp_le (tgt := 119) hx hb dX12_layParents_35 (by decide) (fun c_6 => ?_) (fun c_6 => ?_)
    · have c_6 : l32_4.toInt ≤ l17_3.toInt := ci_le_t c_6
      have b_l17_3 := i32b l17_3
      obtain ⟨t_7, et_7⟩ : ∃ v9 : Int32, l17_3 + (-1) = v9 := ⟨_, rfl⟩
      have ft_7 : t_7.toInt = l17_3.toInt + (-1) := addT (a := l17_3.toInt) (b := (-1)) rfl (by decide) et_7 (by omega) (by omega)
      refine lv_iinc (v := t_7) (lv' := [(3, .int t_7), (4, .int l32_4), (2, .int l32_2), (0, .ref h0), (1, .int v1)]) hx hb dX12_layParents_119 hl (k := 1) rfl (by rw [← et_7]; rfl) (by decide) rfl (fun ls hl => ?_)
      refine lv_goto (tgt := 17) hx hb dX12_layParents_122 (by decide) ?_
      exact ih_17 (u32_0_parentFirst) (t_7) (l32_2) _ _ _ (by first | assumption | (have := zI0; have := zI1; have := zIm; omega) | decide) (by omega) (hP.sub [0, 1] rfl) (hD.sub [0, 1] (by decide) rfl) hS (lv_sub hl [0, 2, 3, 4] rfl)
    · have c_6 : l17_3.toInt < l32_4.toInt := ci_le_f c_6
      have b_l17_3 := i32b l17_3
      refine lv_aload_n hx hb dX12_layParents_38 rfl (lv_at hl 3 rfl) ?_
      refine va_get (D := D) (ci := 12) (v := .ref h_world) (C := RX12) (T := TX12) (N := 48) hx hb hts inlX12 hown hK hP 0 rfl rfl 1 (by decide) (hts _ (inr6 _ (List.mem_of_getElem? (i := 16) rfl))) (fun _ h9 => h9) rfl dX12_layParents_39 ?_
      refine lv_bipush (v := 10) hx hb dX12_layParents_42 (by decide) ?_
      refine lv_iload_n hx hb dX12_layParents_44 rfl (lv_at hl 1 rfl) ?_
      obtain ⟨t_8, et_8⟩ : ∃ v9 : Int32, 10 + l17_3 = v9 := ⟨_, rfl⟩
      refine z_iadd (v := t_8) hx hb dX12_layParents_45 et_8 ?_
      have ft_8 : t_8.toInt = 10 + l17_3.toInt := addT (a := 10) (b := l17_3.toInt) (by decide) rfl et_8 (by omega) (by omega)
      obtain ⟨t_9, et_9⟩ : ∃ v9 : Int32, f_world (t_8 : Int32).toNatClampNeg = v9 := ⟨_, rfl⟩
      refine z_iald (v := t_9) hx hb hK hP 1 1 rfl rfl (vin_nat (by omega) (by omega)) et_9 dX12_layParents_46 ?_
      have ft_9 : (-1) ≤ t_9.toInt ∧ t_9.toInt ≤ 8 := sgL (by assumption : sg sgWo f_world) 6 rfl (by omega) (by omega) (by omega) et_9
      refine lv_istore (lv' := [(5, .int t_9), (4, .int l32_4), (3, .int l17_3), (2, .int l32_2), (0, .ref h0), (1, .int v1)]) hx hb dX12_layParents_47 hl (by decide) rfl (fun ls hl => ?_)
      refine lv_aload_n hx hb dX12_layParents_49 rfl (lv_at hl 4 rfl) ?_
      refine va_get (D := D) (ci := 12) (v := .ref h_world) (C := RX12) (T := TX12) (N := 48) hx hb hts inlX12 hown hK hP 0 rfl rfl 1 (by decide) (hts _ (inr6 _ (List.mem_of_getElem? (i := 16) rfl))) (fun _ h9 => h9) rfl dX12_layParents_50 ?_
      refine lv_bipush (v := 10) hx hb dX12_layParents_53 (by decide) ?_
      refine lv_iload hx hb dX12_layParents_55 (lv_at hl 1 rfl) ?_
      obtain ⟨t_10, et_10⟩ : ∃ v9 : Int32, 10 + l32_4 = v9 := ⟨_, rfl⟩
      refine z_iadd (v := t_10) hx hb dX12_layParents_57 et_10 ?_
      have ft_10 : t_10.toInt = 10 + l32_4.toInt := addT (a := 10) (b := l32_4.toInt) (by decide) rfl et_10 (by omega) (by omega)
      obtain ⟨t_11, et_11⟩ : ∃ v9 : Int32, f_world (t_10 : Int32).toNatClampNeg = v9 := ⟨_, rfl⟩
      refine z_iald (v := t_11) hx hb hK hP 1 1 rfl rfl (vin_nat (by omega) (by omega)) et_11 dX12_layParents_58 ?_
      have ft_11 : (-1) ≤ t_11.toInt ∧ t_11.toInt ≤ 8 := sgL (by assumption : sg sgWo f_world) 6 rfl (by omega) (by omega) (by omega) et_11
      refine lv_istore (lv' := [(6, .int t_11), (5, .int t_9), (4, .int l32_4), (3, .int l17_3), (2, .int l32_2), (0, .ref h0), (1, .int v1)]) hx hb dX12_layParents_59 hl (by decide) rfl (fun ls hl => ?_)
      refine lv_iload hx hb dX12_layParents_61 (lv_at hl 1 rfl) ?_
      refine lv_iconst (v := (-1)) hx hb dX12_layParents_63 (by decide) ?_
      refine lv_icmp_eq (tgt := 113) hx hb dX12_layParents_64 (by decide) (fun c_12 => ?_) (fun c_12 => ?_)
      · have c_12 : t_9.toInt = (-1) := ci_eq_t c_12
        have b_t_9 := i32b t_9
        obtain ⟨t_13, et_13⟩ : ∃ v9 : Int32, l32_4 + (-1) = v9 := ⟨_, rfl⟩
        have ft_13 : t_13.toInt = l32_4.toInt + (-1) := addT (a := l32_4.toInt) (b := (-1)) rfl (by decide) et_13 (by omega) (by omega)
        refine lv_iinc (v := t_13) (lv' := [(4, .int t_13), (6, .int t_11), (5, .int t_9), (3, .int l17_3), (2, .int l32_2), (0, .ref h0), (1, .int v1)]) hx hb dX12_layParents_113 hl (k := 2) rfl (by rw [← et_13]; rfl) (by decide) rfl (fun ls hl => ?_)
        refine lv_goto (tgt := 32) hx hb dX12_layParents_116 (by decide) ?_
        exact ih_32 (u32_0_parentFirst) (t_13) (l32_2) _ _ _ (by first | assumption | (have := zI0; have := zI1; have := zIm; omega) | decide) (by omega) (hP.sub [0, 1] rfl) (hD.sub [0, 1] (by decide) rfl) hS (lv_sub hl [0, 3, 4, 5, 6] rfl)
      · have c_12 : ¬ t_9.toInt = (-1) := ci_eq_f c_12
        have b_t_9 := i32b t_9
        refine lv_iload hx hb dX12_layParents_67 (lv_at hl 0 rfl) ?_
        refine lv_iconst (v := (-1)) hx hb dX12_layParents_69 (by decide) ?_
        refine lv_icmp_eq (tgt := 113) hx hb dX12_layParents_70 (by decide) (fun c_14 => ?_) (fun c_14 => ?_)
        · have c_14 : t_11.toInt = (-1) := ci_eq_t c_14
          have b_t_11 := i32b t_11
          obtain ⟨t_15, et_15⟩ : ∃ v9 : Int32, l32_4 + (-1) = v9 := ⟨_, rfl⟩
          have ft_15 : t_15.toInt = l32_4.toInt + (-1) := addT (a := l32_4.toInt) (b := (-1)) rfl (by decide) et_15 (by omega) (by omega)
          refine lv_iinc (v := t_15) (lv' := [(4, .int t_15), (6, .int t_11), (5, .int t_9), (3, .int l17_3), (2, .int l32_2), (0, .ref h0), (1, .int v1)]) hx hb dX12_layParents_113 hl (k := 2) rfl (by rw [← et_15]; rfl) (by decide) rfl (fun ls hl => ?_)
          refine lv_goto (tgt := 32) hx hb dX12_layParents_116 (by decide) ?_
          exact ih_32 (u32_0_parentFirst) (t_15) (l32_2) _ _ _ (by first | assumption | (have := zI0; have := zI1; have := zIm; omega) | decide) (by omega) (hP.sub [0, 1] rfl) (hD.sub [0, 1] (by decide) rfl) hS (lv_sub hl [0, 3, 4, 5, 6] rfl)
        · have c_14 : ¬ t_11.toInt = (-1) := ci_eq_f c_14
          have b_t_11 := i32b t_11
          refine lv_iload hx hb dX12_layParents_73 (lv_at hl 1 rfl) ?_
          refine lv_iload hx hb dX12_layParents_75 (lv_at hl 0 rfl) ?_
          refine lv_icmp_eq (tgt := 113) hx hb dX12_layParents_77 (by decide) (fun c_16 => ?_) (fun c_16 => ?_)
          · have c_16 : t_9.toInt = t_11.toInt := ci_eq_t c_16
            obtain ⟨t_17, et_17⟩ : ∃ v9 : Int32, l32_4 + (-1) = v9 := ⟨_, rfl⟩
            have ft_17 : t_17.toInt = l32_4.toInt + (-1) := addT (a := l32_4.toInt) (b := (-1)) rfl (by decide) et_17 (by omega) (by omega)
            refine lv_iinc (v := t_17) (lv' := [(4, .int t_17), (6, .int t_11), (5, .int t_9), (3, .int l17_3), (2, .int l32_2), (0, .ref h0), (1, .int v1)]) hx hb dX12_layParents_113 hl (k := 2) rfl (by rw [← et_17]; rfl) (by decide) rfl (fun ls hl => ?_)
            refine lv_goto (tgt := 32) hx hb dX12_layParents_116 (by decide) ?_
            exact ih_32 (u32_0_parentFirst) (t_17) (l32_2) _ _ _ (by first | assumption | (have := zI0; have := zI1; have := zIm; omega) | decide) (by omega) (hP.sub [0, 1] rfl) (hD.sub [0, 1] (by decide) rfl) hS (lv_sub hl [0, 3, 4, 5, 6] rfl)
          · have c_16 : ¬ t_9.toInt = t_11.toInt := ci_eq_f c_16
            refine lv_iload hx hb dX12_layParents_80 (lv_at hl 1 rfl) ?_
            refine lv_iload hx hb dX12_layParents_82 (lv_at hl 0 rfl) ?_
            obtain ⟨t_18, et_18⟩ : ∃ v9 : Int32, t_9 + t_11 = v9 := ⟨_, rfl⟩
            refine z_iadd (v := t_18) hx hb dX12_layParents_84 et_18 ?_
            have ft_18 : t_18.toInt = t_9.toInt + t_11.toInt := addT (a := t_9.toInt) (b := t_11.toInt) rfl rfl et_18 (by omega) (by omega)
            refine lv_aload_n hx hb dX12_layParents_85 rfl (lv_at hl 5 rfl) ?_
            refine va_get (D := D) (ci := 12) (v := .ref h_world) (C := RX12) (T := TX12) (N := 48) hx hb hts inlX12 hown hK hP 0 rfl rfl 1 (by decide) (hts _ (inr6 _ (List.mem_of_getElem? (i := 16) rfl))) (fun _ h9 => h9) rfl dX12_layParents_86 ?_
            refine lv_iconst (v := 0) hx hb dX12_layParents_89 (by decide) ?_
            obtain ⟨t_19, et_19⟩ : ∃ v9 : Int32, f_world (0 : Int32).toNatClampNeg = v9 := ⟨_, rfl⟩
            refine z_iald (v := t_19) hx hb hK hP 1 1 rfl rfl (by unfold vp_in; decide) et_19 dX12_layParents_90 ?_
            have ft_19 : 0 ≤ t_19.toInt ∧ t_19.toInt ≤ 9 := sgL (by assumption : sg sgWo f_world) 0 rfl (by decide) (by decide) (by decide) et_19
            have qt_19 : (f_world 0).toInt = t_19.toInt := by rw [← et_19]; rfl
            have Ft_19 : 2 ≤ t_19.toInt ∧ t_19.toInt ≤ 9 := by omega
            obtain ⟨t_20, et_20⟩ : ∃ v9 : Int32, t_18 - t_18 / t_19 * t_19 = v9 := ⟨_, rfl⟩
            refine z_irem (v := t_20) hx hb dX12_layParents_91 (ne0T (by omega)) et_20 ?_
            have b_t_18 := i32b t_18
            have b_t_19 := i32b t_19
            have ft_20 := remT (by omega) (by omega) et_20
            have Et_20 : t_20.toInt = t_18.toInt % t_19.toInt := remE (by omega) (by omega) et_20
            refine lv_iload_n hx hb dX12_layParents_92 rfl (lv_at hl 6 rfl) ?_
            refine lv_icmp_eq (tgt := 99) hx hb dX12_layParents_93 (by decide) (fun c_21 => ?_) (fun c_21 => ?_)
            · have c_21 : t_20.toInt = v1.toInt := ci_eq_t c_21
              have b_t_20 := i32b t_20
              have b_v1 := i32b v1
              refine lv_aload_n hx hb dX12_layParents_99 rfl (lv_at hl 5 rfl) ?_
              refine lv_bipush (v := 10) hx hb dX12_layParents_100 (by decide) ?_
              refine lv_iload_n hx hb dX12_layParents_102 rfl (lv_at hl 3 rfl) ?_
              obtain ⟨t_22, et_22⟩ : ∃ v9 : Int32, 10 * l17_3 = v9 := ⟨_, rfl⟩
              refine z_imul (v := t_22) hx hb dX12_layParents_103 et_22 ?_
              have ft_22 : t_22.toInt = 10 * l17_3.toInt := mulT (a := 10) (b := l17_3.toInt) (by decide) rfl et_22 (by omega) (by omega)
              refine lv_iload hx hb dX12_layParents_104 (lv_at hl 2 rfl) ?_
              obtain ⟨t_23, et_23⟩ : ∃ v9 : Int32, t_22 + l32_4 = v9 := ⟨_, rfl⟩
              refine z_iadd (v := t_23) hx hb dX12_layParents_106 et_23 ?_
              have b_t_22 := i32b t_22
              have ft_23 : t_23.toInt = t_22.toInt + l32_4.toInt := addT (a := t_22.toInt) (b := l32_4.toInt) rfl rfl et_23 (by omega) (by omega)
              refine va_put (D := D) (ci := 12) (v := .int t_23) (ty := .int) (C := RX12) (T := TX12) (N := 48) hx hb hts inlX12 tyX12 tyX12_ok nmX12 hown hK hP hD hS 0 rfl rfl 42 (by decide) (hts _ (inr60 _ (List.mem_of_getElem? (i := 17) rfl))) (fun _ h9 => h9) rfl (by decide +kernel) rfl rfl (Nat.le_of_ble_eq_true rfl) dX12_layParents_107 (fun H locs hP hD hS => ?_)
              have hP : va_P D vwCl [(mO h0 v0_thrown h_world h_images h_hasImage h_tape v0_taped h_five v0_size v0_at v0_from v0_token v0_value v0_faultKind v0_faultPlace h_fresh h_spokenAt h_heardAt h_lastAt h_answerAt v0_lawA v0_lawB v0_lawC v0_drawX v0_isDrawn v0_lostMany h_heardNow h_seenAt v0_roundFrom v0_roundTo v0_goLast v0_goAnswer v0_goHeard h_fewest h_costNow h_costThen h_lawsOf h_heardBy v0_lawMany v0_askWorst h_placesOf h_sentIn v0_placeMany t_23 h_lostBy h_many h_width h_numbers h_moving), (h_world, .inl (cI, 53, .inl f_world))] H := hP
              have hD : va_D A [(mO h0 v0_thrown h_world h_images h_hasImage h_tape v0_taped h_five v0_size v0_at v0_from v0_token v0_value v0_faultKind v0_faultPlace h_fresh h_spokenAt h_heardAt h_lastAt h_answerAt v0_lawA v0_lawB v0_lawC v0_drawX v0_isDrawn v0_lostMany h_heardNow h_seenAt v0_roundFrom v0_roundTo v0_goLast v0_goAnswer v0_goHeard h_fewest h_costNow h_costThen h_lawsOf h_heardBy v0_lawMany v0_askWorst h_placesOf h_sentIn v0_placeMany t_23 h_lostBy h_many h_width h_numbers h_moving), (h_world, .inl (cI, 53, .inl f_world))] := hD
              obtain ⟨t_24, et_24⟩ : ∃ v9 : Int32, l32_2 + 1 = v9 := ⟨_, rfl⟩
              refine lv_iinc (v := t_24) (lv' := [(2, .int t_24), (6, .int t_11), (5, .int t_9), (4, .int l32_4), (3, .int l17_3), (0, .ref h0), (1, .int v1)]) hx hb dX12_layParents_110 hl (k := 4) rfl (by rw [← et_24]; rfl) (by decide) rfl (fun ls hl => ?_)
              obtain ⟨t_25, et_25⟩ : ∃ v9 : Int32, l32_4 + (-1) = v9 := ⟨_, rfl⟩
              have ft_25 : t_25.toInt = l32_4.toInt + (-1) := addT (a := l32_4.toInt) (b := (-1)) rfl (by decide) et_25 (by omega) (by omega)
              refine lv_iinc (v := t_25) (lv' := [(4, .int t_25), (2, .int t_24), (6, .int t_11), (5, .int t_9), (3, .int l17_3), (0, .ref h0), (1, .int v1)]) hx hb dX12_layParents_113 hl (k := 3) rfl (by rw [← et_25]; rfl) (by decide) rfl (fun ls hl => ?_)
              refine lv_goto (tgt := 32) hx hb dX12_layParents_116 (by decide) ?_
              exact ih_32 (t_23) (t_25) (t_24) _ _ _ (by first | assumption | (have := zI0; have := zI1; have := zIm; omega) | decide) (by omega) (hP.sub [0, 1] rfl) (hD.sub [0, 1] (by decide) rfl) hS (lv_sub hl [0, 4, 1, 5, 6] rfl)
            · have c_21 : ¬ t_20.toInt = v1.toInt := ci_eq_f c_21
              have b_t_20 := i32b t_20
              have b_v1 := i32b v1
              refine lv_goto (tgt := 113) hx hb dX12_layParents_96 (by decide) ?_
              obtain ⟨t_26, et_26⟩ : ∃ v9 : Int32, l32_4 + (-1) = v9 := ⟨_, rfl⟩
              have ft_26 : t_26.toInt = l32_4.toInt + (-1) := addT (a := l32_4.toInt) (b := (-1)) rfl (by decide) et_26 (by omega) (by omega)
              refine lv_iinc (v := t_26) (lv' := [(4, .int t_26), (6, .int t_11), (5, .int t_9), (3, .int l17_3), (2, .int l32_2), (0, .ref h0), (1, .int v1)]) hx hb dX12_layParents_113 hl (k := 2) rfl (by rw [← et_26]; rfl) (by decide) rfl (fun ls hl => ?_)
              refine lv_goto (tgt := 32) hx hb dX12_layParents_116 (by decide) ?_
              exact ih_32 (u32_0_parentFirst) (t_26) (l32_2) _ _ _ (by first | assumption | (have := zI0; have := zI1; have := zIm; omega) | decide) (by omega) (hP.sub [0, 1] rfl) (hD.sub [0, 1] (by decide) rfl) hS (lv_sub hl [0, 3, 4, 5, 6] rfl)

set_option maxHeartbeats 4000000 in
set_option maxRecDepth 100000 in
theorem b_X12_layParents_l17 {p : Program} {l : Launch} {e : Env} {s : State} {m : MethodId} {args : Array Value} {below : List Frame} {meth : Method} {c : Code} {Q : State → Prop} {G : Gho} {D : va_G} {cB cI cJ cZ cS cT : ClassId} {A : Nat → Prop} (h0 : Nat) (v0_thrown : Int32) (h_world : Nat) (h_images : Nat) (h_hasImage : Nat) (h_tape : Nat) (v0_taped : Int32) (h_five : Nat) (v0_size : Int32) (v0_at : Int32) (v0_from : Int32) (v0_token : Int32) (v0_value : Int32) (v0_faultKind : Int32) (v0_faultPlace : Int32) (h_fresh : Nat) (h_spokenAt : Nat) (h_heardAt : Nat) (h_lastAt : Nat) (h_answerAt : Nat) (v0_lawA : Int32) (v0_lawB : Int32) (v0_lawC : Int32) (v0_drawX : Int64) (v0_isDrawn : Int32) (v0_lostMany : Int32) (h_heardNow : Nat) (h_seenAt : Nat) (v0_roundFrom : Int32) (v0_roundTo : Int32) (v0_goLast : Int32) (v0_goAnswer : Int32) (v0_goHeard : Int32) (h_fewest : Nat) (h_costNow : Nat) (h_costThen : Nat) (h_lawsOf : Nat) (h_heardBy : Nat) (v0_lawMany : Int32) (v0_askWorst : Int32) (h_placesOf : Nat) (h_sentIn : Nat) (v0_placeMany : Int32) (h_lostBy : Nat) (h_many : Nat) (h_width : Nat) (h_numbers : Nat) (h_moving : Nat) (f_world : Nat → Int32) (v1 : Int32) (iv0_taped : 0 ≤ v0_taped.toInt ∧ v0_taped.toInt ≤ 500) (iv0_size : 0 ≤ v0_size.toInt ∧ v0_size.toInt ≤ 500) (iv0_at : 0 ≤ v0_at.toInt ∧ v0_at.toInt ≤ 500) (iv0_from : 0 ≤ v0_from.toInt ∧ v0_from.toInt ≤ 500) (iv0_faultKind : 0 ≤ v0_faultKind.toInt ∧ v0_faultKind.toInt ≤ 3) (iv0_lawA : 0 ≤ v0_lawA.toInt ∧ v0_lawA.toInt ≤ 8) (iv0_lawB : 0 ≤ v0_lawB.toInt ∧ v0_lawB.toInt ≤ 8) (iv0_lawC : 0 ≤ v0_lawC.toInt ∧ v0_lawC.toInt ≤ 9) (iv0_isDrawn : 0 ≤ v0_isDrawn.toInt ∧ v0_isDrawn.toInt ≤ 1) (iv0_roundFrom : 0 ≤ v0_roundFrom.toInt ∧ v0_roundFrom.toInt ≤ 648) (iv0_roundTo : 0 ≤ v0_roundTo.toInt ∧ v0_roundTo.toInt ≤ 648) (iv0_goLast : 0 ≤ v0_goLast.toInt ∧ v0_goLast.toInt ≤ 8) (iv0_goAnswer : 0 ≤ v0_goAnswer.toInt ∧ v0_goAnswer.toInt ≤ 8) (iv0_lawMany : 0 ≤ v0_lawMany.toInt ∧ v0_lawMany.toInt ≤ 729) (iv0_placeMany : 0 ≤ v0_placeMany.toInt ∧ v0_placeMany.toInt ≤ 100) (pf_world : sg sgWo f_world) (cf_world : 0 < (f_world 9).toInt → 2 ≤ (f_world 0).toInt) (h0w : 2 ≤ (f_world 0).toInt) (C : Cx p s m args c RX12 cX12_layParents 7 G D (tyL cB cI cJ cZ cS cT)) (hG : G.1 ≤ s.heap.size) (hAB : ∀ q, A q → G.1 ≤ q) (hA : ∀ q : Nat, s.heap.size ≤ q → A q) (ret : RetI p l e ({ frames := 0, cells := 0, slots := 0, locals := 0 }) s m args below meth c cX12_layParents D A (fun x : Int32 => [(mO h0 v0_thrown h_world h_images h_hasImage h_tape v0_taped h_five v0_size v0_at v0_from v0_token v0_value v0_faultKind v0_faultPlace h_fresh h_spokenAt h_heardAt h_lastAt h_answerAt v0_lawA v0_lawB v0_lawC v0_drawX v0_isDrawn v0_lostMany h_heardNow h_seenAt v0_roundFrom v0_roundTo v0_goLast v0_goAnswer v0_goHeard h_fewest h_costNow h_costThen h_lawsOf h_heardBy v0_lawMany v0_askWorst h_placesOf h_sentIn v0_placeMany x h_lostBy h_many h_width h_numbers h_moving), (h_world, .inl (cI, 53, .inl f_world))]) (fun (r : Int32) (x : Int32) => True) Q) :
    ∀ (N : Nat) (u17_0_parentFirst : Int32) (l17_3 : Int32) (l17_2 : Int32) (H : Heap) (locs : List Loc) (ls : Array Slot), (-1) ≤ l17_3.toInt ∧ l17_3.toInt ≤ 7 → (l17_3.toInt - 0 + 1).toNat < N → va_P D vwCl [(mO h0 v0_thrown h_world h_images h_hasImage h_tape v0_taped h_five v0_size v0_at v0_from v0_token v0_value v0_faultKind v0_faultPlace h_fresh h_spokenAt h_heardAt h_lastAt h_answerAt v0_lawA v0_lawB v0_lawC v0_drawX v0_isDrawn v0_lostMany h_heardNow h_seenAt v0_roundFrom v0_roundTo v0_goLast v0_goAnswer v0_goHeard h_fewest h_costNow h_costThen h_lawsOf h_heardBy v0_lawMany v0_askWorst h_placesOf h_sentIn v0_placeMany u17_0_parentFirst h_lostBy h_many h_width h_numbers h_moving), (h_world, .inl (cI, 53, .inl f_world))] H → va_D A [(mO h0 v0_thrown h_world h_images h_hasImage h_tape v0_taped h_five v0_size v0_at v0_from v0_token v0_value v0_faultKind v0_faultPlace h_fresh h_spokenAt h_heardAt h_lastAt h_answerAt v0_lawA v0_lawB v0_lawC v0_drawX v0_isDrawn v0_lostMany h_heardNow h_seenAt v0_roundFrom v0_roundTo v0_goLast v0_goAnswer v0_goHeard h_fewest h_costNow h_costThen h_lawsOf h_heardBy v0_lawMany v0_askWorst h_placesOf h_sentIn v0_placeMany u17_0_parentFirst h_lostBy h_many h_width h_numbers h_moving), (h_world, .inl (cI, 53, .inl f_world))] → va_S A s.heap H locs → lv_has ls 7 [(3, .int l17_3), (2, .int l17_2), (0, .ref h0), (1, .int v1)] → W p l e ({ frames := 0, cells := 0, slots := 0, locals := 0 }) s m args below meth c H locs 0 0 Q (F0 m 17 ls []) := by
  obtain ⟨hx, hb, hml, hown, hts, hK, hN, hT⟩ := id C
  intro N
  induction N with
  | zero =>
    intro u17_0_parentFirst l17_3 l17_2 H locs ls kl17_3 hM_17 hP hD hS hl
    omega
  | succ N_17 ih_17 =>
    intro u17_0_parentFirst l17_3 l17_2 H locs ls kl17_3 hM_17 hP hD hS hl
    have b_l17_3 := i32b l17_3
    refine lv_iload_n hx hb dX12_layParents_17 rfl (lv_at hl 0 rfl) ?_
    refine lv_if_lt (tgt := 125) hx hb dX12_layParents_18 (by decide) (fun c_3 => ?_) (fun c_3 => ?_)
    · have c_3 : l17_3.toInt < 0 := ci_lt_t c_3
      refine lv_iload_n hx hb dX12_layParents_125 rfl (lv_at hl 1 rfl) ?_
      exact ret _ _ _ _ _ u17_0_parentFirst dX12_layParents_126 trivial (hP.sub [0, 1] rfl) (hD.sub [0, 1] (by decide) rfl) hS
    · have c_3 : 0 ≤ l17_3.toInt := ci_lt_f c_3
      refine lv_aload_n hx hb dX12_layParents_21 rfl (lv_at hl 2 rfl) ?_
      refine va_get (D := D) (ci := 12) (v := .ref h_world) (C := RX12) (T := TX12) (N := 48) hx hb hts inlX12 hown hK hP 0 rfl rfl 1 (by decide) (hts _ (inr6 _ (List.mem_of_getElem? (i := 16) rfl))) (fun _ h9 => h9) rfl dX12_layParents_22 ?_
      refine lv_bipush (v := 6) hx hb dX12_layParents_25 (by decide) ?_
      obtain ⟨t_4, et_4⟩ : ∃ v9 : Int32, f_world (6 : Int32).toNatClampNeg = v9 := ⟨_, rfl⟩
      refine z_iald (v := t_4) hx hb hK hP 1 1 rfl rfl (by unfold vp_in; decide) et_4 dX12_layParents_27 ?_
      have ft_4 : 0 ≤ t_4.toInt ∧ t_4.toInt ≤ 8 := sgL (by assumption : sg sgWo f_world) 3 rfl (by decide) (by decide) (by decide) et_4
      have qt_4 : (f_world 6).toInt = t_4.toInt := by rw [← et_4]; rfl
      refine lv_iconst (v := 1) hx hb dX12_layParents_28 (by decide) ?_
      obtain ⟨t_5, et_5⟩ : ∃ v9 : Int32, t_4 - 1 = v9 := ⟨_, rfl⟩
      refine z_isub (v := t_5) hx hb dX12_layParents_29 et_5 ?_
      have b_t_4 := i32b t_4
      have ft_5 : t_5.toInt = t_4.toInt - 1 := subT (a := t_4.toInt) (b := 1) rfl (by decide) et_5 (by omega) (by omega)
      refine lv_istore (lv' := [(4, .int t_5), (3, .int l17_3), (2, .int l17_2), (0, .ref h0), (1, .int v1)]) hx hb dX12_layParents_30 hl (by decide) rfl (fun ls hl => ?_)
      exact b_X12_layParents_l32 h0 v0_thrown h_world h_images h_hasImage h_tape v0_taped h_five v0_size v0_at v0_from v0_token v0_value v0_faultKind v0_faultPlace h_fresh h_spokenAt h_heardAt h_lastAt h_answerAt v0_lawA v0_lawB v0_lawC v0_drawX v0_isDrawn v0_lostMany h_heardNow h_seenAt v0_roundFrom v0_roundTo v0_goLast v0_goAnswer v0_goHeard h_fewest h_costNow h_costThen h_lawsOf h_heardBy v0_lawMany v0_askWorst h_placesOf h_sentIn v0_placeMany h_lostBy h_many h_width h_numbers h_moving f_world v1 l17_3 u17_0_parentFirst l17_2 N_17 (by first | assumption | (have := zI0; have := zI1; have := zIm; omega) | decide) (by first | assumption | (have := zI0; have := zI1; have := zIm; omega) | decide) (by first | assumption | (have := zI0; have := zI1; have := zIm; omega) | decide) (by first | assumption | (have := zI0; have := zI1; have := zIm; omega) | decide) (by first | assumption | (have := zI0; have := zI1; have := zIm; omega) | decide) (by first | assumption | (have := zI0; have := zI1; have := zIm; omega) | decide) (by first | assumption | (have := zI0; have := zI1; have := zIm; omega) | decide) (by first | assumption | (have := zI0; have := zI1; have := zIm; omega) | decide) (by first | assumption | (have := zI0; have := zI1; have := zIm; omega) | decide) (by first | assumption | (have := zI0; have := zI1; have := zIm; omega) | decide) (by first | assumption | (have := zI0; have := zI1; have := zIm; omega) | decide) (by first | assumption | (have := zI0; have := zI1; have := zIm; omega) | decide) (by first | assumption | (have := zI0; have := zI1; have := zIm; omega) | decide) (by first | assumption | (have := zI0; have := zI1; have := zIm; omega) | decide) (by first | assumption | (have := zI0; have := zI1; have := zIm; omega) | decide) (by first | assumption | (have := zI0; have := zI1; have := zIm; omega) | decide) (by first | assumption | (have := zI0; have := zI1; have := zIm; omega) | decide) (by first | assumption | (have := zI0; have := zI1; have := zIm; omega) | decide) (by first | assumption | (have := zI0; have := zI1; have := zIm; omega) | decide) (by first | assumption | (have := zI0; have := zI1; have := zIm; omega) | decide) (by first | assumption | (have := zI0; have := zI1; have := zIm; omega) | decide) (by first | assumption | (have := zI0; have := zI1; have := zIm; omega) | decide) (by first | assumption | (have := zI0; have := zI1; have := zIm; omega) | decide) C hG hAB hA ret _ (u17_0_parentFirst) (t_5) (l17_2) _ _ _ (by first | assumption | (have := zI0; have := zI1; have := zIm; omega) | decide) (Nat.lt_succ_self _) (hP.sub [0, 1] rfl) (hD.sub [0, 1] (by decide) rfl) hS (lv_sub hl [0, 1, 2, 3, 4] rfl)

set_option maxHeartbeats 4000000 in
set_option maxRecDepth 100000 in
theorem b_X12_layParents (l : Launch) (G : Gho) (D : va_G) (cB cI cJ cZ cS cT : ClassId) (sz : Nat) (h0 : Nat) (v0_thrown : Int32) (h_world : Nat) (h_images : Nat) (h_hasImage : Nat) (h_tape : Nat) (v0_taped : Int32) (h_five : Nat) (v0_size : Int32) (v0_at : Int32) (v0_from : Int32) (v0_token : Int32) (v0_value : Int32) (v0_faultKind : Int32) (v0_faultPlace : Int32) (h_fresh : Nat) (h_spokenAt : Nat) (h_heardAt : Nat) (h_lastAt : Nat) (h_answerAt : Nat) (v0_lawA : Int32) (v0_lawB : Int32) (v0_lawC : Int32) (v0_drawX : Int64) (v0_isDrawn : Int32) (v0_lostMany : Int32) (h_heardNow : Nat) (h_seenAt : Nat) (v0_roundFrom : Int32) (v0_roundTo : Int32) (v0_goLast : Int32) (v0_goAnswer : Int32) (v0_goHeard : Int32) (h_fewest : Nat) (h_costNow : Nat) (h_costThen : Nat) (h_lawsOf : Nat) (h_heardBy : Nat) (v0_lawMany : Int32) (v0_askWorst : Int32) (h_placesOf : Nat) (h_sentIn : Nat) (v0_placeMany : Int32) (v0_parentFirst : Int32) (h_lostBy : Nat) (h_many : Nat) (h_width : Nat) (h_numbers : Nat) (h_moving : Nat) (f_world : Nat → Int32) (v1 : Int32) (iv0_taped : 0 ≤ v0_taped.toInt ∧ v0_taped.toInt ≤ 500) (iv0_size : 0 ≤ v0_size.toInt ∧ v0_size.toInt ≤ 500) (iv0_at : 0 ≤ v0_at.toInt ∧ v0_at.toInt ≤ 500) (iv0_from : 0 ≤ v0_from.toInt ∧ v0_from.toInt ≤ 500) (iv0_faultKind : 0 ≤ v0_faultKind.toInt ∧ v0_faultKind.toInt ≤ 3) (iv0_lawA : 0 ≤ v0_lawA.toInt ∧ v0_lawA.toInt ≤ 8) (iv0_lawB : 0 ≤ v0_lawB.toInt ∧ v0_lawB.toInt ≤ 8) (iv0_lawC : 0 ≤ v0_lawC.toInt ∧ v0_lawC.toInt ≤ 9) (iv0_isDrawn : 0 ≤ v0_isDrawn.toInt ∧ v0_isDrawn.toInt ≤ 1) (iv0_roundFrom : 0 ≤ v0_roundFrom.toInt ∧ v0_roundFrom.toInt ≤ 648) (iv0_roundTo : 0 ≤ v0_roundTo.toInt ∧ v0_roundTo.toInt ≤ 648) (iv0_goLast : 0 ≤ v0_goLast.toInt ∧ v0_goLast.toInt ≤ 8) (iv0_goAnswer : 0 ≤ v0_goAnswer.toInt ∧ v0_goAnswer.toInt ≤ 8) (iv0_lawMany : 0 ≤ v0_lawMany.toInt ∧ v0_lawMany.toInt ≤ 729) (iv0_placeMany : 0 ≤ v0_placeMany.toInt ∧ v0_placeMany.toInt ≤ 100) (pf_world : sg sgWo f_world) (cf_world : 0 < (f_world 9).toInt → 2 ≤ (f_world 0).toInt) (h0w : 2 ≤ (f_world 0).toInt) : Met l yX12_layParents (Cond.code yX12_layParents cX12_layParents 7 (some .int) :: wsL_law) ({ frames := 0, cells := 0, slots := 0, locals := 0 }) (wrP G D (tyL cB cI cJ cZ cS cT) [(mO h0 v0_thrown h_world h_images h_hasImage h_tape v0_taped h_five v0_size v0_at v0_from v0_token v0_value v0_faultKind v0_faultPlace h_fresh h_spokenAt h_heardAt h_lastAt h_answerAt v0_lawA v0_lawB v0_lawC v0_drawX v0_isDrawn v0_lostMany h_heardNow h_seenAt v0_roundFrom v0_roundTo v0_goLast v0_goAnswer v0_goHeard h_fewest h_costNow h_costThen h_lawsOf h_heardBy v0_lawMany v0_askWorst h_placesOf h_sentIn v0_placeMany v0_parentFirst h_lostBy h_many h_width h_numbers h_moving), (h_world, .inl (cI, 53, .inl f_world))] sz [.ref h0, .int v1]) (va_Qi (fun (r : Int32) (x : Int32) => True) (atW D (tyL cB cI cJ cZ cS cT) (va_A [(mO h0 v0_thrown h_world h_images h_hasImage h_tape v0_taped h_five v0_size v0_at v0_from v0_token v0_value v0_faultKind v0_faultPlace h_fresh h_spokenAt h_heardAt h_lastAt h_answerAt v0_lawA v0_lawB v0_lawC v0_drawX v0_isDrawn v0_lostMany h_heardNow h_seenAt v0_roundFrom v0_roundTo v0_goLast v0_goAnswer v0_goHeard h_fewest h_costNow h_costThen h_lawsOf h_heardBy v0_lawMany v0_askWorst h_placesOf h_sentIn v0_placeMany v0_parentFirst h_lostBy h_many h_width h_numbers h_moving), (h_world, .inl (cI, 53, .inl f_world))] sz) (fun x : Int32 => [(mO h0 v0_thrown h_world h_images h_hasImage h_tape v0_taped h_five v0_size v0_at v0_from v0_token v0_value v0_faultKind v0_faultPlace h_fresh h_spokenAt h_heardAt h_lastAt h_answerAt v0_lawA v0_lawB v0_lawC v0_drawX v0_isDrawn v0_lostMany h_heardNow h_seenAt v0_roundFrom v0_roundTo v0_goLast v0_goAnswer v0_goHeard h_fewest h_costNow h_costThen h_lawsOf h_heardBy v0_lawMany v0_askWorst h_placesOf h_sentIn v0_placeMany x h_lostBy h_many h_width h_numbers h_moving), (h_world, .inl (cI, 53, .inl f_world))])) (va_A [(mO h0 v0_thrown h_world h_images h_hasImage h_tape v0_taped h_five v0_size v0_at v0_from v0_token v0_value v0_faultKind v0_faultPlace h_fresh h_spokenAt h_heardAt h_lastAt h_answerAt v0_lawA v0_lawB v0_lawC v0_drawX v0_isDrawn v0_lostMany h_heardNow h_seenAt v0_roundFrom v0_roundTo v0_goLast v0_goAnswer v0_goHeard h_fewest h_costNow h_costThen h_lawsOf h_heardBy v0_lawMany v0_askWorst h_placesOf h_sentIn v0_placeMany v0_parentFirst h_lostBy h_many h_width h_numbers h_moving), (h_world, .inl (cI, 53, .inl f_world))] sz)) 0 0 (va_A [(mO h0 v0_thrown h_world h_images h_hasImage h_tape v0_taped h_five v0_size v0_at v0_from v0_token v0_value v0_faultKind v0_faultPlace h_fresh h_spokenAt h_heardAt h_lastAt h_answerAt v0_lawA v0_lawB v0_lawC v0_drawX v0_isDrawn v0_lostMany h_heardNow h_seenAt v0_roundFrom v0_roundTo v0_goLast v0_goAnswer v0_goHeard h_fewest h_costNow h_costThen h_lawsOf h_heardBy v0_lawMany v0_askWorst h_placesOf h_sentIn v0_placeMany v0_parentFirst h_lostBy h_many h_width h_numbers h_moving), (h_world, .inl (cI, 53, .inl f_world))] sz) := by
  refine metI (own := RX12) (by decide) rfl ?_
  intro p e s m below meth c Q hsz C hG hP hD hAB ret
  obtain ⟨hx, hb, hml, hown, hts, hK, hN, hT⟩ := id C
  subst hsz
  generalize hAe : va_A [(mO h0 v0_thrown h_world h_images h_hasImage h_tape v0_taped h_five v0_size v0_at v0_from v0_token v0_value v0_faultKind v0_faultPlace h_fresh h_spokenAt h_heardAt h_lastAt h_answerAt v0_lawA v0_lawB v0_lawC v0_drawX v0_isDrawn v0_lostMany h_heardNow h_seenAt v0_roundFrom v0_roundTo v0_goLast v0_goAnswer v0_goHeard h_fewest h_costNow h_costThen h_lawsOf h_heardBy v0_lawMany v0_askWorst h_placesOf h_sentIn v0_placeMany v0_parentFirst h_lostBy h_many h_width h_numbers h_moving), (h_world, .inl (cI, 53, .inl f_world))] s.heap.size = A at hD hAB ret ⊢
  have hA : ∀ q : Nat, s.heap.size ≤ q → A q := fun q h => by rw [← hAe]; exact Or.inr h
  have hS : va_S A s.heap s.heap [] := va_S.rf
  have hl := lv_entry ([.ref h0, .int v1]) (n := 7) (Nat.le_of_ble_eq_true rfl)
  rw [lg_entry_eq]
  generalize (lg_sl ([.ref h0, .int v1]) ++ List.replicate (7 - (lg_sl ([.ref h0, .int v1])).length) Slot.unset).toArray = ls at hl ⊢
  have hl : lv_has ls 7 [(0, .ref h0), (1, .int v1)] := hl
  have hP : va_P D vwCl [(mO h0 v0_thrown h_world h_images h_hasImage h_tape v0_taped h_five v0_size v0_at v0_from v0_token v0_value v0_faultKind v0_faultPlace h_fresh h_spokenAt h_heardAt h_lastAt h_answerAt v0_lawA v0_lawB v0_lawC v0_drawX v0_isDrawn v0_lostMany h_heardNow h_seenAt v0_roundFrom v0_roundTo v0_goLast v0_goAnswer v0_goHeard h_fewest h_costNow h_costThen h_lawsOf h_heardBy v0_lawMany v0_askWorst h_placesOf h_sentIn v0_placeMany v0_parentFirst h_lostBy h_many h_width h_numbers h_moving), (h_world, .inl (cI, 53, .inl f_world))] s.heap := hP
  refine lv_aload_n hx hb dX12_layParents_0 rfl (lv_at hl 0 rfl) ?_
  refine lv_iconst (v := (-1)) hx hb dX12_layParents_1 (by decide) ?_
  refine va_put (D := D) (ci := 12) (v := .int (-1)) (ty := .int) (C := RX12) (T := TX12) (N := 48) hx hb hts inlX12 tyX12 tyX12_ok nmX12 hown hK hP hD hS 0 rfl rfl 42 (by decide) (hts _ (inr60 _ (List.mem_of_getElem? (i := 17) rfl))) (fun _ h9 => h9) rfl (by decide +kernel) rfl rfl (Nat.le_of_ble_eq_true rfl) dX12_layParents_2 (fun H locs hP hD hS => ?_)
  have hP : va_P D vwCl [(mO h0 v0_thrown h_world h_images h_hasImage h_tape v0_taped h_five v0_size v0_at v0_from v0_token v0_value v0_faultKind v0_faultPlace h_fresh h_spokenAt h_heardAt h_lastAt h_answerAt v0_lawA v0_lawB v0_lawC v0_drawX v0_isDrawn v0_lostMany h_heardNow h_seenAt v0_roundFrom v0_roundTo v0_goLast v0_goAnswer v0_goHeard h_fewest h_costNow h_costThen h_lawsOf h_heardBy v0_lawMany v0_askWorst h_placesOf h_sentIn v0_placeMany (-1) h_lostBy h_many h_width h_numbers h_moving), (h_world, .inl (cI, 53, .inl f_world))] H := hP
  have hD : va_D A [(mO h0 v0_thrown h_world h_images h_hasImage h_tape v0_taped h_five v0_size v0_at v0_from v0_token v0_value v0_faultKind v0_faultPlace h_fresh h_spokenAt h_heardAt h_lastAt h_answerAt v0_lawA v0_lawB v0_lawC v0_drawX v0_isDrawn v0_lostMany h_heardNow h_seenAt v0_roundFrom v0_roundTo v0_goLast v0_goAnswer v0_goHeard h_fewest h_costNow h_costThen h_lawsOf h_heardBy v0_lawMany v0_askWorst h_placesOf h_sentIn v0_placeMany (-1) h_lostBy h_many h_width h_numbers h_moving), (h_world, .inl (cI, 53, .inl f_world))] := hD
  refine lv_iconst (v := 0) hx hb dX12_layParents_5 (by decide) ?_
  refine lv_istore_n (lv' := [(2, .int 0), (0, .ref h0), (1, .int v1)]) hx hb dX12_layParents_6 rfl hl (by decide) rfl (fun ls hl => ?_)
  refine lv_aload_n hx hb dX12_layParents_7 rfl (lv_at hl 1 rfl) ?_
  refine va_get (D := D) (ci := 12) (v := .ref h_world) (C := RX12) (T := TX12) (N := 48) hx hb hts inlX12 hown hK hP 0 rfl rfl 1 (by decide) (hts _ (inr6 _ (List.mem_of_getElem? (i := 16) rfl))) (fun _ h9 => h9) rfl dX12_layParents_8 ?_
  refine lv_bipush (v := 6) hx hb dX12_layParents_11 (by decide) ?_
  obtain ⟨t_1, et_1⟩ : ∃ v9 : Int32, f_world (6 : Int32).toNatClampNeg = v9 := ⟨_, rfl⟩
  refine z_iald (v := t_1) hx hb hK hP 1 1 rfl rfl (by unfold vp_in; decide) et_1 dX12_layParents_13 ?_
  have ft_1 : 0 ≤ t_1.toInt ∧ t_1.toInt ≤ 8 := sgL (by assumption : sg sgWo f_world) 3 rfl (by decide) (by decide) (by decide) et_1
  have qt_1 : (f_world 6).toInt = t_1.toInt := by rw [← et_1]; rfl
  refine lv_iconst (v := 1) hx hb dX12_layParents_14 (by decide) ?_
  obtain ⟨t_2, et_2⟩ : ∃ v9 : Int32, t_1 - 1 = v9 := ⟨_, rfl⟩
  refine z_isub (v := t_2) hx hb dX12_layParents_15 et_2 ?_
  have b_t_1 := i32b t_1
  have ft_2 : t_2.toInt = t_1.toInt - 1 := subT (a := t_1.toInt) (b := 1) rfl (by decide) et_2 (by omega) (by omega)
  refine lv_istore_n (lv' := [(3, .int t_2), (2, .int 0), (0, .ref h0), (1, .int v1)]) hx hb dX12_layParents_16 rfl hl (by decide) rfl (fun ls hl => ?_)
  exact b_X12_layParents_l17 h0 v0_thrown h_world h_images h_hasImage h_tape v0_taped h_five v0_size v0_at v0_from v0_token v0_value v0_faultKind v0_faultPlace h_fresh h_spokenAt h_heardAt h_lastAt h_answerAt v0_lawA v0_lawB v0_lawC v0_drawX v0_isDrawn v0_lostMany h_heardNow h_seenAt v0_roundFrom v0_roundTo v0_goLast v0_goAnswer v0_goHeard h_fewest h_costNow h_costThen h_lawsOf h_heardBy v0_lawMany v0_askWorst h_placesOf h_sentIn v0_placeMany h_lostBy h_many h_width h_numbers h_moving f_world v1 (by first | assumption | (have := zI0; have := zI1; have := zIm; omega) | decide) (by first | assumption | (have := zI0; have := zI1; have := zIm; omega) | decide) (by first | assumption | (have := zI0; have := zI1; have := zIm; omega) | decide) (by first | assumption | (have := zI0; have := zI1; have := zIm; omega) | decide) (by first | assumption | (have := zI0; have := zI1; have := zIm; omega) | decide) (by first | assumption | (have := zI0; have := zI1; have := zIm; omega) | decide) (by first | assumption | (have := zI0; have := zI1; have := zIm; omega) | decide) (by first | assumption | (have := zI0; have := zI1; have := zIm; omega) | decide) (by first | assumption | (have := zI0; have := zI1; have := zIm; omega) | decide) (by first | assumption | (have := zI0; have := zI1; have := zIm; omega) | decide) (by first | assumption | (have := zI0; have := zI1; have := zIm; omega) | decide) (by first | assumption | (have := zI0; have := zI1; have := zIm; omega) | decide) (by first | assumption | (have := zI0; have := zI1; have := zIm; omega) | decide) (by first | assumption | (have := zI0; have := zI1; have := zIm; omega) | decide) (by first | assumption | (have := zI0; have := zI1; have := zIm; omega) | decide) (by first | assumption | (have := zI0; have := zI1; have := zIm; omega) | decide) (by first | assumption | (have := zI0; have := zI1; have := zIm; omega) | decide) (by first | assumption | (have := zI0; have := zI1; have := zIm; omega) | decide) C hG hAB hA ret _ ((-1)) (t_2) (0) _ _ _ (by first | assumption | (have := zI0; have := zI1; have := zIm; omega) | decide) (Nat.lt_succ_self _) (hP.sub [0, 1] rfl) (hD.sub [0, 1] (by decide) rfl) hS (lv_sub hl [0, 1, 2, 3] rfl)

set_option maxHeartbeats 4000000 in
set_option maxRecDepth 100000 in
theorem b_X12_parents (l : Launch) (G : Gho) (D : va_G) (cB cI cJ cZ cS cT : ClassId) (sz : Nat) (h0 : Nat) (v0_thrown : Int32) (h_world : Nat) (h_images : Nat) (h_hasImage : Nat) (h_tape : Nat) (v0_taped : Int32) (h_five : Nat) (v0_size : Int32) (v0_at : Int32) (v0_from : Int32) (v0_token : Int32) (v0_value : Int32) (v0_faultKind : Int32) (v0_faultPlace : Int32) (h_fresh : Nat) (h_spokenAt : Nat) (h_heardAt : Nat) (h_lastAt : Nat) (h_answerAt : Nat) (v0_lawA : Int32) (v0_lawB : Int32) (v0_lawC : Int32) (v0_drawX : Int64) (v0_isDrawn : Int32) (v0_lostMany : Int32) (h_heardNow : Nat) (h_seenAt : Nat) (v0_roundFrom : Int32) (v0_roundTo : Int32) (v0_goLast : Int32) (v0_goAnswer : Int32) (v0_goHeard : Int32) (h_fewest : Nat) (h_costNow : Nat) (h_costThen : Nat) (h_lawsOf : Nat) (h_heardBy : Nat) (v0_lawMany : Int32) (v0_askWorst : Int32) (h_placesOf : Nat) (h_sentIn : Nat) (v0_placeMany : Int32) (v0_parentFirst : Int32) (h_lostBy : Nat) (h_many : Nat) (h_width : Nat) (h_numbers : Nat) (h_moving : Nat) (f_world : Nat → Int32) (v1 : Int32) (iv0_taped : 0 ≤ v0_taped.toInt ∧ v0_taped.toInt ≤ 500) (iv0_size : 0 ≤ v0_size.toInt ∧ v0_size.toInt ≤ 500) (iv0_at : 0 ≤ v0_at.toInt ∧ v0_at.toInt ≤ 500) (iv0_from : 0 ≤ v0_from.toInt ∧ v0_from.toInt ≤ 500) (iv0_faultKind : 0 ≤ v0_faultKind.toInt ∧ v0_faultKind.toInt ≤ 3) (iv0_lawA : 0 ≤ v0_lawA.toInt ∧ v0_lawA.toInt ≤ 8) (iv0_lawB : 0 ≤ v0_lawB.toInt ∧ v0_lawB.toInt ≤ 8) (iv0_lawC : 0 ≤ v0_lawC.toInt ∧ v0_lawC.toInt ≤ 9) (iv0_isDrawn : 0 ≤ v0_isDrawn.toInt ∧ v0_isDrawn.toInt ≤ 1) (iv0_roundFrom : 0 ≤ v0_roundFrom.toInt ∧ v0_roundFrom.toInt ≤ 648) (iv0_roundTo : 0 ≤ v0_roundTo.toInt ∧ v0_roundTo.toInt ≤ 648) (iv0_goLast : 0 ≤ v0_goLast.toInt ∧ v0_goLast.toInt ≤ 8) (iv0_goAnswer : 0 ≤ v0_goAnswer.toInt ∧ v0_goAnswer.toInt ≤ 8) (iv0_lawMany : 0 ≤ v0_lawMany.toInt ∧ v0_lawMany.toInt ≤ 729) (iv0_placeMany : 0 ≤ v0_placeMany.toInt ∧ v0_placeMany.toInt ≤ 100) (pf_world : sg sgWo f_world) (cf_world : 0 < (f_world 9).toInt → 2 ≤ (f_world 0).toInt) : Met l yX12_parents (Cond.code yX12_parents cX12_parents 2 (some .int) :: wsL_law) ({ frames := 2, cells := 0, slots := 0, locals := 47 }) (wrP G D (tyL cB cI cJ cZ cS cT) [(mO h0 v0_thrown h_world h_images h_hasImage h_tape v0_taped h_five v0_size v0_at v0_from v0_token v0_value v0_faultKind v0_faultPlace h_fresh h_spokenAt h_heardAt h_lastAt h_answerAt v0_lawA v0_lawB v0_lawC v0_drawX v0_isDrawn v0_lostMany h_heardNow h_seenAt v0_roundFrom v0_roundTo v0_goLast v0_goAnswer v0_goHeard h_fewest h_costNow h_costThen h_lawsOf h_heardBy v0_lawMany v0_askWorst h_placesOf h_sentIn v0_placeMany v0_parentFirst h_lostBy h_many h_width h_numbers h_moving), (h_world, .inl (cI, 53, .inl f_world))] sz [.ref h0, .int v1]) (va_Qi (fun (r : Int32) (x : Int32) => True) (atW D (tyL cB cI cJ cZ cS cT) (va_A [(mO h0 v0_thrown h_world h_images h_hasImage h_tape v0_taped h_five v0_size v0_at v0_from v0_token v0_value v0_faultKind v0_faultPlace h_fresh h_spokenAt h_heardAt h_lastAt h_answerAt v0_lawA v0_lawB v0_lawC v0_drawX v0_isDrawn v0_lostMany h_heardNow h_seenAt v0_roundFrom v0_roundTo v0_goLast v0_goAnswer v0_goHeard h_fewest h_costNow h_costThen h_lawsOf h_heardBy v0_lawMany v0_askWorst h_placesOf h_sentIn v0_placeMany v0_parentFirst h_lostBy h_many h_width h_numbers h_moving), (h_world, .inl (cI, 53, .inl f_world))] sz) (fun x : Int32 => [(mO h0 v0_thrown h_world h_images h_hasImage h_tape v0_taped h_five v0_size v0_at v0_from v0_token v0_value v0_faultKind v0_faultPlace h_fresh h_spokenAt h_heardAt h_lastAt h_answerAt v0_lawA v0_lawB v0_lawC v0_drawX v0_isDrawn v0_lostMany h_heardNow h_seenAt v0_roundFrom v0_roundTo v0_goLast v0_goAnswer v0_goHeard h_fewest h_costNow h_costThen h_lawsOf h_heardBy v0_lawMany v0_askWorst h_placesOf h_sentIn v0_placeMany x h_lostBy h_many h_width h_numbers h_moving), (h_world, .inl (cI, 53, .inl f_world))])) (va_A [(mO h0 v0_thrown h_world h_images h_hasImage h_tape v0_taped h_five v0_size v0_at v0_from v0_token v0_value v0_faultKind v0_faultPlace h_fresh h_spokenAt h_heardAt h_lastAt h_answerAt v0_lawA v0_lawB v0_lawC v0_drawX v0_isDrawn v0_lostMany h_heardNow h_seenAt v0_roundFrom v0_roundTo v0_goLast v0_goAnswer v0_goHeard h_fewest h_costNow h_costThen h_lawsOf h_heardBy v0_lawMany v0_askWorst h_placesOf h_sentIn v0_placeMany v0_parentFirst h_lostBy h_many h_width h_numbers h_moving), (h_world, .inl (cI, 53, .inl f_world))] sz)) 0 0 (va_A [(mO h0 v0_thrown h_world h_images h_hasImage h_tape v0_taped h_five v0_size v0_at v0_from v0_token v0_value v0_faultKind v0_faultPlace h_fresh h_spokenAt h_heardAt h_lastAt h_answerAt v0_lawA v0_lawB v0_lawC v0_drawX v0_isDrawn v0_lostMany h_heardNow h_seenAt v0_roundFrom v0_roundTo v0_goLast v0_goAnswer v0_goHeard h_fewest h_costNow h_costThen h_lawsOf h_heardBy v0_lawMany v0_askWorst h_placesOf h_sentIn v0_placeMany v0_parentFirst h_lostBy h_many h_width h_numbers h_moving), (h_world, .inl (cI, 53, .inl f_world))] sz) := by
  refine metI (own := RX12) (by decide) rfl ?_
  intro p e s m below meth c Q hsz C hG hP hD hAB ret
  obtain ⟨hx, hb, hml, hown, hts, hK, hN, hT⟩ := id C
  subst hsz
  generalize hAe : va_A [(mO h0 v0_thrown h_world h_images h_hasImage h_tape v0_taped h_five v0_size v0_at v0_from v0_token v0_value v0_faultKind v0_faultPlace h_fresh h_spokenAt h_heardAt h_lastAt h_answerAt v0_lawA v0_lawB v0_lawC v0_drawX v0_isDrawn v0_lostMany h_heardNow h_seenAt v0_roundFrom v0_roundTo v0_goLast v0_goAnswer v0_goHeard h_fewest h_costNow h_costThen h_lawsOf h_heardBy v0_lawMany v0_askWorst h_placesOf h_sentIn v0_placeMany v0_parentFirst h_lostBy h_many h_width h_numbers h_moving), (h_world, .inl (cI, 53, .inl f_world))] s.heap.size = A at hD hAB ret ⊢
  have hA : ∀ q : Nat, s.heap.size ≤ q → A q := fun q h => by rw [← hAe]; exact Or.inr h
  have hS : va_S A s.heap s.heap [] := va_S.rf
  have hl := lv_entry ([.ref h0, .int v1]) (n := 2) (Nat.le_of_ble_eq_true rfl)
  rw [lg_entry_eq]
  generalize (lg_sl ([.ref h0, .int v1]) ++ List.replicate (2 - (lg_sl ([.ref h0, .int v1])).length) Slot.unset).toArray = ls at hl ⊢
  have hl : lv_has ls 2 [(0, .ref h0), (1, .int v1)] := hl
  have hP : va_P D vwCl [(mO h0 v0_thrown h_world h_images h_hasImage h_tape v0_taped h_five v0_size v0_at v0_from v0_token v0_value v0_faultKind v0_faultPlace h_fresh h_spokenAt h_heardAt h_lastAt h_answerAt v0_lawA v0_lawB v0_lawC v0_drawX v0_isDrawn v0_lostMany h_heardNow h_seenAt v0_roundFrom v0_roundTo v0_goLast v0_goAnswer v0_goHeard h_fewest h_costNow h_costThen h_lawsOf h_heardBy v0_lawMany v0_askWorst h_placesOf h_sentIn v0_placeMany v0_parentFirst h_lostBy h_many h_width h_numbers h_moving), (h_world, .inl (cI, 53, .inl f_world))] s.heap := hP
  refine lv_aload_n hx hb dX12_parents_0 rfl (lv_at hl 0 rfl) ?_
  refine roi (As := []) (rest := []) ⟨hx, hb, hml, hown, hts⟩ (b_X12_isStation l G D cB cI cJ cZ cS cT h0 v0_thrown h_world h_images h_hasImage h_tape v0_taped h_five v0_size v0_at v0_from v0_token v0_value v0_faultKind v0_faultPlace h_fresh h_spokenAt h_heardAt h_lastAt h_answerAt v0_lawA v0_lawB v0_lawC v0_drawX v0_isDrawn v0_lostMany h_heardNow h_seenAt v0_roundFrom v0_roundTo v0_goLast v0_goAnswer v0_goHeard h_fewest h_costNow h_costThen h_lawsOf h_heardBy v0_lawMany v0_askWorst h_placesOf h_sentIn v0_placeMany v0_parentFirst h_lostBy h_many h_width h_numbers h_moving f_world (by first | assumption | (have := zI0; have := zI1; have := zIm; omega) | decide) (by first | assumption | (have := zI0; have := zI1; have := zIm; omega) | decide) (by first | assumption | (have := zI0; have := zI1; have := zIm; omega) | decide) (by first | assumption | (have := zI0; have := zI1; have := zIm; omega) | decide) (by first | assumption | (have := zI0; have := zI1; have := zIm; omega) | decide) (by first | assumption | (have := zI0; have := zI1; have := zIm; omega) | decide) (by first | assumption | (have := zI0; have := zI1; have := zIm; omega) | decide) (by first | assumption | (have := zI0; have := zI1; have := zIm; omega) | decide) (by first | assumption | (have := zI0; have := zI1; have := zIm; omega) | decide) (by first | assumption | (have := zI0; have := zI1; have := zIm; omega) | decide) (by first | assumption | (have := zI0; have := zI1; have := zIm; omega) | decide) (by first | assumption | (have := zI0; have := zI1; have := zIm; omega) | decide) (by first | assumption | (have := zI0; have := zI1; have := zIm; omega) | decide) (by first | assumption | (have := zI0; have := zI1; have := zIm; omega) | decide) (by first | assumption | (have := zI0; have := zI1; have := zIm; omega) | decide) (by first | assumption | (have := zI0; have := zI1; have := zIm; omega) | decide) (by first | assumption | (have := zI0; have := zI1; have := zIm; omega) | decide)) (cvB (n := 0) (inr24 _ (List.mem_of_getElem? (i := 19) rfl)) (inr24 _ (List.mem_of_getElem? (i := 20) rfl)) (inr24 _ (List.mem_of_getElem? (i := 21) rfl)) (inr1 _ (List.mem_of_getElem? (i := 5) rfl)) (inr24 _ (List.mem_of_getElem? (i := 22) rfl)) (by decide +kernel) hts rfl rfl ⟨Nat.le_of_ble_eq_true rfl, Nat.le_of_ble_eq_true rfl⟩) 0 12 rfl rfl rfl (hP.sub [0, 1] rfl) hK hN (kT.to hT hS hAB) rfl hl.1 rfl (Nat.le_of_ble_eq_true rfl) ⟨Nat.le_of_ble_eq_true rfl, Nat.le_of_ble_eq_true rfl⟩ dX12_parents_1 (fun r_1 h_2 => ?_)
  have h_2 : ((r_1.toInt = 1 ∧ 0 < (f_world 9).toInt) ∨ (r_1.toInt = 0 ∧ (f_world 9).toInt ≤ 0)) ∧ (r_1 = 0 ∨ r_1 = 1) := h_2
  obtain ⟨i_3, i_4⟩ := h_2
  have ar_1 : 0 ≤ r_1.toInt ∧ r_1.toInt ≤ 1 := by rcases i_4 with h | h <;> rw [h] <;> decide
  refine lv_if_eq (tgt := 24) hx hb dX12_parents_4 (by decide) (fun c_5 => ?_) (fun c_5 => ?_)
  · have c_5 : r_1.toInt = 0 := ci_eq_t c_5
    have b_r_1 := i32b r_1
    have d_6 : (f_world 9).toInt ≤ 0 := by omega
    clear i_3
    refine lv_bipush (v := (-2)) hx hb dX12_parents_24 (by decide) ?_
    exact ret _ _ _ _ _ v0_parentFirst dX12_parents_26 trivial (hP.sub [0, 1] rfl) (hD.sub [0, 1] (by decide) rfl) hS
  · have c_5 : ¬ r_1.toInt = 0 := ci_eq_f c_5
    have b_r_1 := i32b r_1
    have d_7 : 0 < (f_world 9).toInt := by omega
    clear i_3
    refine lv_aload_n hx hb dX12_parents_7 rfl (lv_at hl 0 rfl) ?_
    refine lv_iload_n hx hb dX12_parents_8 rfl (lv_at hl 1 rfl) ?_
    have b_v1 := i32b v1
    obtain ⟨t_8, et_8⟩ : ∃ v9 : Int64, (v1 : Int32).toInt64 = v9 := ⟨_, rfl⟩
    refine lv_i2l (v := t_8) hx hb dX12_parents_9 et_8 ?_
    have ft_8 : t_8.toInt = v1.toInt := by rw [← et_8]; exact Int32.toInt_toInt64 _
    refine roi (As := [.long t_8]) (rest := []) ⟨hx, hb, hml, hown, hts⟩ (b_X12_isTone l G D cB cI cJ cZ cS cT h0 v0_thrown h_world h_images h_hasImage h_tape v0_taped h_five v0_size v0_at v0_from v0_token v0_value v0_faultKind v0_faultPlace h_fresh h_spokenAt h_heardAt h_lastAt h_answerAt v0_lawA v0_lawB v0_lawC v0_drawX v0_isDrawn v0_lostMany h_heardNow h_seenAt v0_roundFrom v0_roundTo v0_goLast v0_goAnswer v0_goHeard h_fewest h_costNow h_costThen h_lawsOf h_heardBy v0_lawMany v0_askWorst h_placesOf h_sentIn v0_placeMany v0_parentFirst h_lostBy h_many h_width h_numbers h_moving f_world t_8 (by first | assumption | (have := zI0; have := zI1; have := zIm; omega) | decide) (by first | assumption | (have := zI0; have := zI1; have := zIm; omega) | decide) (by first | assumption | (have := zI0; have := zI1; have := zIm; omega) | decide) (by first | assumption | (have := zI0; have := zI1; have := zIm; omega) | decide) (by first | assumption | (have := zI0; have := zI1; have := zIm; omega) | decide) (by first | assumption | (have := zI0; have := zI1; have := zIm; omega) | decide) (by first | assumption | (have := zI0; have := zI1; have := zIm; omega) | decide) (by first | assumption | (have := zI0; have := zI1; have := zIm; omega) | decide) (by first | assumption | (have := zI0; have := zI1; have := zIm; omega) | decide) (by first | assumption | (have := zI0; have := zI1; have := zIm; omega) | decide) (by first | assumption | (have := zI0; have := zI1; have := zIm; omega) | decide) (by first | assumption | (have := zI0; have := zI1; have := zIm; omega) | decide) (by first | assumption | (have := zI0; have := zI1; have := zIm; omega) | decide) (by first | assumption | (have := zI0; have := zI1; have := zIm; omega) | decide) (by first | assumption | (have := zI0; have := zI1; have := zIm; omega) | decide) (by first | assumption | (have := zI0; have := zI1; have := zIm; omega) | decide) (by first | assumption | (have := zI0; have := zI1; have := zIm; omega) | decide)) (cvB (n := 1) (inr30 _ (List.mem_of_getElem? (i := 0) rfl)) (inr30 _ (List.mem_of_getElem? (i := 1) rfl)) (inr30 _ (List.mem_of_getElem? (i := 2) rfl)) (inr1 _ (List.mem_of_getElem? (i := 5) rfl)) (inr30 _ (List.mem_of_getElem? (i := 3) rfl)) (by decide +kernel) hts rfl rfl ⟨Nat.le_of_ble_eq_true rfl, Nat.le_of_ble_eq_true rfl⟩) 0 12 rfl rfl rfl (hP.sub [0, 1] rfl) hK hN (kT.to hT hS hAB) rfl hl.1 rfl (Nat.le_of_ble_eq_true rfl) ⟨Nat.le_of_ble_eq_true rfl, Nat.le_of_ble_eq_true rfl⟩ dX12_parents_10 (fun r_9 h_10 => ?_)
    have h_10 : ((r_9.toInt = 1 ∧ 0 ≤ t_8.toInt ∧ t_8.toInt ≤ (f_world 0).toInt - 1) ∨ r_9.toInt = 0) ∧ (r_9 = 0 ∨ r_9 = 1) := h_10
    obtain ⟨i_11, i_12⟩ := h_10
    have ar_9 : 0 ≤ r_9.toInt ∧ r_9.toInt ≤ 1 := by rcases i_12 with h | h <;> rw [h] <;> decide
    refine lv_if_eq (tgt := 24) hx hb dX12_parents_13 (by decide) (fun c_13 => ?_) (fun c_13 => ?_)
    · have c_13 : r_9.toInt = 0 := ci_eq_t c_13
      have b_r_9 := i32b r_9
      clear i_11
      refine lv_bipush (v := (-2)) hx hb dX12_parents_24 (by decide) ?_
      exact ret _ _ _ _ _ v0_parentFirst dX12_parents_26 trivial (hP.sub [0, 1] rfl) (hD.sub [0, 1] (by decide) rfl) hS
    · have c_13 : ¬ r_9.toInt = 0 := ci_eq_f c_13
      have b_r_9 := i32b r_9
      have d_14 : 0 ≤ t_8.toInt ∧ t_8.toInt ≤ (f_world 0).toInt - 1 := by omega
      have b_15 := (by assumption : sg sgWo f_world) _ (List.mem_of_getElem? (i := 0) rfl) 0 (by decide) (by decide)
      have b_15 : 0 ≤ (f_world 0).toInt ∧ (f_world 0).toInt ≤ 9 := b_15
      clear i_11
      refine lv_aload_n hx hb dX12_parents_16 rfl (lv_at hl 0 rfl) ?_
      refine lv_iload_n hx hb dX12_parents_17 rfl (lv_at hl 1 rfl) ?_
      refine wrVi (As := [.int v1]) (rest := []) (wr := []) ⟨hx, hb, hml, hown, hts⟩ (b_X12_layParents l G D cB cI cJ cZ cS cT s.heap.size h0 v0_thrown h_world h_images h_hasImage h_tape v0_taped h_five v0_size v0_at v0_from v0_token v0_value v0_faultKind v0_faultPlace h_fresh h_spokenAt h_heardAt h_lastAt h_answerAt v0_lawA v0_lawB v0_lawC v0_drawX v0_isDrawn v0_lostMany h_heardNow h_seenAt v0_roundFrom v0_roundTo v0_goLast v0_goAnswer v0_goHeard h_fewest h_costNow h_costThen h_lawsOf h_heardBy v0_lawMany v0_askWorst h_placesOf h_sentIn v0_placeMany v0_parentFirst h_lostBy h_many h_width h_numbers h_moving f_world v1 (by first | assumption | (have := zI0; have := zI1; have := zIm; omega) | decide) (by first | assumption | (have := zI0; have := zI1; have := zIm; omega) | decide) (by first | assumption | (have := zI0; have := zI1; have := zIm; omega) | decide) (by first | assumption | (have := zI0; have := zI1; have := zIm; omega) | decide) (by first | assumption | (have := zI0; have := zI1; have := zIm; omega) | decide) (by first | assumption | (have := zI0; have := zI1; have := zIm; omega) | decide) (by first | assumption | (have := zI0; have := zI1; have := zIm; omega) | decide) (by first | assumption | (have := zI0; have := zI1; have := zIm; omega) | decide) (by first | assumption | (have := zI0; have := zI1; have := zIm; omega) | decide) (by first | assumption | (have := zI0; have := zI1; have := zIm; omega) | decide) (by first | assumption | (have := zI0; have := zI1; have := zIm; omega) | decide) (by first | assumption | (have := zI0; have := zI1; have := zIm; omega) | decide) (by first | assumption | (have := zI0; have := zI1; have := zIm; omega) | decide) (by first | assumption | (have := zI0; have := zI1; have := zIm; omega) | decide) (by first | assumption | (have := zI0; have := zI1; have := zIm; omega) | decide) (by first | assumption | (have := zI0; have := zI1; have := zIm; omega) | decide) (by first | assumption | (have := zI0; have := zI1; have := zIm; omega) | decide) (by first | assumption | (have := zI0; have := zI1; have := zIm; omega) | decide)) hP hD hS hA hK hN hT hAB hG [0, 1] [] rfl rfl (by decide) (by decide) (by decide) (cvB (n := 1) (inr60 _ (List.mem_of_getElem? (i := 13) rfl)) (inr60 _ (List.mem_of_getElem? (i := 14) rfl)) (inr60 _ (List.mem_of_getElem? (i := 15) rfl)) (inr1 _ (List.mem_of_getElem? (i := 5) rfl)) (inr60 _ (List.mem_of_getElem? (i := 16) rfl)) (by decide +kernel) hts rfl rfl ⟨Nat.le_of_ble_eq_true rfl, Nat.le_of_ble_eq_true rfl⟩) 0 12 rfl rfl rfl rfl hl.1 rfl (Nat.le_of_ble_eq_true rfl) ⟨Nat.le_of_ble_eq_true rfl, Nat.le_of_ble_eq_true rfl⟩ dX12_parents_18 (fun r_16 x9 H locs h_17 hP hD hS => ?_)
      obtain ⟨t_18, rfl⟩ : ∃ z, z = x9 := ⟨_, rfl⟩
      have hP : va_P D vwCl [(mO h0 v0_thrown h_world h_images h_hasImage h_tape v0_taped h_five v0_size v0_at v0_from v0_token v0_value v0_faultKind v0_faultPlace h_fresh h_spokenAt h_heardAt h_lastAt h_answerAt v0_lawA v0_lawB v0_lawC v0_drawX v0_isDrawn v0_lostMany h_heardNow h_seenAt v0_roundFrom v0_roundTo v0_goLast v0_goAnswer v0_goHeard h_fewest h_costNow h_costThen h_lawsOf h_heardBy v0_lawMany v0_askWorst h_placesOf h_sentIn v0_placeMany t_18 h_lostBy h_many h_width h_numbers h_moving), (h_world, .inl (cI, 53, .inl f_world))] H := hP
      have hD : va_D A [(mO h0 v0_thrown h_world h_images h_hasImage h_tape v0_taped h_five v0_size v0_at v0_from v0_token v0_value v0_faultKind v0_faultPlace h_fresh h_spokenAt h_heardAt h_lastAt h_answerAt v0_lawA v0_lawB v0_lawC v0_drawX v0_isDrawn v0_lostMany h_heardNow h_seenAt v0_roundFrom v0_roundTo v0_goLast v0_goAnswer v0_goHeard h_fewest h_costNow h_costThen h_lawsOf h_heardBy v0_lawMany v0_askWorst h_placesOf h_sentIn v0_placeMany t_18 h_lostBy h_many h_width h_numbers h_moving), (h_world, .inl (cI, 53, .inl f_world))] := hD
      refine lv_goto (tgt := 26) hx hb dX12_parents_21 (by decide) ?_
      exact ret _ _ _ _ _ t_18 dX12_parents_26 trivial (hP.sub [0, 1] rfl) (hD.sub [0, 1] (by decide) rfl) hS

set_option maxHeartbeats 4000000 in
set_option maxRecDepth 100000 in
theorem b_X12_parent (l : Launch) (G : Gho) (D : va_G) (cB cI cJ cZ cS cT : ClassId) (sz : Nat) (h0 : Nat) (v0_thrown : Int32) (h_world : Nat) (h_images : Nat) (h_hasImage : Nat) (h_tape : Nat) (v0_taped : Int32) (h_five : Nat) (v0_size : Int32) (v0_at : Int32) (v0_from : Int32) (v0_token : Int32) (v0_value : Int32) (v0_faultKind : Int32) (v0_faultPlace : Int32) (h_fresh : Nat) (h_spokenAt : Nat) (h_heardAt : Nat) (h_lastAt : Nat) (h_answerAt : Nat) (v0_lawA : Int32) (v0_lawB : Int32) (v0_lawC : Int32) (v0_drawX : Int64) (v0_isDrawn : Int32) (v0_lostMany : Int32) (h_heardNow : Nat) (h_seenAt : Nat) (v0_roundFrom : Int32) (v0_roundTo : Int32) (v0_goLast : Int32) (v0_goAnswer : Int32) (v0_goHeard : Int32) (h_fewest : Nat) (h_costNow : Nat) (h_costThen : Nat) (h_lawsOf : Nat) (h_heardBy : Nat) (v0_lawMany : Int32) (v0_askWorst : Int32) (h_placesOf : Nat) (h_sentIn : Nat) (v0_placeMany : Int32) (v0_parentFirst : Int32) (h_lostBy : Nat) (h_many : Nat) (h_width : Nat) (h_numbers : Nat) (h_moving : Nat) (f_world : Nat → Int32) (v1 : Int32) (iv0_taped : 0 ≤ v0_taped.toInt ∧ v0_taped.toInt ≤ 500) (iv0_size : 0 ≤ v0_size.toInt ∧ v0_size.toInt ≤ 500) (iv0_at : 0 ≤ v0_at.toInt ∧ v0_at.toInt ≤ 500) (iv0_from : 0 ≤ v0_from.toInt ∧ v0_from.toInt ≤ 500) (iv0_faultKind : 0 ≤ v0_faultKind.toInt ∧ v0_faultKind.toInt ≤ 3) (iv0_lawA : 0 ≤ v0_lawA.toInt ∧ v0_lawA.toInt ≤ 8) (iv0_lawB : 0 ≤ v0_lawB.toInt ∧ v0_lawB.toInt ≤ 8) (iv0_lawC : 0 ≤ v0_lawC.toInt ∧ v0_lawC.toInt ≤ 9) (iv0_isDrawn : 0 ≤ v0_isDrawn.toInt ∧ v0_isDrawn.toInt ≤ 1) (iv0_roundFrom : 0 ≤ v0_roundFrom.toInt ∧ v0_roundFrom.toInt ≤ 648) (iv0_roundTo : 0 ≤ v0_roundTo.toInt ∧ v0_roundTo.toInt ≤ 648) (iv0_goLast : 0 ≤ v0_goLast.toInt ∧ v0_goLast.toInt ≤ 8) (iv0_goAnswer : 0 ≤ v0_goAnswer.toInt ∧ v0_goAnswer.toInt ≤ 8) (iv0_lawMany : 0 ≤ v0_lawMany.toInt ∧ v0_lawMany.toInt ≤ 729) (iv0_placeMany : 0 ≤ v0_placeMany.toInt ∧ v0_placeMany.toInt ≤ 100) (pf_world : sg sgWo f_world) (cf_world : 0 < (f_world 9).toInt → 2 ≤ (f_world 0).toInt) : Met l yX12_parent (Cond.code yX12_parent cX12_parent 2 (some .int) :: wsL_law) ({ frames := 2, cells := 0, slots := 0, locals := 47 }) (wrP G D (tyL cB cI cJ cZ cS cT) [(mO h0 v0_thrown h_world h_images h_hasImage h_tape v0_taped h_five v0_size v0_at v0_from v0_token v0_value v0_faultKind v0_faultPlace h_fresh h_spokenAt h_heardAt h_lastAt h_answerAt v0_lawA v0_lawB v0_lawC v0_drawX v0_isDrawn v0_lostMany h_heardNow h_seenAt v0_roundFrom v0_roundTo v0_goLast v0_goAnswer v0_goHeard h_fewest h_costNow h_costThen h_lawsOf h_heardBy v0_lawMany v0_askWorst h_placesOf h_sentIn v0_placeMany v0_parentFirst h_lostBy h_many h_width h_numbers h_moving), (h_world, .inl (cI, 53, .inl f_world))] sz [.ref h0, .int v1]) (va_Qi (fun (r : Int32) (x : Int32) => True) (atW D (tyL cB cI cJ cZ cS cT) (va_A [(mO h0 v0_thrown h_world h_images h_hasImage h_tape v0_taped h_five v0_size v0_at v0_from v0_token v0_value v0_faultKind v0_faultPlace h_fresh h_spokenAt h_heardAt h_lastAt h_answerAt v0_lawA v0_lawB v0_lawC v0_drawX v0_isDrawn v0_lostMany h_heardNow h_seenAt v0_roundFrom v0_roundTo v0_goLast v0_goAnswer v0_goHeard h_fewest h_costNow h_costThen h_lawsOf h_heardBy v0_lawMany v0_askWorst h_placesOf h_sentIn v0_placeMany v0_parentFirst h_lostBy h_many h_width h_numbers h_moving), (h_world, .inl (cI, 53, .inl f_world))] sz) (fun x : Int32 => [(mO h0 v0_thrown h_world h_images h_hasImage h_tape v0_taped h_five v0_size v0_at v0_from v0_token v0_value v0_faultKind v0_faultPlace h_fresh h_spokenAt h_heardAt h_lastAt h_answerAt v0_lawA v0_lawB v0_lawC v0_drawX v0_isDrawn v0_lostMany h_heardNow h_seenAt v0_roundFrom v0_roundTo v0_goLast v0_goAnswer v0_goHeard h_fewest h_costNow h_costThen h_lawsOf h_heardBy v0_lawMany v0_askWorst h_placesOf h_sentIn v0_placeMany x h_lostBy h_many h_width h_numbers h_moving), (h_world, .inl (cI, 53, .inl f_world))])) (va_A [(mO h0 v0_thrown h_world h_images h_hasImage h_tape v0_taped h_five v0_size v0_at v0_from v0_token v0_value v0_faultKind v0_faultPlace h_fresh h_spokenAt h_heardAt h_lastAt h_answerAt v0_lawA v0_lawB v0_lawC v0_drawX v0_isDrawn v0_lostMany h_heardNow h_seenAt v0_roundFrom v0_roundTo v0_goLast v0_goAnswer v0_goHeard h_fewest h_costNow h_costThen h_lawsOf h_heardBy v0_lawMany v0_askWorst h_placesOf h_sentIn v0_placeMany v0_parentFirst h_lostBy h_many h_width h_numbers h_moving), (h_world, .inl (cI, 53, .inl f_world))] sz)) 0 0 (va_A [(mO h0 v0_thrown h_world h_images h_hasImage h_tape v0_taped h_five v0_size v0_at v0_from v0_token v0_value v0_faultKind v0_faultPlace h_fresh h_spokenAt h_heardAt h_lastAt h_answerAt v0_lawA v0_lawB v0_lawC v0_drawX v0_isDrawn v0_lostMany h_heardNow h_seenAt v0_roundFrom v0_roundTo v0_goLast v0_goAnswer v0_goHeard h_fewest h_costNow h_costThen h_lawsOf h_heardBy v0_lawMany v0_askWorst h_placesOf h_sentIn v0_placeMany v0_parentFirst h_lostBy h_many h_width h_numbers h_moving), (h_world, .inl (cI, 53, .inl f_world))] sz) := by
  refine metI (own := RX12) (by decide) rfl ?_
  intro p e s m below meth c Q hsz C hG hP hD hAB ret
  obtain ⟨hx, hb, hml, hown, hts, hK, hN, hT⟩ := id C
  subst hsz
  generalize hAe : va_A [(mO h0 v0_thrown h_world h_images h_hasImage h_tape v0_taped h_five v0_size v0_at v0_from v0_token v0_value v0_faultKind v0_faultPlace h_fresh h_spokenAt h_heardAt h_lastAt h_answerAt v0_lawA v0_lawB v0_lawC v0_drawX v0_isDrawn v0_lostMany h_heardNow h_seenAt v0_roundFrom v0_roundTo v0_goLast v0_goAnswer v0_goHeard h_fewest h_costNow h_costThen h_lawsOf h_heardBy v0_lawMany v0_askWorst h_placesOf h_sentIn v0_placeMany v0_parentFirst h_lostBy h_many h_width h_numbers h_moving), (h_world, .inl (cI, 53, .inl f_world))] s.heap.size = A at hD hAB ret ⊢
  have hA : ∀ q : Nat, s.heap.size ≤ q → A q := fun q h => by rw [← hAe]; exact Or.inr h
  have hS : va_S A s.heap s.heap [] := va_S.rf
  have hl := lv_entry ([.ref h0, .int v1]) (n := 2) (Nat.le_of_ble_eq_true rfl)
  rw [lg_entry_eq]
  generalize (lg_sl ([.ref h0, .int v1]) ++ List.replicate (2 - (lg_sl ([.ref h0, .int v1])).length) Slot.unset).toArray = ls at hl ⊢
  have hl : lv_has ls 2 [(0, .ref h0), (1, .int v1)] := hl
  have hP : va_P D vwCl [(mO h0 v0_thrown h_world h_images h_hasImage h_tape v0_taped h_five v0_size v0_at v0_from v0_token v0_value v0_faultKind v0_faultPlace h_fresh h_spokenAt h_heardAt h_lastAt h_answerAt v0_lawA v0_lawB v0_lawC v0_drawX v0_isDrawn v0_lostMany h_heardNow h_seenAt v0_roundFrom v0_roundTo v0_goLast v0_goAnswer v0_goHeard h_fewest h_costNow h_costThen h_lawsOf h_heardBy v0_lawMany v0_askWorst h_placesOf h_sentIn v0_placeMany v0_parentFirst h_lostBy h_many h_width h_numbers h_moving), (h_world, .inl (cI, 53, .inl f_world))] s.heap := hP
  refine lv_aload_n hx hb dX12_parent_0 rfl (lv_at hl 0 rfl) ?_
  refine roi (As := []) (rest := []) ⟨hx, hb, hml, hown, hts⟩ (b_X12_isStation l G D cB cI cJ cZ cS cT h0 v0_thrown h_world h_images h_hasImage h_tape v0_taped h_five v0_size v0_at v0_from v0_token v0_value v0_faultKind v0_faultPlace h_fresh h_spokenAt h_heardAt h_lastAt h_answerAt v0_lawA v0_lawB v0_lawC v0_drawX v0_isDrawn v0_lostMany h_heardNow h_seenAt v0_roundFrom v0_roundTo v0_goLast v0_goAnswer v0_goHeard h_fewest h_costNow h_costThen h_lawsOf h_heardBy v0_lawMany v0_askWorst h_placesOf h_sentIn v0_placeMany v0_parentFirst h_lostBy h_many h_width h_numbers h_moving f_world (by first | assumption | (have := zI0; have := zI1; have := zIm; omega) | decide) (by first | assumption | (have := zI0; have := zI1; have := zIm; omega) | decide) (by first | assumption | (have := zI0; have := zI1; have := zIm; omega) | decide) (by first | assumption | (have := zI0; have := zI1; have := zIm; omega) | decide) (by first | assumption | (have := zI0; have := zI1; have := zIm; omega) | decide) (by first | assumption | (have := zI0; have := zI1; have := zIm; omega) | decide) (by first | assumption | (have := zI0; have := zI1; have := zIm; omega) | decide) (by first | assumption | (have := zI0; have := zI1; have := zIm; omega) | decide) (by first | assumption | (have := zI0; have := zI1; have := zIm; omega) | decide) (by first | assumption | (have := zI0; have := zI1; have := zIm; omega) | decide) (by first | assumption | (have := zI0; have := zI1; have := zIm; omega) | decide) (by first | assumption | (have := zI0; have := zI1; have := zIm; omega) | decide) (by first | assumption | (have := zI0; have := zI1; have := zIm; omega) | decide) (by first | assumption | (have := zI0; have := zI1; have := zIm; omega) | decide) (by first | assumption | (have := zI0; have := zI1; have := zIm; omega) | decide) (by first | assumption | (have := zI0; have := zI1; have := zIm; omega) | decide) (by first | assumption | (have := zI0; have := zI1; have := zIm; omega) | decide)) (cvB (n := 0) (inr24 _ (List.mem_of_getElem? (i := 19) rfl)) (inr24 _ (List.mem_of_getElem? (i := 20) rfl)) (inr24 _ (List.mem_of_getElem? (i := 21) rfl)) (inr1 _ (List.mem_of_getElem? (i := 5) rfl)) (inr24 _ (List.mem_of_getElem? (i := 22) rfl)) (by decide +kernel) hts rfl rfl ⟨Nat.le_of_ble_eq_true rfl, Nat.le_of_ble_eq_true rfl⟩) 0 12 rfl rfl rfl (hP.sub [0, 1] rfl) hK hN (kT.to hT hS hAB) rfl hl.1 rfl (Nat.le_of_ble_eq_true rfl) ⟨Nat.le_of_ble_eq_true rfl, Nat.le_of_ble_eq_true rfl⟩ dX12_parent_1 (fun r_1 h_2 => ?_)
  have h_2 : ((r_1.toInt = 1 ∧ 0 < (f_world 9).toInt) ∨ (r_1.toInt = 0 ∧ (f_world 9).toInt ≤ 0)) ∧ (r_1 = 0 ∨ r_1 = 1) := h_2
  obtain ⟨i_3, i_4⟩ := h_2
  have ar_1 : 0 ≤ r_1.toInt ∧ r_1.toInt ≤ 1 := by rcases i_4 with h | h <;> rw [h] <;> decide
  refine lv_if_eq (tgt := 16) hx hb dX12_parent_4 (by decide) (fun c_5 => ?_) (fun c_5 => ?_)
  · have c_5 : r_1.toInt = 0 := ci_eq_t c_5
    have b_r_1 := i32b r_1
    have d_6 : (f_world 9).toInt ≤ 0 := by omega
    clear i_3
    refine lv_bipush (v := (-2)) hx hb dX12_parent_16 (by decide) ?_
    exact ret _ _ _ _ _ v0_parentFirst dX12_parent_18 trivial (hP.sub [0, 1] rfl) (hD.sub [0, 1] (by decide) rfl) hS
  · have c_5 : ¬ r_1.toInt = 0 := ci_eq_f c_5
    have b_r_1 := i32b r_1
    have d_7 : 0 < (f_world 9).toInt := by omega
    clear i_3
    refine lv_aload_n hx hb dX12_parent_7 rfl (lv_at hl 0 rfl) ?_
    refine lv_iload_n hx hb dX12_parent_8 rfl (lv_at hl 1 rfl) ?_
    have b_v1 := i32b v1
    obtain ⟨t_8, et_8⟩ : ∃ v9 : Int64, (v1 : Int32).toInt64 = v9 := ⟨_, rfl⟩
    refine lv_i2l (v := t_8) hx hb dX12_parent_9 et_8 ?_
    have ft_8 : t_8.toInt = v1.toInt := by rw [← et_8]; exact Int32.toInt_toInt64 _
    refine roi (As := [.long t_8]) (rest := []) ⟨hx, hb, hml, hown, hts⟩ (b_X12_isTone l G D cB cI cJ cZ cS cT h0 v0_thrown h_world h_images h_hasImage h_tape v0_taped h_five v0_size v0_at v0_from v0_token v0_value v0_faultKind v0_faultPlace h_fresh h_spokenAt h_heardAt h_lastAt h_answerAt v0_lawA v0_lawB v0_lawC v0_drawX v0_isDrawn v0_lostMany h_heardNow h_seenAt v0_roundFrom v0_roundTo v0_goLast v0_goAnswer v0_goHeard h_fewest h_costNow h_costThen h_lawsOf h_heardBy v0_lawMany v0_askWorst h_placesOf h_sentIn v0_placeMany v0_parentFirst h_lostBy h_many h_width h_numbers h_moving f_world t_8 (by first | assumption | (have := zI0; have := zI1; have := zIm; omega) | decide) (by first | assumption | (have := zI0; have := zI1; have := zIm; omega) | decide) (by first | assumption | (have := zI0; have := zI1; have := zIm; omega) | decide) (by first | assumption | (have := zI0; have := zI1; have := zIm; omega) | decide) (by first | assumption | (have := zI0; have := zI1; have := zIm; omega) | decide) (by first | assumption | (have := zI0; have := zI1; have := zIm; omega) | decide) (by first | assumption | (have := zI0; have := zI1; have := zIm; omega) | decide) (by first | assumption | (have := zI0; have := zI1; have := zIm; omega) | decide) (by first | assumption | (have := zI0; have := zI1; have := zIm; omega) | decide) (by first | assumption | (have := zI0; have := zI1; have := zIm; omega) | decide) (by first | assumption | (have := zI0; have := zI1; have := zIm; omega) | decide) (by first | assumption | (have := zI0; have := zI1; have := zIm; omega) | decide) (by first | assumption | (have := zI0; have := zI1; have := zIm; omega) | decide) (by first | assumption | (have := zI0; have := zI1; have := zIm; omega) | decide) (by first | assumption | (have := zI0; have := zI1; have := zIm; omega) | decide) (by first | assumption | (have := zI0; have := zI1; have := zIm; omega) | decide) (by first | assumption | (have := zI0; have := zI1; have := zIm; omega) | decide)) (cvB (n := 1) (inr30 _ (List.mem_of_getElem? (i := 0) rfl)) (inr30 _ (List.mem_of_getElem? (i := 1) rfl)) (inr30 _ (List.mem_of_getElem? (i := 2) rfl)) (inr1 _ (List.mem_of_getElem? (i := 5) rfl)) (inr30 _ (List.mem_of_getElem? (i := 3) rfl)) (by decide +kernel) hts rfl rfl ⟨Nat.le_of_ble_eq_true rfl, Nat.le_of_ble_eq_true rfl⟩) 0 12 rfl rfl rfl (hP.sub [0, 1] rfl) hK hN (kT.to hT hS hAB) rfl hl.1 rfl (Nat.le_of_ble_eq_true rfl) ⟨Nat.le_of_ble_eq_true rfl, Nat.le_of_ble_eq_true rfl⟩ dX12_parent_10 (fun r_9 h_10 => ?_)
    have h_10 : ((r_9.toInt = 1 ∧ 0 ≤ t_8.toInt ∧ t_8.toInt ≤ (f_world 0).toInt - 1) ∨ r_9.toInt = 0) ∧ (r_9 = 0 ∨ r_9 = 1) := h_10
    obtain ⟨i_11, i_12⟩ := h_10
    have ar_9 : 0 ≤ r_9.toInt ∧ r_9.toInt ≤ 1 := by rcases i_12 with h | h <;> rw [h] <;> decide
    refine lv_if_ne (tgt := 19) hx hb dX12_parent_13 (by decide) (fun c_13 => ?_) (fun c_13 => ?_)
    · have c_13 : ¬ r_9.toInt = 0 := ci_ne_t c_13
      have b_r_9 := i32b r_9
      have d_14 : 0 ≤ t_8.toInt ∧ t_8.toInt ≤ (f_world 0).toInt - 1 := by omega
      have b_15 := (by assumption : sg sgWo f_world) _ (List.mem_of_getElem? (i := 0) rfl) 0 (by decide) (by decide)
      have b_15 : 0 ≤ (f_world 0).toInt ∧ (f_world 0).toInt ≤ 9 := b_15
      clear i_11
      refine lv_aload_n hx hb dX12_parent_19 rfl (lv_at hl 0 rfl) ?_
      refine lv_iload_n hx hb dX12_parent_20 rfl (lv_at hl 1 rfl) ?_
      refine wrVi (As := [.int v1]) (rest := []) (wr := []) ⟨hx, hb, hml, hown, hts⟩ (b_X12_layParents l G D cB cI cJ cZ cS cT s.heap.size h0 v0_thrown h_world h_images h_hasImage h_tape v0_taped h_five v0_size v0_at v0_from v0_token v0_value v0_faultKind v0_faultPlace h_fresh h_spokenAt h_heardAt h_lastAt h_answerAt v0_lawA v0_lawB v0_lawC v0_drawX v0_isDrawn v0_lostMany h_heardNow h_seenAt v0_roundFrom v0_roundTo v0_goLast v0_goAnswer v0_goHeard h_fewest h_costNow h_costThen h_lawsOf h_heardBy v0_lawMany v0_askWorst h_placesOf h_sentIn v0_placeMany v0_parentFirst h_lostBy h_many h_width h_numbers h_moving f_world v1 (by first | assumption | (have := zI0; have := zI1; have := zIm; omega) | decide) (by first | assumption | (have := zI0; have := zI1; have := zIm; omega) | decide) (by first | assumption | (have := zI0; have := zI1; have := zIm; omega) | decide) (by first | assumption | (have := zI0; have := zI1; have := zIm; omega) | decide) (by first | assumption | (have := zI0; have := zI1; have := zIm; omega) | decide) (by first | assumption | (have := zI0; have := zI1; have := zIm; omega) | decide) (by first | assumption | (have := zI0; have := zI1; have := zIm; omega) | decide) (by first | assumption | (have := zI0; have := zI1; have := zIm; omega) | decide) (by first | assumption | (have := zI0; have := zI1; have := zIm; omega) | decide) (by first | assumption | (have := zI0; have := zI1; have := zIm; omega) | decide) (by first | assumption | (have := zI0; have := zI1; have := zIm; omega) | decide) (by first | assumption | (have := zI0; have := zI1; have := zIm; omega) | decide) (by first | assumption | (have := zI0; have := zI1; have := zIm; omega) | decide) (by first | assumption | (have := zI0; have := zI1; have := zIm; omega) | decide) (by first | assumption | (have := zI0; have := zI1; have := zIm; omega) | decide) (by first | assumption | (have := zI0; have := zI1; have := zIm; omega) | decide) (by first | assumption | (have := zI0; have := zI1; have := zIm; omega) | decide) (by first | assumption | (have := zI0; have := zI1; have := zIm; omega) | decide)) hP hD hS hA hK hN hT hAB hG [0, 1] [] rfl rfl (by decide) (by decide) (by decide) (cvB (n := 1) (inr60 _ (List.mem_of_getElem? (i := 13) rfl)) (inr60 _ (List.mem_of_getElem? (i := 14) rfl)) (inr60 _ (List.mem_of_getElem? (i := 15) rfl)) (inr1 _ (List.mem_of_getElem? (i := 5) rfl)) (inr60 _ (List.mem_of_getElem? (i := 16) rfl)) (by decide +kernel) hts rfl rfl ⟨Nat.le_of_ble_eq_true rfl, Nat.le_of_ble_eq_true rfl⟩) 0 12 rfl rfl rfl rfl hl.1 rfl (Nat.le_of_ble_eq_true rfl) ⟨Nat.le_of_ble_eq_true rfl, Nat.le_of_ble_eq_true rfl⟩ dX12_parent_21 (fun r_16 x9 H locs h_17 hP hD hS => ?_)
      obtain ⟨t_18, rfl⟩ : ∃ z, z = x9 := ⟨_, rfl⟩
      have hP : va_P D vwCl [(mO h0 v0_thrown h_world h_images h_hasImage h_tape v0_taped h_five v0_size v0_at v0_from v0_token v0_value v0_faultKind v0_faultPlace h_fresh h_spokenAt h_heardAt h_lastAt h_answerAt v0_lawA v0_lawB v0_lawC v0_drawX v0_isDrawn v0_lostMany h_heardNow h_seenAt v0_roundFrom v0_roundTo v0_goLast v0_goAnswer v0_goHeard h_fewest h_costNow h_costThen h_lawsOf h_heardBy v0_lawMany v0_askWorst h_placesOf h_sentIn v0_placeMany t_18 h_lostBy h_many h_width h_numbers h_moving), (h_world, .inl (cI, 53, .inl f_world))] H := hP
      have hD : va_D A [(mO h0 v0_thrown h_world h_images h_hasImage h_tape v0_taped h_five v0_size v0_at v0_from v0_token v0_value v0_faultKind v0_faultPlace h_fresh h_spokenAt h_heardAt h_lastAt h_answerAt v0_lawA v0_lawB v0_lawC v0_drawX v0_isDrawn v0_lostMany h_heardNow h_seenAt v0_roundFrom v0_roundTo v0_goLast v0_goAnswer v0_goHeard h_fewest h_costNow h_costThen h_lawsOf h_heardBy v0_lawMany v0_askWorst h_placesOf h_sentIn v0_placeMany t_18 h_lostBy h_many h_width h_numbers h_moving), (h_world, .inl (cI, 53, .inl f_world))] := hD
      refine lv_pop hx hb dX12_parent_24 rfl ?_
      refine lv_aload_n hx hb dX12_parent_25 rfl (lv_at hl 0 rfl) ?_
      refine va_get (D := D) (ci := 12) (v := .int t_18) (C := RX12) (T := TX12) (N := 48) hx hb hts inlX12 hown hK hP 0 rfl rfl 42 (by decide) (hts _ (inr60 _ (List.mem_of_getElem? (i := 17) rfl))) (fun _ h9 => h9) rfl dX12_parent_26 ?_
      exact ret _ _ _ _ _ t_18 dX12_parent_29 trivial (hP.sub [0, 1] rfl) (hD.sub [0, 1] (by decide) rfl) hS
    · have c_13 : r_9.toInt = 0 := ci_ne_f c_13
      have b_r_9 := i32b r_9
      clear i_11
      refine lv_bipush (v := (-2)) hx hb dX12_parent_16 (by decide) ?_
      exact ret _ _ _ _ _ v0_parentFirst dX12_parent_18 trivial (hP.sub [0, 1] rfl) (hD.sub [0, 1] (by decide) rfl) hS

set_option maxHeartbeats 4000000 in
set_option maxRecDepth 100000 in
theorem b_X12_clock_l42 {p : Program} {l : Launch} {e : Env} {s : State} {m : MethodId} {args : Array Value} {below : List Frame} {meth : Method} {c : Code} {Q : State → Prop} {G : Gho} {D : va_G} {cB cI cJ cZ cS cT : ClassId} {A : Nat → Prop} (h0 : Nat) (v0_thrown : Int32) (h_world : Nat) (h_images : Nat) (h_hasImage : Nat) (h_tape : Nat) (v0_taped : Int32) (h_five : Nat) (v0_size : Int32) (v0_at : Int32) (v0_from : Int32) (v0_token : Int32) (v0_value : Int32) (v0_faultKind : Int32) (v0_faultPlace : Int32) (h_fresh : Nat) (h_spokenAt : Nat) (h_heardAt : Nat) (h_lastAt : Nat) (h_answerAt : Nat) (v0_lawA : Int32) (v0_lawB : Int32) (v0_lawC : Int32) (v0_isDrawn : Int32) (h_heardNow : Nat) (h_seenAt : Nat) (v0_roundFrom : Int32) (v0_roundTo : Int32) (v0_goLast : Int32) (v0_goAnswer : Int32) (v0_goHeard : Int32) (h_fewest : Nat) (h_costNow : Nat) (h_costThen : Nat) (h_lawsOf : Nat) (h_heardBy : Nat) (v0_lawMany : Int32) (v0_askWorst : Int32) (h_placesOf : Nat) (h_sentIn : Nat) (v0_placeMany : Int32) (v0_parentFirst : Int32) (h_lostBy : Nat) (h_many : Nat) (h_width : Nat) (h_numbers : Nat) (h_moving : Nat) (f_answerAt : Nat → Int32) (f_heardAt : Nat → Int32) (f_lastAt : Nat → Int32) (f_spokenAt : Nat → Int32) (f_world : Nat → Int32) (v1 : Int32) (v2 : Int32) (t_19 : Int32) (t_20 : Int32) (t_21 : Int32) (t_22 : Int64) (t_23 : Int32) (t_24 : Int32) (g_25 : Nat → Int32) (g_26 : Nat → Int32) (g_27 : Nat → Int32) (g_28 : Nat → Int32) (iv0_taped : 0 ≤ v0_taped.toInt ∧ v0_taped.toInt ≤ 500) (iv0_size : 0 ≤ v0_size.toInt ∧ v0_size.toInt ≤ 500) (iv0_at : 0 ≤ v0_at.toInt ∧ v0_at.toInt ≤ 500) (iv0_from : 0 ≤ v0_from.toInt ∧ v0_from.toInt ≤ 500) (iv0_faultKind : 0 ≤ v0_faultKind.toInt ∧ v0_faultKind.toInt ≤ 3) (iv0_lawA : 0 ≤ v0_lawA.toInt ∧ v0_lawA.toInt ≤ 8) (iv0_lawB : 0 ≤ v0_lawB.toInt ∧ v0_lawB.toInt ≤ 8) (iv0_lawC : 0 ≤ v0_lawC.toInt ∧ v0_lawC.toInt ≤ 9) (iv0_isDrawn : 0 ≤ v0_isDrawn.toInt ∧ v0_isDrawn.toInt ≤ 1) (iv0_roundFrom : 0 ≤ v0_roundFrom.toInt ∧ v0_roundFrom.toInt ≤ 648) (iv0_roundTo : 0 ≤ v0_roundTo.toInt ∧ v0_roundTo.toInt ≤ 648) (iv0_goLast : 0 ≤ v0_goLast.toInt ∧ v0_goLast.toInt ≤ 8) (iv0_goAnswer : 0 ≤ v0_goAnswer.toInt ∧ v0_goAnswer.toInt ≤ 8) (iv0_lawMany : 0 ≤ v0_lawMany.toInt ∧ v0_lawMany.toInt ≤ 729) (iv0_placeMany : 0 ≤ v0_placeMany.toInt ∧ v0_placeMany.toInt ≤ 100) (pf_answerAt : sg sgLa f_answerAt) (pf_heardAt : sg sgSp f_heardAt) (pf_lastAt : sg sgLa f_lastAt) (pf_spokenAt : sg sgSp f_spokenAt) (pf_world : sg sgWo f_world) (cf_world : 0 < (f_world 9).toInt → 2 ≤ (f_world 0).toInt) (zv1 : 0 ≤ v1.toInt ∧ v1.toInt ≤ 999) (zv2 : (-50) ≤ v2.toInt ∧ v2.toInt ≤ 50) (zt_19 : 0 ≤ t_19.toInt ∧ t_19.toInt ≤ 8) (zt_20 : 0 ≤ t_20.toInt ∧ t_20.toInt ≤ 8) (zt_21 : 0 ≤ t_21.toInt ∧ t_21.toInt ≤ 9) (zt_23 : 0 ≤ t_23.toInt ∧ t_23.toInt ≤ 1) (yg_25 : sg sgLa g_25) (yg_26 : sg sgSp g_26) (yg_27 : sg sgLa g_27) (yg_28 : sg sgSp g_28) (i_29 : 0 ≤ t_19.toInt ∧ t_19.toInt ≤ 8) (i_30 : 0 ≤ t_20.toInt ∧ t_20.toInt ≤ 8) (i_31 : 0 ≤ t_21.toInt ∧ t_21.toInt ≤ 9) (i_32 : 0 ≤ t_23.toInt ∧ t_23.toInt ≤ 1) (d_40 : 0 < (f_world 9).toInt) (C : Cx p s m args c RX12 cX12_clock 5 G D (tyL cB cI cJ cZ cS cT)) (hG : G.1 ≤ s.heap.size) (hAB : ∀ q, A q → G.1 ≤ q) (hA : ∀ q : Nat, s.heap.size ≤ q → A q) (ret : RetI p l e ({ frames := 5, cells := 0, slots := 0, locals := 107 }) s m args below meth c cX12_clock D A (fun x : Int32 × Int32 × Int32 × Int64 × Int32 × Int32 × (Nat → Int32) × (Nat → Int32) × (Nat → Int32) × (Nat → Int32) => [(mO h0 v0_thrown h_world h_images h_hasImage h_tape v0_taped h_five v0_size v0_at v0_from v0_token v0_value v0_faultKind v0_faultPlace h_fresh h_spokenAt h_heardAt h_lastAt h_answerAt x.1 x.2.1 x.2.2.1 x.2.2.2.1 x.2.2.2.2.1 x.2.2.2.2.2.1 h_heardNow h_seenAt v0_roundFrom v0_roundTo v0_goLast v0_goAnswer v0_goHeard h_fewest h_costNow h_costThen h_lawsOf h_heardBy v0_lawMany v0_askWorst h_placesOf h_sentIn v0_placeMany v0_parentFirst h_lostBy h_many h_width h_numbers h_moving), (h_answerAt, .inl (cI, 62, .inl x.2.2.2.2.2.2.1)), (h_heardAt, .inl (cI, 61, .inl x.2.2.2.2.2.2.2.1)), (h_lastAt, .inl (cI, 62, .inl x.2.2.2.2.2.2.2.2.1)), (h_spokenAt, .inl (cI, 61, .inl x.2.2.2.2.2.2.2.2.2)), (h_world, .inl (cI, 53, .inl f_world))]) (fun (r : Int32) (x : Int32 × Int32 × Int32 × Int64 × Int32 × Int32 × (Nat → Int32) × (Nat → Int32) × (Nat → Int32) × (Nat → Int32)) => (0 ≤ x.1.toInt ∧ x.1.toInt ≤ 8) ∧ (0 ≤ x.2.1.toInt ∧ x.2.1.toInt ≤ 8) ∧ (0 ≤ x.2.2.1.toInt ∧ x.2.2.1.toInt ≤ 9) ∧ (0 ≤ x.2.2.2.2.1.toInt ∧ x.2.2.2.2.1.toInt ≤ 1) ∧ (sg sgLa x.2.2.2.2.2.2.1) ∧ (sg sgSp x.2.2.2.2.2.2.2.1) ∧ (sg sgLa x.2.2.2.2.2.2.2.2.1) ∧ (sg sgSp x.2.2.2.2.2.2.2.2.2)) Q) :
    ∀ (N : Nat) (l42_4 : Int32) (l42_3 : Int32) (H : Heap) (locs : List Loc) (ls : Array Slot), 0 ≤ l42_4.toInt → (61 - l42_4.toInt).toNat < N → va_P D vwCl [(mO h0 v0_thrown h_world h_images h_hasImage h_tape v0_taped h_five v0_size v0_at v0_from v0_token v0_value v0_faultKind v0_faultPlace h_fresh h_spokenAt h_heardAt h_lastAt h_answerAt t_19 t_20 t_21 t_22 t_23 t_24 h_heardNow h_seenAt v0_roundFrom v0_roundTo v0_goLast v0_goAnswer v0_goHeard h_fewest h_costNow h_costThen h_lawsOf h_heardBy v0_lawMany v0_askWorst h_placesOf h_sentIn v0_placeMany v0_parentFirst h_lostBy h_many h_width h_numbers h_moving), (h_answerAt, .inl (cI, 62, .inl g_25)), (h_heardAt, .inl (cI, 61, .inl g_26)), (h_lastAt, .inl (cI, 62, .inl g_27)), (h_spokenAt, .inl (cI, 61, .inl g_28)), (h_world, .inl (cI, 53, .inl f_world))] H → va_D A [(mO h0 v0_thrown h_world h_images h_hasImage h_tape v0_taped h_five v0_size v0_at v0_from v0_token v0_value v0_faultKind v0_faultPlace h_fresh h_spokenAt h_heardAt h_lastAt h_answerAt t_19 t_20 t_21 t_22 t_23 t_24 h_heardNow h_seenAt v0_roundFrom v0_roundTo v0_goLast v0_goAnswer v0_goHeard h_fewest h_costNow h_costThen h_lawsOf h_heardBy v0_lawMany v0_askWorst h_placesOf h_sentIn v0_placeMany v0_parentFirst h_lostBy h_many h_width h_numbers h_moving), (h_answerAt, .inl (cI, 62, .inl g_25)), (h_heardAt, .inl (cI, 61, .inl g_26)), (h_lastAt, .inl (cI, 62, .inl g_27)), (h_spokenAt, .inl (cI, 61, .inl g_28)), (h_world, .inl (cI, 53, .inl f_world))] → va_S A s.heap H locs → lv_has ls 5 [(4, .int l42_4), (3, .int l42_3), (0, .ref h0), (1, .int v1), (2, .int v2)] → W p l e ({ frames := 5, cells := 0, slots := 0, locals := 107 }) s m args below meth c H locs 0 0 Q (F0 m 42 ls []) := by
  obtain ⟨hx, hb, hml, hown, hts, hK, hN, hT⟩ := id C
  intro N
  induction N with
  | zero =>
    intro l42_4 l42_3 H locs ls kl42_4 hM_42 hP hD hS hl
    omega
  | succ N_42 ih_42 =>
    intro l42_4 l42_3 H locs ls kl42_4 hM_42 hP hD hS hl
    have b_l42_4 := i32b l42_4
    refine lv_iload hx hb dX12_clock_42 (lv_at hl 0 rfl) ?_
    refine lv_iload_n hx hb dX12_clock_44 rfl (lv_at hl 3 rfl) ?_
    refine lv_bipush (v := 60) hx hb dX12_clock_45 (by decide) ?_
    refine va_mmin hx hb (by rw [hml]; exact hl.1.symm) hown (hts _ (inr18 _ (List.mem_of_getElem? (i := 10) rfl))) (hts _ (inr18 _ (List.mem_of_getElem? (i := 11) rfl))) (hts _ (inr18 _ (List.mem_of_getElem? (i := 12) rfl))) (hts _ (inr18 _ (List.mem_of_getElem? (i := 13) rfl))) (Nat.le_of_ble_eq_true rfl) (Nat.le_of_ble_eq_true rfl) (Nat.le_of_ble_eq_true rfl) (Nat.le_of_ble_eq_true rfl) dX12_clock_47 ?_
    refine lv_topi (fun t_41 et_41 => ?_)
    have b_v1 := i32b v1
    have ft_41 : t_41.toInt ≤ v1.toInt ∧ t_41.toInt ≤ 60 ∧ (t_41.toInt = v1.toInt ∨ t_41.toInt = 60) := minT et_41
    refine lv_icmp_gt (tgt := 75) hx hb dX12_clock_50 (by decide) (fun c_42 => ?_) (fun c_42 => ?_)
    · have c_42 : t_41.toInt < l42_4.toInt := ci_gt_t c_42
      have b_t_41 := i32b t_41
      refine lv_iload_n hx hb dX12_clock_75 rfl (lv_at hl 4 rfl) ?_
      refine lv_iload_n hx hb dX12_clock_76 rfl (lv_at hl 3 rfl) ?_
      refine lv_iload_n hx hb dX12_clock_77 rfl (lv_at hl 1 rfl) ?_
      obtain ⟨t_43, et_43⟩ : ∃ v9 : Int32, v1 - l42_3 = v9 := ⟨_, rfl⟩
      refine z_isub (v := t_43) hx hb dX12_clock_78 et_43 ?_
      obtain ⟨t_44, et_44⟩ : ∃ v9 : Int32, v2 * t_43 = v9 := ⟨_, rfl⟩
      refine z_imul (v := t_44) hx hb dX12_clock_79 et_44 ?_
      exact ret _ _ _ _ _ (t_19, t_20, t_21, t_22, t_23, t_24, g_25, g_26, g_27, g_28) dX12_clock_80 (show (0 ≤ t_19.toInt ∧ t_19.toInt ≤ 8) ∧ (0 ≤ t_20.toInt ∧ t_20.toInt ≤ 8) ∧ (0 ≤ t_21.toInt ∧ t_21.toInt ≤ 9) ∧ (0 ≤ t_23.toInt ∧ t_23.toInt ≤ 1) ∧ (sg sgLa g_25) ∧ (sg sgSp g_26) ∧ (sg sgLa g_27) ∧ (sg sgSp g_28) from ⟨(by first | assumption | (have := zI0; have := zI1; have := zIm; omega) | decide), (by first | assumption | (have := zI0; have := zI1; have := zIm; omega) | decide), (by first | assumption | (have := zI0; have := zI1; have := zIm; omega) | decide), (by first | assumption | (have := zI0; have := zI1; have := zIm; omega) | decide), (by first | assumption | (have := zI0; have := zI1; have := zIm; omega) | decide), (by first | assumption | (have := zI0; have := zI1; have := zIm; omega) | decide), (by first | assumption | (have := zI0; have := zI1; have := zIm; omega) | decide), (by first | assumption | (have := zI0; have := zI1; have := zIm; omega) | decide)⟩) (hP.sub [0, 1, 2, 3, 4, 5] rfl) (hD.sub [0, 1, 2, 3, 4, 5] (by decide) rfl) hS
    · have c_42 : l42_4.toInt ≤ t_41.toInt := ci_gt_f c_42
      have b_t_41 := i32b t_41
      refine lv_aload_n hx hb dX12_clock_53 rfl (lv_at hl 2 rfl) ?_
      refine lv_iload hx hb dX12_clock_54 (lv_at hl 0 rfl) ?_
      refine roi (As := [.int l42_4]) (rest := []) ⟨hx, hb, hml, hown, hts⟩ (b_X12_isPip l G D cB cI cJ cZ cS cT h0 v0_thrown h_world h_images h_hasImage h_tape v0_taped h_five v0_size v0_at v0_from v0_token v0_value v0_faultKind v0_faultPlace h_fresh h_spokenAt h_heardAt h_lastAt h_answerAt t_19 t_20 t_21 t_22 t_23 t_24 h_heardNow h_seenAt v0_roundFrom v0_roundTo v0_goLast v0_goAnswer v0_goHeard h_fewest h_costNow h_costThen h_lawsOf h_heardBy v0_lawMany v0_askWorst h_placesOf h_sentIn v0_placeMany v0_parentFirst h_lostBy h_many h_width h_numbers h_moving g_26 g_27 f_world l42_4 (by first | assumption | (have := zI0; have := zI1; have := zIm; omega) | decide) (by first | assumption | (have := zI0; have := zI1; have := zIm; omega) | decide) (by first | assumption | (have := zI0; have := zI1; have := zIm; omega) | decide) (by first | assumption | (have := zI0; have := zI1; have := zIm; omega) | decide) (by first | assumption | (have := zI0; have := zI1; have := zIm; omega) | decide) (by first | assumption | (have := zI0; have := zI1; have := zIm; omega) | decide) (by first | assumption | (have := zI0; have := zI1; have := zIm; omega) | decide) (by first | assumption | (have := zI0; have := zI1; have := zIm; omega) | decide) (by first | assumption | (have := zI0; have := zI1; have := zIm; omega) | decide) (by first | assumption | (have := zI0; have := zI1; have := zIm; omega) | decide) (by first | assumption | (have := zI0; have := zI1; have := zIm; omega) | decide) (by first | assumption | (have := zI0; have := zI1; have := zIm; omega) | decide) (by first | assumption | (have := zI0; have := zI1; have := zIm; omega) | decide) (by first | assumption | (have := zI0; have := zI1; have := zIm; omega) | decide) (by first | assumption | (have := zI0; have := zI1; have := zIm; omega) | decide) (by first | assumption | (have := zI0; have := zI1; have := zIm; omega) | decide) (by first | assumption | (have := zI0; have := zI1; have := zIm; omega) | decide) (by first | assumption | (have := zI0; have := zI1; have := zIm; omega) | decide) (by first | assumption | (have := zI0; have := zI1; have := zIm; omega) | decide) (by first | assumption | (have := zI0; have := zI1; have := zIm; omega) | decide)) (cvB (n := 1) (inr28 _ (List.mem_of_getElem? (i := 11) rfl)) (inr28 _ (List.mem_of_getElem? (i := 12) rfl)) (inr28 _ (List.mem_of_getElem? (i := 13) rfl)) (inr1 _ (List.mem_of_getElem? (i := 5) rfl)) (inr28 _ (List.mem_of_getElem? (i := 14) rfl)) (by decide +kernel) hts rfl rfl ⟨Nat.le_of_ble_eq_true rfl, Nat.le_of_ble_eq_true rfl⟩) 0 12 rfl rfl rfl (hP.sub [0, 2, 3, 5] rfl) hK hN (kT.to hT hS hAB) rfl hl.1 rfl (Nat.le_of_ble_eq_true rfl) ⟨Nat.le_of_ble_eq_true rfl, Nat.le_of_ble_eq_true rfl⟩ dX12_clock_56 (fun r_45 h_46 => ?_)
      have h_46 : (r_45 = 0 ∨ r_45 = 1) := h_46
      have i_47 := h_46
      have ar_45 : 0 ≤ r_45.toInt ∧ r_45.toInt ≤ 1 := by rcases i_47 with h | h <;> rw [h] <;> decide
      refine lv_if_eq (tgt := 67) hx hb dX12_clock_59 (by decide) (fun c_48 => ?_) (fun c_48 => ?_)
      · have c_48 : r_45.toInt = 0 := ci_eq_t c_48
        have b_r_45 := i32b r_45
        refine lv_iload_n hx hb dX12_clock_67 rfl (lv_at hl 1 rfl) ?_
        refine lv_istore_n (lv' := [(3, .int l42_3), (4, .int l42_4), (0, .ref h0), (1, .int v1), (2, .int v2)]) hx hb dX12_clock_68 rfl hl (by decide) rfl (fun ls hl => ?_)
        obtain ⟨t_49, et_49⟩ : ∃ v9 : Int32, l42_4 + 1 = v9 := ⟨_, rfl⟩
        have ft_49 : t_49.toInt = l42_4.toInt + 1 := addT (a := l42_4.toInt) (b := 1) rfl (by decide) et_49 (by omega) (by omega)
        refine lv_iinc (v := t_49) (lv' := [(4, .int t_49), (3, .int l42_3), (0, .ref h0), (1, .int v1), (2, .int v2)]) hx hb dX12_clock_69 hl (k := 1) rfl (by rw [← et_49]; rfl) (by decide) rfl (fun ls hl => ?_)
        refine lv_goto (tgt := 42) hx hb dX12_clock_72 (by decide) ?_
        exact ih_42 (t_49) (l42_3) _ _ _ (by first | assumption | (have := zI0; have := zI1; have := zIm; omega) | decide) (by omega) (hP.sub [0, 1, 2, 3, 4, 5] rfl) (hD.sub [0, 1, 2, 3, 4, 5] (by decide) rfl) hS (lv_sub hl [0, 1, 2, 3, 4] rfl)
      · have c_48 : ¬ r_45.toInt = 0 := ci_eq_f c_48
        have b_r_45 := i32b r_45
        refine lv_iload hx hb dX12_clock_62 (lv_at hl 0 rfl) ?_
        refine lv_goto (tgt := 68) hx hb dX12_clock_64 (by decide) ?_
        refine lv_istore_n (lv' := [(3, .int l42_4), (4, .int l42_4), (0, .ref h0), (1, .int v1), (2, .int v2)]) hx hb dX12_clock_68 rfl hl (by decide) rfl (fun ls hl => ?_)
        obtain ⟨t_50, et_50⟩ : ∃ v9 : Int32, l42_4 + 1 = v9 := ⟨_, rfl⟩
        have ft_50 : t_50.toInt = l42_4.toInt + 1 := addT (a := l42_4.toInt) (b := 1) rfl (by decide) et_50 (by omega) (by omega)
        refine lv_iinc (v := t_50) (lv' := [(4, .int t_50), (3, .int l42_4), (0, .ref h0), (1, .int v1), (2, .int v2)]) hx hb dX12_clock_69 hl (k := 1) rfl (by rw [← et_50]; rfl) (by decide) rfl (fun ls hl => ?_)
        refine lv_goto (tgt := 42) hx hb dX12_clock_72 (by decide) ?_
        exact ih_42 (t_50) (l42_4) _ _ _ (by first | assumption | (have := zI0; have := zI1; have := zIm; omega) | decide) (by omega) (hP.sub [0, 1, 2, 3, 4, 5] rfl) (hD.sub [0, 1, 2, 3, 4, 5] (by decide) rfl) hS (lv_sub hl [0, 1, 2, 3, 4] rfl)

set_option maxHeartbeats 4000000 in
set_option maxRecDepth 100000 in
theorem b_X12_clock (l : Launch) (G : Gho) (D : va_G) (cB cI cJ cZ cS cT : ClassId) (sz : Nat) (h0 : Nat) (v0_thrown : Int32) (h_world : Nat) (h_images : Nat) (h_hasImage : Nat) (h_tape : Nat) (v0_taped : Int32) (h_five : Nat) (v0_size : Int32) (v0_at : Int32) (v0_from : Int32) (v0_token : Int32) (v0_value : Int32) (v0_faultKind : Int32) (v0_faultPlace : Int32) (h_fresh : Nat) (h_spokenAt : Nat) (h_heardAt : Nat) (h_lastAt : Nat) (h_answerAt : Nat) (v0_lawA : Int32) (v0_lawB : Int32) (v0_lawC : Int32) (v0_drawX : Int64) (v0_isDrawn : Int32) (v0_lostMany : Int32) (h_heardNow : Nat) (h_seenAt : Nat) (v0_roundFrom : Int32) (v0_roundTo : Int32) (v0_goLast : Int32) (v0_goAnswer : Int32) (v0_goHeard : Int32) (h_fewest : Nat) (h_costNow : Nat) (h_costThen : Nat) (h_lawsOf : Nat) (h_heardBy : Nat) (v0_lawMany : Int32) (v0_askWorst : Int32) (h_placesOf : Nat) (h_sentIn : Nat) (v0_placeMany : Int32) (v0_parentFirst : Int32) (h_lostBy : Nat) (h_many : Nat) (h_width : Nat) (h_numbers : Nat) (h_moving : Nat) (f_answerAt : Nat → Int32) (f_heardAt : Nat → Int32) (f_lastAt : Nat → Int32) (f_spokenAt : Nat → Int32) (f_world : Nat → Int32) (v1 : Int32) (v2 : Int32) (iv0_taped : 0 ≤ v0_taped.toInt ∧ v0_taped.toInt ≤ 500) (iv0_size : 0 ≤ v0_size.toInt ∧ v0_size.toInt ≤ 500) (iv0_at : 0 ≤ v0_at.toInt ∧ v0_at.toInt ≤ 500) (iv0_from : 0 ≤ v0_from.toInt ∧ v0_from.toInt ≤ 500) (iv0_faultKind : 0 ≤ v0_faultKind.toInt ∧ v0_faultKind.toInt ≤ 3) (iv0_lawA : 0 ≤ v0_lawA.toInt ∧ v0_lawA.toInt ≤ 8) (iv0_lawB : 0 ≤ v0_lawB.toInt ∧ v0_lawB.toInt ≤ 8) (iv0_lawC : 0 ≤ v0_lawC.toInt ∧ v0_lawC.toInt ≤ 9) (iv0_isDrawn : 0 ≤ v0_isDrawn.toInt ∧ v0_isDrawn.toInt ≤ 1) (iv0_roundFrom : 0 ≤ v0_roundFrom.toInt ∧ v0_roundFrom.toInt ≤ 648) (iv0_roundTo : 0 ≤ v0_roundTo.toInt ∧ v0_roundTo.toInt ≤ 648) (iv0_goLast : 0 ≤ v0_goLast.toInt ∧ v0_goLast.toInt ≤ 8) (iv0_goAnswer : 0 ≤ v0_goAnswer.toInt ∧ v0_goAnswer.toInt ≤ 8) (iv0_lawMany : 0 ≤ v0_lawMany.toInt ∧ v0_lawMany.toInt ≤ 729) (iv0_placeMany : 0 ≤ v0_placeMany.toInt ∧ v0_placeMany.toInt ≤ 100) (pf_answerAt : sg sgLa f_answerAt) (pf_heardAt : sg sgSp f_heardAt) (pf_lastAt : sg sgLa f_lastAt) (pf_spokenAt : sg sgSp f_spokenAt) (pf_world : sg sgWo f_world) (cf_world : 0 < (f_world 9).toInt → 2 ≤ (f_world 0).toInt) : Met l yX12_clock (Cond.code yX12_clock cX12_clock 5 (some .int) :: wsL_law) ({ frames := 5, cells := 0, slots := 0, locals := 107 }) (wrP G D (tyL cB cI cJ cZ cS cT) [(mO h0 v0_thrown h_world h_images h_hasImage h_tape v0_taped h_five v0_size v0_at v0_from v0_token v0_value v0_faultKind v0_faultPlace h_fresh h_spokenAt h_heardAt h_lastAt h_answerAt v0_lawA v0_lawB v0_lawC v0_drawX v0_isDrawn v0_lostMany h_heardNow h_seenAt v0_roundFrom v0_roundTo v0_goLast v0_goAnswer v0_goHeard h_fewest h_costNow h_costThen h_lawsOf h_heardBy v0_lawMany v0_askWorst h_placesOf h_sentIn v0_placeMany v0_parentFirst h_lostBy h_many h_width h_numbers h_moving), (h_answerAt, .inl (cI, 62, .inl f_answerAt)), (h_heardAt, .inl (cI, 61, .inl f_heardAt)), (h_lastAt, .inl (cI, 62, .inl f_lastAt)), (h_spokenAt, .inl (cI, 61, .inl f_spokenAt)), (h_world, .inl (cI, 53, .inl f_world))] sz [.ref h0, .int v1, .int v2]) (va_Qi (fun (r : Int32) (x : Int32 × Int32 × Int32 × Int64 × Int32 × Int32 × (Nat → Int32) × (Nat → Int32) × (Nat → Int32) × (Nat → Int32)) => (0 ≤ x.1.toInt ∧ x.1.toInt ≤ 8) ∧ (0 ≤ x.2.1.toInt ∧ x.2.1.toInt ≤ 8) ∧ (0 ≤ x.2.2.1.toInt ∧ x.2.2.1.toInt ≤ 9) ∧ (0 ≤ x.2.2.2.2.1.toInt ∧ x.2.2.2.2.1.toInt ≤ 1) ∧ (sg sgLa x.2.2.2.2.2.2.1) ∧ (sg sgSp x.2.2.2.2.2.2.2.1) ∧ (sg sgLa x.2.2.2.2.2.2.2.2.1) ∧ (sg sgSp x.2.2.2.2.2.2.2.2.2)) (atW D (tyL cB cI cJ cZ cS cT) (va_A [(mO h0 v0_thrown h_world h_images h_hasImage h_tape v0_taped h_five v0_size v0_at v0_from v0_token v0_value v0_faultKind v0_faultPlace h_fresh h_spokenAt h_heardAt h_lastAt h_answerAt v0_lawA v0_lawB v0_lawC v0_drawX v0_isDrawn v0_lostMany h_heardNow h_seenAt v0_roundFrom v0_roundTo v0_goLast v0_goAnswer v0_goHeard h_fewest h_costNow h_costThen h_lawsOf h_heardBy v0_lawMany v0_askWorst h_placesOf h_sentIn v0_placeMany v0_parentFirst h_lostBy h_many h_width h_numbers h_moving), (h_answerAt, .inl (cI, 62, .inl f_answerAt)), (h_heardAt, .inl (cI, 61, .inl f_heardAt)), (h_lastAt, .inl (cI, 62, .inl f_lastAt)), (h_spokenAt, .inl (cI, 61, .inl f_spokenAt)), (h_world, .inl (cI, 53, .inl f_world))] sz) (fun x : Int32 × Int32 × Int32 × Int64 × Int32 × Int32 × (Nat → Int32) × (Nat → Int32) × (Nat → Int32) × (Nat → Int32) => [(mO h0 v0_thrown h_world h_images h_hasImage h_tape v0_taped h_five v0_size v0_at v0_from v0_token v0_value v0_faultKind v0_faultPlace h_fresh h_spokenAt h_heardAt h_lastAt h_answerAt x.1 x.2.1 x.2.2.1 x.2.2.2.1 x.2.2.2.2.1 x.2.2.2.2.2.1 h_heardNow h_seenAt v0_roundFrom v0_roundTo v0_goLast v0_goAnswer v0_goHeard h_fewest h_costNow h_costThen h_lawsOf h_heardBy v0_lawMany v0_askWorst h_placesOf h_sentIn v0_placeMany v0_parentFirst h_lostBy h_many h_width h_numbers h_moving), (h_answerAt, .inl (cI, 62, .inl x.2.2.2.2.2.2.1)), (h_heardAt, .inl (cI, 61, .inl x.2.2.2.2.2.2.2.1)), (h_lastAt, .inl (cI, 62, .inl x.2.2.2.2.2.2.2.2.1)), (h_spokenAt, .inl (cI, 61, .inl x.2.2.2.2.2.2.2.2.2)), (h_world, .inl (cI, 53, .inl f_world))])) (va_A [(mO h0 v0_thrown h_world h_images h_hasImage h_tape v0_taped h_five v0_size v0_at v0_from v0_token v0_value v0_faultKind v0_faultPlace h_fresh h_spokenAt h_heardAt h_lastAt h_answerAt v0_lawA v0_lawB v0_lawC v0_drawX v0_isDrawn v0_lostMany h_heardNow h_seenAt v0_roundFrom v0_roundTo v0_goLast v0_goAnswer v0_goHeard h_fewest h_costNow h_costThen h_lawsOf h_heardBy v0_lawMany v0_askWorst h_placesOf h_sentIn v0_placeMany v0_parentFirst h_lostBy h_many h_width h_numbers h_moving), (h_answerAt, .inl (cI, 62, .inl f_answerAt)), (h_heardAt, .inl (cI, 61, .inl f_heardAt)), (h_lastAt, .inl (cI, 62, .inl f_lastAt)), (h_spokenAt, .inl (cI, 61, .inl f_spokenAt)), (h_world, .inl (cI, 53, .inl f_world))] sz)) 0 0 (va_A [(mO h0 v0_thrown h_world h_images h_hasImage h_tape v0_taped h_five v0_size v0_at v0_from v0_token v0_value v0_faultKind v0_faultPlace h_fresh h_spokenAt h_heardAt h_lastAt h_answerAt v0_lawA v0_lawB v0_lawC v0_drawX v0_isDrawn v0_lostMany h_heardNow h_seenAt v0_roundFrom v0_roundTo v0_goLast v0_goAnswer v0_goHeard h_fewest h_costNow h_costThen h_lawsOf h_heardBy v0_lawMany v0_askWorst h_placesOf h_sentIn v0_placeMany v0_parentFirst h_lostBy h_many h_width h_numbers h_moving), (h_answerAt, .inl (cI, 62, .inl f_answerAt)), (h_heardAt, .inl (cI, 61, .inl f_heardAt)), (h_lastAt, .inl (cI, 62, .inl f_lastAt)), (h_spokenAt, .inl (cI, 61, .inl f_spokenAt)), (h_world, .inl (cI, 53, .inl f_world))] sz) := by
  refine metI (own := RX12) (by decide) rfl ?_
  intro p e s m below meth c Q hsz C hG hP hD hAB ret
  obtain ⟨hx, hb, hml, hown, hts, hK, hN, hT⟩ := id C
  subst hsz
  generalize hAe : va_A [(mO h0 v0_thrown h_world h_images h_hasImage h_tape v0_taped h_five v0_size v0_at v0_from v0_token v0_value v0_faultKind v0_faultPlace h_fresh h_spokenAt h_heardAt h_lastAt h_answerAt v0_lawA v0_lawB v0_lawC v0_drawX v0_isDrawn v0_lostMany h_heardNow h_seenAt v0_roundFrom v0_roundTo v0_goLast v0_goAnswer v0_goHeard h_fewest h_costNow h_costThen h_lawsOf h_heardBy v0_lawMany v0_askWorst h_placesOf h_sentIn v0_placeMany v0_parentFirst h_lostBy h_many h_width h_numbers h_moving), (h_answerAt, .inl (cI, 62, .inl f_answerAt)), (h_heardAt, .inl (cI, 61, .inl f_heardAt)), (h_lastAt, .inl (cI, 62, .inl f_lastAt)), (h_spokenAt, .inl (cI, 61, .inl f_spokenAt)), (h_world, .inl (cI, 53, .inl f_world))] s.heap.size = A at hD hAB ret ⊢
  have hA : ∀ q : Nat, s.heap.size ≤ q → A q := fun q h => by rw [← hAe]; exact Or.inr h
  have hS : va_S A s.heap s.heap [] := va_S.rf
  have hl := lv_entry ([.ref h0, .int v1, .int v2]) (n := 5) (Nat.le_of_ble_eq_true rfl)
  rw [lg_entry_eq]
  generalize (lg_sl ([.ref h0, .int v1, .int v2]) ++ List.replicate (5 - (lg_sl ([.ref h0, .int v1, .int v2])).length) Slot.unset).toArray = ls at hl ⊢
  have hl : lv_has ls 5 [(0, .ref h0), (1, .int v1), (2, .int v2)] := hl
  have hP : va_P D vwCl [(mO h0 v0_thrown h_world h_images h_hasImage h_tape v0_taped h_five v0_size v0_at v0_from v0_token v0_value v0_faultKind v0_faultPlace h_fresh h_spokenAt h_heardAt h_lastAt h_answerAt v0_lawA v0_lawB v0_lawC v0_drawX v0_isDrawn v0_lostMany h_heardNow h_seenAt v0_roundFrom v0_roundTo v0_goLast v0_goAnswer v0_goHeard h_fewest h_costNow h_costThen h_lawsOf h_heardBy v0_lawMany v0_askWorst h_placesOf h_sentIn v0_placeMany v0_parentFirst h_lostBy h_many h_width h_numbers h_moving), (h_answerAt, .inl (cI, 62, .inl f_answerAt)), (h_heardAt, .inl (cI, 61, .inl f_heardAt)), (h_lastAt, .inl (cI, 62, .inl f_lastAt)), (h_spokenAt, .inl (cI, 61, .inl f_spokenAt)), (h_world, .inl (cI, 53, .inl f_world))] s.heap := hP
  refine lv_iload_n hx hb dX12_clock_0 rfl (lv_at hl 1 rfl) ?_
  have b_v1 := i32b v1
  obtain ⟨t_1, et_1⟩ : ∃ v9 : Int64, (v1 : Int32).toInt64 = v9 := ⟨_, rfl⟩
  refine lv_i2l (v := t_1) hx hb dX12_clock_1 et_1 ?_
  have ft_1 : t_1.toInt = v1.toInt := by rw [← et_1]; exact Int32.toInt_toInt64 _
  refine lv_lconst (v := 0) hx hb dX12_clock_2 (by decide) ?_
  refine lv_ldc2 hx hb hown (hts _ (inr57 _ (List.mem_of_getElem? (i := 20) rfl))) dX12_clock_3 ?_
  refine rosi (As := [.long t_1, .long 0, .long 999]) (rest := []) ⟨hx, hb, hml, hown, hts⟩ (b_X12_in l G D cB cI cJ cZ cS cT t_1 0 999 ) (csB (n := 3) (inr9 _ (List.mem_of_getElem? (i := 3) rfl)) (inr9 _ (List.mem_of_getElem? (i := 4) rfl)) (inr1 _ (List.mem_of_getElem? (i := 5) rfl)) (inr9 _ (List.mem_of_getElem? (i := 5) rfl)) (by decide +kernel) hts rfl rfl ⟨Nat.le_of_ble_eq_true rfl, Nat.le_of_ble_eq_true rfl⟩) (hP.sub [] rfl) hK hN (kT.to hT hS hAB) rfl hl.1 rfl (Nat.le_of_ble_eq_true rfl) ⟨Nat.le_of_ble_eq_true rfl, Nat.le_of_ble_eq_true rfl⟩ dX12_clock_6 (fun r_2 h_3 => ?_)
  have h_3 : ((r_2.toInt = 1 ∧ 0 ≤ t_1.toInt ∧ t_1.toInt ≤ 999) ∨ (r_2.toInt = 0 ∧ (t_1.toInt < 0 ∨ 999 < t_1.toInt))) ∧ (r_2 = 0 ∨ r_2 = 1) := h_3
  obtain ⟨i_4, i_5⟩ := h_3
  have ar_2 : 0 ≤ r_2.toInt ∧ r_2.toInt ≤ 1 := by rcases i_5 with h | h <;> rw [h] <;> decide
  refine lv_if_eq (tgt := 33) hx hb dX12_clock_9 (by decide) (fun c_6 => ?_) (fun c_6 => ?_)
  · have c_6 : r_2.toInt = 0 := ci_eq_t c_6
    have b_r_2 := i32b r_2
    have d_7 : (t_1.toInt < 0 ∨ 999 < t_1.toInt) := by omega
    clear i_4
    refine lv_ldcw hx hb hown (hts _ (inr61 _ (List.mem_of_getElem? (i := 20) rfl))) dX12_clock_33 ?_
    exact ret _ _ _ _ _ (v0_lawA, v0_lawB, v0_lawC, v0_drawX, v0_isDrawn, v0_lostMany, f_answerAt, f_heardAt, f_lastAt, f_spokenAt) dX12_clock_36 (show (0 ≤ v0_lawA.toInt ∧ v0_lawA.toInt ≤ 8) ∧ (0 ≤ v0_lawB.toInt ∧ v0_lawB.toInt ≤ 8) ∧ (0 ≤ v0_lawC.toInt ∧ v0_lawC.toInt ≤ 9) ∧ (0 ≤ v0_isDrawn.toInt ∧ v0_isDrawn.toInt ≤ 1) ∧ (sg sgLa f_answerAt) ∧ (sg sgSp f_heardAt) ∧ (sg sgLa f_lastAt) ∧ (sg sgSp f_spokenAt) from ⟨(by first | assumption | (have := zI0; have := zI1; have := zIm; omega) | decide), (by first | assumption | (have := zI0; have := zI1; have := zIm; omega) | decide), (by first | assumption | (have := zI0; have := zI1; have := zIm; omega) | decide), (by first | assumption | (have := zI0; have := zI1; have := zIm; omega) | decide), (by first | assumption | (have := zI0; have := zI1; have := zIm; omega) | decide), (by first | assumption | (have := zI0; have := zI1; have := zIm; omega) | decide), (by first | assumption | (have := zI0; have := zI1; have := zIm; omega) | decide), (by first | assumption | (have := zI0; have := zI1; have := zIm; omega) | decide)⟩) (hP.sub [0, 1, 2, 3, 4, 5] rfl) (hD.sub [0, 1, 2, 3, 4, 5] (by decide) rfl) hS
  · have c_6 : ¬ r_2.toInt = 0 := ci_eq_f c_6
    have b_r_2 := i32b r_2
    have d_8 : 0 ≤ t_1.toInt ∧ t_1.toInt ≤ 999 := by omega
    clear i_4
    refine lv_iload_n hx hb dX12_clock_12 rfl (lv_at hl 2 rfl) ?_
    have b_v2 := i32b v2
    obtain ⟨t_9, et_9⟩ : ∃ v9 : Int64, (v2 : Int32).toInt64 = v9 := ⟨_, rfl⟩
    refine lv_i2l (v := t_9) hx hb dX12_clock_13 et_9 ?_
    have ft_9 : t_9.toInt = v2.toInt := by rw [← et_9]; exact Int32.toInt_toInt64 _
    refine lv_ldc2 hx hb hown (hts _ (inr61 _ (List.mem_of_getElem? (i := 18) rfl))) dX12_clock_14 ?_
    refine lv_ldc2 hx hb hown (hts _ (inr61 _ (List.mem_of_getElem? (i := 19) rfl))) dX12_clock_17 ?_
    refine rosi (As := [.long t_9, .long (-50), .long 50]) (rest := []) ⟨hx, hb, hml, hown, hts⟩ (b_X12_in l G D cB cI cJ cZ cS cT t_9 (-50) 50 ) (csB (n := 3) (inr9 _ (List.mem_of_getElem? (i := 3) rfl)) (inr9 _ (List.mem_of_getElem? (i := 4) rfl)) (inr1 _ (List.mem_of_getElem? (i := 5) rfl)) (inr9 _ (List.mem_of_getElem? (i := 5) rfl)) (by decide +kernel) hts rfl rfl ⟨Nat.le_of_ble_eq_true rfl, Nat.le_of_ble_eq_true rfl⟩) (hP.sub [] rfl) hK hN (kT.to hT hS hAB) rfl hl.1 rfl (Nat.le_of_ble_eq_true rfl) ⟨Nat.le_of_ble_eq_true rfl, Nat.le_of_ble_eq_true rfl⟩ dX12_clock_20 (fun r_10 h_11 => ?_)
    have h_11 : ((r_10.toInt = 1 ∧ (-50) ≤ t_9.toInt ∧ t_9.toInt ≤ 50) ∨ (r_10.toInt = 0 ∧ (t_9.toInt < (-50) ∨ 50 < t_9.toInt))) ∧ (r_10 = 0 ∨ r_10 = 1) := h_11
    obtain ⟨i_12, i_13⟩ := h_11
    have ar_10 : 0 ≤ r_10.toInt ∧ r_10.toInt ≤ 1 := by rcases i_13 with h | h <;> rw [h] <;> decide
    refine lv_if_eq (tgt := 33) hx hb dX12_clock_23 (by decide) (fun c_14 => ?_) (fun c_14 => ?_)
    · have c_14 : r_10.toInt = 0 := ci_eq_t c_14
      have b_r_10 := i32b r_10
      have d_15 : (t_9.toInt < (-50) ∨ 50 < t_9.toInt) := by omega
      clear i_12
      refine lv_ldcw hx hb hown (hts _ (inr61 _ (List.mem_of_getElem? (i := 20) rfl))) dX12_clock_33 ?_
      exact ret _ _ _ _ _ (v0_lawA, v0_lawB, v0_lawC, v0_drawX, v0_isDrawn, v0_lostMany, f_answerAt, f_heardAt, f_lastAt, f_spokenAt) dX12_clock_36 (show (0 ≤ v0_lawA.toInt ∧ v0_lawA.toInt ≤ 8) ∧ (0 ≤ v0_lawB.toInt ∧ v0_lawB.toInt ≤ 8) ∧ (0 ≤ v0_lawC.toInt ∧ v0_lawC.toInt ≤ 9) ∧ (0 ≤ v0_isDrawn.toInt ∧ v0_isDrawn.toInt ≤ 1) ∧ (sg sgLa f_answerAt) ∧ (sg sgSp f_heardAt) ∧ (sg sgLa f_lastAt) ∧ (sg sgSp f_spokenAt) from ⟨(by first | assumption | (have := zI0; have := zI1; have := zIm; omega) | decide), (by first | assumption | (have := zI0; have := zI1; have := zIm; omega) | decide), (by first | assumption | (have := zI0; have := zI1; have := zIm; omega) | decide), (by first | assumption | (have := zI0; have := zI1; have := zIm; omega) | decide), (by first | assumption | (have := zI0; have := zI1; have := zIm; omega) | decide), (by first | assumption | (have := zI0; have := zI1; have := zIm; omega) | decide), (by first | assumption | (have := zI0; have := zI1; have := zIm; omega) | decide), (by first | assumption | (have := zI0; have := zI1; have := zIm; omega) | decide)⟩) (hP.sub [0, 1, 2, 3, 4, 5] rfl) (hD.sub [0, 1, 2, 3, 4, 5] (by decide) rfl) hS
    · have c_14 : ¬ r_10.toInt = 0 := ci_eq_f c_14
      have b_r_10 := i32b r_10
      have d_16 : (-50) ≤ t_9.toInt ∧ t_9.toInt ≤ 50 := by omega
      clear i_12
      refine lv_aload_n hx hb dX12_clock_26 rfl (lv_at hl 0 rfl) ?_
      refine wrVi (As := []) (rest := []) (wr := []) ⟨hx, hb, hml, hown, hts⟩ (b_X12_asksStation l G D cB cI cJ cZ cS cT s.heap.size h0 v0_thrown h_world h_images h_hasImage h_tape v0_taped h_five v0_size v0_at v0_from v0_token v0_value v0_faultKind v0_faultPlace h_fresh h_spokenAt h_heardAt h_lastAt h_answerAt v0_lawA v0_lawB v0_lawC v0_drawX v0_isDrawn v0_lostMany h_heardNow h_seenAt v0_roundFrom v0_roundTo v0_goLast v0_goAnswer v0_goHeard h_fewest h_costNow h_costThen h_lawsOf h_heardBy v0_lawMany v0_askWorst h_placesOf h_sentIn v0_placeMany v0_parentFirst h_lostBy h_many h_width h_numbers h_moving f_answerAt f_heardAt f_lastAt f_spokenAt f_world (by first | assumption | (have := zI0; have := zI1; have := zIm; omega) | decide) (by first | assumption | (have := zI0; have := zI1; have := zIm; omega) | decide) (by first | assumption | (have := zI0; have := zI1; have := zIm; omega) | decide) (by first | assumption | (have := zI0; have := zI1; have := zIm; omega) | decide) (by first | assumption | (have := zI0; have := zI1; have := zIm; omega) | decide) (by first | assumption | (have := zI0; have := zI1; have := zIm; omega) | decide) (by first | assumption | (have := zI0; have := zI1; have := zIm; omega) | decide) (by first | assumption | (have := zI0; have := zI1; have := zIm; omega) | decide) (by first | assumption | (have := zI0; have := zI1; have := zIm; omega) | decide) (by first | assumption | (have := zI0; have := zI1; have := zIm; omega) | decide) (by first | assumption | (have := zI0; have := zI1; have := zIm; omega) | decide) (by first | assumption | (have := zI0; have := zI1; have := zIm; omega) | decide) (by first | assumption | (have := zI0; have := zI1; have := zIm; omega) | decide) (by first | assumption | (have := zI0; have := zI1; have := zIm; omega) | decide) (by first | assumption | (have := zI0; have := zI1; have := zIm; omega) | decide) (by first | assumption | (have := zI0; have := zI1; have := zIm; omega) | decide) (by first | assumption | (have := zI0; have := zI1; have := zIm; omega) | decide) (by first | assumption | (have := zI0; have := zI1; have := zIm; omega) | decide) (by first | assumption | (have := zI0; have := zI1; have := zIm; omega) | decide) (by first | assumption | (have := zI0; have := zI1; have := zIm; omega) | decide) (by first | assumption | (have := zI0; have := zI1; have := zIm; omega) | decide)) hP hD hS hA hK hN hT hAB hG [0, 1, 2, 3, 4, 5] [] rfl rfl (by decide) (by decide) (by decide) (cvB (n := 0) (inr24 _ (List.mem_of_getElem? (i := 3) rfl)) (inr24 _ (List.mem_of_getElem? (i := 4) rfl)) (inr24 _ (List.mem_of_getElem? (i := 5) rfl)) (inr1 _ (List.mem_of_getElem? (i := 5) rfl)) (inr24 _ (List.mem_of_getElem? (i := 6) rfl)) (by decide +kernel) hts rfl rfl ⟨Nat.le_of_ble_eq_true rfl, Nat.le_of_ble_eq_true rfl⟩) 0 12 rfl rfl rfl rfl hl.1 rfl (Nat.le_of_ble_eq_true rfl) ⟨Nat.le_of_ble_eq_true rfl, Nat.le_of_ble_eq_true rfl⟩ dX12_clock_27 (fun r_17 x9 H locs h_18 hP hD hS => ?_)
      obtain ⟨t_19, t_20, t_21, t_22, t_23, t_24, g_25, g_26, g_27, g_28⟩ := x9
      have hP : va_P D vwCl [(mO h0 v0_thrown h_world h_images h_hasImage h_tape v0_taped h_five v0_size v0_at v0_from v0_token v0_value v0_faultKind v0_faultPlace h_fresh h_spokenAt h_heardAt h_lastAt h_answerAt t_19 t_20 t_21 t_22 t_23 t_24 h_heardNow h_seenAt v0_roundFrom v0_roundTo v0_goLast v0_goAnswer v0_goHeard h_fewest h_costNow h_costThen h_lawsOf h_heardBy v0_lawMany v0_askWorst h_placesOf h_sentIn v0_placeMany v0_parentFirst h_lostBy h_many h_width h_numbers h_moving), (h_answerAt, .inl (cI, 62, .inl g_25)), (h_heardAt, .inl (cI, 61, .inl g_26)), (h_lastAt, .inl (cI, 62, .inl g_27)), (h_spokenAt, .inl (cI, 61, .inl g_28)), (h_world, .inl (cI, 53, .inl f_world))] H := hP
      have hD : va_D A [(mO h0 v0_thrown h_world h_images h_hasImage h_tape v0_taped h_five v0_size v0_at v0_from v0_token v0_value v0_faultKind v0_faultPlace h_fresh h_spokenAt h_heardAt h_lastAt h_answerAt t_19 t_20 t_21 t_22 t_23 t_24 h_heardNow h_seenAt v0_roundFrom v0_roundTo v0_goLast v0_goAnswer v0_goHeard h_fewest h_costNow h_costThen h_lawsOf h_heardBy v0_lawMany v0_askWorst h_placesOf h_sentIn v0_placeMany v0_parentFirst h_lostBy h_many h_width h_numbers h_moving), (h_answerAt, .inl (cI, 62, .inl g_25)), (h_heardAt, .inl (cI, 61, .inl g_26)), (h_lastAt, .inl (cI, 62, .inl g_27)), (h_spokenAt, .inl (cI, 61, .inl g_28)), (h_world, .inl (cI, 53, .inl f_world))] := hD
      have h_18 : (0 ≤ t_19.toInt ∧ t_19.toInt ≤ 8) ∧ (0 ≤ t_20.toInt ∧ t_20.toInt ≤ 8) ∧ (0 ≤ t_21.toInt ∧ t_21.toInt ≤ 9) ∧ (0 ≤ t_23.toInt ∧ t_23.toInt ≤ 1) ∧ (sg sgLa g_25) ∧ (sg sgSp g_26) ∧ (sg sgLa g_27) ∧ (sg sgSp g_28) ∧ ((r_17.toInt = 1 ∧ 0 < (f_world 9).toInt) ∨ (r_17.toInt = 0 ∧ (f_world 9).toInt ≤ 0)) ∧ (r_17 = 0 ∨ r_17 = 1) := h_18
      obtain ⟨i_29, i_30, i_31, i_32, i_33, i_34, i_35, i_36, i_37, i_38⟩ := h_18
      have ar_17 : 0 ≤ r_17.toInt ∧ r_17.toInt ≤ 1 := by rcases i_38 with h | h <;> rw [h] <;> decide
      refine lv_if_ne (tgt := 37) hx hb dX12_clock_30 (by decide) (fun c_39 => ?_) (fun c_39 => ?_)
      · have c_39 : ¬ r_17.toInt = 0 := ci_ne_t c_39
        have b_r_17 := i32b r_17
        have d_40 : 0 < (f_world 9).toInt := by omega
        clear i_37
        refine lv_iconst (v := 0) hx hb dX12_clock_37 (by decide) ?_
        refine lv_istore_n (lv' := [(3, .int 0), (0, .ref h0), (1, .int v1), (2, .int v2)]) hx hb dX12_clock_38 rfl hl (by decide) rfl (fun ls hl => ?_)
        refine lv_iconst (v := 0) hx hb dX12_clock_39 (by decide) ?_
        refine lv_istore (lv' := [(4, .int 0), (3, .int 0), (0, .ref h0), (1, .int v1), (2, .int v2)]) hx hb dX12_clock_40 hl (by decide) rfl (fun ls hl => ?_)
        exact b_X12_clock_l42 h0 v0_thrown h_world h_images h_hasImage h_tape v0_taped h_five v0_size v0_at v0_from v0_token v0_value v0_faultKind v0_faultPlace h_fresh h_spokenAt h_heardAt h_lastAt h_answerAt v0_lawA v0_lawB v0_lawC v0_isDrawn h_heardNow h_seenAt v0_roundFrom v0_roundTo v0_goLast v0_goAnswer v0_goHeard h_fewest h_costNow h_costThen h_lawsOf h_heardBy v0_lawMany v0_askWorst h_placesOf h_sentIn v0_placeMany v0_parentFirst h_lostBy h_many h_width h_numbers h_moving f_answerAt f_heardAt f_lastAt f_spokenAt f_world v1 v2 t_19 t_20 t_21 t_22 t_23 t_24 g_25 g_26 g_27 g_28 (by first | assumption | (have := zI0; have := zI1; have := zIm; omega) | decide) (by first | assumption | (have := zI0; have := zI1; have := zIm; omega) | decide) (by first | assumption | (have := zI0; have := zI1; have := zIm; omega) | decide) (by first | assumption | (have := zI0; have := zI1; have := zIm; omega) | decide) (by first | assumption | (have := zI0; have := zI1; have := zIm; omega) | decide) (by first | assumption | (have := zI0; have := zI1; have := zIm; omega) | decide) (by first | assumption | (have := zI0; have := zI1; have := zIm; omega) | decide) (by first | assumption | (have := zI0; have := zI1; have := zIm; omega) | decide) (by first | assumption | (have := zI0; have := zI1; have := zIm; omega) | decide) (by first | assumption | (have := zI0; have := zI1; have := zIm; omega) | decide) (by first | assumption | (have := zI0; have := zI1; have := zIm; omega) | decide) (by first | assumption | (have := zI0; have := zI1; have := zIm; omega) | decide) (by first | assumption | (have := zI0; have := zI1; have := zIm; omega) | decide) (by first | assumption | (have := zI0; have := zI1; have := zIm; omega) | decide) (by first | assumption | (have := zI0; have := zI1; have := zIm; omega) | decide) (by first | assumption | (have := zI0; have := zI1; have := zIm; omega) | decide) (by first | assumption | (have := zI0; have := zI1; have := zIm; omega) | decide) (by first | assumption | (have := zI0; have := zI1; have := zIm; omega) | decide) (by first | assumption | (have := zI0; have := zI1; have := zIm; omega) | decide) (by first | assumption | (have := zI0; have := zI1; have := zIm; omega) | decide) (by first | assumption | (have := zI0; have := zI1; have := zIm; omega) | decide) (by first | assumption | (have := zI0; have := zI1; have := zIm; omega) | decide) (by first | assumption | (have := zI0; have := zI1; have := zIm; omega) | decide) (by first | assumption | (have := zI0; have := zI1; have := zIm; omega) | decide) (by first | assumption | (have := zI0; have := zI1; have := zIm; omega) | decide) (by first | assumption | (have := zI0; have := zI1; have := zIm; omega) | decide) (by first | assumption | (have := zI0; have := zI1; have := zIm; omega) | decide) (by first | assumption | (have := zI0; have := zI1; have := zIm; omega) | decide) (by first | assumption | (have := zI0; have := zI1; have := zIm; omega) | decide) (by first | assumption | (have := zI0; have := zI1; have := zIm; omega) | decide) (by first | assumption | (have := zI0; have := zI1; have := zIm; omega) | decide) (by first | assumption | (have := zI0; have := zI1; have := zIm; omega) | decide) (by first | assumption | (have := zI0; have := zI1; have := zIm; omega) | decide) (by first | assumption | (have := zI0; have := zI1; have := zIm; omega) | decide) (by first | assumption | (have := zI0; have := zI1; have := zIm; omega) | decide) (by first | assumption | (have := zI0; have := zI1; have := zIm; omega) | decide) C hG hAB hA ret _ (0) (0) _ _ _ (by first | assumption | (have := zI0; have := zI1; have := zIm; omega) | decide) (Nat.lt_succ_self _) (hP.sub [0, 1, 2, 3, 4, 5] rfl) (hD.sub [0, 1, 2, 3, 4, 5] (by decide) rfl) hS (lv_sub hl [0, 1, 2, 3, 4] rfl)
      · have c_39 : r_17.toInt = 0 := ci_ne_f c_39
        have b_r_17 := i32b r_17
        have d_41 : (f_world 9).toInt ≤ 0 := by omega
        clear i_37
        refine lv_ldcw hx hb hown (hts _ (inr61 _ (List.mem_of_getElem? (i := 20) rfl))) dX12_clock_33 ?_
        exact ret _ _ _ _ _ (t_19, t_20, t_21, t_22, t_23, t_24, g_25, g_26, g_27, g_28) dX12_clock_36 (show (0 ≤ t_19.toInt ∧ t_19.toInt ≤ 8) ∧ (0 ≤ t_20.toInt ∧ t_20.toInt ≤ 8) ∧ (0 ≤ t_21.toInt ∧ t_21.toInt ≤ 9) ∧ (0 ≤ t_23.toInt ∧ t_23.toInt ≤ 1) ∧ (sg sgLa g_25) ∧ (sg sgSp g_26) ∧ (sg sgLa g_27) ∧ (sg sgSp g_28) from ⟨(by first | assumption | (have := zI0; have := zI1; have := zIm; omega) | decide), (by first | assumption | (have := zI0; have := zI1; have := zIm; omega) | decide), (by first | assumption | (have := zI0; have := zI1; have := zIm; omega) | decide), (by first | assumption | (have := zI0; have := zI1; have := zIm; omega) | decide), (by first | assumption | (have := zI0; have := zI1; have := zIm; omega) | decide), (by first | assumption | (have := zI0; have := zI1; have := zIm; omega) | decide), (by first | assumption | (have := zI0; have := zI1; have := zIm; omega) | decide), (by first | assumption | (have := zI0; have := zI1; have := zIm; omega) | decide)⟩) (hP.sub [0, 1, 2, 3, 4, 5] rfl) (hD.sub [0, 1, 2, 3, 4, 5] (by decide) rfl) hS

set_option maxHeartbeats 4000000 in
set_option maxRecDepth 100000 in
theorem b_X12_soundsBy (l : Launch) (G : Gho) (D : va_G) (cB cI cJ cZ cS cT : ClassId) (v0 : Int32) (v1 : Int32)  : Met l yX12_soundsBy (Cond.code yX12_soundsBy cX12_soundsBy 2 (some .int) :: wsL_law) ({ frames := 0, cells := 0, slots := 0, locals := 0 }) (roP G D (tyL cB cI cJ cZ cS cT) [] [.int v0, .int v1]) (vp_Si (fun r : Int32 => (r = rw_ v0 v1))) 0 0 (fun _ => False) := by
  refine metRO (own := RX12) (by decide) rfl ?_
  intro p e s m below meth c Q C hP ret
  obtain ⟨hx, hb, hml, hown, hts, hK, hN, hT⟩ := id C
  have hl := lv_entry ([.int v0, .int v1]) (n := 2) (Nat.le_of_ble_eq_true rfl)
  rw [lg_entry_eq]
  generalize (lg_sl ([.int v0, .int v1]) ++ List.replicate (2 - (lg_sl ([.int v0, .int v1])).length) Slot.unset).toArray = ls at hl ⊢
  have hl : lv_has ls 2 [(0, .int v0), (1, .int v1)] := hl
  have hP : va_P D vwCl [] s.heap := hP
  refine lv_iload_n hx hb dX12_soundsBy_0 rfl (lv_at hl 0 rfl) ?_
  refine lv_iload_n hx hb dX12_soundsBy_1 rfl (lv_at hl 1 rfl) ?_
  refine lv_icmp_le (tgt := 10) hx hb dX12_soundsBy_2 (by decide) (fun c_1 => ?_) (fun c_1 => ?_)
  · have c_1 : v0.toInt ≤ v1.toInt := ci_le_t c_1
    have b_v0 := i32b v0
    have b_v1 := i32b v1
    refine lv_iload_n hx hb dX12_soundsBy_10 rfl (lv_at hl 0 rfl) ?_
    refine lv_iload_n hx hb dX12_soundsBy_11 rfl (lv_at hl 1 rfl) ?_
    refine lv_icmp_ne (tgt := 19) hx hb dX12_soundsBy_12 (by decide) (fun c_2 => ?_) (fun c_2 => ?_)
    · have c_2 : ¬ v0.toInt = v1.toInt := ci_ne_t c_2
      refine lv_iconst (v := 0) hx hb dX12_soundsBy_19 (by decide) ?_
      refine lv_iload_n hx hb dX12_soundsBy_20 rfl (lv_at hl 0 rfl) ?_
      refine lv_iload_n hx hb dX12_soundsBy_21 rfl (lv_at hl 0 rfl) ?_
      obtain ⟨t_3, et_3⟩ : ∃ v9 : Int32, v0 * v0 = v9 := ⟨_, rfl⟩
      refine z_imul (v := t_3) hx hb dX12_soundsBy_22 et_3 ?_
      obtain ⟨t_4, et_4⟩ : ∃ v9 : Int32, 0 - t_3 = v9 := ⟨_, rfl⟩
      refine z_isub (v := t_4) hx hb dX12_soundsBy_23 et_4 ?_
      exact ret _ _ _ dX12_soundsBy_24 (show (t_4 = rw_ v0 v1) from (by subst_vars; unfold rw_; simp only [Int32.lt_iff_toInt_lt, ← Int32.toInt_inj]; repeat' split <;> first | rfl | (exfalso; omega)))
    · have c_2 : v0.toInt = v1.toInt := ci_ne_f c_2
      refine lv_iconst (v := 4) hx hb dX12_soundsBy_15 (by decide) ?_
      refine lv_goto (tgt := 20) hx hb dX12_soundsBy_16 (by decide) ?_
      refine lv_iload_n hx hb dX12_soundsBy_20 rfl (lv_at hl 0 rfl) ?_
      refine lv_iload_n hx hb dX12_soundsBy_21 rfl (lv_at hl 0 rfl) ?_
      obtain ⟨t_5, et_5⟩ : ∃ v9 : Int32, v0 * v0 = v9 := ⟨_, rfl⟩
      refine z_imul (v := t_5) hx hb dX12_soundsBy_22 et_5 ?_
      obtain ⟨t_6, et_6⟩ : ∃ v9 : Int32, 4 - t_5 = v9 := ⟨_, rfl⟩
      refine z_isub (v := t_6) hx hb dX12_soundsBy_23 et_6 ?_
      exact ret _ _ _ dX12_soundsBy_24 (show (t_6 = rw_ v0 v1) from (by subst_vars; unfold rw_; simp only [Int32.lt_iff_toInt_lt, ← Int32.toInt_inj]; repeat' split <;> first | rfl | (exfalso; omega)))
  · have c_1 : v1.toInt < v0.toInt := ci_le_f c_1
    have b_v0 := i32b v0
    have b_v1 := i32b v1
    refine lv_bipush (v := 10) hx hb dX12_soundsBy_5 (by decide) ?_
    refine lv_goto (tgt := 20) hx hb dX12_soundsBy_7 (by decide) ?_
    refine lv_iload_n hx hb dX12_soundsBy_20 rfl (lv_at hl 0 rfl) ?_
    refine lv_iload_n hx hb dX12_soundsBy_21 rfl (lv_at hl 0 rfl) ?_
    obtain ⟨t_7, et_7⟩ : ∃ v9 : Int32, v0 * v0 = v9 := ⟨_, rfl⟩
    refine z_imul (v := t_7) hx hb dX12_soundsBy_22 et_7 ?_
    obtain ⟨t_8, et_8⟩ : ∃ v9 : Int32, 10 - t_7 = v9 := ⟨_, rfl⟩
    refine z_isub (v := t_8) hx hb dX12_soundsBy_23 et_8 ?_
    exact ret _ _ _ dX12_soundsBy_24 (show (t_8 = rw_ v0 v1) from (by subst_vars; unfold rw_; simp only [Int32.lt_iff_toInt_lt, ← Int32.toInt_inj]; repeat' split <;> first | rfl | (exfalso; omega)))

set_option maxHeartbeats 4000000 in
set_option maxRecDepth 100000 in
theorem b_X12_bestBy (l : Launch) (G : Gho) (D : va_G) (cB cI cJ cZ cS cT : ClassId) (v0 : Int32) (hv0 : 0 ≤ v0.toInt ∧ v0.toInt ≤ 3) : Met l yX12_bestBy (Cond.code yX12_bestBy cX12_bestBy 3 (some .int) :: wsL_law) ({ frames := 1, cells := 0, slots := 0, locals := 21 }) (roP G D (tyL cB cI cJ cZ cS cT) [] [.int v0]) (vp_Si (fun r : Int32 => (r = S_best v0))) 0 0 (fun _ => False) := by
  refine metRO (own := RX12) (by decide) rfl ?_
  intro p e s m below meth c Q C hP ret
  obtain ⟨hx, hb, hml, hown, hts, hK, hN, hT⟩ := id C
  have hl := lv_entry ([.int v0]) (n := 3) (Nat.le_of_ble_eq_true rfl)
  rw [lg_entry_eq]
  generalize (lg_sl ([.int v0]) ++ List.replicate (3 - (lg_sl ([.int v0])).length) Slot.unset).toArray = ls at hl ⊢
  have hl : lv_has ls 3 [(0, .int v0)] := hl
  have hP : va_P D vwCl [] s.heap := hP
  rcases in4 (x := v0) (by omega) (by omega) with e_1 | e_1 | e_1 | e_1
  · have c_2 : v0.toInt = 0 := by rw [e_1]; decide
    have hl : lv_has ls 3 [(0, .int 0)] := by rw [e_1] at hl; exact hl
    refine lv_iconst (v := 0) hx hb dX12_bestBy_0 (by decide) ?_
    refine lv_istore_n (lv' := [(1, .int 0), (0, .int 0)]) hx hb dX12_bestBy_1 rfl hl (by decide) rfl (fun ls hl => ?_)
    refine lv_iconst (v := 1) hx hb dX12_bestBy_2 (by decide) ?_
    refine lv_istore_n (lv' := [(2, .int 1), (1, .int 0), (0, .int 0)]) hx hb dX12_bestBy_3 rfl hl (by decide) rfl (fun ls hl => ?_)
    refine lv_iload_n hx hb dX12_bestBy_4 rfl (lv_at hl 0 rfl) ?_
    refine lv_iconst (v := 4) hx hb dX12_bestBy_5 (by decide) ?_
    refine lv_icmp_ge (tgt := 34) hx hb dX12_bestBy_6 (by decide) (fun c0 => absurd c0 (by decide)) (fun _ => ?_)
    refine lv_iload_n hx hb dX12_bestBy_9 rfl (lv_at hl 0 rfl) ?_
    refine lv_iload_n hx hb dX12_bestBy_10 rfl (lv_at hl 2 rfl) ?_
    refine rosi (As := [.int 1, .int 0]) (rest := []) ⟨hx, hb, hml, hown, hts⟩ (b_X12_soundsBy l G D cB cI cJ cZ cS cT 1 0 ) (csB (n := 2) (inr62 _ (List.mem_of_getElem? (i := 23) rfl)) (inr63 _ (List.mem_of_getElem? (i := 0) rfl)) (inr1 _ (List.mem_of_getElem? (i := 5) rfl)) (inr63 _ (List.mem_of_getElem? (i := 1) rfl)) (by decide +kernel) hts rfl rfl ⟨Nat.le_of_ble_eq_true rfl, Nat.le_of_ble_eq_true rfl⟩) (hP.sub [] rfl) hK hN hT rfl hl.1 rfl (Nat.le_of_ble_eq_true rfl) ⟨Nat.le_of_ble_eq_true rfl, Nat.le_of_ble_eq_true rfl⟩ dX12_bestBy_11 (fun r_3 h_4 => ?_)
    have h_4 : (r_3 = rw_ 1 0) := h_4
    have i_5 := h_4
    obtain rfl : r_3 = 9 := i_5.trans (by decide)
    refine lv_iload_n hx hb dX12_bestBy_14 rfl (lv_at hl 1 rfl) ?_
    refine lv_iload_n hx hb dX12_bestBy_15 rfl (lv_at hl 2 rfl) ?_
    refine rosi (As := [.int 0, .int 0]) (rest := [.int 9]) ⟨hx, hb, hml, hown, hts⟩ (b_X12_soundsBy l G D cB cI cJ cZ cS cT 0 0 ) (csB (n := 2) (inr62 _ (List.mem_of_getElem? (i := 23) rfl)) (inr63 _ (List.mem_of_getElem? (i := 0) rfl)) (inr1 _ (List.mem_of_getElem? (i := 5) rfl)) (inr63 _ (List.mem_of_getElem? (i := 1) rfl)) (by decide +kernel) hts rfl rfl ⟨Nat.le_of_ble_eq_true rfl, Nat.le_of_ble_eq_true rfl⟩) (hP.sub [] rfl) hK hN hT rfl hl.1 rfl (Nat.le_of_ble_eq_true rfl) ⟨Nat.le_of_ble_eq_true rfl, Nat.le_of_ble_eq_true rfl⟩ dX12_bestBy_16 (fun r_6 h_7 => ?_)
    have h_7 : (r_6 = rw_ 0 0) := h_7
    have i_8 := h_7
    obtain rfl : r_6 = 4 := i_8.trans (by decide)
    refine lv_icmp_le (tgt := 26) hx hb dX12_bestBy_19 (by decide) (fun c0 => absurd c0 (by decide)) (fun _ => ?_)
    refine lv_iload_n hx hb dX12_bestBy_22 rfl (lv_at hl 0 rfl) ?_
    refine lv_goto (tgt := 27) hx hb dX12_bestBy_23 (by decide) ?_
    refine lv_istore_n (lv' := [(1, .int 1), (2, .int 1), (0, .int 0)]) hx hb dX12_bestBy_27 rfl hl (by decide) rfl (fun ls hl => ?_)
    refine lv_iinc (v := 2) (lv' := [(2, .int 2), (1, .int 1), (0, .int 0)]) hx hb dX12_bestBy_28 hl (k := 1) rfl (by decide) (by decide) rfl (fun ls hl => ?_)
    refine lv_goto (tgt := 4) hx hb dX12_bestBy_31 (by decide) ?_
    refine lv_iload_n hx hb dX12_bestBy_4 rfl (lv_at hl 0 rfl) ?_
    refine lv_iconst (v := 4) hx hb dX12_bestBy_5 (by decide) ?_
    refine lv_icmp_ge (tgt := 34) hx hb dX12_bestBy_6 (by decide) (fun c0 => absurd c0 (by decide)) (fun _ => ?_)
    refine lv_iload_n hx hb dX12_bestBy_9 rfl (lv_at hl 0 rfl) ?_
    refine lv_iload_n hx hb dX12_bestBy_10 rfl (lv_at hl 2 rfl) ?_
    refine rosi (As := [.int 2, .int 0]) (rest := []) ⟨hx, hb, hml, hown, hts⟩ (b_X12_soundsBy l G D cB cI cJ cZ cS cT 2 0 ) (csB (n := 2) (inr62 _ (List.mem_of_getElem? (i := 23) rfl)) (inr63 _ (List.mem_of_getElem? (i := 0) rfl)) (inr1 _ (List.mem_of_getElem? (i := 5) rfl)) (inr63 _ (List.mem_of_getElem? (i := 1) rfl)) (by decide +kernel) hts rfl rfl ⟨Nat.le_of_ble_eq_true rfl, Nat.le_of_ble_eq_true rfl⟩) (hP.sub [] rfl) hK hN hT rfl hl.1 rfl (Nat.le_of_ble_eq_true rfl) ⟨Nat.le_of_ble_eq_true rfl, Nat.le_of_ble_eq_true rfl⟩ dX12_bestBy_11 (fun r_9 h_10 => ?_)
    have h_10 : (r_9 = rw_ 2 0) := h_10
    have i_11 := h_10
    obtain rfl : r_9 = 6 := i_11.trans (by decide)
    refine lv_iload_n hx hb dX12_bestBy_14 rfl (lv_at hl 1 rfl) ?_
    refine lv_iload_n hx hb dX12_bestBy_15 rfl (lv_at hl 2 rfl) ?_
    refine rosi (As := [.int 1, .int 0]) (rest := [.int 6]) ⟨hx, hb, hml, hown, hts⟩ (b_X12_soundsBy l G D cB cI cJ cZ cS cT 1 0 ) (csB (n := 2) (inr62 _ (List.mem_of_getElem? (i := 23) rfl)) (inr63 _ (List.mem_of_getElem? (i := 0) rfl)) (inr1 _ (List.mem_of_getElem? (i := 5) rfl)) (inr63 _ (List.mem_of_getElem? (i := 1) rfl)) (by decide +kernel) hts rfl rfl ⟨Nat.le_of_ble_eq_true rfl, Nat.le_of_ble_eq_true rfl⟩) (hP.sub [] rfl) hK hN hT rfl hl.1 rfl (Nat.le_of_ble_eq_true rfl) ⟨Nat.le_of_ble_eq_true rfl, Nat.le_of_ble_eq_true rfl⟩ dX12_bestBy_16 (fun r_12 h_13 => ?_)
    have h_13 : (r_12 = rw_ 1 0) := h_13
    have i_14 := h_13
    obtain rfl : r_12 = 9 := i_14.trans (by decide)
    refine lv_icmp_le (tgt := 26) hx hb dX12_bestBy_19 (by decide) (fun _ => ?_) (fun c0 => absurd c0 (by decide))
    refine lv_iload_n hx hb dX12_bestBy_26 rfl (lv_at hl 1 rfl) ?_
    refine lv_istore_n (lv' := [(1, .int 1), (2, .int 2), (0, .int 0)]) hx hb dX12_bestBy_27 rfl hl (by decide) rfl (fun ls hl => ?_)
    refine lv_iinc (v := 3) (lv' := [(2, .int 3), (1, .int 1), (0, .int 0)]) hx hb dX12_bestBy_28 hl (k := 1) rfl (by decide) (by decide) rfl (fun ls hl => ?_)
    refine lv_goto (tgt := 4) hx hb dX12_bestBy_31 (by decide) ?_
    refine lv_iload_n hx hb dX12_bestBy_4 rfl (lv_at hl 0 rfl) ?_
    refine lv_iconst (v := 4) hx hb dX12_bestBy_5 (by decide) ?_
    refine lv_icmp_ge (tgt := 34) hx hb dX12_bestBy_6 (by decide) (fun c0 => absurd c0 (by decide)) (fun _ => ?_)
    refine lv_iload_n hx hb dX12_bestBy_9 rfl (lv_at hl 0 rfl) ?_
    refine lv_iload_n hx hb dX12_bestBy_10 rfl (lv_at hl 2 rfl) ?_
    refine rosi (As := [.int 3, .int 0]) (rest := []) ⟨hx, hb, hml, hown, hts⟩ (b_X12_soundsBy l G D cB cI cJ cZ cS cT 3 0 ) (csB (n := 2) (inr62 _ (List.mem_of_getElem? (i := 23) rfl)) (inr63 _ (List.mem_of_getElem? (i := 0) rfl)) (inr1 _ (List.mem_of_getElem? (i := 5) rfl)) (inr63 _ (List.mem_of_getElem? (i := 1) rfl)) (by decide +kernel) hts rfl rfl ⟨Nat.le_of_ble_eq_true rfl, Nat.le_of_ble_eq_true rfl⟩) (hP.sub [] rfl) hK hN hT rfl hl.1 rfl (Nat.le_of_ble_eq_true rfl) ⟨Nat.le_of_ble_eq_true rfl, Nat.le_of_ble_eq_true rfl⟩ dX12_bestBy_11 (fun r_15 h_16 => ?_)
    have h_16 : (r_15 = rw_ 3 0) := h_16
    have i_17 := h_16
    obtain rfl : r_15 = 1 := i_17.trans (by decide)
    refine lv_iload_n hx hb dX12_bestBy_14 rfl (lv_at hl 1 rfl) ?_
    refine lv_iload_n hx hb dX12_bestBy_15 rfl (lv_at hl 2 rfl) ?_
    refine rosi (As := [.int 1, .int 0]) (rest := [.int 1]) ⟨hx, hb, hml, hown, hts⟩ (b_X12_soundsBy l G D cB cI cJ cZ cS cT 1 0 ) (csB (n := 2) (inr62 _ (List.mem_of_getElem? (i := 23) rfl)) (inr63 _ (List.mem_of_getElem? (i := 0) rfl)) (inr1 _ (List.mem_of_getElem? (i := 5) rfl)) (inr63 _ (List.mem_of_getElem? (i := 1) rfl)) (by decide +kernel) hts rfl rfl ⟨Nat.le_of_ble_eq_true rfl, Nat.le_of_ble_eq_true rfl⟩) (hP.sub [] rfl) hK hN hT rfl hl.1 rfl (Nat.le_of_ble_eq_true rfl) ⟨Nat.le_of_ble_eq_true rfl, Nat.le_of_ble_eq_true rfl⟩ dX12_bestBy_16 (fun r_18 h_19 => ?_)
    have h_19 : (r_18 = rw_ 1 0) := h_19
    have i_20 := h_19
    obtain rfl : r_18 = 9 := i_20.trans (by decide)
    refine lv_icmp_le (tgt := 26) hx hb dX12_bestBy_19 (by decide) (fun _ => ?_) (fun c0 => absurd c0 (by decide))
    refine lv_iload_n hx hb dX12_bestBy_26 rfl (lv_at hl 1 rfl) ?_
    refine lv_istore_n (lv' := [(1, .int 1), (2, .int 3), (0, .int 0)]) hx hb dX12_bestBy_27 rfl hl (by decide) rfl (fun ls hl => ?_)
    refine lv_iinc (v := 4) (lv' := [(2, .int 4), (1, .int 1), (0, .int 0)]) hx hb dX12_bestBy_28 hl (k := 1) rfl (by decide) (by decide) rfl (fun ls hl => ?_)
    refine lv_goto (tgt := 4) hx hb dX12_bestBy_31 (by decide) ?_
    refine lv_iload_n hx hb dX12_bestBy_4 rfl (lv_at hl 0 rfl) ?_
    refine lv_iconst (v := 4) hx hb dX12_bestBy_5 (by decide) ?_
    refine lv_icmp_ge (tgt := 34) hx hb dX12_bestBy_6 (by decide) (fun _ => ?_) (fun c0 => absurd c0 (by decide))
    refine lv_iload_n hx hb dX12_bestBy_34 rfl (lv_at hl 1 rfl) ?_
    have hr9 : (1 : Int32).toInt = 1 := by decide
    exact ret _ _ _ dX12_bestBy_35 (show ((1 : Int32) = S_best v0) from (by subst_vars; decide))
  · have c_2 : v0.toInt = 1 := by rw [e_1]; decide
    have hl : lv_has ls 3 [(0, .int 1)] := by rw [e_1] at hl; exact hl
    refine lv_iconst (v := 0) hx hb dX12_bestBy_0 (by decide) ?_
    refine lv_istore_n (lv' := [(1, .int 0), (0, .int 1)]) hx hb dX12_bestBy_1 rfl hl (by decide) rfl (fun ls hl => ?_)
    refine lv_iconst (v := 1) hx hb dX12_bestBy_2 (by decide) ?_
    refine lv_istore_n (lv' := [(2, .int 1), (1, .int 0), (0, .int 1)]) hx hb dX12_bestBy_3 rfl hl (by decide) rfl (fun ls hl => ?_)
    refine lv_iload_n hx hb dX12_bestBy_4 rfl (lv_at hl 0 rfl) ?_
    refine lv_iconst (v := 4) hx hb dX12_bestBy_5 (by decide) ?_
    refine lv_icmp_ge (tgt := 34) hx hb dX12_bestBy_6 (by decide) (fun c0 => absurd c0 (by decide)) (fun _ => ?_)
    refine lv_iload_n hx hb dX12_bestBy_9 rfl (lv_at hl 0 rfl) ?_
    refine lv_iload_n hx hb dX12_bestBy_10 rfl (lv_at hl 2 rfl) ?_
    refine rosi (As := [.int 1, .int 1]) (rest := []) ⟨hx, hb, hml, hown, hts⟩ (b_X12_soundsBy l G D cB cI cJ cZ cS cT 1 1 ) (csB (n := 2) (inr62 _ (List.mem_of_getElem? (i := 23) rfl)) (inr63 _ (List.mem_of_getElem? (i := 0) rfl)) (inr1 _ (List.mem_of_getElem? (i := 5) rfl)) (inr63 _ (List.mem_of_getElem? (i := 1) rfl)) (by decide +kernel) hts rfl rfl ⟨Nat.le_of_ble_eq_true rfl, Nat.le_of_ble_eq_true rfl⟩) (hP.sub [] rfl) hK hN hT rfl hl.1 rfl (Nat.le_of_ble_eq_true rfl) ⟨Nat.le_of_ble_eq_true rfl, Nat.le_of_ble_eq_true rfl⟩ dX12_bestBy_11 (fun r_21 h_22 => ?_)
    have h_22 : (r_21 = rw_ 1 1) := h_22
    have i_23 := h_22
    obtain rfl : r_21 = 3 := i_23.trans (by decide)
    refine lv_iload_n hx hb dX12_bestBy_14 rfl (lv_at hl 1 rfl) ?_
    refine lv_iload_n hx hb dX12_bestBy_15 rfl (lv_at hl 2 rfl) ?_
    refine rosi (As := [.int 0, .int 1]) (rest := [.int 3]) ⟨hx, hb, hml, hown, hts⟩ (b_X12_soundsBy l G D cB cI cJ cZ cS cT 0 1 ) (csB (n := 2) (inr62 _ (List.mem_of_getElem? (i := 23) rfl)) (inr63 _ (List.mem_of_getElem? (i := 0) rfl)) (inr1 _ (List.mem_of_getElem? (i := 5) rfl)) (inr63 _ (List.mem_of_getElem? (i := 1) rfl)) (by decide +kernel) hts rfl rfl ⟨Nat.le_of_ble_eq_true rfl, Nat.le_of_ble_eq_true rfl⟩) (hP.sub [] rfl) hK hN hT rfl hl.1 rfl (Nat.le_of_ble_eq_true rfl) ⟨Nat.le_of_ble_eq_true rfl, Nat.le_of_ble_eq_true rfl⟩ dX12_bestBy_16 (fun r_24 h_25 => ?_)
    have h_25 : (r_24 = rw_ 0 1) := h_25
    have i_26 := h_25
    obtain rfl : r_24 = 0 := i_26.trans (by decide)
    refine lv_icmp_le (tgt := 26) hx hb dX12_bestBy_19 (by decide) (fun c0 => absurd c0 (by decide)) (fun _ => ?_)
    refine lv_iload_n hx hb dX12_bestBy_22 rfl (lv_at hl 0 rfl) ?_
    refine lv_goto (tgt := 27) hx hb dX12_bestBy_23 (by decide) ?_
    refine lv_istore_n (lv' := [(1, .int 1), (2, .int 1), (0, .int 1)]) hx hb dX12_bestBy_27 rfl hl (by decide) rfl (fun ls hl => ?_)
    refine lv_iinc (v := 2) (lv' := [(2, .int 2), (1, .int 1), (0, .int 1)]) hx hb dX12_bestBy_28 hl (k := 1) rfl (by decide) (by decide) rfl (fun ls hl => ?_)
    refine lv_goto (tgt := 4) hx hb dX12_bestBy_31 (by decide) ?_
    refine lv_iload_n hx hb dX12_bestBy_4 rfl (lv_at hl 0 rfl) ?_
    refine lv_iconst (v := 4) hx hb dX12_bestBy_5 (by decide) ?_
    refine lv_icmp_ge (tgt := 34) hx hb dX12_bestBy_6 (by decide) (fun c0 => absurd c0 (by decide)) (fun _ => ?_)
    refine lv_iload_n hx hb dX12_bestBy_9 rfl (lv_at hl 0 rfl) ?_
    refine lv_iload_n hx hb dX12_bestBy_10 rfl (lv_at hl 2 rfl) ?_
    refine rosi (As := [.int 2, .int 1]) (rest := []) ⟨hx, hb, hml, hown, hts⟩ (b_X12_soundsBy l G D cB cI cJ cZ cS cT 2 1 ) (csB (n := 2) (inr62 _ (List.mem_of_getElem? (i := 23) rfl)) (inr63 _ (List.mem_of_getElem? (i := 0) rfl)) (inr1 _ (List.mem_of_getElem? (i := 5) rfl)) (inr63 _ (List.mem_of_getElem? (i := 1) rfl)) (by decide +kernel) hts rfl rfl ⟨Nat.le_of_ble_eq_true rfl, Nat.le_of_ble_eq_true rfl⟩) (hP.sub [] rfl) hK hN hT rfl hl.1 rfl (Nat.le_of_ble_eq_true rfl) ⟨Nat.le_of_ble_eq_true rfl, Nat.le_of_ble_eq_true rfl⟩ dX12_bestBy_11 (fun r_27 h_28 => ?_)
    have h_28 : (r_27 = rw_ 2 1) := h_28
    have i_29 := h_28
    obtain rfl : r_27 = 6 := i_29.trans (by decide)
    refine lv_iload_n hx hb dX12_bestBy_14 rfl (lv_at hl 1 rfl) ?_
    refine lv_iload_n hx hb dX12_bestBy_15 rfl (lv_at hl 2 rfl) ?_
    refine rosi (As := [.int 1, .int 1]) (rest := [.int 6]) ⟨hx, hb, hml, hown, hts⟩ (b_X12_soundsBy l G D cB cI cJ cZ cS cT 1 1 ) (csB (n := 2) (inr62 _ (List.mem_of_getElem? (i := 23) rfl)) (inr63 _ (List.mem_of_getElem? (i := 0) rfl)) (inr1 _ (List.mem_of_getElem? (i := 5) rfl)) (inr63 _ (List.mem_of_getElem? (i := 1) rfl)) (by decide +kernel) hts rfl rfl ⟨Nat.le_of_ble_eq_true rfl, Nat.le_of_ble_eq_true rfl⟩) (hP.sub [] rfl) hK hN hT rfl hl.1 rfl (Nat.le_of_ble_eq_true rfl) ⟨Nat.le_of_ble_eq_true rfl, Nat.le_of_ble_eq_true rfl⟩ dX12_bestBy_16 (fun r_30 h_31 => ?_)
    have h_31 : (r_30 = rw_ 1 1) := h_31
    have i_32 := h_31
    obtain rfl : r_30 = 3 := i_32.trans (by decide)
    refine lv_icmp_le (tgt := 26) hx hb dX12_bestBy_19 (by decide) (fun c0 => absurd c0 (by decide)) (fun _ => ?_)
    refine lv_iload_n hx hb dX12_bestBy_22 rfl (lv_at hl 0 rfl) ?_
    refine lv_goto (tgt := 27) hx hb dX12_bestBy_23 (by decide) ?_
    refine lv_istore_n (lv' := [(1, .int 2), (2, .int 2), (0, .int 1)]) hx hb dX12_bestBy_27 rfl hl (by decide) rfl (fun ls hl => ?_)
    refine lv_iinc (v := 3) (lv' := [(2, .int 3), (1, .int 2), (0, .int 1)]) hx hb dX12_bestBy_28 hl (k := 1) rfl (by decide) (by decide) rfl (fun ls hl => ?_)
    refine lv_goto (tgt := 4) hx hb dX12_bestBy_31 (by decide) ?_
    refine lv_iload_n hx hb dX12_bestBy_4 rfl (lv_at hl 0 rfl) ?_
    refine lv_iconst (v := 4) hx hb dX12_bestBy_5 (by decide) ?_
    refine lv_icmp_ge (tgt := 34) hx hb dX12_bestBy_6 (by decide) (fun c0 => absurd c0 (by decide)) (fun _ => ?_)
    refine lv_iload_n hx hb dX12_bestBy_9 rfl (lv_at hl 0 rfl) ?_
    refine lv_iload_n hx hb dX12_bestBy_10 rfl (lv_at hl 2 rfl) ?_
    refine rosi (As := [.int 3, .int 1]) (rest := []) ⟨hx, hb, hml, hown, hts⟩ (b_X12_soundsBy l G D cB cI cJ cZ cS cT 3 1 ) (csB (n := 2) (inr62 _ (List.mem_of_getElem? (i := 23) rfl)) (inr63 _ (List.mem_of_getElem? (i := 0) rfl)) (inr1 _ (List.mem_of_getElem? (i := 5) rfl)) (inr63 _ (List.mem_of_getElem? (i := 1) rfl)) (by decide +kernel) hts rfl rfl ⟨Nat.le_of_ble_eq_true rfl, Nat.le_of_ble_eq_true rfl⟩) (hP.sub [] rfl) hK hN hT rfl hl.1 rfl (Nat.le_of_ble_eq_true rfl) ⟨Nat.le_of_ble_eq_true rfl, Nat.le_of_ble_eq_true rfl⟩ dX12_bestBy_11 (fun r_33 h_34 => ?_)
    have h_34 : (r_33 = rw_ 3 1) := h_34
    have i_35 := h_34
    obtain rfl : r_33 = 1 := i_35.trans (by decide)
    refine lv_iload_n hx hb dX12_bestBy_14 rfl (lv_at hl 1 rfl) ?_
    refine lv_iload_n hx hb dX12_bestBy_15 rfl (lv_at hl 2 rfl) ?_
    refine rosi (As := [.int 2, .int 1]) (rest := [.int 1]) ⟨hx, hb, hml, hown, hts⟩ (b_X12_soundsBy l G D cB cI cJ cZ cS cT 2 1 ) (csB (n := 2) (inr62 _ (List.mem_of_getElem? (i := 23) rfl)) (inr63 _ (List.mem_of_getElem? (i := 0) rfl)) (inr1 _ (List.mem_of_getElem? (i := 5) rfl)) (inr63 _ (List.mem_of_getElem? (i := 1) rfl)) (by decide +kernel) hts rfl rfl ⟨Nat.le_of_ble_eq_true rfl, Nat.le_of_ble_eq_true rfl⟩) (hP.sub [] rfl) hK hN hT rfl hl.1 rfl (Nat.le_of_ble_eq_true rfl) ⟨Nat.le_of_ble_eq_true rfl, Nat.le_of_ble_eq_true rfl⟩ dX12_bestBy_16 (fun r_36 h_37 => ?_)
    have h_37 : (r_36 = rw_ 2 1) := h_37
    have i_38 := h_37
    obtain rfl : r_36 = 6 := i_38.trans (by decide)
    refine lv_icmp_le (tgt := 26) hx hb dX12_bestBy_19 (by decide) (fun _ => ?_) (fun c0 => absurd c0 (by decide))
    refine lv_iload_n hx hb dX12_bestBy_26 rfl (lv_at hl 1 rfl) ?_
    refine lv_istore_n (lv' := [(1, .int 2), (2, .int 3), (0, .int 1)]) hx hb dX12_bestBy_27 rfl hl (by decide) rfl (fun ls hl => ?_)
    refine lv_iinc (v := 4) (lv' := [(2, .int 4), (1, .int 2), (0, .int 1)]) hx hb dX12_bestBy_28 hl (k := 1) rfl (by decide) (by decide) rfl (fun ls hl => ?_)
    refine lv_goto (tgt := 4) hx hb dX12_bestBy_31 (by decide) ?_
    refine lv_iload_n hx hb dX12_bestBy_4 rfl (lv_at hl 0 rfl) ?_
    refine lv_iconst (v := 4) hx hb dX12_bestBy_5 (by decide) ?_
    refine lv_icmp_ge (tgt := 34) hx hb dX12_bestBy_6 (by decide) (fun _ => ?_) (fun c0 => absurd c0 (by decide))
    refine lv_iload_n hx hb dX12_bestBy_34 rfl (lv_at hl 1 rfl) ?_
    have hr9 : (2 : Int32).toInt = 2 := by decide
    exact ret _ _ _ dX12_bestBy_35 (show ((2 : Int32) = S_best v0) from (by subst_vars; decide))
  · have c_2 : v0.toInt = 2 := by rw [e_1]; decide
    have hl : lv_has ls 3 [(0, .int 2)] := by rw [e_1] at hl; exact hl
    refine lv_iconst (v := 0) hx hb dX12_bestBy_0 (by decide) ?_
    refine lv_istore_n (lv' := [(1, .int 0), (0, .int 2)]) hx hb dX12_bestBy_1 rfl hl (by decide) rfl (fun ls hl => ?_)
    refine lv_iconst (v := 1) hx hb dX12_bestBy_2 (by decide) ?_
    refine lv_istore_n (lv' := [(2, .int 1), (1, .int 0), (0, .int 2)]) hx hb dX12_bestBy_3 rfl hl (by decide) rfl (fun ls hl => ?_)
    refine lv_iload_n hx hb dX12_bestBy_4 rfl (lv_at hl 0 rfl) ?_
    refine lv_iconst (v := 4) hx hb dX12_bestBy_5 (by decide) ?_
    refine lv_icmp_ge (tgt := 34) hx hb dX12_bestBy_6 (by decide) (fun c0 => absurd c0 (by decide)) (fun _ => ?_)
    refine lv_iload_n hx hb dX12_bestBy_9 rfl (lv_at hl 0 rfl) ?_
    refine lv_iload_n hx hb dX12_bestBy_10 rfl (lv_at hl 2 rfl) ?_
    refine rosi (As := [.int 1, .int 2]) (rest := []) ⟨hx, hb, hml, hown, hts⟩ (b_X12_soundsBy l G D cB cI cJ cZ cS cT 1 2 ) (csB (n := 2) (inr62 _ (List.mem_of_getElem? (i := 23) rfl)) (inr63 _ (List.mem_of_getElem? (i := 0) rfl)) (inr1 _ (List.mem_of_getElem? (i := 5) rfl)) (inr63 _ (List.mem_of_getElem? (i := 1) rfl)) (by decide +kernel) hts rfl rfl ⟨Nat.le_of_ble_eq_true rfl, Nat.le_of_ble_eq_true rfl⟩) (hP.sub [] rfl) hK hN hT rfl hl.1 rfl (Nat.le_of_ble_eq_true rfl) ⟨Nat.le_of_ble_eq_true rfl, Nat.le_of_ble_eq_true rfl⟩ dX12_bestBy_11 (fun r_39 h_40 => ?_)
    have h_40 : (r_39 = rw_ 1 2) := h_40
    have i_41 := h_40
    obtain rfl : r_39 = (-1) := i_41.trans (by decide)
    refine lv_iload_n hx hb dX12_bestBy_14 rfl (lv_at hl 1 rfl) ?_
    refine lv_iload_n hx hb dX12_bestBy_15 rfl (lv_at hl 2 rfl) ?_
    refine rosi (As := [.int 0, .int 2]) (rest := [.int (-1)]) ⟨hx, hb, hml, hown, hts⟩ (b_X12_soundsBy l G D cB cI cJ cZ cS cT 0 2 ) (csB (n := 2) (inr62 _ (List.mem_of_getElem? (i := 23) rfl)) (inr63 _ (List.mem_of_getElem? (i := 0) rfl)) (inr1 _ (List.mem_of_getElem? (i := 5) rfl)) (inr63 _ (List.mem_of_getElem? (i := 1) rfl)) (by decide +kernel) hts rfl rfl ⟨Nat.le_of_ble_eq_true rfl, Nat.le_of_ble_eq_true rfl⟩) (hP.sub [] rfl) hK hN hT rfl hl.1 rfl (Nat.le_of_ble_eq_true rfl) ⟨Nat.le_of_ble_eq_true rfl, Nat.le_of_ble_eq_true rfl⟩ dX12_bestBy_16 (fun r_42 h_43 => ?_)
    have h_43 : (r_42 = rw_ 0 2) := h_43
    have i_44 := h_43
    obtain rfl : r_42 = 0 := i_44.trans (by decide)
    refine lv_icmp_le (tgt := 26) hx hb dX12_bestBy_19 (by decide) (fun _ => ?_) (fun c0 => absurd c0 (by decide))
    refine lv_iload_n hx hb dX12_bestBy_26 rfl (lv_at hl 1 rfl) ?_
    refine lv_istore_n (lv' := [(1, .int 0), (2, .int 1), (0, .int 2)]) hx hb dX12_bestBy_27 rfl hl (by decide) rfl (fun ls hl => ?_)
    refine lv_iinc (v := 2) (lv' := [(2, .int 2), (1, .int 0), (0, .int 2)]) hx hb dX12_bestBy_28 hl (k := 1) rfl (by decide) (by decide) rfl (fun ls hl => ?_)
    refine lv_goto (tgt := 4) hx hb dX12_bestBy_31 (by decide) ?_
    refine lv_iload_n hx hb dX12_bestBy_4 rfl (lv_at hl 0 rfl) ?_
    refine lv_iconst (v := 4) hx hb dX12_bestBy_5 (by decide) ?_
    refine lv_icmp_ge (tgt := 34) hx hb dX12_bestBy_6 (by decide) (fun c0 => absurd c0 (by decide)) (fun _ => ?_)
    refine lv_iload_n hx hb dX12_bestBy_9 rfl (lv_at hl 0 rfl) ?_
    refine lv_iload_n hx hb dX12_bestBy_10 rfl (lv_at hl 2 rfl) ?_
    refine rosi (As := [.int 2, .int 2]) (rest := []) ⟨hx, hb, hml, hown, hts⟩ (b_X12_soundsBy l G D cB cI cJ cZ cS cT 2 2 ) (csB (n := 2) (inr62 _ (List.mem_of_getElem? (i := 23) rfl)) (inr63 _ (List.mem_of_getElem? (i := 0) rfl)) (inr1 _ (List.mem_of_getElem? (i := 5) rfl)) (inr63 _ (List.mem_of_getElem? (i := 1) rfl)) (by decide +kernel) hts rfl rfl ⟨Nat.le_of_ble_eq_true rfl, Nat.le_of_ble_eq_true rfl⟩) (hP.sub [] rfl) hK hN hT rfl hl.1 rfl (Nat.le_of_ble_eq_true rfl) ⟨Nat.le_of_ble_eq_true rfl, Nat.le_of_ble_eq_true rfl⟩ dX12_bestBy_11 (fun r_45 h_46 => ?_)
    have h_46 : (r_45 = rw_ 2 2) := h_46
    have i_47 := h_46
    obtain rfl : r_45 = 0 := i_47.trans (by decide)
    refine lv_iload_n hx hb dX12_bestBy_14 rfl (lv_at hl 1 rfl) ?_
    refine lv_iload_n hx hb dX12_bestBy_15 rfl (lv_at hl 2 rfl) ?_
    refine rosi (As := [.int 0, .int 2]) (rest := [.int 0]) ⟨hx, hb, hml, hown, hts⟩ (b_X12_soundsBy l G D cB cI cJ cZ cS cT 0 2 ) (csB (n := 2) (inr62 _ (List.mem_of_getElem? (i := 23) rfl)) (inr63 _ (List.mem_of_getElem? (i := 0) rfl)) (inr1 _ (List.mem_of_getElem? (i := 5) rfl)) (inr63 _ (List.mem_of_getElem? (i := 1) rfl)) (by decide +kernel) hts rfl rfl ⟨Nat.le_of_ble_eq_true rfl, Nat.le_of_ble_eq_true rfl⟩) (hP.sub [] rfl) hK hN hT rfl hl.1 rfl (Nat.le_of_ble_eq_true rfl) ⟨Nat.le_of_ble_eq_true rfl, Nat.le_of_ble_eq_true rfl⟩ dX12_bestBy_16 (fun r_48 h_49 => ?_)
    have h_49 : (r_48 = rw_ 0 2) := h_49
    have i_50 := h_49
    obtain rfl : r_48 = 0 := i_50.trans (by decide)
    refine lv_icmp_le (tgt := 26) hx hb dX12_bestBy_19 (by decide) (fun _ => ?_) (fun c0 => absurd c0 (by decide))
    refine lv_iload_n hx hb dX12_bestBy_26 rfl (lv_at hl 1 rfl) ?_
    refine lv_istore_n (lv' := [(1, .int 0), (2, .int 2), (0, .int 2)]) hx hb dX12_bestBy_27 rfl hl (by decide) rfl (fun ls hl => ?_)
    refine lv_iinc (v := 3) (lv' := [(2, .int 3), (1, .int 0), (0, .int 2)]) hx hb dX12_bestBy_28 hl (k := 1) rfl (by decide) (by decide) rfl (fun ls hl => ?_)
    refine lv_goto (tgt := 4) hx hb dX12_bestBy_31 (by decide) ?_
    refine lv_iload_n hx hb dX12_bestBy_4 rfl (lv_at hl 0 rfl) ?_
    refine lv_iconst (v := 4) hx hb dX12_bestBy_5 (by decide) ?_
    refine lv_icmp_ge (tgt := 34) hx hb dX12_bestBy_6 (by decide) (fun c0 => absurd c0 (by decide)) (fun _ => ?_)
    refine lv_iload_n hx hb dX12_bestBy_9 rfl (lv_at hl 0 rfl) ?_
    refine lv_iload_n hx hb dX12_bestBy_10 rfl (lv_at hl 2 rfl) ?_
    refine rosi (As := [.int 3, .int 2]) (rest := []) ⟨hx, hb, hml, hown, hts⟩ (b_X12_soundsBy l G D cB cI cJ cZ cS cT 3 2 ) (csB (n := 2) (inr62 _ (List.mem_of_getElem? (i := 23) rfl)) (inr63 _ (List.mem_of_getElem? (i := 0) rfl)) (inr1 _ (List.mem_of_getElem? (i := 5) rfl)) (inr63 _ (List.mem_of_getElem? (i := 1) rfl)) (by decide +kernel) hts rfl rfl ⟨Nat.le_of_ble_eq_true rfl, Nat.le_of_ble_eq_true rfl⟩) (hP.sub [] rfl) hK hN hT rfl hl.1 rfl (Nat.le_of_ble_eq_true rfl) ⟨Nat.le_of_ble_eq_true rfl, Nat.le_of_ble_eq_true rfl⟩ dX12_bestBy_11 (fun r_51 h_52 => ?_)
    have h_52 : (r_51 = rw_ 3 2) := h_52
    have i_53 := h_52
    obtain rfl : r_51 = 1 := i_53.trans (by decide)
    refine lv_iload_n hx hb dX12_bestBy_14 rfl (lv_at hl 1 rfl) ?_
    refine lv_iload_n hx hb dX12_bestBy_15 rfl (lv_at hl 2 rfl) ?_
    refine rosi (As := [.int 0, .int 2]) (rest := [.int 1]) ⟨hx, hb, hml, hown, hts⟩ (b_X12_soundsBy l G D cB cI cJ cZ cS cT 0 2 ) (csB (n := 2) (inr62 _ (List.mem_of_getElem? (i := 23) rfl)) (inr63 _ (List.mem_of_getElem? (i := 0) rfl)) (inr1 _ (List.mem_of_getElem? (i := 5) rfl)) (inr63 _ (List.mem_of_getElem? (i := 1) rfl)) (by decide +kernel) hts rfl rfl ⟨Nat.le_of_ble_eq_true rfl, Nat.le_of_ble_eq_true rfl⟩) (hP.sub [] rfl) hK hN hT rfl hl.1 rfl (Nat.le_of_ble_eq_true rfl) ⟨Nat.le_of_ble_eq_true rfl, Nat.le_of_ble_eq_true rfl⟩ dX12_bestBy_16 (fun r_54 h_55 => ?_)
    have h_55 : (r_54 = rw_ 0 2) := h_55
    have i_56 := h_55
    obtain rfl : r_54 = 0 := i_56.trans (by decide)
    refine lv_icmp_le (tgt := 26) hx hb dX12_bestBy_19 (by decide) (fun c0 => absurd c0 (by decide)) (fun _ => ?_)
    refine lv_iload_n hx hb dX12_bestBy_22 rfl (lv_at hl 0 rfl) ?_
    refine lv_goto (tgt := 27) hx hb dX12_bestBy_23 (by decide) ?_
    refine lv_istore_n (lv' := [(1, .int 3), (2, .int 3), (0, .int 2)]) hx hb dX12_bestBy_27 rfl hl (by decide) rfl (fun ls hl => ?_)
    refine lv_iinc (v := 4) (lv' := [(2, .int 4), (1, .int 3), (0, .int 2)]) hx hb dX12_bestBy_28 hl (k := 1) rfl (by decide) (by decide) rfl (fun ls hl => ?_)
    refine lv_goto (tgt := 4) hx hb dX12_bestBy_31 (by decide) ?_
    refine lv_iload_n hx hb dX12_bestBy_4 rfl (lv_at hl 0 rfl) ?_
    refine lv_iconst (v := 4) hx hb dX12_bestBy_5 (by decide) ?_
    refine lv_icmp_ge (tgt := 34) hx hb dX12_bestBy_6 (by decide) (fun _ => ?_) (fun c0 => absurd c0 (by decide))
    refine lv_iload_n hx hb dX12_bestBy_34 rfl (lv_at hl 1 rfl) ?_
    have hr9 : (3 : Int32).toInt = 3 := by decide
    exact ret _ _ _ dX12_bestBy_35 (show ((3 : Int32) = S_best v0) from (by subst_vars; decide))
  · have c_2 : v0.toInt = 3 := by rw [e_1]; decide
    have hl : lv_has ls 3 [(0, .int 3)] := by rw [e_1] at hl; exact hl
    refine lv_iconst (v := 0) hx hb dX12_bestBy_0 (by decide) ?_
    refine lv_istore_n (lv' := [(1, .int 0), (0, .int 3)]) hx hb dX12_bestBy_1 rfl hl (by decide) rfl (fun ls hl => ?_)
    refine lv_iconst (v := 1) hx hb dX12_bestBy_2 (by decide) ?_
    refine lv_istore_n (lv' := [(2, .int 1), (1, .int 0), (0, .int 3)]) hx hb dX12_bestBy_3 rfl hl (by decide) rfl (fun ls hl => ?_)
    refine lv_iload_n hx hb dX12_bestBy_4 rfl (lv_at hl 0 rfl) ?_
    refine lv_iconst (v := 4) hx hb dX12_bestBy_5 (by decide) ?_
    refine lv_icmp_ge (tgt := 34) hx hb dX12_bestBy_6 (by decide) (fun c0 => absurd c0 (by decide)) (fun _ => ?_)
    refine lv_iload_n hx hb dX12_bestBy_9 rfl (lv_at hl 0 rfl) ?_
    refine lv_iload_n hx hb dX12_bestBy_10 rfl (lv_at hl 2 rfl) ?_
    refine rosi (As := [.int 1, .int 3]) (rest := []) ⟨hx, hb, hml, hown, hts⟩ (b_X12_soundsBy l G D cB cI cJ cZ cS cT 1 3 ) (csB (n := 2) (inr62 _ (List.mem_of_getElem? (i := 23) rfl)) (inr63 _ (List.mem_of_getElem? (i := 0) rfl)) (inr1 _ (List.mem_of_getElem? (i := 5) rfl)) (inr63 _ (List.mem_of_getElem? (i := 1) rfl)) (by decide +kernel) hts rfl rfl ⟨Nat.le_of_ble_eq_true rfl, Nat.le_of_ble_eq_true rfl⟩) (hP.sub [] rfl) hK hN hT rfl hl.1 rfl (Nat.le_of_ble_eq_true rfl) ⟨Nat.le_of_ble_eq_true rfl, Nat.le_of_ble_eq_true rfl⟩ dX12_bestBy_11 (fun r_57 h_58 => ?_)
    have h_58 : (r_57 = rw_ 1 3) := h_58
    have i_59 := h_58
    obtain rfl : r_57 = (-1) := i_59.trans (by decide)
    refine lv_iload_n hx hb dX12_bestBy_14 rfl (lv_at hl 1 rfl) ?_
    refine lv_iload_n hx hb dX12_bestBy_15 rfl (lv_at hl 2 rfl) ?_
    refine rosi (As := [.int 0, .int 3]) (rest := [.int (-1)]) ⟨hx, hb, hml, hown, hts⟩ (b_X12_soundsBy l G D cB cI cJ cZ cS cT 0 3 ) (csB (n := 2) (inr62 _ (List.mem_of_getElem? (i := 23) rfl)) (inr63 _ (List.mem_of_getElem? (i := 0) rfl)) (inr1 _ (List.mem_of_getElem? (i := 5) rfl)) (inr63 _ (List.mem_of_getElem? (i := 1) rfl)) (by decide +kernel) hts rfl rfl ⟨Nat.le_of_ble_eq_true rfl, Nat.le_of_ble_eq_true rfl⟩) (hP.sub [] rfl) hK hN hT rfl hl.1 rfl (Nat.le_of_ble_eq_true rfl) ⟨Nat.le_of_ble_eq_true rfl, Nat.le_of_ble_eq_true rfl⟩ dX12_bestBy_16 (fun r_60 h_61 => ?_)
    have h_61 : (r_60 = rw_ 0 3) := h_61
    have i_62 := h_61
    obtain rfl : r_60 = 0 := i_62.trans (by decide)
    refine lv_icmp_le (tgt := 26) hx hb dX12_bestBy_19 (by decide) (fun _ => ?_) (fun c0 => absurd c0 (by decide))
    refine lv_iload_n hx hb dX12_bestBy_26 rfl (lv_at hl 1 rfl) ?_
    refine lv_istore_n (lv' := [(1, .int 0), (2, .int 1), (0, .int 3)]) hx hb dX12_bestBy_27 rfl hl (by decide) rfl (fun ls hl => ?_)
    refine lv_iinc (v := 2) (lv' := [(2, .int 2), (1, .int 0), (0, .int 3)]) hx hb dX12_bestBy_28 hl (k := 1) rfl (by decide) (by decide) rfl (fun ls hl => ?_)
    refine lv_goto (tgt := 4) hx hb dX12_bestBy_31 (by decide) ?_
    refine lv_iload_n hx hb dX12_bestBy_4 rfl (lv_at hl 0 rfl) ?_
    refine lv_iconst (v := 4) hx hb dX12_bestBy_5 (by decide) ?_
    refine lv_icmp_ge (tgt := 34) hx hb dX12_bestBy_6 (by decide) (fun c0 => absurd c0 (by decide)) (fun _ => ?_)
    refine lv_iload_n hx hb dX12_bestBy_9 rfl (lv_at hl 0 rfl) ?_
    refine lv_iload_n hx hb dX12_bestBy_10 rfl (lv_at hl 2 rfl) ?_
    refine rosi (As := [.int 2, .int 3]) (rest := []) ⟨hx, hb, hml, hown, hts⟩ (b_X12_soundsBy l G D cB cI cJ cZ cS cT 2 3 ) (csB (n := 2) (inr62 _ (List.mem_of_getElem? (i := 23) rfl)) (inr63 _ (List.mem_of_getElem? (i := 0) rfl)) (inr1 _ (List.mem_of_getElem? (i := 5) rfl)) (inr63 _ (List.mem_of_getElem? (i := 1) rfl)) (by decide +kernel) hts rfl rfl ⟨Nat.le_of_ble_eq_true rfl, Nat.le_of_ble_eq_true rfl⟩) (hP.sub [] rfl) hK hN hT rfl hl.1 rfl (Nat.le_of_ble_eq_true rfl) ⟨Nat.le_of_ble_eq_true rfl, Nat.le_of_ble_eq_true rfl⟩ dX12_bestBy_11 (fun r_63 h_64 => ?_)
    have h_64 : (r_63 = rw_ 2 3) := h_64
    have i_65 := h_64
    obtain rfl : r_63 = (-4) := i_65.trans (by decide)
    refine lv_iload_n hx hb dX12_bestBy_14 rfl (lv_at hl 1 rfl) ?_
    refine lv_iload_n hx hb dX12_bestBy_15 rfl (lv_at hl 2 rfl) ?_
    refine rosi (As := [.int 0, .int 3]) (rest := [.int (-4)]) ⟨hx, hb, hml, hown, hts⟩ (b_X12_soundsBy l G D cB cI cJ cZ cS cT 0 3 ) (csB (n := 2) (inr62 _ (List.mem_of_getElem? (i := 23) rfl)) (inr63 _ (List.mem_of_getElem? (i := 0) rfl)) (inr1 _ (List.mem_of_getElem? (i := 5) rfl)) (inr63 _ (List.mem_of_getElem? (i := 1) rfl)) (by decide +kernel) hts rfl rfl ⟨Nat.le_of_ble_eq_true rfl, Nat.le_of_ble_eq_true rfl⟩) (hP.sub [] rfl) hK hN hT rfl hl.1 rfl (Nat.le_of_ble_eq_true rfl) ⟨Nat.le_of_ble_eq_true rfl, Nat.le_of_ble_eq_true rfl⟩ dX12_bestBy_16 (fun r_66 h_67 => ?_)
    have h_67 : (r_66 = rw_ 0 3) := h_67
    have i_68 := h_67
    obtain rfl : r_66 = 0 := i_68.trans (by decide)
    refine lv_icmp_le (tgt := 26) hx hb dX12_bestBy_19 (by decide) (fun _ => ?_) (fun c0 => absurd c0 (by decide))
    refine lv_iload_n hx hb dX12_bestBy_26 rfl (lv_at hl 1 rfl) ?_
    refine lv_istore_n (lv' := [(1, .int 0), (2, .int 2), (0, .int 3)]) hx hb dX12_bestBy_27 rfl hl (by decide) rfl (fun ls hl => ?_)
    refine lv_iinc (v := 3) (lv' := [(2, .int 3), (1, .int 0), (0, .int 3)]) hx hb dX12_bestBy_28 hl (k := 1) rfl (by decide) (by decide) rfl (fun ls hl => ?_)
    refine lv_goto (tgt := 4) hx hb dX12_bestBy_31 (by decide) ?_
    refine lv_iload_n hx hb dX12_bestBy_4 rfl (lv_at hl 0 rfl) ?_
    refine lv_iconst (v := 4) hx hb dX12_bestBy_5 (by decide) ?_
    refine lv_icmp_ge (tgt := 34) hx hb dX12_bestBy_6 (by decide) (fun c0 => absurd c0 (by decide)) (fun _ => ?_)
    refine lv_iload_n hx hb dX12_bestBy_9 rfl (lv_at hl 0 rfl) ?_
    refine lv_iload_n hx hb dX12_bestBy_10 rfl (lv_at hl 2 rfl) ?_
    refine rosi (As := [.int 3, .int 3]) (rest := []) ⟨hx, hb, hml, hown, hts⟩ (b_X12_soundsBy l G D cB cI cJ cZ cS cT 3 3 ) (csB (n := 2) (inr62 _ (List.mem_of_getElem? (i := 23) rfl)) (inr63 _ (List.mem_of_getElem? (i := 0) rfl)) (inr1 _ (List.mem_of_getElem? (i := 5) rfl)) (inr63 _ (List.mem_of_getElem? (i := 1) rfl)) (by decide +kernel) hts rfl rfl ⟨Nat.le_of_ble_eq_true rfl, Nat.le_of_ble_eq_true rfl⟩) (hP.sub [] rfl) hK hN hT rfl hl.1 rfl (Nat.le_of_ble_eq_true rfl) ⟨Nat.le_of_ble_eq_true rfl, Nat.le_of_ble_eq_true rfl⟩ dX12_bestBy_11 (fun r_69 h_70 => ?_)
    have h_70 : (r_69 = rw_ 3 3) := h_70
    have i_71 := h_70
    obtain rfl : r_69 = (-5) := i_71.trans (by decide)
    refine lv_iload_n hx hb dX12_bestBy_14 rfl (lv_at hl 1 rfl) ?_
    refine lv_iload_n hx hb dX12_bestBy_15 rfl (lv_at hl 2 rfl) ?_
    refine rosi (As := [.int 0, .int 3]) (rest := [.int (-5)]) ⟨hx, hb, hml, hown, hts⟩ (b_X12_soundsBy l G D cB cI cJ cZ cS cT 0 3 ) (csB (n := 2) (inr62 _ (List.mem_of_getElem? (i := 23) rfl)) (inr63 _ (List.mem_of_getElem? (i := 0) rfl)) (inr1 _ (List.mem_of_getElem? (i := 5) rfl)) (inr63 _ (List.mem_of_getElem? (i := 1) rfl)) (by decide +kernel) hts rfl rfl ⟨Nat.le_of_ble_eq_true rfl, Nat.le_of_ble_eq_true rfl⟩) (hP.sub [] rfl) hK hN hT rfl hl.1 rfl (Nat.le_of_ble_eq_true rfl) ⟨Nat.le_of_ble_eq_true rfl, Nat.le_of_ble_eq_true rfl⟩ dX12_bestBy_16 (fun r_72 h_73 => ?_)
    have h_73 : (r_72 = rw_ 0 3) := h_73
    have i_74 := h_73
    obtain rfl : r_72 = 0 := i_74.trans (by decide)
    refine lv_icmp_le (tgt := 26) hx hb dX12_bestBy_19 (by decide) (fun _ => ?_) (fun c0 => absurd c0 (by decide))
    refine lv_iload_n hx hb dX12_bestBy_26 rfl (lv_at hl 1 rfl) ?_
    refine lv_istore_n (lv' := [(1, .int 0), (2, .int 3), (0, .int 3)]) hx hb dX12_bestBy_27 rfl hl (by decide) rfl (fun ls hl => ?_)
    refine lv_iinc (v := 4) (lv' := [(2, .int 4), (1, .int 0), (0, .int 3)]) hx hb dX12_bestBy_28 hl (k := 1) rfl (by decide) (by decide) rfl (fun ls hl => ?_)
    refine lv_goto (tgt := 4) hx hb dX12_bestBy_31 (by decide) ?_
    refine lv_iload_n hx hb dX12_bestBy_4 rfl (lv_at hl 0 rfl) ?_
    refine lv_iconst (v := 4) hx hb dX12_bestBy_5 (by decide) ?_
    refine lv_icmp_ge (tgt := 34) hx hb dX12_bestBy_6 (by decide) (fun _ => ?_) (fun c0 => absurd c0 (by decide))
    refine lv_iload_n hx hb dX12_bestBy_34 rfl (lv_at hl 1 rfl) ?_
    have hr9 : (0 : Int32).toInt = 0 := by decide
    exact ret _ _ _ dX12_bestBy_35 (show ((0 : Int32) = S_best v0) from (by subst_vars; decide))
