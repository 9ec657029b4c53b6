theorem dX12_anew_0 : decode cX12_anew 0 = .ok (.aload_n 0, 1) := by decide +kernel
theorem dX12_anew_1 : decode cX12_anew 1 = .ok (.invokevirtual 263, 3) := by decide +kernel
theorem dX12_anew_10 : decode cX12_anew 10 = .ok (.aload_n 0, 1) := by decide +kernel
theorem dX12_anew_11 : decode cX12_anew 11 = .ok (.getfield 9, 3) := by decide +kernel
theorem dX12_anew_14 : decode cX12_anew 14 = .ok (.bipush 8, 2) := by decide +kernel
theorem dX12_anew_16 : decode cX12_anew 16 = .ok (.iaload, 1) := by decide +kernel
theorem dX12_anew_17 : decode cX12_anew 17 = .ok (.istore_n 1, 1) := by decide +kernel
theorem dX12_anew_18 : decode cX12_anew 18 = .ok (.aload_n 0, 1) := by decide +kernel
theorem dX12_anew_19 : decode cX12_anew 19 = .ok (.getfield 9, 3) := by decide +kernel
theorem dX12_anew_22 : decode cX12_anew 22 = .ok (.bipush 8, 2) := by decide +kernel
theorem dX12_anew_24 : decode cX12_anew 24 = .ok (.iconst 0, 1) := by decide +kernel
theorem dX12_anew_25 : decode cX12_anew 25 = .ok (.iastore, 1) := by decide +kernel
theorem dX12_anew_26 : decode cX12_anew 26 = .ok (.iload_n 1, 1) := by decide +kernel
theorem dX12_anew_27 : decode cX12_anew 27 = .ok (.ireturn, 1) := by decide +kernel
theorem dX12_anew_4 : decode cX12_anew 4 = .ok (.ifCond .ne 6, 3) := by decide +kernel
theorem dX12_anew_7 : decode cX12_anew 7 = .ok (.bipush (-2), 2) := by decide +kernel
theorem dX12_anew_9 : decode cX12_anew 9 = .ok (.ireturn, 1) := by decide +kernel
theorem dX12_best_0 : decode cX12_best 0 = .ok (.iload_n 1, 1) := by decide +kernel
theorem dX12_best_1 : decode cX12_best 1 = .ok (.i2l, 1) := by decide +kernel
theorem dX12_best_12 : decode cX12_best 12 = .ok (.iload_n 1, 1) := by decide +kernel
theorem dX12_best_13 : decode cX12_best 13 = .ok (.invokestatic 426, 3) := by decide +kernel
theorem dX12_best_16 : decode cX12_best 16 = .ok (.goto 5, 3) := by decide +kernel
theorem dX12_best_19 : decode cX12_best 19 = .ok (.bipush (-2), 2) := by decide +kernel
theorem dX12_best_2 : decode cX12_best 2 = .ok (.lconst 0, 1) := by decide +kernel
theorem dX12_best_21 : decode cX12_best 21 = .ok (.ireturn, 1) := by decide +kernel
theorem dX12_best_3 : decode cX12_best 3 = .ok (.ldc2_w 429, 3) := by decide +kernel
theorem dX12_best_6 : decode cX12_best 6 = .ok (.invokestatic 95, 3) := by decide +kernel
theorem dX12_best_9 : decode cX12_best 9 = .ok (.ifCond .eq 10, 3) := by decide +kernel
theorem dX12_chance_0 : decode cX12_chance 0 = .ok (.aload_n 0, 1) := by decide +kernel
theorem dX12_chance_1 : decode cX12_chance 1 = .ok (.invokevirtual 269, 3) := by decide +kernel
theorem dX12_chance_10 : decode cX12_chance 10 = .ok (.ldc2_w 431, 3) := by decide +kernel
theorem dX12_chance_13 : decode cX12_chance 13 = .ok (.invokestatic 95, 3) := by decide +kernel
theorem dX12_chance_16 : decode cX12_chance 16 = .ok (.ifCond .eq 13, 3) := by decide +kernel
theorem dX12_chance_19 : decode cX12_chance 19 = .ok (.iload_n 2, 1) := by decide +kernel
theorem dX12_chance_20 : decode cX12_chance 20 = .ok (.i2l, 1) := by decide +kernel
theorem dX12_chance_21 : decode cX12_chance 21 = .ok (.lconst 0, 1) := by decide +kernel
theorem dX12_chance_22 : decode cX12_chance 22 = .ok (.lconst 1, 1) := by decide +kernel
theorem dX12_chance_23 : decode cX12_chance 23 = .ok (.invokestatic 95, 3) := by decide +kernel
theorem dX12_chance_26 : decode cX12_chance 26 = .ok (.ifCond .ne 7, 3) := by decide +kernel
theorem dX12_chance_29 : decode cX12_chance 29 = .ok (.ldc2_w 433, 3) := by decide +kernel
theorem dX12_chance_32 : decode cX12_chance 32 = .ok (.lreturn, 1) := by decide +kernel
theorem dX12_chance_33 : decode cX12_chance 33 = .ok (.aload_n 0, 1) := by decide +kernel
theorem dX12_chance_34 : decode cX12_chance 34 = .ok (.iload_n 1, 1) := by decide +kernel
theorem dX12_chance_35 : decode cX12_chance 35 = .ok (.invokevirtual 435, 3) := by decide +kernel
theorem dX12_chance_38 : decode cX12_chance 38 = .ok (.istore_n 3, 1) := by decide +kernel
theorem dX12_chance_39 : decode cX12_chance 39 = .ok (.bipush 10, 2) := by decide +kernel
theorem dX12_chance_4 : decode cX12_chance 4 = .ok (.ifCond .eq 25, 3) := by decide +kernel
theorem dX12_chance_41 : decode cX12_chance 41 = .ok (.aload_n 0, 1) := by decide +kernel
theorem dX12_chance_42 : decode cX12_chance 42 = .ok (.getfield 9, 3) := by decide +kernel
theorem dX12_chance_45 : decode cX12_chance 45 = .ok (.iconst 5, 1) := by decide +kernel
theorem dX12_chance_46 : decode cX12_chance 46 = .ok (.iaload, 1) := by decide +kernel
theorem dX12_chance_47 : decode cX12_chance 47 = .ok (.isub, 1) := by decide +kernel
theorem dX12_chance_48 : decode cX12_chance 48 = .ok (.i2l, 1) := by decide +kernel
theorem dX12_chance_49 : decode cX12_chance 49 = .ok (.iload_n 3, 1) := by decide +kernel
theorem dX12_chance_50 : decode cX12_chance 50 = .ok (.invokestatic 438, 3) := by decide +kernel
theorem dX12_chance_53 : decode cX12_chance 53 = .ok (.lstore 4, 2) := by decide +kernel
theorem dX12_chance_55 : decode cX12_chance 55 = .ok (.ldc2_w 248, 3) := by decide +kernel
theorem dX12_chance_58 : decode cX12_chance 58 = .ok (.iload_n 3, 1) := by decide +kernel
theorem dX12_chance_59 : decode cX12_chance 59 = .ok (.invokestatic 438, 3) := by decide +kernel
theorem dX12_chance_62 : decode cX12_chance 62 = .ok (.lstore 6, 2) := by decide +kernel
theorem dX12_chance_64 : decode cX12_chance 64 = .ok (.iload_n 2, 1) := by decide +kernel
theorem dX12_chance_65 : decode cX12_chance 65 = .ok (.ifCond .ne 8, 3) := by decide +kernel
theorem dX12_chance_68 : decode cX12_chance 68 = .ok (.lload 4, 2) := by decide +kernel
theorem dX12_chance_7 : decode cX12_chance 7 = .ok (.iload_n 1, 1) := by decide +kernel
theorem dX12_chance_70 : decode cX12_chance 70 = .ok (.goto 5, 3) := by decide +kernel
theorem dX12_chance_73 : decode cX12_chance 73 = .ok (.lload 6, 2) := by decide +kernel
theorem dX12_chance_75 : decode cX12_chance 75 = .ok (.lload 4, 2) := by decide +kernel
theorem dX12_chance_77 : decode cX12_chance 77 = .ok (.lload 6, 2) := by decide +kernel
theorem dX12_chance_79 : decode cX12_chance 79 = .ok (.invokestatic 442, 3) := by decide +kernel
theorem dX12_chance_8 : decode cX12_chance 8 = .ok (.i2l, 1) := by decide +kernel
theorem dX12_chance_82 : decode cX12_chance 82 = .ok (.ldiv, 1) := by decide +kernel
theorem dX12_chance_83 : decode cX12_chance 83 = .ok (.lreturn, 1) := by decide +kernel
theorem dX12_chance_9 : decode cX12_chance 9 = .ok (.lconst 0, 1) := by decide +kernel
theorem dX12_divisor_0 : decode cX12_divisor 0 = .ok (.lload_n 0, 1) := by decide +kernel
theorem dX12_divisor_1 : decode cX12_divisor 1 = .ok (.lstore 4, 2) := by decide +kernel
theorem dX12_divisor_10 : decode cX12_divisor 10 = .ok (.ifCond .eq 21, 3) := by decide +kernel
theorem dX12_divisor_13 : decode cX12_divisor 13 = .ok (.lload 4, 2) := by decide +kernel
theorem dX12_divisor_15 : decode cX12_divisor 15 = .ok (.lload 6, 2) := by decide +kernel
theorem dX12_divisor_17 : decode cX12_divisor 17 = .ok (.lrem, 1) := by decide +kernel
theorem dX12_divisor_18 : decode cX12_divisor 18 = .ok (.lstore 8, 2) := by decide +kernel
theorem dX12_divisor_20 : decode cX12_divisor 20 = .ok (.lload 6, 2) := by decide +kernel
theorem dX12_divisor_22 : decode cX12_divisor 22 = .ok (.lstore 4, 2) := by decide +kernel
theorem dX12_divisor_24 : decode cX12_divisor 24 = .ok (.lload 8, 2) := by decide +kernel
theorem dX12_divisor_26 : decode cX12_divisor 26 = .ok (.lstore 6, 2) := by decide +kernel
theorem dX12_divisor_28 : decode cX12_divisor 28 = .ok (.goto (-22), 3) := by decide +kernel
theorem dX12_divisor_3 : decode cX12_divisor 3 = .ok (.lload_n 2, 1) := by decide +kernel
theorem dX12_divisor_31 : decode cX12_divisor 31 = .ok (.lload 4, 2) := by decide +kernel
theorem dX12_divisor_33 : decode cX12_divisor 33 = .ok (.lreturn, 1) := by decide +kernel
theorem dX12_divisor_4 : decode cX12_divisor 4 = .ok (.lstore 6, 2) := by decide +kernel
theorem dX12_divisor_6 : decode cX12_divisor 6 = .ok (.lload 6, 2) := by decide +kernel
theorem dX12_divisor_8 : decode cX12_divisor 8 = .ok (.lconst 0, 1) := by decide +kernel
theorem dX12_divisor_9 : decode cX12_divisor 9 = .ok (.lcmp, 1) := by decide +kernel
theorem dX12_goDrawn_0 : decode cX12_goDrawn 0 = .ok (.aload_n 0, 1) := by decide +kernel
theorem dX12_goDrawn_1 : decode cX12_goDrawn 1 = .ok (.invokevirtual 260, 3) := by decide +kernel
theorem dX12_goDrawn_10 : decode cX12_goDrawn 10 = .ok (.iconst 0, 1) := by decide +kernel
theorem dX12_goDrawn_11 : decode cX12_goDrawn 11 = .ok (.putfield 250, 3) := by decide +kernel
theorem dX12_goDrawn_14 : decode cX12_goDrawn 14 = .ok (.aload_n 0, 1) := by decide +kernel
theorem dX12_goDrawn_15 : decode cX12_goDrawn 15 = .ok (.iconst 1, 1) := by decide +kernel
theorem dX12_goDrawn_16 : decode cX12_goDrawn 16 = .ok (.putfield 225, 3) := by decide +kernel
theorem dX12_goDrawn_19 : decode cX12_goDrawn 19 = .ok (.aload_n 0, 1) := by decide +kernel
theorem dX12_goDrawn_20 : decode cX12_goDrawn 20 = .ok (.invokevirtual 266, 3) := by decide +kernel
theorem dX12_goDrawn_23 : decode cX12_goDrawn 23 = .ok (.aload_n 0, 1) := by decide +kernel
theorem dX12_goDrawn_24 : decode cX12_goDrawn 24 = .ok (.iconst 0, 1) := by decide +kernel
theorem dX12_goDrawn_25 : decode cX12_goDrawn 25 = .ok (.putfield 225, 3) := by decide +kernel
theorem dX12_goDrawn_28 : decode cX12_goDrawn 28 = .ok (.iconst 0, 1) := by decide +kernel
theorem dX12_goDrawn_29 : decode cX12_goDrawn 29 = .ok (.istore_n 3, 1) := by decide +kernel
theorem dX12_goDrawn_30 : decode cX12_goDrawn 30 = .ok (.iconst 0, 1) := by decide +kernel
theorem dX12_goDrawn_31 : decode cX12_goDrawn 31 = .ok (.istore 4, 2) := by decide +kernel
theorem dX12_goDrawn_33 : decode cX12_goDrawn 33 = .ok (.iload 4, 2) := by decide +kernel
theorem dX12_goDrawn_35 : decode cX12_goDrawn 35 = .ok (.bipush 60, 2) := by decide +kernel
theorem dX12_goDrawn_37 : decode cX12_goDrawn 37 = .ok (.if_icmp .gt 45, 3) := by decide +kernel
theorem dX12_goDrawn_4 : decode cX12_goDrawn 4 = .ok (.aload_n 0, 1) := by decide +kernel
theorem dX12_goDrawn_40 : decode cX12_goDrawn 40 = .ok (.iload_n 3, 1) := by decide +kernel
theorem dX12_goDrawn_41 : decode cX12_goDrawn 41 = .ok (.aload_n 0, 1) := by decide +kernel
theorem dX12_goDrawn_42 : decode cX12_goDrawn 42 = .ok (.iload 4, 2) := by decide +kernel
theorem dX12_goDrawn_44 : decode cX12_goDrawn 44 = .ok (.invokevirtual 232, 3) := by decide +kernel
theorem dX12_goDrawn_47 : decode cX12_goDrawn 47 = .ok (.ifCond .eq 18, 3) := by decide +kernel
theorem dX12_goDrawn_5 : decode cX12_goDrawn 5 = .ok (.lload_n 1, 1) := by decide +kernel
theorem dX12_goDrawn_50 : decode cX12_goDrawn 50 = .ok (.aload_n 0, 1) := by decide +kernel
theorem dX12_goDrawn_51 : decode cX12_goDrawn 51 = .ok (.getfield 37, 3) := by decide +kernel
theorem dX12_goDrawn_54 : decode cX12_goDrawn 54 = .ok (.iload 4, 2) := by decide +kernel
theorem dX12_goDrawn_56 : decode cX12_goDrawn 56 = .ok (.iaload, 1) := by decide +kernel
theorem dX12_goDrawn_57 : decode cX12_goDrawn 57 = .ok (.iconst (-1), 1) := by decide +kernel
theorem dX12_goDrawn_58 : decode cX12_goDrawn 58 = .ok (.if_icmp .ne 7, 3) := by decide +kernel
theorem dX12_goDrawn_6 : decode cX12_goDrawn 6 = .ok (.putfield 238, 3) := by decide +kernel
theorem dX12_goDrawn_61 : decode cX12_goDrawn 61 = .ok (.iconst 1, 1) := by decide +kernel
theorem dX12_goDrawn_62 : decode cX12_goDrawn 62 = .ok (.goto 4, 3) := by decide +kernel
theorem dX12_goDrawn_65 : decode cX12_goDrawn 65 = .ok (.iconst 0, 1) := by decide +kernel
theorem dX12_goDrawn_66 : decode cX12_goDrawn 66 = .ok (.iadd, 1) := by decide +kernel
theorem dX12_goDrawn_67 : decode cX12_goDrawn 67 = .ok (.istore_n 3, 1) := by decide +kernel
theorem dX12_goDrawn_68 : decode cX12_goDrawn 68 = .ok (.aload_n 0, 1) := by decide +kernel
theorem dX12_goDrawn_69 : decode cX12_goDrawn 69 = .ok (.getfield 74, 3) := by decide +kernel
theorem dX12_goDrawn_72 : decode cX12_goDrawn 72 = .ok (.iload 4, 2) := by decide +kernel
theorem dX12_goDrawn_74 : decode cX12_goDrawn 74 = .ok (.iload_n 3, 1) := by decide +kernel
theorem dX12_goDrawn_75 : decode cX12_goDrawn 75 = .ok (.iastore, 1) := by decide +kernel
theorem dX12_goDrawn_76 : decode cX12_goDrawn 76 = .ok (.iinc 4 1, 3) := by decide +kernel
theorem dX12_goDrawn_79 : decode cX12_goDrawn 79 = .ok (.goto (-46), 3) := by decide +kernel
theorem dX12_goDrawn_82 : decode cX12_goDrawn 82 = .ok (.return_, 1) := by decide +kernel
theorem dX12_goDrawn_9 : decode cX12_goDrawn 9 = .ok (.aload_n 0, 1) := by decide +kernel
theorem dX12_isSeed_0 : decode cX12_isSeed 0 = .ok (.iload_n 0, 1) := by decide +kernel
theorem dX12_isSeed_1 : decode cX12_isSeed 1 = .ok (.i2l, 1) := by decide +kernel
theorem dX12_isSeed_2 : decode cX12_isSeed 2 = .ok (.lconst 0, 1) := by decide +kernel
theorem dX12_isSeed_3 : decode cX12_isSeed 3 = .ok (.ldc2_w 337, 3) := by decide +kernel
theorem dX12_isSeed_6 : decode cX12_isSeed 6 = .ok (.invokestatic 95, 3) := by decide +kernel
theorem dX12_isSeed_9 : decode cX12_isSeed 9 = .ok (.ireturn, 1) := by decide +kernel
theorem dX12_isSure_0 : decode cX12_isSure 0 = .ok (.aload_n 0, 1) := by decide +kernel
theorem dX12_isSure_1 : decode cX12_isSure 1 = .ok (.iload_n 1, 1) := by decide +kernel
theorem dX12_isSure_12 : decode cX12_isSure 12 = .ok (.iconst 5, 1) := by decide +kernel
theorem dX12_isSure_13 : decode cX12_isSure 13 = .ok (.iaload, 1) := by decide +kernel
theorem dX12_isSure_14 : decode cX12_isSure 14 = .ok (.isub, 1) := by decide +kernel
theorem dX12_isSure_15 : decode cX12_isSure 15 = .ok (.i2l, 1) := by decide +kernel
theorem dX12_isSure_16 : decode cX12_isSure 16 = .ok (.iload_n 3, 1) := by decide +kernel
theorem dX12_isSure_17 : decode cX12_isSure 17 = .ok (.invokestatic 438, 3) := by decide +kernel
theorem dX12_isSure_2 : decode cX12_isSure 2 = .ok (.invokevirtual 435, 3) := by decide +kernel
theorem dX12_isSure_20 : decode cX12_isSure 20 = .ok (.lstore 4, 2) := by decide +kernel
theorem dX12_isSure_22 : decode cX12_isSure 22 = .ok (.iload_n 3, 1) := by decide +kernel
theorem dX12_isSure_23 : decode cX12_isSure 23 = .ok (.iconst 2, 1) := by decide +kernel
theorem dX12_isSure_24 : decode cX12_isSure 24 = .ok (.if_icmp .ge 31, 3) := by decide +kernel
theorem dX12_isSure_27 : decode cX12_isSure 27 = .ok (.lload 4, 2) := by decide +kernel
theorem dX12_isSure_29 : decode cX12_isSure 29 = .ok (.ldc2_w 446, 3) := by decide +kernel
theorem dX12_isSure_32 : decode cX12_isSure 32 = .ok (.lmul, 1) := by decide +kernel
theorem dX12_isSure_33 : decode cX12_isSure 33 = .ok (.iload_n 2, 1) := by decide +kernel
theorem dX12_isSure_34 : decode cX12_isSure 34 = .ok (.i2l, 1) := by decide +kernel
theorem dX12_isSure_35 : decode cX12_isSure 35 = .ok (.ldc2_w 248, 3) := by decide +kernel
theorem dX12_isSure_38 : decode cX12_isSure 38 = .ok (.iload_n 3, 1) := by decide +kernel
theorem dX12_isSure_39 : decode cX12_isSure 39 = .ok (.invokestatic 438, 3) := by decide +kernel
theorem dX12_isSure_42 : decode cX12_isSure 42 = .ok (.lmul, 1) := by decide +kernel
theorem dX12_isSure_43 : decode cX12_isSure 43 = .ok (.lcmp, 1) := by decide +kernel
theorem dX12_isSure_44 : decode cX12_isSure 44 = .ok (.ifCond .lt 7, 3) := by decide +kernel
theorem dX12_isSure_47 : decode cX12_isSure 47 = .ok (.iconst 1, 1) := by decide +kernel
theorem dX12_isSure_48 : decode cX12_isSure 48 = .ok (.goto 30, 3) := by decide +kernel
theorem dX12_isSure_5 : decode cX12_isSure 5 = .ok (.istore_n 3, 1) := by decide +kernel
theorem dX12_isSure_51 : decode cX12_isSure 51 = .ok (.iconst 0, 1) := by decide +kernel
theorem dX12_isSure_52 : decode cX12_isSure 52 = .ok (.goto 26, 3) := by decide +kernel
theorem dX12_isSure_55 : decode cX12_isSure 55 = .ok (.lload 4, 2) := by decide +kernel
theorem dX12_isSure_57 : decode cX12_isSure 57 = .ok (.iload_n 2, 1) := by decide +kernel
theorem dX12_isSure_58 : decode cX12_isSure 58 = .ok (.i2l, 1) := by decide +kernel
theorem dX12_isSure_59 : decode cX12_isSure 59 = .ok (.ldc2_w 248, 3) := by decide +kernel
theorem dX12_isSure_6 : decode cX12_isSure 6 = .ok (.bipush 10, 2) := by decide +kernel
theorem dX12_isSure_62 : decode cX12_isSure 62 = .ok (.iload_n 3, 1) := by decide +kernel
theorem dX12_isSure_63 : decode cX12_isSure 63 = .ok (.iconst 2, 1) := by decide +kernel
theorem dX12_isSure_64 : decode cX12_isSure 64 = .ok (.isub, 1) := by decide +kernel
theorem dX12_isSure_65 : decode cX12_isSure 65 = .ok (.invokestatic 438, 3) := by decide +kernel
theorem dX12_isSure_68 : decode cX12_isSure 68 = .ok (.lmul, 1) := by decide +kernel
theorem dX12_isSure_69 : decode cX12_isSure 69 = .ok (.lcmp, 1) := by decide +kernel
theorem dX12_isSure_70 : decode cX12_isSure 70 = .ok (.ifCond .lt 7, 3) := by decide +kernel
theorem dX12_isSure_73 : decode cX12_isSure 73 = .ok (.iconst 1, 1) := by decide +kernel
theorem dX12_isSure_74 : decode cX12_isSure 74 = .ok (.goto 4, 3) := by decide +kernel
theorem dX12_isSure_77 : decode cX12_isSure 77 = .ok (.iconst 0, 1) := by decide +kernel
theorem dX12_isSure_78 : decode cX12_isSure 78 = .ok (.ireturn, 1) := by decide +kernel
theorem dX12_isSure_8 : decode cX12_isSure 8 = .ok (.aload_n 0, 1) := by decide +kernel
theorem dX12_isSure_9 : decode cX12_isSure 9 = .ok (.getfield 9, 3) := by decide +kernel
theorem dX12_mayLose_0 : decode cX12_mayLose 0 = .ok (.iconst 0, 1) := by decide +kernel
theorem dX12_mayLose_1 : decode cX12_mayLose 1 = .ok (.istore_n 2, 1) := by decide +kernel
theorem dX12_mayLose_10 : decode cX12_mayLose 10 = .ok (.aload_n 0, 1) := by decide +kernel
theorem dX12_mayLose_11 : decode cX12_mayLose 11 = .ok (.iload_n 3, 1) := by decide +kernel
theorem dX12_mayLose_12 : decode cX12_mayLose 12 = .ok (.invokevirtual 232, 3) := by decide +kernel
theorem dX12_mayLose_15 : decode cX12_mayLose 15 = .ok (.ifCond .eq 17, 3) := by decide +kernel
theorem dX12_mayLose_18 : decode cX12_mayLose 18 = .ok (.aload_n 0, 1) := by decide +kernel
theorem dX12_mayLose_19 : decode cX12_mayLose 19 = .ok (.getfield 34, 3) := by decide +kernel
theorem dX12_mayLose_2 : decode cX12_mayLose 2 = .ok (.iconst 0, 1) := by decide +kernel
theorem dX12_mayLose_22 : decode cX12_mayLose 22 = .ok (.iload_n 3, 1) := by decide +kernel
theorem dX12_mayLose_23 : decode cX12_mayLose 23 = .ok (.iaload, 1) := by decide +kernel
theorem dX12_mayLose_24 : decode cX12_mayLose 24 = .ok (.iconst (-1), 1) := by decide +kernel
theorem dX12_mayLose_25 : decode cX12_mayLose 25 = .ok (.if_icmp .ne 7, 3) := by decide +kernel
theorem dX12_mayLose_28 : decode cX12_mayLose 28 = .ok (.iconst 1, 1) := by decide +kernel
theorem dX12_mayLose_29 : decode cX12_mayLose 29 = .ok (.goto 4, 3) := by decide +kernel
theorem dX12_mayLose_3 : decode cX12_mayLose 3 = .ok (.istore_n 3, 1) := by decide +kernel
theorem dX12_mayLose_32 : decode cX12_mayLose 32 = .ok (.iconst 0, 1) := by decide +kernel
theorem dX12_mayLose_33 : decode cX12_mayLose 33 = .ok (.iadd, 1) := by decide +kernel
theorem dX12_mayLose_34 : decode cX12_mayLose 34 = .ok (.istore_n 2, 1) := by decide +kernel
theorem dX12_mayLose_35 : decode cX12_mayLose 35 = .ok (.iinc 3 1, 3) := by decide +kernel
theorem dX12_mayLose_38 : decode cX12_mayLose 38 = .ok (.goto (-34), 3) := by decide +kernel
theorem dX12_mayLose_4 : decode cX12_mayLose 4 = .ok (.iload_n 3, 1) := by decide +kernel
theorem dX12_mayLose_41 : decode cX12_mayLose 41 = .ok (.iload_n 2, 1) := by decide +kernel
theorem dX12_mayLose_42 : decode cX12_mayLose 42 = .ok (.ireturn, 1) := by decide +kernel
theorem dX12_mayLose_5 : decode cX12_mayLose 5 = .ok (.iload_n 1, 1) := by decide +kernel
theorem dX12_mayLose_6 : decode cX12_mayLose 6 = .ok (.if_icmp .gt 35, 3) := by decide +kernel
theorem dX12_mayLose_9 : decode cX12_mayLose 9 = .ok (.iload_n 2, 1) := by decide +kernel
theorem dX12_power_0 : decode cX12_power 0 = .ok (.lconst 1, 1) := by decide +kernel
theorem dX12_power_1 : decode cX12_power 1 = .ok (.lstore_n 3, 1) := by decide +kernel
theorem dX12_power_11 : decode cX12_power 11 = .ok (.lload_n 3, 1) := by decide +kernel
theorem dX12_power_12 : decode cX12_power 12 = .ok (.lload_n 0, 1) := by decide +kernel
theorem dX12_power_13 : decode cX12_power 13 = .ok (.lmul, 1) := by decide +kernel
theorem dX12_power_14 : decode cX12_power 14 = .ok (.lstore_n 3, 1) := by decide +kernel
theorem dX12_power_15 : decode cX12_power 15 = .ok (.iinc 5 1, 3) := by decide +kernel
theorem dX12_power_18 : decode cX12_power 18 = .ok (.goto (-13), 3) := by decide +kernel
theorem dX12_power_2 : decode cX12_power 2 = .ok (.iconst 0, 1) := by decide +kernel
theorem dX12_power_21 : decode cX12_power 21 = .ok (.lload_n 3, 1) := by decide +kernel
theorem dX12_power_22 : decode cX12_power 22 = .ok (.lreturn, 1) := by decide +kernel
theorem dX12_power_3 : decode cX12_power 3 = .ok (.istore 5, 2) := by decide +kernel
theorem dX12_power_5 : decode cX12_power 5 = .ok (.iload 5, 2) := by decide +kernel
theorem dX12_power_7 : decode cX12_power 7 = .ok (.iload_n 2, 1) := by decide +kernel
theorem dX12_power_8 : decode cX12_power 8 = .ok (.if_icmp .ge 13, 3) := by decide +kernel
theorem dX12_rests_0 : decode cX12_rests 0 = .ok (.iconst 0, 1) := by decide +kernel
theorem dX12_rests_1 : decode cX12_rests 1 = .ok (.istore_n 1, 1) := by decide +kernel
theorem dX12_rests_10 : decode cX12_rests 10 = .ok (.iload_n 1, 1) := by decide +kernel
theorem dX12_rests_11 : decode cX12_rests 11 = .ok (.iload_n 2, 1) := by decide +kernel
theorem dX12_rests_12 : decode cX12_rests 12 = .ok (.iconst 4, 1) := by decide +kernel
theorem dX12_rests_13 : decode cX12_rests 13 = .ok (.idiv, 1) := by decide +kernel
theorem dX12_rests_14 : decode cX12_rests 14 = .ok (.iload_n 2, 1) := by decide +kernel
theorem dX12_rests_15 : decode cX12_rests 15 = .ok (.iconst 4, 1) := by decide +kernel
theorem dX12_rests_16 : decode cX12_rests 16 = .ok (.irem, 1) := by decide +kernel
theorem dX12_rests_17 : decode cX12_rests 17 = .ok (.invokestatic 423, 3) := by decide +kernel
theorem dX12_rests_2 : decode cX12_rests 2 = .ok (.iconst 0, 1) := by decide +kernel
theorem dX12_rests_20 : decode cX12_rests 20 = .ok (.iload_n 2, 1) := by decide +kernel
theorem dX12_rests_21 : decode cX12_rests 21 = .ok (.iconst 4, 1) := by decide +kernel
theorem dX12_rests_22 : decode cX12_rests 22 = .ok (.irem, 1) := by decide +kernel
theorem dX12_rests_23 : decode cX12_rests 23 = .ok (.invokestatic 426, 3) := by decide +kernel
theorem dX12_rests_26 : decode cX12_rests 26 = .ok (.iload_n 2, 1) := by decide +kernel
theorem dX12_rests_27 : decode cX12_rests 27 = .ok (.iconst 4, 1) := by decide +kernel
theorem dX12_rests_28 : decode cX12_rests 28 = .ok (.irem, 1) := by decide +kernel
theorem dX12_rests_29 : decode cX12_rests 29 = .ok (.invokestatic 423, 3) := by decide +kernel
theorem dX12_rests_3 : decode cX12_rests 3 = .ok (.istore_n 2, 1) := by decide +kernel
theorem dX12_rests_32 : decode cX12_rests 32 = .ok (.if_icmp .ne 31, 3) := by decide +kernel
theorem dX12_rests_35 : decode cX12_rests 35 = .ok (.iload_n 2, 1) := by decide +kernel
theorem dX12_rests_36 : decode cX12_rests 36 = .ok (.iconst 4, 1) := by decide +kernel
theorem dX12_rests_37 : decode cX12_rests 37 = .ok (.irem, 1) := by decide +kernel
theorem dX12_rests_38 : decode cX12_rests 38 = .ok (.iload_n 2, 1) := by decide +kernel
theorem dX12_rests_39 : decode cX12_rests 39 = .ok (.iconst 4, 1) := by decide +kernel
theorem dX12_rests_4 : decode cX12_rests 4 = .ok (.iload_n 2, 1) := by decide +kernel
theorem dX12_rests_40 : decode cX12_rests 40 = .ok (.idiv, 1) := by decide +kernel
theorem dX12_rests_41 : decode cX12_rests 41 = .ok (.invokestatic 423, 3) := by decide +kernel
theorem dX12_rests_44 : decode cX12_rests 44 = .ok (.iload_n 2, 1) := by decide +kernel
theorem dX12_rests_45 : decode cX12_rests 45 = .ok (.iconst 4, 1) := by decide +kernel
theorem dX12_rests_46 : decode cX12_rests 46 = .ok (.idiv, 1) := by decide +kernel
theorem dX12_rests_47 : decode cX12_rests 47 = .ok (.invokestatic 426, 3) := by decide +kernel
theorem dX12_rests_5 : decode cX12_rests 5 = .ok (.bipush 16, 2) := by decide +kernel
theorem dX12_rests_50 : decode cX12_rests 50 = .ok (.iload_n 2, 1) := by decide +kernel
theorem dX12_rests_51 : decode cX12_rests 51 = .ok (.iconst 4, 1) := by decide +kernel
theorem dX12_rests_52 : decode cX12_rests 52 = .ok (.idiv, 1) := by decide +kernel
theorem dX12_rests_53 : decode cX12_rests 53 = .ok (.invokestatic 423, 3) := by decide +kernel
theorem dX12_rests_56 : decode cX12_rests 56 = .ok (.if_icmp .ne 7, 3) := by decide +kernel
theorem dX12_rests_63 : decode cX12_rests 63 = .ok (.iconst 0, 1) := by decide +kernel
theorem dX12_rests_64 : decode cX12_rests 64 = .ok (.iadd, 1) := by decide +kernel
theorem dX12_rests_65 : decode cX12_rests 65 = .ok (.istore_n 1, 1) := by decide +kernel
theorem dX12_rests_66 : decode cX12_rests 66 = .ok (.iinc 2 1, 3) := by decide +kernel
theorem dX12_rests_69 : decode cX12_rests 69 = .ok (.goto (-65), 3) := by decide +kernel
theorem dX12_rests_7 : decode cX12_rests 7 = .ok (.if_icmp .ge 65, 3) := by decide +kernel
theorem dX12_rests_72 : decode cX12_rests 72 = .ok (.iload_n 1, 1) := by decide +kernel
theorem dX12_rests_73 : decode cX12_rests 73 = .ok (.ireturn, 1) := by decide +kernel
theorem dX12_sounds_0 : decode cX12_sounds 0 = .ok (.iload_n 1, 1) := by decide +kernel
theorem dX12_sounds_1 : decode cX12_sounds 1 = .ok (.i2l, 1) := by decide +kernel
theorem dX12_sounds_12 : decode cX12_sounds 12 = .ok (.iload_n 2, 1) := by decide +kernel
theorem dX12_sounds_13 : decode cX12_sounds 13 = .ok (.i2l, 1) := by decide +kernel
theorem dX12_sounds_14 : decode cX12_sounds 14 = .ok (.lconst 0, 1) := by decide +kernel
theorem dX12_sounds_15 : decode cX12_sounds 15 = .ok (.ldc2_w 429, 3) := by decide +kernel
theorem dX12_sounds_18 : decode cX12_sounds 18 = .ok (.invokestatic 95, 3) := by decide +kernel
theorem dX12_sounds_2 : decode cX12_sounds 2 = .ok (.lconst 0, 1) := by decide +kernel
theorem dX12_sounds_21 : decode cX12_sounds 21 = .ok (.ifCond .eq 11, 3) := by decide +kernel
theorem dX12_sounds_24 : decode cX12_sounds 24 = .ok (.iload_n 1, 1) := by decide +kernel
theorem dX12_sounds_25 : decode cX12_sounds 25 = .ok (.iload_n 2, 1) := by decide +kernel
theorem dX12_sounds_26 : decode cX12_sounds 26 = .ok (.invokestatic 423, 3) := by decide +kernel
theorem dX12_sounds_29 : decode cX12_sounds 29 = .ok (.goto 6, 3) := by decide +kernel
theorem dX12_sounds_3 : decode cX12_sounds 3 = .ok (.ldc2_w 429, 3) := by decide +kernel
theorem dX12_sounds_32 : decode cX12_sounds 32 = .ok (.sipush (-1000), 3) := by decide +kernel
theorem dX12_sounds_35 : decode cX12_sounds 35 = .ok (.ireturn, 1) := by decide +kernel
theorem dX12_sounds_6 : decode cX12_sounds 6 = .ok (.invokestatic 95, 3) := by decide +kernel
theorem dX12_sounds_9 : decode cX12_sounds 9 = .ok (.ifCond .eq 23, 3) := by decide +kernel
theorem dX12_speak_0 : decode cX12_speak 0 = .ok (.aload_n 0, 1) := by decide +kernel
theorem dX12_speak_1 : decode cX12_speak 1 = .ok (.invokevirtual 263, 3) := by decide +kernel
theorem dX12_speak_12 : decode cX12_speak 12 = .ok (.ifCond .eq 17, 3) := by decide +kernel
theorem dX12_speak_15 : decode cX12_speak 15 = .ok (.iload_n 2, 1) := by decide +kernel
theorem dX12_speak_16 : decode cX12_speak 16 = .ok (.iconst (-1), 1) := by decide +kernel
theorem dX12_speak_17 : decode cX12_speak 17 = .ok (.if_icmp .eq 15, 3) := by decide +kernel
theorem dX12_speak_20 : decode cX12_speak 20 = .ok (.aload_n 0, 1) := by decide +kernel
theorem dX12_speak_21 : decode cX12_speak 21 = .ok (.iload_n 2, 1) := by decide +kernel
theorem dX12_speak_22 : decode cX12_speak 22 = .ok (.i2l, 1) := by decide +kernel
theorem dX12_speak_23 : decode cX12_speak 23 = .ok (.invokevirtual 288, 3) := by decide +kernel
theorem dX12_speak_26 : decode cX12_speak 26 = .ok (.ifCond .ne 6, 3) := by decide +kernel
theorem dX12_speak_29 : decode cX12_speak 29 = .ok (.bipush (-2), 2) := by decide +kernel
theorem dX12_speak_31 : decode cX12_speak 31 = .ok (.ireturn, 1) := by decide +kernel
theorem dX12_speak_32 : decode cX12_speak 32 = .ok (.aload_n 0, 1) := by decide +kernel
theorem dX12_speak_33 : decode cX12_speak 33 = .ok (.invokevirtual 260, 3) := by decide +kernel
theorem dX12_speak_36 : decode cX12_speak 36 = .ok (.aload_n 0, 1) := by decide +kernel
theorem dX12_speak_37 : decode cX12_speak 37 = .ok (.getfield 9, 3) := by decide +kernel
theorem dX12_speak_4 : decode cX12_speak 4 = .ok (.ifCond .eq 25, 3) := by decide +kernel
theorem dX12_speak_40 : decode cX12_speak 40 = .ok (.bipush 8, 2) := by decide +kernel
theorem dX12_speak_42 : decode cX12_speak 42 = .ok (.iaload, 1) := by decide +kernel
theorem dX12_speak_43 : decode cX12_speak 43 = .ok (.bipush 30, 2) := by decide +kernel
theorem dX12_speak_45 : decode cX12_speak 45 = .ok (.if_icmp .ne 6, 3) := by decide +kernel
theorem dX12_speak_48 : decode cX12_speak 48 = .ok (.bipush (-5), 2) := by decide +kernel
theorem dX12_speak_50 : decode cX12_speak 50 = .ok (.ireturn, 1) := by decide +kernel
theorem dX12_speak_51 : decode cX12_speak 51 = .ok (.aload_n 0, 1) := by decide +kernel
theorem dX12_speak_52 : decode cX12_speak 52 = .ok (.getfield 9, 3) := by decide +kernel
theorem dX12_speak_55 : decode cX12_speak 55 = .ok (.bipush 23, 2) := by decide +kernel
theorem dX12_speak_57 : decode cX12_speak 57 = .ok (.aload_n 0, 1) := by decide +kernel
theorem dX12_speak_58 : decode cX12_speak 58 = .ok (.getfield 9, 3) := by decide +kernel
theorem dX12_speak_61 : decode cX12_speak 61 = .ok (.bipush 8, 2) := by decide +kernel
theorem dX12_speak_63 : decode cX12_speak 63 = .ok (.iaload, 1) := by decide +kernel
theorem dX12_speak_64 : decode cX12_speak 64 = .ok (.iadd, 1) := by decide +kernel
theorem dX12_speak_65 : decode cX12_speak 65 = .ok (.bipush 10, 2) := by decide +kernel
theorem dX12_speak_67 : decode cX12_speak 67 = .ok (.iload_n 1, 1) := by decide +kernel
theorem dX12_speak_68 : decode cX12_speak 68 = .ok (.imul, 1) := by decide +kernel
theorem dX12_speak_69 : decode cX12_speak 69 = .ok (.iload_n 2, 1) := by decide +kernel
theorem dX12_speak_7 : decode cX12_speak 7 = .ok (.iload_n 1, 1) := by decide +kernel
theorem dX12_speak_70 : decode cX12_speak 70 = .ok (.iadd, 1) := by decide +kernel
theorem dX12_speak_71 : decode cX12_speak 71 = .ok (.iconst 1, 1) := by decide +kernel
theorem dX12_speak_72 : decode cX12_speak 72 = .ok (.iadd, 1) := by decide +kernel
theorem dX12_speak_73 : decode cX12_speak 73 = .ok (.iastore, 1) := by decide +kernel
theorem dX12_speak_74 : decode cX12_speak 74 = .ok (.aload_n 0, 1) := by decide +kernel
theorem dX12_speak_75 : decode cX12_speak 75 = .ok (.getfield 9, 3) := by decide +kernel
theorem dX12_speak_78 : decode cX12_speak 78 = .ok (.bipush 8, 2) := by decide +kernel
theorem dX12_speak_8 : decode cX12_speak 8 = .ok (.i2l, 1) := by decide +kernel
theorem dX12_speak_80 : decode cX12_speak 80 = .ok (.dup2, 1) := by decide +kernel
theorem dX12_speak_81 : decode cX12_speak 81 = .ok (.iaload, 1) := by decide +kernel
theorem dX12_speak_82 : decode cX12_speak 82 = .ok (.iconst 1, 1) := by decide +kernel
theorem dX12_speak_83 : decode cX12_speak 83 = .ok (.iadd, 1) := by decide +kernel
theorem dX12_speak_84 : decode cX12_speak 84 = .ok (.iastore, 1) := by decide +kernel
theorem dX12_speak_85 : decode cX12_speak 85 = .ok (.aload_n 0, 1) := by decide +kernel
theorem dX12_speak_86 : decode cX12_speak 86 = .ok (.getfield 34, 3) := by decide +kernel
theorem dX12_speak_89 : decode cX12_speak 89 = .ok (.iload_n 1, 1) := by decide +kernel
theorem dX12_speak_9 : decode cX12_speak 9 = .ok (.invokestatic 272, 3) := by decide +kernel
theorem dX12_speak_90 : decode cX12_speak 90 = .ok (.iaload, 1) := by decide +kernel
theorem dX12_speak_91 : decode cX12_speak 91 = .ok (.ireturn, 1) := by decide +kernel
theorem dX12_spoken_0 : decode cX12_spoken 0 = .ok (.aload_n 0, 1) := by decide +kernel
theorem dX12_spoken_1 : decode cX12_spoken 1 = .ok (.iload_n 1, 1) := by decide +kernel
theorem dX12_spoken_12 : decode cX12_spoken 12 = .ok (.iload_n 1, 1) := by decide +kernel
theorem dX12_spoken_13 : decode cX12_spoken 13 = .ok (.iaload, 1) := by decide +kernel
theorem dX12_spoken_14 : decode cX12_spoken 14 = .ok (.goto 5, 3) := by decide +kernel
theorem dX12_spoken_17 : decode cX12_spoken 17 = .ok (.bipush (-2), 2) := by decide +kernel
theorem dX12_spoken_19 : decode cX12_spoken 19 = .ok (.ireturn, 1) := by decide +kernel
theorem dX12_spoken_2 : decode cX12_spoken 2 = .ok (.invokevirtual 279, 3) := by decide +kernel
theorem dX12_spoken_5 : decode cX12_spoken 5 = .ok (.ifCond .eq 12, 3) := by decide +kernel
theorem dX12_spoken_8 : decode cX12_spoken 8 = .ok (.aload_n 0, 1) := by decide +kernel
theorem dX12_spoken_9 : decode cX12_spoken 9 = .ok (.getfield 34, 3) := by decide +kernel
theorem dX12_sure_0 : decode cX12_sure 0 = .ok (.aload_n 0, 1) := by decide +kernel
theorem dX12_sure_1 : decode cX12_sure 1 = .ok (.invokevirtual 269, 3) := by decide +kernel
theorem dX12_sure_10 : decode cX12_sure 10 = .ok (.ldc2_w 446, 3) := by decide +kernel
theorem dX12_sure_13 : decode cX12_sure 13 = .ok (.invokestatic 95, 3) := by decide +kernel
theorem dX12_sure_16 : decode cX12_sure 16 = .ok (.ifCond .ne 6, 3) := by decide +kernel
theorem dX12_sure_19 : decode cX12_sure 19 = .ok (.bipush (-2), 2) := by decide +kernel
theorem dX12_sure_21 : decode cX12_sure 21 = .ok (.ireturn, 1) := by decide +kernel
theorem dX12_sure_22 : decode cX12_sure 22 = .ok (.bipush 17, 2) := by decide +kernel
theorem dX12_sure_24 : decode cX12_sure 24 = .ok (.istore_n 2, 1) := by decide +kernel
theorem dX12_sure_25 : decode cX12_sure 25 = .ok (.iload_n 2, 1) := by decide +kernel
theorem dX12_sure_26 : decode cX12_sure 26 = .ok (.ifCond .lt 18, 3) := by decide +kernel
theorem dX12_sure_29 : decode cX12_sure 29 = .ok (.aload_n 0, 1) := by decide +kernel
theorem dX12_sure_30 : decode cX12_sure 30 = .ok (.iload_n 2, 1) := by decide +kernel
theorem dX12_sure_31 : decode cX12_sure 31 = .ok (.iload_n 1, 1) := by decide +kernel
theorem dX12_sure_32 : decode cX12_sure 32 = .ok (.invokevirtual 448, 3) := by decide +kernel
theorem dX12_sure_35 : decode cX12_sure 35 = .ok (.ifCond .ne 9, 3) := by decide +kernel
theorem dX12_sure_38 : decode cX12_sure 38 = .ok (.iinc 2 (-1), 3) := by decide +kernel
theorem dX12_sure_4 : decode cX12_sure 4 = .ok (.ifCond .eq 15, 3) := by decide +kernel
theorem dX12_sure_41 : decode cX12_sure 41 = .ok (.goto (-16), 3) := by decide +kernel
theorem dX12_sure_44 : decode cX12_sure 44 = .ok (.iload_n 2, 1) := by decide +kernel
theorem dX12_sure_45 : decode cX12_sure 45 = .ok (.ireturn, 1) := by decide +kernel
theorem dX12_sure_7 : decode cX12_sure 7 = .ok (.iload_n 1, 1) := by decide +kernel
theorem dX12_sure_8 : decode cX12_sure 8 = .ok (.i2l, 1) := by decide +kernel
theorem dX12_sure_9 : decode cX12_sure 9 = .ok (.lconst 0, 1) := by decide +kernel
theorem dX12_undo_0 : decode cX12_undo 0 = .ok (.aload_n 0, 1) := by decide +kernel
theorem dX12_undo_1 : decode cX12_undo 1 = .ok (.invokevirtual 263, 3) := by decide +kernel
theorem dX12_undo_10 : decode cX12_undo 10 = .ok (.aload_n 0, 1) := by decide +kernel
theorem dX12_undo_11 : decode cX12_undo 11 = .ok (.getfield 9, 3) := by decide +kernel
theorem dX12_undo_14 : decode cX12_undo 14 = .ok (.bipush 8, 2) := by decide +kernel
theorem dX12_undo_16 : decode cX12_undo 16 = .ok (.iaload, 1) := by decide +kernel
theorem dX12_undo_17 : decode cX12_undo 17 = .ok (.ifCond .ne 6, 3) := by decide +kernel
theorem dX12_undo_20 : decode cX12_undo 20 = .ok (.bipush (-5), 2) := by decide +kernel
theorem dX12_undo_22 : decode cX12_undo 22 = .ok (.ireturn, 1) := by decide +kernel
theorem dX12_undo_23 : decode cX12_undo 23 = .ok (.aload_n 0, 1) := by decide +kernel
theorem dX12_undo_24 : decode cX12_undo 24 = .ok (.getfield 9, 3) := by decide +kernel
theorem dX12_undo_27 : decode cX12_undo 27 = .ok (.bipush 8, 2) := by decide +kernel
theorem dX12_undo_29 : decode cX12_undo 29 = .ok (.dup2, 1) := by decide +kernel
theorem dX12_undo_30 : decode cX12_undo 30 = .ok (.iaload, 1) := by decide +kernel
theorem dX12_undo_31 : decode cX12_undo 31 = .ok (.iconst 1, 1) := by decide +kernel
theorem dX12_undo_32 : decode cX12_undo 32 = .ok (.isub, 1) := by decide +kernel
theorem dX12_undo_33 : decode cX12_undo 33 = .ok (.iastore, 1) := by decide +kernel
theorem dX12_undo_34 : decode cX12_undo 34 = .ok (.aload_n 0, 1) := by decide +kernel
theorem dX12_undo_35 : decode cX12_undo 35 = .ok (.getfield 9, 3) := by decide +kernel
theorem dX12_undo_38 : decode cX12_undo 38 = .ok (.bipush 8, 2) := by decide +kernel
theorem dX12_undo_4 : decode cX12_undo 4 = .ok (.ifCond .ne 6, 3) := by decide +kernel
theorem dX12_undo_40 : decode cX12_undo 40 = .ok (.iaload, 1) := by decide +kernel
theorem dX12_undo_41 : decode cX12_undo 41 = .ok (.ireturn, 1) := by decide +kernel
theorem dX12_undo_7 : decode cX12_undo 7 = .ok (.bipush (-2), 2) := by decide +kernel
theorem dX12_undo_9 : decode cX12_undo 9 = .ok (.ireturn, 1) := by decide +kernel
set_option maxHeartbeats 4000000 in
set_option maxRecDepth 100000 in
theorem b_X12_rests (l : Launch) (G : Gho) (D : va_G) (cB cI cJ cZ cS cT : ClassId) (h0 : Nat)  : Met l yX12_rests (Cond.code yX12_rests cX12_rests 3 (some .int) :: wsL_law) ({ frames := 2, cells := 0, slots := 0, locals := 43 }) (roP G D (tyL cB cI cJ cZ cS cT) [] [.ref h0]) (vp_Si (fun r : Int32 => (r = 0))) 0 0 (fun _ => False) := by
  refine metRO (own := RX12) (by decide) rfl ?_
  intro p e s m below meth c Q C hP ret
  obtain ⟨hx, hb, hml, hown, hts, hK, hN, hT⟩ := id C
  have hl := lv_entry ([.ref h0]) (n := 3) (Nat.le_of_ble_eq_true rfl)
  rw [lg_entry_eq]
  generalize (lg_sl ([.ref h0]) ++ List.replicate (3 - (lg_sl ([.ref h0])).length) Slot.unset).toArray = ls at hl ⊢
  have hl : lv_has ls 3 [(0, .ref h0)] := hl
  have hP : va_P D vwCl [] s.heap := hP
  refine lv_iconst (v := 0) hx hb dX12_rests_0 (by decide) ?_
  refine lv_istore_n (lv' := [(1, .int 0), (0, .ref h0)]) hx hb dX12_rests_1 rfl hl (by decide) rfl (fun ls hl => ?_)
  refine lv_iconst (v := 0) hx hb dX12_rests_2 (by decide) ?_
  refine lv_istore_n (lv' := [(2, .int 0), (1, .int 0), (0, .ref h0)]) hx hb dX12_rests_3 rfl hl (by decide) rfl (fun ls hl => ?_)
  refine lv_iload_n hx hb dX12_rests_4 rfl (lv_at hl 0 rfl) ?_
  refine lv_bipush (v := 16) hx hb dX12_rests_5 (by decide) ?_
  refine lv_icmp_ge (tgt := 72) hx hb dX12_rests_7 (by decide) (fun c0 => absurd c0 (by decide)) (fun _ => ?_)
  refine lv_iload_n hx hb dX12_rests_10 rfl (lv_at hl 1 rfl) ?_
  refine lv_iload_n hx hb dX12_rests_11 rfl (lv_at hl 0 rfl) ?_
  refine lv_iconst (v := 4) hx hb dX12_rests_12 (by decide) ?_
  refine z_idiv (v := 0) hx hb dX12_rests_13 (by decide) (by decide) ?_
  refine lv_iload_n hx hb dX12_rests_14 rfl (lv_at hl 0 rfl) ?_
  refine lv_iconst (v := 4) hx hb dX12_rests_15 (by decide) ?_
  refine z_irem (v := 0) hx hb dX12_rests_16 (by decide) (by decide) ?_
  refine rosi (As := [.int 0, .int 0]) (rest := [.int 0]) ⟨hx, hb, hml, hown, hts⟩ (b_X12_soundsBy l G D cB cI cJ cZ cS cT 0 0 ) (csB (n := 2) (inr62 _ (List.mem_of_getElem? (i := 23) rfl)) (inr63 _ (List.mem_of_getElem? (i := 0) rfl)) (inr1 _ (List.mem_of_getElem? (i := 5) rfl)) (inr63 _ (List.mem_of_getElem? (i := 1) rfl)) (by decide +kernel) hts rfl rfl ⟨Nat.le_of_ble_eq_true rfl, Nat.le_of_ble_eq_true rfl⟩) (hP.sub [] rfl) hK hN hT rfl hl.1 rfl (Nat.le_of_ble_eq_true rfl) ⟨Nat.le_of_ble_eq_true rfl, Nat.le_of_ble_eq_true rfl⟩ dX12_rests_17 (fun r_1 h_2 => ?_)
  have h_2 : (r_1 = rw_ 0 0) := h_2
  have i_3 := h_2
  obtain rfl : r_1 = 4 := i_3.trans (by decide)
  refine lv_iload_n hx hb dX12_rests_20 rfl (lv_at hl 0 rfl) ?_
  refine lv_iconst (v := 4) hx hb dX12_rests_21 (by decide) ?_
  refine z_irem (v := 0) hx hb dX12_rests_22 (by decide) (by decide) ?_
  refine rosi (As := [.int 0]) (rest := [.int 4, .int 0]) ⟨hx, hb, hml, hown, hts⟩ (b_X12_bestBy l G D cB cI cJ cZ cS cT 0 (by first | assumption | (have := zI0; have := zI1; have := zIm; omega) | decide)) (csB (n := 1) (inr63 _ (List.mem_of_getElem? (i := 2) rfl)) (inr63 _ (List.mem_of_getElem? (i := 3) rfl)) (inr1 _ (List.mem_of_getElem? (i := 5) rfl)) (inr63 _ (List.mem_of_getElem? (i := 4) rfl)) (by decide +kernel) hts rfl rfl ⟨Nat.le_of_ble_eq_true rfl, Nat.le_of_ble_eq_true rfl⟩) (hP.sub [] rfl) hK hN hT rfl hl.1 rfl (Nat.le_of_ble_eq_true rfl) ⟨Nat.le_of_ble_eq_true rfl, Nat.le_of_ble_eq_true rfl⟩ dX12_rests_23 (fun r_4 h_5 => ?_)
  have h_5 : (r_4 = S_best 0) := h_5
  have i_6 := h_5
  obtain rfl : r_4 = 1 := i_6.trans (by decide)
  refine lv_iload_n hx hb dX12_rests_26 rfl (lv_at hl 0 rfl) ?_
  refine lv_iconst (v := 4) hx hb dX12_rests_27 (by decide) ?_
  refine z_irem (v := 0) hx hb dX12_rests_28 (by decide) (by decide) ?_
  refine rosi (As := [.int 1, .int 0]) (rest := [.int 4, .int 0]) ⟨hx, hb, hml, hown, hts⟩ (b_X12_soundsBy l G D cB cI cJ cZ cS cT 1 0 ) (csB (n := 2) (inr62 _ (List.mem_of_getElem? (i := 23) rfl)) (inr63 _ (List.mem_of_getElem? (i := 0) rfl)) (inr1 _ (List.mem_of_getElem? (i := 5) rfl)) (inr63 _ (List.mem_of_getElem? (i := 1) rfl)) (by decide +kernel) hts rfl rfl ⟨Nat.le_of_ble_eq_true rfl, Nat.le_of_ble_eq_true rfl⟩) (hP.sub [] rfl) hK hN hT rfl hl.1 rfl (Nat.le_of_ble_eq_true rfl) ⟨Nat.le_of_ble_eq_true rfl, Nat.le_of_ble_eq_true rfl⟩ dX12_rests_29 (fun r_7 h_8 => ?_)
  have h_8 : (r_7 = rw_ 1 0) := h_8
  have i_9 := h_8
  obtain rfl : r_7 = 9 := i_9.trans (by decide)
  refine lv_icmp_ne (tgt := 63) hx hb dX12_rests_32 (by decide) (fun _ => ?_) (fun c0 => absurd c0 (by decide))
  refine lv_iconst (v := 0) hx hb dX12_rests_63 (by decide) ?_
  refine z_iadd (v := 0) hx hb dX12_rests_64 (by decide) ?_
  refine lv_istore_n (lv' := [(1, .int 0), (2, .int 0), (0, .ref h0)]) hx hb dX12_rests_65 rfl hl (by decide) rfl (fun ls hl => ?_)
  refine lv_iinc (v := 1) (lv' := [(2, .int 1), (1, .int 0), (0, .ref h0)]) hx hb dX12_rests_66 hl (k := 1) rfl (by decide) (by decide) rfl (fun ls hl => ?_)
  refine lv_goto (tgt := 4) hx hb dX12_rests_69 (by decide) ?_
  refine lv_iload_n hx hb dX12_rests_4 rfl (lv_at hl 0 rfl) ?_
  refine lv_bipush (v := 16) hx hb dX12_rests_5 (by decide) ?_
  refine lv_icmp_ge (tgt := 72) hx hb dX12_rests_7 (by decide) (fun c0 => absurd c0 (by decide)) (fun _ => ?_)
  refine lv_iload_n hx hb dX12_rests_10 rfl (lv_at hl 1 rfl) ?_
  refine lv_iload_n hx hb dX12_rests_11 rfl (lv_at hl 0 rfl) ?_
  refine lv_iconst (v := 4) hx hb dX12_rests_12 (by decide) ?_
  refine z_idiv (v := 0) hx hb dX12_rests_13 (by decide) (by decide) ?_
  refine lv_iload_n hx hb dX12_rests_14 rfl (lv_at hl 0 rfl) ?_
  refine lv_iconst (v := 4) hx hb dX12_rests_15 (by decide) ?_
  refine z_irem (v := 1) hx hb dX12_rests_16 (by decide) (by decide) ?_
  refine rosi (As := [.int 0, .int 1]) (rest := [.int 0]) ⟨hx, hb, hml, hown, hts⟩ (b_X12_soundsBy l G D cB cI cJ cZ cS cT 0 1 ) (csB (n := 2) (inr62 _ (List.mem_of_getElem? (i := 23) rfl)) (inr63 _ (List.mem_of_getElem? (i := 0) rfl)) (inr1 _ (List.mem_of_getElem? (i := 5) rfl)) (inr63 _ (List.mem_of_getElem? (i := 1) rfl)) (by decide +kernel) hts rfl rfl ⟨Nat.le_of_ble_eq_true rfl, Nat.le_of_ble_eq_true rfl⟩) (hP.sub [] rfl) hK hN hT rfl hl.1 rfl (Nat.le_of_ble_eq_true rfl) ⟨Nat.le_of_ble_eq_true rfl, Nat.le_of_ble_eq_true rfl⟩ dX12_rests_17 (fun r_10 h_11 => ?_)
  have h_11 : (r_10 = rw_ 0 1) := h_11
  have i_12 := h_11
  obtain rfl : r_10 = 0 := i_12.trans (by decide)
  refine lv_iload_n hx hb dX12_rests_20 rfl (lv_at hl 0 rfl) ?_
  refine lv_iconst (v := 4) hx hb dX12_rests_21 (by decide) ?_
  refine z_irem (v := 1) hx hb dX12_rests_22 (by decide) (by decide) ?_
  refine rosi (As := [.int 1]) (rest := [.int 0, .int 0]) ⟨hx, hb, hml, hown, hts⟩ (b_X12_bestBy l G D cB cI cJ cZ cS cT 1 (by first | assumption | (have := zI0; have := zI1; have := zIm; omega) | decide)) (csB (n := 1) (inr63 _ (List.mem_of_getElem? (i := 2) rfl)) (inr63 _ (List.mem_of_getElem? (i := 3) rfl)) (inr1 _ (List.mem_of_getElem? (i := 5) rfl)) (inr63 _ (List.mem_of_getElem? (i := 4) rfl)) (by decide +kernel) hts rfl rfl ⟨Nat.le_of_ble_eq_true rfl, Nat.le_of_ble_eq_true rfl⟩) (hP.sub [] rfl) hK hN hT rfl hl.1 rfl (Nat.le_of_ble_eq_true rfl) ⟨Nat.le_of_ble_eq_true rfl, Nat.le_of_ble_eq_true rfl⟩ dX12_rests_23 (fun r_13 h_14 => ?_)
  have h_14 : (r_13 = S_best 1) := h_14
  have i_15 := h_14
  obtain rfl : r_13 = 2 := i_15.trans (by decide)
  refine lv_iload_n hx hb dX12_rests_26 rfl (lv_at hl 0 rfl) ?_
  refine lv_iconst (v := 4) hx hb dX12_rests_27 (by decide) ?_
  refine z_irem (v := 1) hx hb dX12_rests_28 (by decide) (by decide) ?_
  refine rosi (As := [.int 2, .int 1]) (rest := [.int 0, .int 0]) ⟨hx, hb, hml, hown, hts⟩ (b_X12_soundsBy l G D cB cI cJ cZ cS cT 2 1 ) (csB (n := 2) (inr62 _ (List.mem_of_getElem? (i := 23) rfl)) (inr63 _ (List.mem_of_getElem? (i := 0) rfl)) (inr1 _ (List.mem_of_getElem? (i := 5) rfl)) (inr63 _ (List.mem_of_getElem? (i := 1) rfl)) (by decide +kernel) hts rfl rfl ⟨Nat.le_of_ble_eq_true rfl, Nat.le_of_ble_eq_true rfl⟩) (hP.sub [] rfl) hK hN hT rfl hl.1 rfl (Nat.le_of_ble_eq_true rfl) ⟨Nat.le_of_ble_eq_true rfl, Nat.le_of_ble_eq_true rfl⟩ dX12_rests_29 (fun r_16 h_17 => ?_)
  have h_17 : (r_16 = rw_ 2 1) := h_17
  have i_18 := h_17
  obtain rfl : r_16 = 6 := i_18.trans (by decide)
  refine lv_icmp_ne (tgt := 63) hx hb dX12_rests_32 (by decide) (fun _ => ?_) (fun c0 => absurd c0 (by decide))
  refine lv_iconst (v := 0) hx hb dX12_rests_63 (by decide) ?_
  refine z_iadd (v := 0) hx hb dX12_rests_64 (by decide) ?_
  refine lv_istore_n (lv' := [(1, .int 0), (2, .int 1), (0, .ref h0)]) hx hb dX12_rests_65 rfl hl (by decide) rfl (fun ls hl => ?_)
  refine lv_iinc (v := 2) (lv' := [(2, .int 2), (1, .int 0), (0, .ref h0)]) hx hb dX12_rests_66 hl (k := 1) rfl (by decide) (by decide) rfl (fun ls hl => ?_)
  refine lv_goto (tgt := 4) hx hb dX12_rests_69 (by decide) ?_
  refine lv_iload_n hx hb dX12_rests_4 rfl (lv_at hl 0 rfl) ?_
  refine lv_bipush (v := 16) hx hb dX12_rests_5 (by decide) ?_
  refine lv_icmp_ge (tgt := 72) hx hb dX12_rests_7 (by decide) (fun c0 => absurd c0 (by decide)) (fun _ => ?_)
  refine lv_iload_n hx hb dX12_rests_10 rfl (lv_at hl 1 rfl) ?_
  refine lv_iload_n hx hb dX12_rests_11 rfl (lv_at hl 0 rfl) ?_
  refine lv_iconst (v := 4) hx hb dX12_rests_12 (by decide) ?_
  refine z_idiv (v := 0) hx hb dX12_rests_13 (by decide) (by decide) ?_
  refine lv_iload_n hx hb dX12_rests_14 rfl (lv_at hl 0 rfl) ?_
  refine lv_iconst (v := 4) hx hb dX12_rests_15 (by decide) ?_
  refine z_irem (v := 2) hx hb dX12_rests_16 (by decide) (by decide) ?_
  refine rosi (As := [.int 0, .int 2]) (rest := [.int 0]) ⟨hx, hb, hml, hown, hts⟩ (b_X12_soundsBy l G D cB cI cJ cZ cS cT 0 2 ) (csB (n := 2) (inr62 _ (List.mem_of_getElem? (i := 23) rfl)) (inr63 _ (List.mem_of_getElem? (i := 0) rfl)) (inr1 _ (List.mem_of_getElem? (i := 5) rfl)) (inr63 _ (List.mem_of_getElem? (i := 1) rfl)) (by decide +kernel) hts rfl rfl ⟨Nat.le_of_ble_eq_true rfl, Nat.le_of_ble_eq_true rfl⟩) (hP.sub [] rfl) hK hN hT rfl hl.1 rfl (Nat.le_of_ble_eq_true rfl) ⟨Nat.le_of_ble_eq_true rfl, Nat.le_of_ble_eq_true rfl⟩ dX12_rests_17 (fun r_19 h_20 => ?_)
  have h_20 : (r_19 = rw_ 0 2) := h_20
  have i_21 := h_20
  obtain rfl : r_19 = 0 := i_21.trans (by decide)
  refine lv_iload_n hx hb dX12_rests_20 rfl (lv_at hl 0 rfl) ?_
  refine lv_iconst (v := 4) hx hb dX12_rests_21 (by decide) ?_
  refine z_irem (v := 2) hx hb dX12_rests_22 (by decide) (by decide) ?_
  refine rosi (As := [.int 2]) (rest := [.int 0, .int 0]) ⟨hx, hb, hml, hown, hts⟩ (b_X12_bestBy l G D cB cI cJ cZ cS cT 2 (by first | assumption | (have := zI0; have := zI1; have := zIm; omega) | decide)) (csB (n := 1) (inr63 _ (List.mem_of_getElem? (i := 2) rfl)) (inr63 _ (List.mem_of_getElem? (i := 3) rfl)) (inr1 _ (List.mem_of_getElem? (i := 5) rfl)) (inr63 _ (List.mem_of_getElem? (i := 4) rfl)) (by decide +kernel) hts rfl rfl ⟨Nat.le_of_ble_eq_true rfl, Nat.le_of_ble_eq_true rfl⟩) (hP.sub [] rfl) hK hN hT rfl hl.1 rfl (Nat.le_of_ble_eq_true rfl) ⟨Nat.le_of_ble_eq_true rfl, Nat.le_of_ble_eq_true rfl⟩ dX12_rests_23 (fun r_22 h_23 => ?_)
  have h_23 : (r_22 = S_best 2) := h_23
  have i_24 := h_23
  obtain rfl : r_22 = 3 := i_24.trans (by decide)
  refine lv_iload_n hx hb dX12_rests_26 rfl (lv_at hl 0 rfl) ?_
  refine lv_iconst (v := 4) hx hb dX12_rests_27 (by decide) ?_
  refine z_irem (v := 2) hx hb dX12_rests_28 (by decide) (by decide) ?_
  refine rosi (As := [.int 3, .int 2]) (rest := [.int 0, .int 0]) ⟨hx, hb, hml, hown, hts⟩ (b_X12_soundsBy l G D cB cI cJ cZ cS cT 3 2 ) (csB (n := 2) (inr62 _ (List.mem_of_getElem? (i := 23) rfl)) (inr63 _ (List.mem_of_getElem? (i := 0) rfl)) (inr1 _ (List.mem_of_getElem? (i := 5) rfl)) (inr63 _ (List.mem_of_getElem? (i := 1) rfl)) (by decide +kernel) hts rfl rfl ⟨Nat.le_of_ble_eq_true rfl, Nat.le_of_ble_eq_true rfl⟩) (hP.sub [] rfl) hK hN hT rfl hl.1 rfl (Nat.le_of_ble_eq_true rfl) ⟨Nat.le_of_ble_eq_true rfl, Nat.le_of_ble_eq_true rfl⟩ dX12_rests_29 (fun r_25 h_26 => ?_)
  have h_26 : (r_25 = rw_ 3 2) := h_26
  have i_27 := h_26
  obtain rfl : r_25 = 1 := i_27.trans (by decide)
  refine lv_icmp_ne (tgt := 63) hx hb dX12_rests_32 (by decide) (fun _ => ?_) (fun c0 => absurd c0 (by decide))
  refine lv_iconst (v := 0) hx hb dX12_rests_63 (by decide) ?_
  refine z_iadd (v := 0) hx hb dX12_rests_64 (by decide) ?_
  refine lv_istore_n (lv' := [(1, .int 0), (2, .int 2), (0, .ref h0)]) hx hb dX12_rests_65 rfl hl (by decide) rfl (fun ls hl => ?_)
  refine lv_iinc (v := 3) (lv' := [(2, .int 3), (1, .int 0), (0, .ref h0)]) hx hb dX12_rests_66 hl (k := 1) rfl (by decide) (by decide) rfl (fun ls hl => ?_)
  refine lv_goto (tgt := 4) hx hb dX12_rests_69 (by decide) ?_
  refine lv_iload_n hx hb dX12_rests_4 rfl (lv_at hl 0 rfl) ?_
  refine lv_bipush (v := 16) hx hb dX12_rests_5 (by decide) ?_
  refine lv_icmp_ge (tgt := 72) hx hb dX12_rests_7 (by decide) (fun c0 => absurd c0 (by decide)) (fun _ => ?_)
  refine lv_iload_n hx hb dX12_rests_10 rfl (lv_at hl 1 rfl) ?_
  refine lv_iload_n hx hb dX12_rests_11 rfl (lv_at hl 0 rfl) ?_
  refine lv_iconst (v := 4) hx hb dX12_rests_12 (by decide) ?_
  refine z_idiv (v := 0) hx hb dX12_rests_13 (by decide) (by decide) ?_
  refine lv_iload_n hx hb dX12_rests_14 rfl (lv_at hl 0 rfl) ?_
  refine lv_iconst (v := 4) hx hb dX12_rests_15 (by decide) ?_
  refine z_irem (v := 3) hx hb dX12_rests_16 (by decide) (by decide) ?_
  refine rosi (As := [.int 0, .int 3]) (rest := [.int 0]) ⟨hx, hb, hml, hown, hts⟩ (b_X12_soundsBy l G D cB cI cJ cZ cS cT 0 3 ) (csB (n := 2) (inr62 _ (List.mem_of_getElem? (i := 23) rfl)) (inr63 _ (List.mem_of_getElem? (i := 0) rfl)) (inr1 _ (List.mem_of_getElem? (i := 5) rfl)) (inr63 _ (List.mem_of_getElem? (i := 1) rfl)) (by decide +kernel) hts rfl rfl ⟨Nat.le_of_ble_eq_true rfl, Nat.le_of_ble_eq_true rfl⟩) (hP.sub [] rfl) hK hN hT rfl hl.1 rfl (Nat.le_of_ble_eq_true rfl) ⟨Nat.le_of_ble_eq_true rfl, Nat.le_of_ble_eq_true rfl⟩ dX12_rests_17 (fun r_28 h_29 => ?_)
  have h_29 : (r_28 = rw_ 0 3) := h_29
  have i_30 := h_29
  obtain rfl : r_28 = 0 := i_30.trans (by decide)
  refine lv_iload_n hx hb dX12_rests_20 rfl (lv_at hl 0 rfl) ?_
  refine lv_iconst (v := 4) hx hb dX12_rests_21 (by decide) ?_
  refine z_irem (v := 3) hx hb dX12_rests_22 (by decide) (by decide) ?_
  refine rosi (As := [.int 3]) (rest := [.int 0, .int 0]) ⟨hx, hb, hml, hown, hts⟩ (b_X12_bestBy l G D cB cI cJ cZ cS cT 3 (by first | assumption | (have := zI0; have := zI1; have := zIm; omega) | decide)) (csB (n := 1) (inr63 _ (List.mem_of_getElem? (i := 2) rfl)) (inr63 _ (List.mem_of_getElem? (i := 3) rfl)) (inr1 _ (List.mem_of_getElem? (i := 5) rfl)) (inr63 _ (List.mem_of_getElem? (i := 4) rfl)) (by decide +kernel) hts rfl rfl ⟨Nat.le_of_ble_eq_true rfl, Nat.le_of_ble_eq_true rfl⟩) (hP.sub [] rfl) hK hN hT rfl hl.1 rfl (Nat.le_of_ble_eq_true rfl) ⟨Nat.le_of_ble_eq_true rfl, Nat.le_of_ble_eq_true rfl⟩ dX12_rests_23 (fun r_31 h_32 => ?_)
  have h_32 : (r_31 = S_best 3) := h_32
  have i_33 := h_32
  obtain rfl : r_31 = 0 := i_33.trans (by decide)
  refine lv_iload_n hx hb dX12_rests_26 rfl (lv_at hl 0 rfl) ?_
  refine lv_iconst (v := 4) hx hb dX12_rests_27 (by decide) ?_
  refine z_irem (v := 3) hx hb dX12_rests_28 (by decide) (by decide) ?_
  refine rosi (As := [.int 0, .int 3]) (rest := [.int 0, .int 0]) ⟨hx, hb, hml, hown, hts⟩ (b_X12_soundsBy l G D cB cI cJ cZ cS cT 0 3 ) (csB (n := 2) (inr62 _ (List.mem_of_getElem? (i := 23) rfl)) (inr63 _ (List.mem_of_getElem? (i := 0) rfl)) (inr1 _ (List.mem_of_getElem? (i := 5) rfl)) (inr63 _ (List.mem_of_getElem? (i := 1) rfl)) (by decide +kernel) hts rfl rfl ⟨Nat.le_of_ble_eq_true rfl, Nat.le_of_ble_eq_true rfl⟩) (hP.sub [] rfl) hK hN hT rfl hl.1 rfl (Nat.le_of_ble_eq_true rfl) ⟨Nat.le_of_ble_eq_true rfl, Nat.le_of_ble_eq_true rfl⟩ dX12_rests_29 (fun r_34 h_35 => ?_)
  have h_35 : (r_34 = rw_ 0 3) := h_35
  have i_36 := h_35
  obtain rfl : r_34 = 0 := i_36.trans (by decide)
  refine lv_icmp_ne (tgt := 63) hx hb dX12_rests_32 (by decide) (fun c0 => absurd c0 (by decide)) (fun _ => ?_)
  refine lv_iload_n hx hb dX12_rests_35 rfl (lv_at hl 0 rfl) ?_
  refine lv_iconst (v := 4) hx hb dX12_rests_36 (by decide) ?_
  refine z_irem (v := 3) hx hb dX12_rests_37 (by decide) (by decide) ?_
  refine lv_iload_n hx hb dX12_rests_38 rfl (lv_at hl 0 rfl) ?_
  refine lv_iconst (v := 4) hx hb dX12_rests_39 (by decide) ?_
  refine z_idiv (v := 0) hx hb dX12_rests_40 (by decide) (by decide) ?_
  refine rosi (As := [.int 3, .int 0]) (rest := [.int 0]) ⟨hx, hb, hml, hown, hts⟩ (b_X12_soundsBy l G D cB cI cJ cZ cS cT 3 0 ) (csB (n := 2) (inr62 _ (List.mem_of_getElem? (i := 23) rfl)) (inr63 _ (List.mem_of_getElem? (i := 0) rfl)) (inr1 _ (List.mem_of_getElem? (i := 5) rfl)) (inr63 _ (List.mem_of_getElem? (i := 1) rfl)) (by decide +kernel) hts rfl rfl ⟨Nat.le_of_ble_eq_true rfl, Nat.le_of_ble_eq_true rfl⟩) (hP.sub [] rfl) hK hN hT rfl hl.1 rfl (Nat.le_of_ble_eq_true rfl) ⟨Nat.le_of_ble_eq_true rfl, Nat.le_of_ble_eq_true rfl⟩ dX12_rests_41 (fun r_37 h_38 => ?_)
  have h_38 : (r_37 = rw_ 3 0) := h_38
  have i_39 := h_38
  obtain rfl : r_37 = 1 := i_39.trans (by decide)
  refine lv_iload_n hx hb dX12_rests_44 rfl (lv_at hl 0 rfl) ?_
  refine lv_iconst (v := 4) hx hb dX12_rests_45 (by decide) ?_
  refine z_idiv (v := 0) hx hb dX12_rests_46 (by decide) (by decide) ?_
  refine rosi (As := [.int 0]) (rest := [.int 1, .int 0]) ⟨hx, hb, hml, hown, hts⟩ (b_X12_bestBy l G D cB cI cJ cZ cS cT 0 (by first | assumption | (have := zI0; have := zI1; have := zIm; omega) | decide)) (csB (n := 1) (inr63 _ (List.mem_of_getElem? (i := 2) rfl)) (inr63 _ (List.mem_of_getElem? (i := 3) rfl)) (inr1 _ (List.mem_of_getElem? (i := 5) rfl)) (inr63 _ (List.mem_of_getElem? (i := 4) rfl)) (by decide +kernel) hts rfl rfl ⟨Nat.le_of_ble_eq_true rfl, Nat.le_of_ble_eq_true rfl⟩) (hP.sub [] rfl) hK hN hT rfl hl.1 rfl (Nat.le_of_ble_eq_true rfl) ⟨Nat.le_of_ble_eq_true rfl, Nat.le_of_ble_eq_true rfl⟩ dX12_rests_47 (fun r_40 h_41 => ?_)
  have h_41 : (r_40 = S_best 0) := h_41
  have i_42 := h_41
  obtain rfl : r_40 = 1 := i_42.trans (by decide)
  refine lv_iload_n hx hb dX12_rests_50 rfl (lv_at hl 0 rfl) ?_
  refine lv_iconst (v := 4) hx hb dX12_rests_51 (by decide) ?_
  refine z_idiv (v := 0) hx hb dX12_rests_52 (by decide) (by decide) ?_
  refine rosi (As := [.int 1, .int 0]) (rest := [.int 1, .int 0]) ⟨hx, hb, hml, hown, hts⟩ (b_X12_soundsBy l G D cB cI cJ cZ cS cT 1 0 ) (csB (n := 2) (inr62 _ (List.mem_of_getElem? (i := 23) rfl)) (inr63 _ (List.mem_of_getElem? (i := 0) rfl)) (inr1 _ (List.mem_of_getElem? (i := 5) rfl)) (inr63 _ (List.mem_of_getElem? (i := 1) rfl)) (by decide +kernel) hts rfl rfl ⟨Nat.le_of_ble_eq_true rfl, Nat.le_of_ble_eq_true rfl⟩) (hP.sub [] rfl) hK hN hT rfl hl.1 rfl (Nat.le_of_ble_eq_true rfl) ⟨Nat.le_of_ble_eq_true rfl, Nat.le_of_ble_eq_true rfl⟩ dX12_rests_53 (fun r_43 h_44 => ?_)
  have h_44 : (r_43 = rw_ 1 0) := h_44
  have i_45 := h_44
  obtain rfl : r_43 = 9 := i_45.trans (by decide)
  refine lv_icmp_ne (tgt := 63) hx hb dX12_rests_56 (by decide) (fun _ => ?_) (fun c0 => absurd c0 (by decide))
  refine lv_iconst (v := 0) hx hb dX12_rests_63 (by decide) ?_
  refine z_iadd (v := 0) hx hb dX12_rests_64 (by decide) ?_
  refine lv_istore_n (lv' := [(1, .int 0), (2, .int 3), (0, .ref h0)]) hx hb dX12_rests_65 rfl hl (by decide) rfl (fun ls hl => ?_)
  refine lv_iinc (v := 4) (lv' := [(2, .int 4), (1, .int 0), (0, .ref h0)]) hx hb dX12_rests_66 hl (k := 1) rfl (by decide) (by decide) rfl (fun ls hl => ?_)
  refine lv_goto (tgt := 4) hx hb dX12_rests_69 (by decide) ?_
  refine lv_iload_n hx hb dX12_rests_4 rfl (lv_at hl 0 rfl) ?_
  refine lv_bipush (v := 16) hx hb dX12_rests_5 (by decide) ?_
  refine lv_icmp_ge (tgt := 72) hx hb dX12_rests_7 (by decide) (fun c0 => absurd c0 (by decide)) (fun _ => ?_)
  refine lv_iload_n hx hb dX12_rests_10 rfl (lv_at hl 1 rfl) ?_
  refine lv_iload_n hx hb dX12_rests_11 rfl (lv_at hl 0 rfl) ?_
  refine lv_iconst (v := 4) hx hb dX12_rests_12 (by decide) ?_
  refine z_idiv (v := 1) hx hb dX12_rests_13 (by decide) (by decide) ?_
  refine lv_iload_n hx hb dX12_rests_14 rfl (lv_at hl 0 rfl) ?_
  refine lv_iconst (v := 4) hx hb dX12_rests_15 (by decide) ?_
  refine z_irem (v := 0) hx hb dX12_rests_16 (by decide) (by decide) ?_
  refine rosi (As := [.int 1, .int 0]) (rest := [.int 0]) ⟨hx, hb, hml, hown, hts⟩ (b_X12_soundsBy l G D cB cI cJ cZ cS cT 1 0 ) (csB (n := 2) (inr62 _ (List.mem_of_getElem? (i := 23) rfl)) (inr63 _ (List.mem_of_getElem? (i := 0) rfl)) (inr1 _ (List.mem_of_getElem? (i := 5) rfl)) (inr63 _ (List.mem_of_getElem? (i := 1) rfl)) (by decide +kernel) hts rfl rfl ⟨Nat.le_of_ble_eq_true rfl, Nat.le_of_ble_eq_true rfl⟩) (hP.sub [] rfl) hK hN hT rfl hl.1 rfl (Nat.le_of_ble_eq_true rfl) ⟨Nat.le_of_ble_eq_true rfl, Nat.le_of_ble_eq_true rfl⟩ dX12_rests_17 (fun r_46 h_47 => ?_)
  have h_47 : (r_46 = rw_ 1 0) := h_47
  have i_48 := h_47
  obtain rfl : r_46 = 9 := i_48.trans (by decide)
  refine lv_iload_n hx hb dX12_rests_20 rfl (lv_at hl 0 rfl) ?_
  refine lv_iconst (v := 4) hx hb dX12_rests_21 (by decide) ?_
  refine z_irem (v := 0) hx hb dX12_rests_22 (by decide) (by decide) ?_
  refine rosi (As := [.int 0]) (rest := [.int 9, .int 0]) ⟨hx, hb, hml, hown, hts⟩ (b_X12_bestBy l G D cB cI cJ cZ cS cT 0 (by first | assumption | (have := zI0; have := zI1; have := zIm; omega) | decide)) (csB (n := 1) (inr63 _ (List.mem_of_getElem? (i := 2) rfl)) (inr63 _ (List.mem_of_getElem? (i := 3) rfl)) (inr1 _ (List.mem_of_getElem? (i := 5) rfl)) (inr63 _ (List.mem_of_getElem? (i := 4) rfl)) (by decide +kernel) hts rfl rfl ⟨Nat.le_of_ble_eq_true rfl, Nat.le_of_ble_eq_true rfl⟩) (hP.sub [] rfl) hK hN hT rfl hl.1 rfl (Nat.le_of_ble_eq_true rfl) ⟨Nat.le_of_ble_eq_true rfl, Nat.le_of_ble_eq_true rfl⟩ dX12_rests_23 (fun r_49 h_50 => ?_)
  have h_50 : (r_49 = S_best 0) := h_50
  have i_51 := h_50
  obtain rfl : r_49 = 1 := i_51.trans (by decide)
  refine lv_iload_n hx hb dX12_rests_26 rfl (lv_at hl 0 rfl) ?_
  refine lv_iconst (v := 4) hx hb dX12_rests_27 (by decide) ?_
  refine z_irem (v := 0) hx hb dX12_rests_28 (by decide) (by decide) ?_
  refine rosi (As := [.int 1, .int 0]) (rest := [.int 9, .int 0]) ⟨hx, hb, hml, hown, hts⟩ (b_X12_soundsBy l G D cB cI cJ cZ cS cT 1 0 ) (csB (n := 2) (inr62 _ (List.mem_of_getElem? (i := 23) rfl)) (inr63 _ (List.mem_of_getElem? (i := 0) rfl)) (inr1 _ (List.mem_of_getElem? (i := 5) rfl)) (inr63 _ (List.mem_of_getElem? (i := 1) rfl)) (by decide +kernel) hts rfl rfl ⟨Nat.le_of_ble_eq_true rfl, Nat.le_of_ble_eq_true rfl⟩) (hP.sub [] rfl) hK hN hT rfl hl.1 rfl (Nat.le_of_ble_eq_true rfl) ⟨Nat.le_of_ble_eq_true rfl, Nat.le_of_ble_eq_true rfl⟩ dX12_rests_29 (fun r_52 h_53 => ?_)
  have h_53 : (r_52 = rw_ 1 0) := h_53
  have i_54 := h_53
  obtain rfl : r_52 = 9 := i_54.trans (by decide)
  refine lv_icmp_ne (tgt := 63) hx hb dX12_rests_32 (by decide) (fun c0 => absurd c0 (by decide)) (fun _ => ?_)
  refine lv_iload_n hx hb dX12_rests_35 rfl (lv_at hl 0 rfl) ?_
  refine lv_iconst (v := 4) hx hb dX12_rests_36 (by decide) ?_
  refine z_irem (v := 0) hx hb dX12_rests_37 (by decide) (by decide) ?_
  refine lv_iload_n hx hb dX12_rests_38 rfl (lv_at hl 0 rfl) ?_
  refine lv_iconst (v := 4) hx hb dX12_rests_39 (by decide) ?_
  refine z_idiv (v := 1) hx hb dX12_rests_40 (by decide) (by decide) ?_
  refine rosi (As := [.int 0, .int 1]) (rest := [.int 0]) ⟨hx, hb, hml, hown, hts⟩ (b_X12_soundsBy l G D cB cI cJ cZ cS cT 0 1 ) (csB (n := 2) (inr62 _ (List.mem_of_getElem? (i := 23) rfl)) (inr63 _ (List.mem_of_getElem? (i := 0) rfl)) (inr1 _ (List.mem_of_getElem? (i := 5) rfl)) (inr63 _ (List.mem_of_getElem? (i := 1) rfl)) (by decide +kernel) hts rfl rfl ⟨Nat.le_of_ble_eq_true rfl, Nat.le_of_ble_eq_true rfl⟩) (hP.sub [] rfl) hK hN hT rfl hl.1 rfl (Nat.le_of_ble_eq_true rfl) ⟨Nat.le_of_ble_eq_true rfl, Nat.le_of_ble_eq_true rfl⟩ dX12_rests_41 (fun r_55 h_56 => ?_)
  have h_56 : (r_55 = rw_ 0 1) := h_56
  have i_57 := h_56
  obtain rfl : r_55 = 0 := i_57.trans (by decide)
  refine lv_iload_n hx hb dX12_rests_44 rfl (lv_at hl 0 rfl) ?_
  refine lv_iconst (v := 4) hx hb dX12_rests_45 (by decide) ?_
  refine z_idiv (v := 1) hx hb dX12_rests_46 (by decide) (by decide) ?_
  refine rosi (As := [.int 1]) (rest := [.int 0, .int 0]) ⟨hx, hb, hml, hown, hts⟩ (b_X12_bestBy l G D cB cI cJ cZ cS cT 1 (by first | assumption | (have := zI0; have := zI1; have := zIm; omega) | decide)) (csB (n := 1) (inr63 _ (List.mem_of_getElem? (i := 2) rfl)) (inr63 _ (List.mem_of_getElem? (i := 3) rfl)) (inr1 _ (List.mem_of_getElem? (i := 5) rfl)) (inr63 _ (List.mem_of_getElem? (i := 4) rfl)) (by decide +kernel) hts rfl rfl ⟨Nat.le_of_ble_eq_true rfl, Nat.le_of_ble_eq_true rfl⟩) (hP.sub [] rfl) hK hN hT rfl hl.1 rfl (Nat.le_of_ble_eq_true rfl) ⟨Nat.le_of_ble_eq_true rfl, Nat.le_of_ble_eq_true rfl⟩ dX12_rests_47 (fun r_58 h_59 => ?_)
  have h_59 : (r_58 = S_best 1) := h_59
  have i_60 := h_59
  obtain rfl : r_58 = 2 := i_60.trans (by decide)
  refine lv_iload_n hx hb dX12_rests_50 rfl (lv_at hl 0 rfl) ?_
  refine lv_iconst (v := 4) hx hb dX12_rests_51 (by decide) ?_
  refine z_idiv (v := 1) hx hb dX12_rests_52 (by decide) (by decide) ?_
  refine rosi (As := [.int 2, .int 1]) (rest := [.int 0, .int 0]) ⟨hx, hb, hml, hown, hts⟩ (b_X12_soundsBy l G D cB cI cJ cZ cS cT 2 1 ) (csB (n := 2) (inr62 _ (List.mem_of_getElem? (i := 23) rfl)) (inr63 _ (List.mem_of_getElem? (i := 0) rfl)) (inr1 _ (List.mem_of_getElem? (i := 5) rfl)) (inr63 _ (List.mem_of_getElem? (i := 1) rfl)) (by decide +kernel) hts rfl rfl ⟨Nat.le_of_ble_eq_true rfl, Nat.le_of_ble_eq_true rfl⟩) (hP.sub [] rfl) hK hN hT rfl hl.1 rfl (Nat.le_of_ble_eq_true rfl) ⟨Nat.le_of_ble_eq_true rfl, Nat.le_of_ble_eq_true rfl⟩ dX12_rests_53 (fun r_61 h_62 => ?_)
  have h_62 : (r_61 = rw_ 2 1) := h_62
  have i_63 := h_62
  obtain rfl : r_61 = 6 := i_63.trans (by decide)
  refine lv_icmp_ne (tgt := 63) hx hb dX12_rests_56 (by decide) (fun _ => ?_) (fun c0 => absurd c0 (by decide))
  refine lv_iconst (v := 0) hx hb dX12_rests_63 (by decide) ?_
  refine z_iadd (v := 0) hx hb dX12_rests_64 (by decide) ?_
  refine lv_istore_n (lv' := [(1, .int 0), (2, .int 4), (0, .ref h0)]) hx hb dX12_rests_65 rfl hl (by decide) rfl (fun ls hl => ?_)
  refine lv_iinc (v := 5) (lv' := [(2, .int 5), (1, .int 0), (0, .ref h0)]) hx hb dX12_rests_66 hl (k := 1) rfl (by decide) (by decide) rfl (fun ls hl => ?_)
  refine lv_goto (tgt := 4) hx hb dX12_rests_69 (by decide) ?_
  refine lv_iload_n hx hb dX12_rests_4 rfl (lv_at hl 0 rfl) ?_
  refine lv_bipush (v := 16) hx hb dX12_rests_5 (by decide) ?_
  refine lv_icmp_ge (tgt := 72) hx hb dX12_rests_7 (by decide) (fun c0 => absurd c0 (by decide)) (fun _ => ?_)
  refine lv_iload_n hx hb dX12_rests_10 rfl (lv_at hl 1 rfl) ?_
  refine lv_iload_n hx hb dX12_rests_11 rfl (lv_at hl 0 rfl) ?_
  refine lv_iconst (v := 4) hx hb dX12_rests_12 (by decide) ?_
  refine z_idiv (v := 1) hx hb dX12_rests_13 (by decide) (by decide) ?_
  refine lv_iload_n hx hb dX12_rests_14 rfl (lv_at hl 0 rfl) ?_
  refine lv_iconst (v := 4) hx hb dX12_rests_15 (by decide) ?_
  refine z_irem (v := 1) hx hb dX12_rests_16 (by decide) (by decide) ?_
  refine rosi (As := [.int 1, .int 1]) (rest := [.int 0]) ⟨hx, hb, hml, hown, hts⟩ (b_X12_soundsBy l G D cB cI cJ cZ cS cT 1 1 ) (csB (n := 2) (inr62 _ (List.mem_of_getElem? (i := 23) rfl)) (inr63 _ (List.mem_of_getElem? (i := 0) rfl)) (inr1 _ (List.mem_of_getElem? (i := 5) rfl)) (inr63 _ (List.mem_of_getElem? (i := 1) rfl)) (by decide +kernel) hts rfl rfl ⟨Nat.le_of_ble_eq_true rfl, Nat.le_of_ble_eq_true rfl⟩) (hP.sub [] rfl) hK hN hT rfl hl.1 rfl (Nat.le_of_ble_eq_true rfl) ⟨Nat.le_of_ble_eq_true rfl, Nat.le_of_ble_eq_true rfl⟩ dX12_rests_17 (fun r_64 h_65 => ?_)
  have h_65 : (r_64 = rw_ 1 1) := h_65
  have i_66 := h_65
  obtain rfl : r_64 = 3 := i_66.trans (by decide)
  refine lv_iload_n hx hb dX12_rests_20 rfl (lv_at hl 0 rfl) ?_
  refine lv_iconst (v := 4) hx hb dX12_rests_21 (by decide) ?_
  refine z_irem (v := 1) hx hb dX12_rests_22 (by decide) (by decide) ?_
  refine rosi (As := [.int 1]) (rest := [.int 3, .int 0]) ⟨hx, hb, hml, hown, hts⟩ (b_X12_bestBy l G D cB cI cJ cZ cS cT 1 (by first | assumption | (have := zI0; have := zI1; have := zIm; omega) | decide)) (csB (n := 1) (inr63 _ (List.mem_of_getElem? (i := 2) rfl)) (inr63 _ (List.mem_of_getElem? (i := 3) rfl)) (inr1 _ (List.mem_of_getElem? (i := 5) rfl)) (inr63 _ (List.mem_of_getElem? (i := 4) rfl)) (by decide +kernel) hts rfl rfl ⟨Nat.le_of_ble_eq_true rfl, Nat.le_of_ble_eq_true rfl⟩) (hP.sub [] rfl) hK hN hT rfl hl.1 rfl (Nat.le_of_ble_eq_true rfl) ⟨Nat.le_of_ble_eq_true rfl, Nat.le_of_ble_eq_true rfl⟩ dX12_rests_23 (fun r_67 h_68 => ?_)
  have h_68 : (r_67 = S_best 1) := h_68
  have i_69 := h_68
  obtain rfl : r_67 = 2 := i_69.trans (by decide)
  refine lv_iload_n hx hb dX12_rests_26 rfl (lv_at hl 0 rfl) ?_
  refine lv_iconst (v := 4) hx hb dX12_rests_27 (by decide) ?_
  refine z_irem (v := 1) hx hb dX12_rests_28 (by decide) (by decide) ?_
  refine rosi (As := [.int 2, .int 1]) (rest := [.int 3, .int 0]) ⟨hx, hb, hml, hown, hts⟩ (b_X12_soundsBy l G D cB cI cJ cZ cS cT 2 1 ) (csB (n := 2) (inr62 _ (List.mem_of_getElem? (i := 23) rfl)) (inr63 _ (List.mem_of_getElem? (i := 0) rfl)) (inr1 _ (List.mem_of_getElem? (i := 5) rfl)) (inr63 _ (List.mem_of_getElem? (i := 1) rfl)) (by decide +kernel) hts rfl rfl ⟨Nat.le_of_ble_eq_true rfl, Nat.le_of_ble_eq_true rfl⟩) (hP.sub [] rfl) hK hN hT rfl hl.1 rfl (Nat.le_of_ble_eq_true rfl) ⟨Nat.le_of_ble_eq_true rfl, Nat.le_of_ble_eq_true rfl⟩ dX12_rests_29 (fun r_70 h_71 => ?_)
  have h_71 : (r_70 = rw_ 2 1) := h_71
  have i_72 := h_71
  obtain rfl : r_70 = 6 := i_72.trans (by decide)
  refine lv_icmp_ne (tgt := 63) hx hb dX12_rests_32 (by decide) (fun _ => ?_) (fun c0 => absurd c0 (by decide))
  refine lv_iconst (v := 0) hx hb dX12_rests_63 (by decide) ?_
  refine z_iadd (v := 0) hx hb dX12_rests_64 (by decide) ?_
  refine lv_istore_n (lv' := [(1, .int 0), (2, .int 5), (0, .ref h0)]) hx hb dX12_rests_65 rfl hl (by decide) rfl (fun ls hl => ?_)
  refine lv_iinc (v := 6) (lv' := [(2, .int 6), (1, .int 0), (0, .ref h0)]) hx hb dX12_rests_66 hl (k := 1) rfl (by decide) (by decide) rfl (fun ls hl => ?_)
  refine lv_goto (tgt := 4) hx hb dX12_rests_69 (by decide) ?_
  refine lv_iload_n hx hb dX12_rests_4 rfl (lv_at hl 0 rfl) ?_
  refine lv_bipush (v := 16) hx hb dX12_rests_5 (by decide) ?_
  refine lv_icmp_ge (tgt := 72) hx hb dX12_rests_7 (by decide) (fun c0 => absurd c0 (by decide)) (fun _ => ?_)
  refine lv_iload_n hx hb dX12_rests_10 rfl (lv_at hl 1 rfl) ?_
  refine lv_iload_n hx hb dX12_rests_11 rfl (lv_at hl 0 rfl) ?_
  refine lv_iconst (v := 4) hx hb dX12_rests_12 (by decide) ?_
  refine z_idiv (v := 1) hx hb dX12_rests_13 (by decide) (by decide) ?_
  refine lv_iload_n hx hb dX12_rests_14 rfl (lv_at hl 0 rfl) ?_
  refine lv_iconst (v := 4) hx hb dX12_rests_15 (by decide) ?_
  refine z_irem (v := 2) hx hb dX12_rests_16 (by decide) (by decide) ?_
  refine rosi (As := [.int 1, .int 2]) (rest := [.int 0]) ⟨hx, hb, hml, hown, hts⟩ (b_X12_soundsBy l G D cB cI cJ cZ cS cT 1 2 ) (csB (n := 2) (inr62 _ (List.mem_of_getElem? (i := 23) rfl)) (inr63 _ (List.mem_of_getElem? (i := 0) rfl)) (inr1 _ (List.mem_of_getElem? (i := 5) rfl)) (inr63 _ (List.mem_of_getElem? (i := 1) rfl)) (by decide +kernel) hts rfl rfl ⟨Nat.le_of_ble_eq_true rfl, Nat.le_of_ble_eq_true rfl⟩) (hP.sub [] rfl) hK hN hT rfl hl.1 rfl (Nat.le_of_ble_eq_true rfl) ⟨Nat.le_of_ble_eq_true rfl, Nat.le_of_ble_eq_true rfl⟩ dX12_rests_17 (fun r_73 h_74 => ?_)
  have h_74 : (r_73 = rw_ 1 2) := h_74
  have i_75 := h_74
  obtain rfl : r_73 = (-1) := i_75.trans (by decide)
  refine lv_iload_n hx hb dX12_rests_20 rfl (lv_at hl 0 rfl) ?_
  refine lv_iconst (v := 4) hx hb dX12_rests_21 (by decide) ?_
  refine z_irem (v := 2) hx hb dX12_rests_22 (by decide) (by decide) ?_
  refine rosi (As := [.int 2]) (rest := [.int (-1), .int 0]) ⟨hx, hb, hml, hown, hts⟩ (b_X12_bestBy l G D cB cI cJ cZ cS cT 2 (by first | assumption | (have := zI0; have := zI1; have := zIm; omega) | decide)) (csB (n := 1) (inr63 _ (List.mem_of_getElem? (i := 2) rfl)) (inr63 _ (List.mem_of_getElem? (i := 3) rfl)) (inr1 _ (List.mem_of_getElem? (i := 5) rfl)) (inr63 _ (List.mem_of_getElem? (i := 4) rfl)) (by decide +kernel) hts rfl rfl ⟨Nat.le_of_ble_eq_true rfl, Nat.le_of_ble_eq_true rfl⟩) (hP.sub [] rfl) hK hN hT rfl hl.1 rfl (Nat.le_of_ble_eq_true rfl) ⟨Nat.le_of_ble_eq_true rfl, Nat.le_of_ble_eq_true rfl⟩ dX12_rests_23 (fun r_76 h_77 => ?_)
  have h_77 : (r_76 = S_best 2) := h_77
  have i_78 := h_77
  obtain rfl : r_76 = 3 := i_78.trans (by decide)
  refine lv_iload_n hx hb dX12_rests_26 rfl (lv_at hl 0 rfl) ?_
  refine lv_iconst (v := 4) hx hb dX12_rests_27 (by decide) ?_
  refine z_irem (v := 2) hx hb dX12_rests_28 (by decide) (by decide) ?_
  refine rosi (As := [.int 3, .int 2]) (rest := [.int (-1), .int 0]) ⟨hx, hb, hml, hown, hts⟩ (b_X12_soundsBy l G D cB cI cJ cZ cS cT 3 2 ) (csB (n := 2) (inr62 _ (List.mem_of_getElem? (i := 23) rfl)) (inr63 _ (List.mem_of_getElem? (i := 0) rfl)) (inr1 _ (List.mem_of_getElem? (i := 5) rfl)) (inr63 _ (List.mem_of_getElem? (i := 1) rfl)) (by decide +kernel) hts rfl rfl ⟨Nat.le_of_ble_eq_true rfl, Nat.le_of_ble_eq_true rfl⟩) (hP.sub [] rfl) hK hN hT rfl hl.1 rfl (Nat.le_of_ble_eq_true rfl) ⟨Nat.le_of_ble_eq_true rfl, Nat.le_of_ble_eq_true rfl⟩ dX12_rests_29 (fun r_79 h_80 => ?_)
  have h_80 : (r_79 = rw_ 3 2) := h_80
  have i_81 := h_80
  obtain rfl : r_79 = 1 := i_81.trans (by decide)
  refine lv_icmp_ne (tgt := 63) hx hb dX12_rests_32 (by decide) (fun _ => ?_) (fun c0 => absurd c0 (by decide))
  refine lv_iconst (v := 0) hx hb dX12_rests_63 (by decide) ?_
  refine z_iadd (v := 0) hx hb dX12_rests_64 (by decide) ?_
  refine lv_istore_n (lv' := [(1, .int 0), (2, .int 6), (0, .ref h0)]) hx hb dX12_rests_65 rfl hl (by decide) rfl (fun ls hl => ?_)
  refine lv_iinc (v := 7) (lv' := [(2, .int 7), (1, .int 0), (0, .ref h0)]) hx hb dX12_rests_66 hl (k := 1) rfl (by decide) (by decide) rfl (fun ls hl => ?_)
  refine lv_goto (tgt := 4) hx hb dX12_rests_69 (by decide) ?_
  refine lv_iload_n hx hb dX12_rests_4 rfl (lv_at hl 0 rfl) ?_
  refine lv_bipush (v := 16) hx hb dX12_rests_5 (by decide) ?_
  refine lv_icmp_ge (tgt := 72) hx hb dX12_rests_7 (by decide) (fun c0 => absurd c0 (by decide)) (fun _ => ?_)
  refine lv_iload_n hx hb dX12_rests_10 rfl (lv_at hl 1 rfl) ?_
  refine lv_iload_n hx hb dX12_rests_11 rfl (lv_at hl 0 rfl) ?_
  refine lv_iconst (v := 4) hx hb dX12_rests_12 (by decide) ?_
  refine z_idiv (v := 1) hx hb dX12_rests_13 (by decide) (by decide) ?_
  refine lv_iload_n hx hb dX12_rests_14 rfl (lv_at hl 0 rfl) ?_
  refine lv_iconst (v := 4) hx hb dX12_rests_15 (by decide) ?_
  refine z_irem (v := 3) hx hb dX12_rests_16 (by decide) (by decide) ?_
  refine rosi (As := [.int 1, .int 3]) (rest := [.int 0]) ⟨hx, hb, hml, hown, hts⟩ (b_X12_soundsBy l G D cB cI cJ cZ cS cT 1 3 ) (csB (n := 2) (inr62 _ (List.mem_of_getElem? (i := 23) rfl)) (inr63 _ (List.mem_of_getElem? (i := 0) rfl)) (inr1 _ (List.mem_of_getElem? (i := 5) rfl)) (inr63 _ (List.mem_of_getElem? (i := 1) rfl)) (by decide +kernel) hts rfl rfl ⟨Nat.le_of_ble_eq_true rfl, Nat.le_of_ble_eq_true rfl⟩) (hP.sub [] rfl) hK hN hT rfl hl.1 rfl (Nat.le_of_ble_eq_true rfl) ⟨Nat.le_of_ble_eq_true rfl, Nat.le_of_ble_eq_true rfl⟩ dX12_rests_17 (fun r_82 h_83 => ?_)
  have h_83 : (r_82 = rw_ 1 3) := h_83
  have i_84 := h_83
  obtain rfl : r_82 = (-1) := i_84.trans (by decide)
  refine lv_iload_n hx hb dX12_rests_20 rfl (lv_at hl 0 rfl) ?_
  refine lv_iconst (v := 4) hx hb dX12_rests_21 (by decide) ?_
  refine z_irem (v := 3) hx hb dX12_rests_22 (by decide) (by decide) ?_
  refine rosi (As := [.int 3]) (rest := [.int (-1), .int 0]) ⟨hx, hb, hml, hown, hts⟩ (b_X12_bestBy l G D cB cI cJ cZ cS cT 3 (by first | assumption | (have := zI0; have := zI1; have := zIm; omega) | decide)) (csB (n := 1) (inr63 _ (List.mem_of_getElem? (i := 2) rfl)) (inr63 _ (List.mem_of_getElem? (i := 3) rfl)) (inr1 _ (List.mem_of_getElem? (i := 5) rfl)) (inr63 _ (List.mem_of_getElem? (i := 4) rfl)) (by decide +kernel) hts rfl rfl ⟨Nat.le_of_ble_eq_true rfl, Nat.le_of_ble_eq_true rfl⟩) (hP.sub [] rfl) hK hN hT rfl hl.1 rfl (Nat.le_of_ble_eq_true rfl) ⟨Nat.le_of_ble_eq_true rfl, Nat.le_of_ble_eq_true rfl⟩ dX12_rests_23 (fun r_85 h_86 => ?_)
  have h_86 : (r_85 = S_best 3) := h_86
  have i_87 := h_86
  obtain rfl : r_85 = 0 := i_87.trans (by decide)
  refine lv_iload_n hx hb dX12_rests_26 rfl (lv_at hl 0 rfl) ?_
  refine lv_iconst (v := 4) hx hb dX12_rests_27 (by decide) ?_
  refine z_irem (v := 3) hx hb dX12_rests_28 (by decide) (by decide) ?_
  refine rosi (As := [.int 0, .int 3]) (rest := [.int (-1), .int 0]) ⟨hx, hb, hml, hown, hts⟩ (b_X12_soundsBy l G D cB cI cJ cZ cS cT 0 3 ) (csB (n := 2) (inr62 _ (List.mem_of_getElem? (i := 23) rfl)) (inr63 _ (List.mem_of_getElem? (i := 0) rfl)) (inr1 _ (List.mem_of_getElem? (i := 5) rfl)) (inr63 _ (List.mem_of_getElem? (i := 1) rfl)) (by decide +kernel) hts rfl rfl ⟨Nat.le_of_ble_eq_true rfl, Nat.le_of_ble_eq_true rfl⟩) (hP.sub [] rfl) hK hN hT rfl hl.1 rfl (Nat.le_of_ble_eq_true rfl) ⟨Nat.le_of_ble_eq_true rfl, Nat.le_of_ble_eq_true rfl⟩ dX12_rests_29 (fun r_88 h_89 => ?_)
  have h_89 : (r_88 = rw_ 0 3) := h_89
  have i_90 := h_89
  obtain rfl : r_88 = 0 := i_90.trans (by decide)
  refine lv_icmp_ne (tgt := 63) hx hb dX12_rests_32 (by decide) (fun _ => ?_) (fun c0 => absurd c0 (by decide))
  refine lv_iconst (v := 0) hx hb dX12_rests_63 (by decide) ?_
  refine z_iadd (v := 0) hx hb dX12_rests_64 (by decide) ?_
  refine lv_istore_n (lv' := [(1, .int 0), (2, .int 7), (0, .ref h0)]) hx hb dX12_rests_65 rfl hl (by decide) rfl (fun ls hl => ?_)
  refine lv_iinc (v := 8) (lv' := [(2, .int 8), (1, .int 0), (0, .ref h0)]) hx hb dX12_rests_66 hl (k := 1) rfl (by decide) (by decide) rfl (fun ls hl => ?_)
  refine lv_goto (tgt := 4) hx hb dX12_rests_69 (by decide) ?_
  refine lv_iload_n hx hb dX12_rests_4 rfl (lv_at hl 0 rfl) ?_
  refine lv_bipush (v := 16) hx hb dX12_rests_5 (by decide) ?_
  refine lv_icmp_ge (tgt := 72) hx hb dX12_rests_7 (by decide) (fun c0 => absurd c0 (by decide)) (fun _ => ?_)
  refine lv_iload_n hx hb dX12_rests_10 rfl (lv_at hl 1 rfl) ?_
  refine lv_iload_n hx hb dX12_rests_11 rfl (lv_at hl 0 rfl) ?_
  refine lv_iconst (v := 4) hx hb dX12_rests_12 (by decide) ?_
  refine z_idiv (v := 2) hx hb dX12_rests_13 (by decide) (by decide) ?_
  refine lv_iload_n hx hb dX12_rests_14 rfl (lv_at hl 0 rfl) ?_
  refine lv_iconst (v := 4) hx hb dX12_rests_15 (by decide) ?_
  refine z_irem (v := 0) hx hb dX12_rests_16 (by decide) (by decide) ?_
  refine rosi (As := [.int 2, .int 0]) (rest := [.int 0]) ⟨hx, hb, hml, hown, hts⟩ (b_X12_soundsBy l G D cB cI cJ cZ cS cT 2 0 ) (csB (n := 2) (inr62 _ (List.mem_of_getElem? (i := 23) rfl)) (inr63 _ (List.mem_of_getElem? (i := 0) rfl)) (inr1 _ (List.mem_of_getElem? (i := 5) rfl)) (inr63 _ (List.mem_of_getElem? (i := 1) rfl)) (by decide +kernel) hts rfl rfl ⟨Nat.le_of_ble_eq_true rfl, Nat.le_of_ble_eq_true rfl⟩) (hP.sub [] rfl) hK hN hT rfl hl.1 rfl (Nat.le_of_ble_eq_true rfl) ⟨Nat.le_of_ble_eq_true rfl, Nat.le_of_ble_eq_true rfl⟩ dX12_rests_17 (fun r_91 h_92 => ?_)
  have h_92 : (r_91 = rw_ 2 0) := h_92
  have i_93 := h_92
  obtain rfl : r_91 = 6 := i_93.trans (by decide)
  refine lv_iload_n hx hb dX12_rests_20 rfl (lv_at hl 0 rfl) ?_
  refine lv_iconst (v := 4) hx hb dX12_rests_21 (by decide) ?_
  refine z_irem (v := 0) hx hb dX12_rests_22 (by decide) (by decide) ?_
  refine rosi (As := [.int 0]) (rest := [.int 6, .int 0]) ⟨hx, hb, hml, hown, hts⟩ (b_X12_bestBy l G D cB cI cJ cZ cS cT 0 (by first | assumption | (have := zI0; have := zI1; have := zIm; omega) | decide)) (csB (n := 1) (inr63 _ (List.mem_of_getElem? (i := 2) rfl)) (inr63 _ (List.mem_of_getElem? (i := 3) rfl)) (inr1 _ (List.mem_of_getElem? (i := 5) rfl)) (inr63 _ (List.mem_of_getElem? (i := 4) rfl)) (by decide +kernel) hts rfl rfl ⟨Nat.le_of_ble_eq_true rfl, Nat.le_of_ble_eq_true rfl⟩) (hP.sub [] rfl) hK hN hT rfl hl.1 rfl (Nat.le_of_ble_eq_true rfl) ⟨Nat.le_of_ble_eq_true rfl, Nat.le_of_ble_eq_true rfl⟩ dX12_rests_23 (fun r_94 h_95 => ?_)
  have h_95 : (r_94 = S_best 0) := h_95
  have i_96 := h_95
  obtain rfl : r_94 = 1 := i_96.trans (by decide)
  refine lv_iload_n hx hb dX12_rests_26 rfl (lv_at hl 0 rfl) ?_
  refine lv_iconst (v := 4) hx hb dX12_rests_27 (by decide) ?_
  refine z_irem (v := 0) hx hb dX12_rests_28 (by decide) (by decide) ?_
  refine rosi (As := [.int 1, .int 0]) (rest := [.int 6, .int 0]) ⟨hx, hb, hml, hown, hts⟩ (b_X12_soundsBy l G D cB cI cJ cZ cS cT 1 0 ) (csB (n := 2) (inr62 _ (List.mem_of_getElem? (i := 23) rfl)) (inr63 _ (List.mem_of_getElem? (i := 0) rfl)) (inr1 _ (List.mem_of_getElem? (i := 5) rfl)) (inr63 _ (List.mem_of_getElem? (i := 1) rfl)) (by decide +kernel) hts rfl rfl ⟨Nat.le_of_ble_eq_true rfl, Nat.le_of_ble_eq_true rfl⟩) (hP.sub [] rfl) hK hN hT rfl hl.1 rfl (Nat.le_of_ble_eq_true rfl) ⟨Nat.le_of_ble_eq_true rfl, Nat.le_of_ble_eq_true rfl⟩ dX12_rests_29 (fun r_97 h_98 => ?_)
  have h_98 : (r_97 = rw_ 1 0) := h_98
  have i_99 := h_98
  obtain rfl : r_97 = 9 := i_99.trans (by decide)
  refine lv_icmp_ne (tgt := 63) hx hb dX12_rests_32 (by decide) (fun _ => ?_) (fun c0 => absurd c0 (by decide))
  refine lv_iconst (v := 0) hx hb dX12_rests_63 (by decide) ?_
  refine z_iadd (v := 0) hx hb dX12_rests_64 (by decide) ?_
  refine lv_istore_n (lv' := [(1, .int 0), (2, .int 8), (0, .ref h0)]) hx hb dX12_rests_65 rfl hl (by decide) rfl (fun ls hl => ?_)
  refine lv_iinc (v := 9) (lv' := [(2, .int 9), (1, .int 0), (0, .ref h0)]) hx hb dX12_rests_66 hl (k := 1) rfl (by decide) (by decide) rfl (fun ls hl => ?_)
  refine lv_goto (tgt := 4) hx hb dX12_rests_69 (by decide) ?_
  refine lv_iload_n hx hb dX12_rests_4 rfl (lv_at hl 0 rfl) ?_
  refine lv_bipush (v := 16) hx hb dX12_rests_5 (by decide) ?_
  refine lv_icmp_ge (tgt := 72) hx hb dX12_rests_7 (by decide) (fun c0 => absurd c0 (by decide)) (fun _ => ?_)
  refine lv_iload_n hx hb dX12_rests_10 rfl (lv_at hl 1 rfl) ?_
  refine lv_iload_n hx hb dX12_rests_11 rfl (lv_at hl 0 rfl) ?_
  refine lv_iconst (v := 4) hx hb dX12_rests_12 (by decide) ?_
  refine z_idiv (v := 2) hx hb dX12_rests_13 (by decide) (by decide) ?_
  refine lv_iload_n hx hb dX12_rests_14 rfl (lv_at hl 0 rfl) ?_
  refine lv_iconst (v := 4) hx hb dX12_rests_15 (by decide) ?_
  refine z_irem (v := 1) hx hb dX12_rests_16 (by decide) (by decide) ?_
  refine rosi (As := [.int 2, .int 1]) (rest := [.int 0]) ⟨hx, hb, hml, hown, hts⟩ (b_X12_soundsBy l G D cB cI cJ cZ cS cT 2 1 ) (csB (n := 2) (inr62 _ (List.mem_of_getElem? (i := 23) rfl)) (inr63 _ (List.mem_of_getElem? (i := 0) rfl)) (inr1 _ (List.mem_of_getElem? (i := 5) rfl)) (inr63 _ (List.mem_of_getElem? (i := 1) rfl)) (by decide +kernel) hts rfl rfl ⟨Nat.le_of_ble_eq_true rfl, Nat.le_of_ble_eq_true rfl⟩) (hP.sub [] rfl) hK hN hT rfl hl.1 rfl (Nat.le_of_ble_eq_true rfl) ⟨Nat.le_of_ble_eq_true rfl, Nat.le_of_ble_eq_true rfl⟩ dX12_rests_17 (fun r_100 h_101 => ?_)
  have h_101 : (r_100 = rw_ 2 1) := h_101
  have i_102 := h_101
  obtain rfl : r_100 = 6 := i_102.trans (by decide)
  refine lv_iload_n hx hb dX12_rests_20 rfl (lv_at hl 0 rfl) ?_
  refine lv_iconst (v := 4) hx hb dX12_rests_21 (by decide) ?_
  refine z_irem (v := 1) hx hb dX12_rests_22 (by decide) (by decide) ?_
  refine rosi (As := [.int 1]) (rest := [.int 6, .int 0]) ⟨hx, hb, hml, hown, hts⟩ (b_X12_bestBy l G D cB cI cJ cZ cS cT 1 (by first | assumption | (have := zI0; have := zI1; have := zIm; omega) | decide)) (csB (n := 1) (inr63 _ (List.mem_of_getElem? (i := 2) rfl)) (inr63 _ (List.mem_of_getElem? (i := 3) rfl)) (inr1 _ (List.mem_of_getElem? (i := 5) rfl)) (inr63 _ (List.mem_of_getElem? (i := 4) rfl)) (by decide +kernel) hts rfl rfl ⟨Nat.le_of_ble_eq_true rfl, Nat.le_of_ble_eq_true rfl⟩) (hP.sub [] rfl) hK hN hT rfl hl.1 rfl (Nat.le_of_ble_eq_true rfl) ⟨Nat.le_of_ble_eq_true rfl, Nat.le_of_ble_eq_true rfl⟩ dX12_rests_23 (fun r_103 h_104 => ?_)
  have h_104 : (r_103 = S_best 1) := h_104
  have i_105 := h_104
  obtain rfl : r_103 = 2 := i_105.trans (by decide)
  refine lv_iload_n hx hb dX12_rests_26 rfl (lv_at hl 0 rfl) ?_
  refine lv_iconst (v := 4) hx hb dX12_rests_27 (by decide) ?_
  refine z_irem (v := 1) hx hb dX12_rests_28 (by decide) (by decide) ?_
  refine rosi (As := [.int 2, .int 1]) (rest := [.int 6, .int 0]) ⟨hx, hb, hml, hown, hts⟩ (b_X12_soundsBy l G D cB cI cJ cZ cS cT 2 1 ) (csB (n := 2) (inr62 _ (List.mem_of_getElem? (i := 23) rfl)) (inr63 _ (List.mem_of_getElem? (i := 0) rfl)) (inr1 _ (List.mem_of_getElem? (i := 5) rfl)) (inr63 _ (List.mem_of_getElem? (i := 1) rfl)) (by decide +kernel) hts rfl rfl ⟨Nat.le_of_ble_eq_true rfl, Nat.le_of_ble_eq_true rfl⟩) (hP.sub [] rfl) hK hN hT rfl hl.1 rfl (Nat.le_of_ble_eq_true rfl) ⟨Nat.le_of_ble_eq_true rfl, Nat.le_of_ble_eq_true rfl⟩ dX12_rests_29 (fun r_106 h_107 => ?_)
  have h_107 : (r_106 = rw_ 2 1) := h_107
  have i_108 := h_107
  obtain rfl : r_106 = 6 := i_108.trans (by decide)
  refine lv_icmp_ne (tgt := 63) hx hb dX12_rests_32 (by decide) (fun c0 => absurd c0 (by decide)) (fun _ => ?_)
  refine lv_iload_n hx hb dX12_rests_35 rfl (lv_at hl 0 rfl) ?_
  refine lv_iconst (v := 4) hx hb dX12_rests_36 (by decide) ?_
  refine z_irem (v := 1) hx hb dX12_rests_37 (by decide) (by decide) ?_
  refine lv_iload_n hx hb dX12_rests_38 rfl (lv_at hl 0 rfl) ?_
  refine lv_iconst (v := 4) hx hb dX12_rests_39 (by decide) ?_
  refine z_idiv (v := 2) hx hb dX12_rests_40 (by decide) (by decide) ?_
  refine rosi (As := [.int 1, .int 2]) (rest := [.int 0]) ⟨hx, hb, hml, hown, hts⟩ (b_X12_soundsBy l G D cB cI cJ cZ cS cT 1 2 ) (csB (n := 2) (inr62 _ (List.mem_of_getElem? (i := 23) rfl)) (inr63 _ (List.mem_of_getElem? (i := 0) rfl)) (inr1 _ (List.mem_of_getElem? (i := 5) rfl)) (inr63 _ (List.mem_of_getElem? (i := 1) rfl)) (by decide +kernel) hts rfl rfl ⟨Nat.le_of_ble_eq_true rfl, Nat.le_of_ble_eq_true rfl⟩) (hP.sub [] rfl) hK hN hT rfl hl.1 rfl (Nat.le_of_ble_eq_true rfl) ⟨Nat.le_of_ble_eq_true rfl, Nat.le_of_ble_eq_true rfl⟩ dX12_rests_41 (fun r_109 h_110 => ?_)
  have h_110 : (r_109 = rw_ 1 2) := h_110
  have i_111 := h_110
  obtain rfl : r_109 = (-1) := i_111.trans (by decide)
  refine lv_iload_n hx hb dX12_rests_44 rfl (lv_at hl 0 rfl) ?_
  refine lv_iconst (v := 4) hx hb dX12_rests_45 (by decide) ?_
  refine z_idiv (v := 2) hx hb dX12_rests_46 (by decide) (by decide) ?_
  refine rosi (As := [.int 2]) (rest := [.int (-1), .int 0]) ⟨hx, hb, hml, hown, hts⟩ (b_X12_bestBy l G D cB cI cJ cZ cS cT 2 (by first | assumption | (have := zI0; have := zI1; have := zIm; omega) | decide)) (csB (n := 1) (inr63 _ (List.mem_of_getElem? (i := 2) rfl)) (inr63 _ (List.mem_of_getElem? (i := 3) rfl)) (inr1 _ (List.mem_of_getElem? (i := 5) rfl)) (inr63 _ (List.mem_of_getElem? (i := 4) rfl)) (by decide +kernel) hts rfl rfl ⟨Nat.le_of_ble_eq_true rfl, Nat.le_of_ble_eq_true rfl⟩) (hP.sub [] rfl) hK hN hT rfl hl.1 rfl (Nat.le_of_ble_eq_true rfl) ⟨Nat.le_of_ble_eq_true rfl, Nat.le_of_ble_eq_true rfl⟩ dX12_rests_47 (fun r_112 h_113 => ?_)
  have h_113 : (r_112 = S_best 2) := h_113
  have i_114 := h_113
  obtain rfl : r_112 = 3 := i_114.trans (by decide)
  refine lv_iload_n hx hb dX12_rests_50 rfl (lv_at hl 0 rfl) ?_
  refine lv_iconst (v := 4) hx hb dX12_rests_51 (by decide) ?_
  refine z_idiv (v := 2) hx hb dX12_rests_52 (by decide) (by decide) ?_
  refine rosi (As := [.int 3, .int 2]) (rest := [.int (-1), .int 0]) ⟨hx, hb, hml, hown, hts⟩ (b_X12_soundsBy l G D cB cI cJ cZ cS cT 3 2 ) (csB (n := 2) (inr62 _ (List.mem_of_getElem? (i := 23) rfl)) (inr63 _ (List.mem_of_getElem? (i := 0) rfl)) (inr1 _ (List.mem_of_getElem? (i := 5) rfl)) (inr63 _ (List.mem_of_getElem? (i := 1) rfl)) (by decide +kernel) hts rfl rfl ⟨Nat.le_of_ble_eq_true rfl, Nat.le_of_ble_eq_true rfl⟩) (hP.sub [] rfl) hK hN hT rfl hl.1 rfl (Nat.le_of_ble_eq_true rfl) ⟨Nat.le_of_ble_eq_true rfl, Nat.le_of_ble_eq_true rfl⟩ dX12_rests_53 (fun r_115 h_116 => ?_)
  have h_116 : (r_115 = rw_ 3 2) := h_116
  have i_117 := h_116
  obtain rfl : r_115 = 1 := i_117.trans (by decide)
  refine lv_icmp_ne (tgt := 63) hx hb dX12_rests_56 (by decide) (fun _ => ?_) (fun c0 => absurd c0 (by decide))
  refine lv_iconst (v := 0) hx hb dX12_rests_63 (by decide) ?_
  refine z_iadd (v := 0) hx hb dX12_rests_64 (by decide) ?_
  refine lv_istore_n (lv' := [(1, .int 0), (2, .int 9), (0, .ref h0)]) hx hb dX12_rests_65 rfl hl (by decide) rfl (fun ls hl => ?_)
  refine lv_iinc (v := 10) (lv' := [(2, .int 10), (1, .int 0), (0, .ref h0)]) hx hb dX12_rests_66 hl (k := 1) rfl (by decide) (by decide) rfl (fun ls hl => ?_)
  refine lv_goto (tgt := 4) hx hb dX12_rests_69 (by decide) ?_
  refine lv_iload_n hx hb dX12_rests_4 rfl (lv_at hl 0 rfl) ?_
  refine lv_bipush (v := 16) hx hb dX12_rests_5 (by decide) ?_
  refine lv_icmp_ge (tgt := 72) hx hb dX12_rests_7 (by decide) (fun c0 => absurd c0 (by decide)) (fun _ => ?_)
  refine lv_iload_n hx hb dX12_rests_10 rfl (lv_at hl 1 rfl) ?_
  refine lv_iload_n hx hb dX12_rests_11 rfl (lv_at hl 0 rfl) ?_
  refine lv_iconst (v := 4) hx hb dX12_rests_12 (by decide) ?_
  refine z_idiv (v := 2) hx hb dX12_rests_13 (by decide) (by decide) ?_
  refine lv_iload_n hx hb dX12_rests_14 rfl (lv_at hl 0 rfl) ?_
  refine lv_iconst (v := 4) hx hb dX12_rests_15 (by decide) ?_
  refine z_irem (v := 2) hx hb dX12_rests_16 (by decide) (by decide) ?_
  refine rosi (As := [.int 2, .int 2]) (rest := [.int 0]) ⟨hx, hb, hml, hown, hts⟩ (b_X12_soundsBy l G D cB cI cJ cZ cS cT 2 2 ) (csB (n := 2) (inr62 _ (List.mem_of_getElem? (i := 23) rfl)) (inr63 _ (List.mem_of_getElem? (i := 0) rfl)) (inr1 _ (List.mem_of_getElem? (i := 5) rfl)) (inr63 _ (List.mem_of_getElem? (i := 1) rfl)) (by decide +kernel) hts rfl rfl ⟨Nat.le_of_ble_eq_true rfl, Nat.le_of_ble_eq_true rfl⟩) (hP.sub [] rfl) hK hN hT rfl hl.1 rfl (Nat.le_of_ble_eq_true rfl) ⟨Nat.le_of_ble_eq_true rfl, Nat.le_of_ble_eq_true rfl⟩ dX12_rests_17 (fun r_118 h_119 => ?_)
  have h_119 : (r_118 = rw_ 2 2) := h_119
  have i_120 := h_119
  obtain rfl : r_118 = 0 := i_120.trans (by decide)
  refine lv_iload_n hx hb dX12_rests_20 rfl (lv_at hl 0 rfl) ?_
  refine lv_iconst (v := 4) hx hb dX12_rests_21 (by decide) ?_
  refine z_irem (v := 2) hx hb dX12_rests_22 (by decide) (by decide) ?_
  refine rosi (As := [.int 2]) (rest := [.int 0, .int 0]) ⟨hx, hb, hml, hown, hts⟩ (b_X12_bestBy l G D cB cI cJ cZ cS cT 2 (by first | assumption | (have := zI0; have := zI1; have := zIm; omega) | decide)) (csB (n := 1) (inr63 _ (List.mem_of_getElem? (i := 2) rfl)) (inr63 _ (List.mem_of_getElem? (i := 3) rfl)) (inr1 _ (List.mem_of_getElem? (i := 5) rfl)) (inr63 _ (List.mem_of_getElem? (i := 4) rfl)) (by decide +kernel) hts rfl rfl ⟨Nat.le_of_ble_eq_true rfl, Nat.le_of_ble_eq_true rfl⟩) (hP.sub [] rfl) hK hN hT rfl hl.1 rfl (Nat.le_of_ble_eq_true rfl) ⟨Nat.le_of_ble_eq_true rfl, Nat.le_of_ble_eq_true rfl⟩ dX12_rests_23 (fun r_121 h_122 => ?_)
  have h_122 : (r_121 = S_best 2) := h_122
  have i_123 := h_122
  obtain rfl : r_121 = 3 := i_123.trans (by decide)
  refine lv_iload_n hx hb dX12_rests_26 rfl (lv_at hl 0 rfl) ?_
  refine lv_iconst (v := 4) hx hb dX12_rests_27 (by decide) ?_
  refine z_irem (v := 2) hx hb dX12_rests_28 (by decide) (by decide) ?_
  refine rosi (As := [.int 3, .int 2]) (rest := [.int 0, .int 0]) ⟨hx, hb, hml, hown, hts⟩ (b_X12_soundsBy l G D cB cI cJ cZ cS cT 3 2 ) (csB (n := 2) (inr62 _ (List.mem_of_getElem? (i := 23) rfl)) (inr63 _ (List.mem_of_getElem? (i := 0) rfl)) (inr1 _ (List.mem_of_getElem? (i := 5) rfl)) (inr63 _ (List.mem_of_getElem? (i := 1) rfl)) (by decide +kernel) hts rfl rfl ⟨Nat.le_of_ble_eq_true rfl, Nat.le_of_ble_eq_true rfl⟩) (hP.sub [] rfl) hK hN hT rfl hl.1 rfl (Nat.le_of_ble_eq_true rfl) ⟨Nat.le_of_ble_eq_true rfl, Nat.le_of_ble_eq_true rfl⟩ dX12_rests_29 (fun r_124 h_125 => ?_)
  have h_125 : (r_124 = rw_ 3 2) := h_125
  have i_126 := h_125
  obtain rfl : r_124 = 1 := i_126.trans (by decide)
  refine lv_icmp_ne (tgt := 63) hx hb dX12_rests_32 (by decide) (fun _ => ?_) (fun c0 => absurd c0 (by decide))
  refine lv_iconst (v := 0) hx hb dX12_rests_63 (by decide) ?_
  refine z_iadd (v := 0) hx hb dX12_rests_64 (by decide) ?_
  refine lv_istore_n (lv' := [(1, .int 0), (2, .int 10), (0, .ref h0)]) hx hb dX12_rests_65 rfl hl (by decide) rfl (fun ls hl => ?_)
  refine lv_iinc (v := 11) (lv' := [(2, .int 11), (1, .int 0), (0, .ref h0)]) hx hb dX12_rests_66 hl (k := 1) rfl (by decide) (by decide) rfl (fun ls hl => ?_)
  refine lv_goto (tgt := 4) hx hb dX12_rests_69 (by decide) ?_
  refine lv_iload_n hx hb dX12_rests_4 rfl (lv_at hl 0 rfl) ?_
  refine lv_bipush (v := 16) hx hb dX12_rests_5 (by decide) ?_
  refine lv_icmp_ge (tgt := 72) hx hb dX12_rests_7 (by decide) (fun c0 => absurd c0 (by decide)) (fun _ => ?_)
  refine lv_iload_n hx hb dX12_rests_10 rfl (lv_at hl 1 rfl) ?_
  refine lv_iload_n hx hb dX12_rests_11 rfl (lv_at hl 0 rfl) ?_
  refine lv_iconst (v := 4) hx hb dX12_rests_12 (by decide) ?_
  refine z_idiv (v := 2) hx hb dX12_rests_13 (by decide) (by decide) ?_
  refine lv_iload_n hx hb dX12_rests_14 rfl (lv_at hl 0 rfl) ?_
  refine lv_iconst (v := 4) hx hb dX12_rests_15 (by decide) ?_
  refine z_irem (v := 3) hx hb dX12_rests_16 (by decide) (by decide) ?_
  refine rosi (As := [.int 2, .int 3]) (rest := [.int 0]) ⟨hx, hb, hml, hown, hts⟩ (b_X12_soundsBy l G D cB cI cJ cZ cS cT 2 3 ) (csB (n := 2) (inr62 _ (List.mem_of_getElem? (i := 23) rfl)) (inr63 _ (List.mem_of_getElem? (i := 0) rfl)) (inr1 _ (List.mem_of_getElem? (i := 5) rfl)) (inr63 _ (List.mem_of_getElem? (i := 1) rfl)) (by decide +kernel) hts rfl rfl ⟨Nat.le_of_ble_eq_true rfl, Nat.le_of_ble_eq_true rfl⟩) (hP.sub [] rfl) hK hN hT rfl hl.1 rfl (Nat.le_of_ble_eq_true rfl) ⟨Nat.le_of_ble_eq_true rfl, Nat.le_of_ble_eq_true rfl⟩ dX12_rests_17 (fun r_127 h_128 => ?_)
  have h_128 : (r_127 = rw_ 2 3) := h_128
  have i_129 := h_128
  obtain rfl : r_127 = (-4) := i_129.trans (by decide)
  refine lv_iload_n hx hb dX12_rests_20 rfl (lv_at hl 0 rfl) ?_
  refine lv_iconst (v := 4) hx hb dX12_rests_21 (by decide) ?_
  refine z_irem (v := 3) hx hb dX12_rests_22 (by decide) (by decide) ?_
  refine rosi (As := [.int 3]) (rest := [.int (-4), .int 0]) ⟨hx, hb, hml, hown, hts⟩ (b_X12_bestBy l G D cB cI cJ cZ cS cT 3 (by first | assumption | (have := zI0; have := zI1; have := zIm; omega) | decide)) (csB (n := 1) (inr63 _ (List.mem_of_getElem? (i := 2) rfl)) (inr63 _ (List.mem_of_getElem? (i := 3) rfl)) (inr1 _ (List.mem_of_getElem? (i := 5) rfl)) (inr63 _ (List.mem_of_getElem? (i := 4) rfl)) (by decide +kernel) hts rfl rfl ⟨Nat.le_of_ble_eq_true rfl, Nat.le_of_ble_eq_true rfl⟩) (hP.sub [] rfl) hK hN hT rfl hl.1 rfl (Nat.le_of_ble_eq_true rfl) ⟨Nat.le_of_ble_eq_true rfl, Nat.le_of_ble_eq_true rfl⟩ dX12_rests_23 (fun r_130 h_131 => ?_)
  have h_131 : (r_130 = S_best 3) := h_131
  have i_132 := h_131
  obtain rfl : r_130 = 0 := i_132.trans (by decide)
  refine lv_iload_n hx hb dX12_rests_26 rfl (lv_at hl 0 rfl) ?_
  refine lv_iconst (v := 4) hx hb dX12_rests_27 (by decide) ?_
  refine z_irem (v := 3) hx hb dX12_rests_28 (by decide) (by decide) ?_
  refine rosi (As := [.int 0, .int 3]) (rest := [.int (-4), .int 0]) ⟨hx, hb, hml, hown, hts⟩ (b_X12_soundsBy l G D cB cI cJ cZ cS cT 0 3 ) (csB (n := 2) (inr62 _ (List.mem_of_getElem? (i := 23) rfl)) (inr63 _ (List.mem_of_getElem? (i := 0) rfl)) (inr1 _ (List.mem_of_getElem? (i := 5) rfl)) (inr63 _ (List.mem_of_getElem? (i := 1) rfl)) (by decide +kernel) hts rfl rfl ⟨Nat.le_of_ble_eq_true rfl, Nat.le_of_ble_eq_true rfl⟩) (hP.sub [] rfl) hK hN hT rfl hl.1 rfl (Nat.le_of_ble_eq_true rfl) ⟨Nat.le_of_ble_eq_true rfl, Nat.le_of_ble_eq_true rfl⟩ dX12_rests_29 (fun r_133 h_134 => ?_)
  have h_134 : (r_133 = rw_ 0 3) := h_134
  have i_135 := h_134
  obtain rfl : r_133 = 0 := i_135.trans (by decide)
  refine lv_icmp_ne (tgt := 63) hx hb dX12_rests_32 (by decide) (fun _ => ?_) (fun c0 => absurd c0 (by decide))
  refine lv_iconst (v := 0) hx hb dX12_rests_63 (by decide) ?_
  refine z_iadd (v := 0) hx hb dX12_rests_64 (by decide) ?_
  refine lv_istore_n (lv' := [(1, .int 0), (2, .int 11), (0, .ref h0)]) hx hb dX12_rests_65 rfl hl (by decide) rfl (fun ls hl => ?_)
  refine lv_iinc (v := 12) (lv' := [(2, .int 12), (1, .int 0), (0, .ref h0)]) hx hb dX12_rests_66 hl (k := 1) rfl (by decide) (by decide) rfl (fun ls hl => ?_)
  refine lv_goto (tgt := 4) hx hb dX12_rests_69 (by decide) ?_
  refine lv_iload_n hx hb dX12_rests_4 rfl (lv_at hl 0 rfl) ?_
  refine lv_bipush (v := 16) hx hb dX12_rests_5 (by decide) ?_
  refine lv_icmp_ge (tgt := 72) hx hb dX12_rests_7 (by decide) (fun c0 => absurd c0 (by decide)) (fun _ => ?_)
  refine lv_iload_n hx hb dX12_rests_10 rfl (lv_at hl 1 rfl) ?_
  refine lv_iload_n hx hb dX12_rests_11 rfl (lv_at hl 0 rfl) ?_
  refine lv_iconst (v := 4) hx hb dX12_rests_12 (by decide) ?_
  refine z_idiv (v := 3) hx hb dX12_rests_13 (by decide) (by decide) ?_
  refine lv_iload_n hx hb dX12_rests_14 rfl (lv_at hl 0 rfl) ?_
  refine lv_iconst (v := 4) hx hb dX12_rests_15 (by decide) ?_
  refine z_irem (v := 0) hx hb dX12_rests_16 (by decide) (by decide) ?_
  refine rosi (As := [.int 3, .int 0]) (rest := [.int 0]) ⟨hx, hb, hml, hown, hts⟩ (b_X12_soundsBy l G D cB cI cJ cZ cS cT 3 0 ) (csB (n := 2) (inr62 _ (List.mem_of_getElem? (i := 23) rfl)) (inr63 _ (List.mem_of_getElem? (i := 0) rfl)) (inr1 _ (List.mem_of_getElem? (i := 5) rfl)) (inr63 _ (List.mem_of_getElem? (i := 1) rfl)) (by decide +kernel) hts rfl rfl ⟨Nat.le_of_ble_eq_true rfl, Nat.le_of_ble_eq_true rfl⟩) (hP.sub [] rfl) hK hN hT rfl hl.1 rfl (Nat.le_of_ble_eq_true rfl) ⟨Nat.le_of_ble_eq_true rfl, Nat.le_of_ble_eq_true rfl⟩ dX12_rests_17 (fun r_136 h_137 => ?_)
  have h_137 : (r_136 = rw_ 3 0) := h_137
  have i_138 := h_137
  obtain rfl : r_136 = 1 := i_138.trans (by decide)
  refine lv_iload_n hx hb dX12_rests_20 rfl (lv_at hl 0 rfl) ?_
  refine lv_iconst (v := 4) hx hb dX12_rests_21 (by decide) ?_
  refine z_irem (v := 0) hx hb dX12_rests_22 (by decide) (by decide) ?_
  refine rosi (As := [.int 0]) (rest := [.int 1, .int 0]) ⟨hx, hb, hml, hown, hts⟩ (b_X12_bestBy l G D cB cI cJ cZ cS cT 0 (by first | assumption | (have := zI0; have := zI1; have := zIm; omega) | decide)) (csB (n := 1) (inr63 _ (List.mem_of_getElem? (i := 2) rfl)) (inr63 _ (List.mem_of_getElem? (i := 3) rfl)) (inr1 _ (List.mem_of_getElem? (i := 5) rfl)) (inr63 _ (List.mem_of_getElem? (i := 4) rfl)) (by decide +kernel) hts rfl rfl ⟨Nat.le_of_ble_eq_true rfl, Nat.le_of_ble_eq_true rfl⟩) (hP.sub [] rfl) hK hN hT rfl hl.1 rfl (Nat.le_of_ble_eq_true rfl) ⟨Nat.le_of_ble_eq_true rfl, Nat.le_of_ble_eq_true rfl⟩ dX12_rests_23 (fun r_139 h_140 => ?_)
  have h_140 : (r_139 = S_best 0) := h_140
  have i_141 := h_140
  obtain rfl : r_139 = 1 := i_141.trans (by decide)
  refine lv_iload_n hx hb dX12_rests_26 rfl (lv_at hl 0 rfl) ?_
  refine lv_iconst (v := 4) hx hb dX12_rests_27 (by decide) ?_
  refine z_irem (v := 0) hx hb dX12_rests_28 (by decide) (by decide) ?_
  refine rosi (As := [.int 1, .int 0]) (rest := [.int 1, .int 0]) ⟨hx, hb, hml, hown, hts⟩ (b_X12_soundsBy l G D cB cI cJ cZ cS cT 1 0 ) (csB (n := 2) (inr62 _ (List.mem_of_getElem? (i := 23) rfl)) (inr63 _ (List.mem_of_getElem? (i := 0) rfl)) (inr1 _ (List.mem_of_getElem? (i := 5) rfl)) (inr63 _ (List.mem_of_getElem? (i := 1) rfl)) (by decide +kernel) hts rfl rfl ⟨Nat.le_of_ble_eq_true rfl, Nat.le_of_ble_eq_true rfl⟩) (hP.sub [] rfl) hK hN hT rfl hl.1 rfl (Nat.le_of_ble_eq_true rfl) ⟨Nat.le_of_ble_eq_true rfl, Nat.le_of_ble_eq_true rfl⟩ dX12_rests_29 (fun r_142 h_143 => ?_)
  have h_143 : (r_142 = rw_ 1 0) := h_143
  have i_144 := h_143
  obtain rfl : r_142 = 9 := i_144.trans (by decide)
  refine lv_icmp_ne (tgt := 63) hx hb dX12_rests_32 (by decide) (fun _ => ?_) (fun c0 => absurd c0 (by decide))
  refine lv_iconst (v := 0) hx hb dX12_rests_63 (by decide) ?_
  refine z_iadd (v := 0) hx hb dX12_rests_64 (by decide) ?_
  refine lv_istore_n (lv' := [(1, .int 0), (2, .int 12), (0, .ref h0)]) hx hb dX12_rests_65 rfl hl (by decide) rfl (fun ls hl => ?_)
  refine lv_iinc (v := 13) (lv' := [(2, .int 13), (1, .int 0), (0, .ref h0)]) hx hb dX12_rests_66 hl (k := 1) rfl (by decide) (by decide) rfl (fun ls hl => ?_)
  refine lv_goto (tgt := 4) hx hb dX12_rests_69 (by decide) ?_
  refine lv_iload_n hx hb dX12_rests_4 rfl (lv_at hl 0 rfl) ?_
  refine lv_bipush (v := 16) hx hb dX12_rests_5 (by decide) ?_
  refine lv_icmp_ge (tgt := 72) hx hb dX12_rests_7 (by decide) (fun c0 => absurd c0 (by decide)) (fun _ => ?_)
  refine lv_iload_n hx hb dX12_rests_10 rfl (lv_at hl 1 rfl) ?_
  refine lv_iload_n hx hb dX12_rests_11 rfl (lv_at hl 0 rfl) ?_
  refine lv_iconst (v := 4) hx hb dX12_rests_12 (by decide) ?_
  refine z_idiv (v := 3) hx hb dX12_rests_13 (by decide) (by decide) ?_
  refine lv_iload_n hx hb dX12_rests_14 rfl (lv_at hl 0 rfl) ?_
  refine lv_iconst (v := 4) hx hb dX12_rests_15 (by decide) ?_
  refine z_irem (v := 1) hx hb dX12_rests_16 (by decide) (by decide) ?_
  refine rosi (As := [.int 3, .int 1]) (rest := [.int 0]) ⟨hx, hb, hml, hown, hts⟩ (b_X12_soundsBy l G D cB cI cJ cZ cS cT 3 1 ) (csB (n := 2) (inr62 _ (List.mem_of_getElem? (i := 23) rfl)) (inr63 _ (List.mem_of_getElem? (i := 0) rfl)) (inr1 _ (List.mem_of_getElem? (i := 5) rfl)) (inr63 _ (List.mem_of_getElem? (i := 1) rfl)) (by decide +kernel) hts rfl rfl ⟨Nat.le_of_ble_eq_true rfl, Nat.le_of_ble_eq_true rfl⟩) (hP.sub [] rfl) hK hN hT rfl hl.1 rfl (Nat.le_of_ble_eq_true rfl) ⟨Nat.le_of_ble_eq_true rfl, Nat.le_of_ble_eq_true rfl⟩ dX12_rests_17 (fun r_145 h_146 => ?_)
  have h_146 : (r_145 = rw_ 3 1) := h_146
  have i_147 := h_146
  obtain rfl : r_145 = 1 := i_147.trans (by decide)
  refine lv_iload_n hx hb dX12_rests_20 rfl (lv_at hl 0 rfl) ?_
  refine lv_iconst (v := 4) hx hb dX12_rests_21 (by decide) ?_
  refine z_irem (v := 1) hx hb dX12_rests_22 (by decide) (by decide) ?_
  refine rosi (As := [.int 1]) (rest := [.int 1, .int 0]) ⟨hx, hb, hml, hown, hts⟩ (b_X12_bestBy l G D cB cI cJ cZ cS cT 1 (by first | assumption | (have := zI0; have := zI1; have := zIm; omega) | decide)) (csB (n := 1) (inr63 _ (List.mem_of_getElem? (i := 2) rfl)) (inr63 _ (List.mem_of_getElem? (i := 3) rfl)) (inr1 _ (List.mem_of_getElem? (i := 5) rfl)) (inr63 _ (List.mem_of_getElem? (i := 4) rfl)) (by decide +kernel) hts rfl rfl ⟨Nat.le_of_ble_eq_true rfl, Nat.le_of_ble_eq_true rfl⟩) (hP.sub [] rfl) hK hN hT rfl hl.1 rfl (Nat.le_of_ble_eq_true rfl) ⟨Nat.le_of_ble_eq_true rfl, Nat.le_of_ble_eq_true rfl⟩ dX12_rests_23 (fun r_148 h_149 => ?_)
  have h_149 : (r_148 = S_best 1) := h_149
  have i_150 := h_149
  obtain rfl : r_148 = 2 := i_150.trans (by decide)
  refine lv_iload_n hx hb dX12_rests_26 rfl (lv_at hl 0 rfl) ?_
  refine lv_iconst (v := 4) hx hb dX12_rests_27 (by decide) ?_
  refine z_irem (v := 1) hx hb dX12_rests_28 (by decide) (by decide) ?_
  refine rosi (As := [.int 2, .int 1]) (rest := [.int 1, .int 0]) ⟨hx, hb, hml, hown, hts⟩ (b_X12_soundsBy l G D cB cI cJ cZ cS cT 2 1 ) (csB (n := 2) (inr62 _ (List.mem_of_getElem? (i := 23) rfl)) (inr63 _ (List.mem_of_getElem? (i := 0) rfl)) (inr1 _ (List.mem_of_getElem? (i := 5) rfl)) (inr63 _ (List.mem_of_getElem? (i := 1) rfl)) (by decide +kernel) hts rfl rfl ⟨Nat.le_of_ble_eq_true rfl, Nat.le_of_ble_eq_true rfl⟩) (hP.sub [] rfl) hK hN hT rfl hl.1 rfl (Nat.le_of_ble_eq_true rfl) ⟨Nat.le_of_ble_eq_true rfl, Nat.le_of_ble_eq_true rfl⟩ dX12_rests_29 (fun r_151 h_152 => ?_)
  have h_152 : (r_151 = rw_ 2 1) := h_152
  have i_153 := h_152
  obtain rfl : r_151 = 6 := i_153.trans (by decide)
  refine lv_icmp_ne (tgt := 63) hx hb dX12_rests_32 (by decide) (fun _ => ?_) (fun c0 => absurd c0 (by decide))
  refine lv_iconst (v := 0) hx hb dX12_rests_63 (by decide) ?_
  refine z_iadd (v := 0) hx hb dX12_rests_64 (by decide) ?_
  refine lv_istore_n (lv' := [(1, .int 0), (2, .int 13), (0, .ref h0)]) hx hb dX12_rests_65 rfl hl (by decide) rfl (fun ls hl => ?_)
  refine lv_iinc (v := 14) (lv' := [(2, .int 14), (1, .int 0), (0, .ref h0)]) hx hb dX12_rests_66 hl (k := 1) rfl (by decide) (by decide) rfl (fun ls hl => ?_)
  refine lv_goto (tgt := 4) hx hb dX12_rests_69 (by decide) ?_
  refine lv_iload_n hx hb dX12_rests_4 rfl (lv_at hl 0 rfl) ?_
  refine lv_bipush (v := 16) hx hb dX12_rests_5 (by decide) ?_
  refine lv_icmp_ge (tgt := 72) hx hb dX12_rests_7 (by decide) (fun c0 => absurd c0 (by decide)) (fun _ => ?_)
  refine lv_iload_n hx hb dX12_rests_10 rfl (lv_at hl 1 rfl) ?_
  refine lv_iload_n hx hb dX12_rests_11 rfl (lv_at hl 0 rfl) ?_
  refine lv_iconst (v := 4) hx hb dX12_rests_12 (by decide) ?_
  refine z_idiv (v := 3) hx hb dX12_rests_13 (by decide) (by decide) ?_
  refine lv_iload_n hx hb dX12_rests_14 rfl (lv_at hl 0 rfl) ?_
  refine lv_iconst (v := 4) hx hb dX12_rests_15 (by decide) ?_
  refine z_irem (v := 2) hx hb dX12_rests_16 (by decide) (by decide) ?_
  refine rosi (As := [.int 3, .int 2]) (rest := [.int 0]) ⟨hx, hb, hml, hown, hts⟩ (b_X12_soundsBy l G D cB cI cJ cZ cS cT 3 2 ) (csB (n := 2) (inr62 _ (List.mem_of_getElem? (i := 23) rfl)) (inr63 _ (List.mem_of_getElem? (i := 0) rfl)) (inr1 _ (List.mem_of_getElem? (i := 5) rfl)) (inr63 _ (List.mem_of_getElem? (i := 1) rfl)) (by decide +kernel) hts rfl rfl ⟨Nat.le_of_ble_eq_true rfl, Nat.le_of_ble_eq_true rfl⟩) (hP.sub [] rfl) hK hN hT rfl hl.1 rfl (Nat.le_of_ble_eq_true rfl) ⟨Nat.le_of_ble_eq_true rfl, Nat.le_of_ble_eq_true rfl⟩ dX12_rests_17 (fun r_154 h_155 => ?_)
  have h_155 : (r_154 = rw_ 3 2) := h_155
  have i_156 := h_155
  obtain rfl : r_154 = 1 := i_156.trans (by decide)
  refine lv_iload_n hx hb dX12_rests_20 rfl (lv_at hl 0 rfl) ?_
  refine lv_iconst (v := 4) hx hb dX12_rests_21 (by decide) ?_
  refine z_irem (v := 2) hx hb dX12_rests_22 (by decide) (by decide) ?_
  refine rosi (As := [.int 2]) (rest := [.int 1, .int 0]) ⟨hx, hb, hml, hown, hts⟩ (b_X12_bestBy l G D cB cI cJ cZ cS cT 2 (by first | assumption | (have := zI0; have := zI1; have := zIm; omega) | decide)) (csB (n := 1) (inr63 _ (List.mem_of_getElem? (i := 2) rfl)) (inr63 _ (List.mem_of_getElem? (i := 3) rfl)) (inr1 _ (List.mem_of_getElem? (i := 5) rfl)) (inr63 _ (List.mem_of_getElem? (i := 4) rfl)) (by decide +kernel) hts rfl rfl ⟨Nat.le_of_ble_eq_true rfl, Nat.le_of_ble_eq_true rfl⟩) (hP.sub [] rfl) hK hN hT rfl hl.1 rfl (Nat.le_of_ble_eq_true rfl) ⟨Nat.le_of_ble_eq_true rfl, Nat.le_of_ble_eq_true rfl⟩ dX12_rests_23 (fun r_157 h_158 => ?_)
  have h_158 : (r_157 = S_best 2) := h_158
  have i_159 := h_158
  obtain rfl : r_157 = 3 := i_159.trans (by decide)
  refine lv_iload_n hx hb dX12_rests_26 rfl (lv_at hl 0 rfl) ?_
  refine lv_iconst (v := 4) hx hb dX12_rests_27 (by decide) ?_
  refine z_irem (v := 2) hx hb dX12_rests_28 (by decide) (by decide) ?_
  refine rosi (As := [.int 3, .int 2]) (rest := [.int 1, .int 0]) ⟨hx, hb, hml, hown, hts⟩ (b_X12_soundsBy l G D cB cI cJ cZ cS cT 3 2 ) (csB (n := 2) (inr62 _ (List.mem_of_getElem? (i := 23) rfl)) (inr63 _ (List.mem_of_getElem? (i := 0) rfl)) (inr1 _ (List.mem_of_getElem? (i := 5) rfl)) (inr63 _ (List.mem_of_getElem? (i := 1) rfl)) (by decide +kernel) hts rfl rfl ⟨Nat.le_of_ble_eq_true rfl, Nat.le_of_ble_eq_true rfl⟩) (hP.sub [] rfl) hK hN hT rfl hl.1 rfl (Nat.le_of_ble_eq_true rfl) ⟨Nat.le_of_ble_eq_true rfl, Nat.le_of_ble_eq_true rfl⟩ dX12_rests_29 (fun r_160 h_161 => ?_)
  have h_161 : (r_160 = rw_ 3 2) := h_161
  have i_162 := h_161
  obtain rfl : r_160 = 1 := i_162.trans (by decide)
  refine lv_icmp_ne (tgt := 63) hx hb dX12_rests_32 (by decide) (fun c0 => absurd c0 (by decide)) (fun _ => ?_)
  refine lv_iload_n hx hb dX12_rests_35 rfl (lv_at hl 0 rfl) ?_
  refine lv_iconst (v := 4) hx hb dX12_rests_36 (by decide) ?_
  refine z_irem (v := 2) hx hb dX12_rests_37 (by decide) (by decide) ?_
  refine lv_iload_n hx hb dX12_rests_38 rfl (lv_at hl 0 rfl) ?_
  refine lv_iconst (v := 4) hx hb dX12_rests_39 (by decide) ?_
  refine z_idiv (v := 3) hx hb dX12_rests_40 (by decide) (by decide) ?_
  refine rosi (As := [.int 2, .int 3]) (rest := [.int 0]) ⟨hx, hb, hml, hown, hts⟩ (b_X12_soundsBy l G D cB cI cJ cZ cS cT 2 3 ) (csB (n := 2) (inr62 _ (List.mem_of_getElem? (i := 23) rfl)) (inr63 _ (List.mem_of_getElem? (i := 0) rfl)) (inr1 _ (List.mem_of_getElem? (i := 5) rfl)) (inr63 _ (List.mem_of_getElem? (i := 1) rfl)) (by decide +kernel) hts rfl rfl ⟨Nat.le_of_ble_eq_true rfl, Nat.le_of_ble_eq_true rfl⟩) (hP.sub [] rfl) hK hN hT rfl hl.1 rfl (Nat.le_of_ble_eq_true rfl) ⟨Nat.le_of_ble_eq_true rfl, Nat.le_of_ble_eq_true rfl⟩ dX12_rests_41 (fun r_163 h_164 => ?_)
  have h_164 : (r_163 = rw_ 2 3) := h_164
  have i_165 := h_164
  obtain rfl : r_163 = (-4) := i_165.trans (by decide)
  refine lv_iload_n hx hb dX12_rests_44 rfl (lv_at hl 0 rfl) ?_
  refine lv_iconst (v := 4) hx hb dX12_rests_45 (by decide) ?_
  refine z_idiv (v := 3) hx hb dX12_rests_46 (by decide) (by decide) ?_
  refine rosi (As := [.int 3]) (rest := [.int (-4), .int 0]) ⟨hx, hb, hml, hown, hts⟩ (b_X12_bestBy l G D cB cI cJ cZ cS cT 3 (by first | assumption | (have := zI0; have := zI1; have := zIm; omega) | decide)) (csB (n := 1) (inr63 _ (List.mem_of_getElem? (i := 2) rfl)) (inr63 _ (List.mem_of_getElem? (i := 3) rfl)) (inr1 _ (List.mem_of_getElem? (i := 5) rfl)) (inr63 _ (List.mem_of_getElem? (i := 4) rfl)) (by decide +kernel) hts rfl rfl ⟨Nat.le_of_ble_eq_true rfl, Nat.le_of_ble_eq_true rfl⟩) (hP.sub [] rfl) hK hN hT rfl hl.1 rfl (Nat.le_of_ble_eq_true rfl) ⟨Nat.le_of_ble_eq_true rfl, Nat.le_of_ble_eq_true rfl⟩ dX12_rests_47 (fun r_166 h_167 => ?_)
  have h_167 : (r_166 = S_best 3) := h_167
  have i_168 := h_167
  obtain rfl : r_166 = 0 := i_168.trans (by decide)
  refine lv_iload_n hx hb dX12_rests_50 rfl (lv_at hl 0 rfl) ?_
  refine lv_iconst (v := 4) hx hb dX12_rests_51 (by decide) ?_
  refine z_idiv (v := 3) hx hb dX12_rests_52 (by decide) (by decide) ?_
  refine rosi (As := [.int 0, .int 3]) (rest := [.int (-4), .int 0]) ⟨hx, hb, hml, hown, hts⟩ (b_X12_soundsBy l G D cB cI cJ cZ cS cT 0 3 ) (csB (n := 2) (inr62 _ (List.mem_of_getElem? (i := 23) rfl)) (inr63 _ (List.mem_of_getElem? (i := 0) rfl)) (inr1 _ (List.mem_of_getElem? (i := 5) rfl)) (inr63 _ (List.mem_of_getElem? (i := 1) rfl)) (by decide +kernel) hts rfl rfl ⟨Nat.le_of_ble_eq_true rfl, Nat.le_of_ble_eq_true rfl⟩) (hP.sub [] rfl) hK hN hT rfl hl.1 rfl (Nat.le_of_ble_eq_true rfl) ⟨Nat.le_of_ble_eq_true rfl, Nat.le_of_ble_eq_true rfl⟩ dX12_rests_53 (fun r_169 h_170 => ?_)
  have h_170 : (r_169 = rw_ 0 3) := h_170
  have i_171 := h_170
  obtain rfl : r_169 = 0 := i_171.trans (by decide)
  refine lv_icmp_ne (tgt := 63) hx hb dX12_rests_56 (by decide) (fun _ => ?_) (fun c0 => absurd c0 (by decide))
  refine lv_iconst (v := 0) hx hb dX12_rests_63 (by decide) ?_
  refine z_iadd (v := 0) hx hb dX12_rests_64 (by decide) ?_
  refine lv_istore_n (lv' := [(1, .int 0), (2, .int 14), (0, .ref h0)]) hx hb dX12_rests_65 rfl hl (by decide) rfl (fun ls hl => ?_)
  refine lv_iinc (v := 15) (lv' := [(2, .int 15), (1, .int 0), (0, .ref h0)]) hx hb dX12_rests_66 hl (k := 1) rfl (by decide) (by decide) rfl (fun ls hl => ?_)
  refine lv_goto (tgt := 4) hx hb dX12_rests_69 (by decide) ?_
  refine lv_iload_n hx hb dX12_rests_4 rfl (lv_at hl 0 rfl) ?_
  refine lv_bipush (v := 16) hx hb dX12_rests_5 (by decide) ?_
  refine lv_icmp_ge (tgt := 72) hx hb dX12_rests_7 (by decide) (fun c0 => absurd c0 (by decide)) (fun _ => ?_)
  refine lv_iload_n hx hb dX12_rests_10 rfl (lv_at hl 1 rfl) ?_
  refine lv_iload_n hx hb dX12_rests_11 rfl (lv_at hl 0 rfl) ?_
  refine lv_iconst (v := 4) hx hb dX12_rests_12 (by decide) ?_
  refine z_idiv (v := 3) hx hb dX12_rests_13 (by decide) (by decide) ?_
  refine lv_iload_n hx hb dX12_rests_14 rfl (lv_at hl 0 rfl) ?_
  refine lv_iconst (v := 4) hx hb dX12_rests_15 (by decide) ?_
  refine z_irem (v := 3) hx hb dX12_rests_16 (by decide) (by decide) ?_
  refine rosi (As := [.int 3, .int 3]) (rest := [.int 0]) ⟨hx, hb, hml, hown, hts⟩ (b_X12_soundsBy l G D cB cI cJ cZ cS cT 3 3 ) (csB (n := 2) (inr62 _ (List.mem_of_getElem? (i := 23) rfl)) (inr63 _ (List.mem_of_getElem? (i := 0) rfl)) (inr1 _ (List.mem_of_getElem? (i := 5) rfl)) (inr63 _ (List.mem_of_getElem? (i := 1) rfl)) (by decide +kernel) hts rfl rfl ⟨Nat.le_of_ble_eq_true rfl, Nat.le_of_ble_eq_true rfl⟩) (hP.sub [] rfl) hK hN hT rfl hl.1 rfl (Nat.le_of_ble_eq_true rfl) ⟨Nat.le_of_ble_eq_true rfl, Nat.le_of_ble_eq_true rfl⟩ dX12_rests_17 (fun r_172 h_173 => ?_)
  have h_173 : (r_172 = rw_ 3 3) := h_173
  have i_174 := h_173
  obtain rfl : r_172 = (-5) := i_174.trans (by decide)
  refine lv_iload_n hx hb dX12_rests_20 rfl (lv_at hl 0 rfl) ?_
  refine lv_iconst (v := 4) hx hb dX12_rests_21 (by decide) ?_
  refine z_irem (v := 3) hx hb dX12_rests_22 (by decide) (by decide) ?_
  refine rosi (As := [.int 3]) (rest := [.int (-5), .int 0]) ⟨hx, hb, hml, hown, hts⟩ (b_X12_bestBy l G D cB cI cJ cZ cS cT 3 (by first | assumption | (have := zI0; have := zI1; have := zIm; omega) | decide)) (csB (n := 1) (inr63 _ (List.mem_of_getElem? (i := 2) rfl)) (inr63 _ (List.mem_of_getElem? (i := 3) rfl)) (inr1 _ (List.mem_of_getElem? (i := 5) rfl)) (inr63 _ (List.mem_of_getElem? (i := 4) rfl)) (by decide +kernel) hts rfl rfl ⟨Nat.le_of_ble_eq_true rfl, Nat.le_of_ble_eq_true rfl⟩) (hP.sub [] rfl) hK hN hT rfl hl.1 rfl (Nat.le_of_ble_eq_true rfl) ⟨Nat.le_of_ble_eq_true rfl, Nat.le_of_ble_eq_true rfl⟩ dX12_rests_23 (fun r_175 h_176 => ?_)
  have h_176 : (r_175 = S_best 3) := h_176
  have i_177 := h_176
  obtain rfl : r_175 = 0 := i_177.trans (by decide)
  refine lv_iload_n hx hb dX12_rests_26 rfl (lv_at hl 0 rfl) ?_
  refine lv_iconst (v := 4) hx hb dX12_rests_27 (by decide) ?_
  refine z_irem (v := 3) hx hb dX12_rests_28 (by decide) (by decide) ?_
  refine rosi (As := [.int 0, .int 3]) (rest := [.int (-5), .int 0]) ⟨hx, hb, hml, hown, hts⟩ (b_X12_soundsBy l G D cB cI cJ cZ cS cT 0 3 ) (csB (n := 2) (inr62 _ (List.mem_of_getElem? (i := 23) rfl)) (inr63 _ (List.mem_of_getElem? (i := 0) rfl)) (inr1 _ (List.mem_of_getElem? (i := 5) rfl)) (inr63 _ (List.mem_of_getElem? (i := 1) rfl)) (by decide +kernel) hts rfl rfl ⟨Nat.le_of_ble_eq_true rfl, Nat.le_of_ble_eq_true rfl⟩) (hP.sub [] rfl) hK hN hT rfl hl.1 rfl (Nat.le_of_ble_eq_true rfl) ⟨Nat.le_of_ble_eq_true rfl, Nat.le_of_ble_eq_true rfl⟩ dX12_rests_29 (fun r_178 h_179 => ?_)
  have h_179 : (r_178 = rw_ 0 3) := h_179
  have i_180 := h_179
  obtain rfl : r_178 = 0 := i_180.trans (by decide)
  refine lv_icmp_ne (tgt := 63) hx hb dX12_rests_32 (by decide) (fun _ => ?_) (fun c0 => absurd c0 (by decide))
  refine lv_iconst (v := 0) hx hb dX12_rests_63 (by decide) ?_
  refine z_iadd (v := 0) hx hb dX12_rests_64 (by decide) ?_
  refine lv_istore_n (lv' := [(1, .int 0), (2, .int 15), (0, .ref h0)]) hx hb dX12_rests_65 rfl hl (by decide) rfl (fun ls hl => ?_)
  refine lv_iinc (v := 16) (lv' := [(2, .int 16), (1, .int 0), (0, .ref h0)]) hx hb dX12_rests_66 hl (k := 1) rfl (by decide) (by decide) rfl (fun ls hl => ?_)
  refine lv_goto (tgt := 4) hx hb dX12_rests_69 (by decide) ?_
  refine lv_iload_n hx hb dX12_rests_4 rfl (lv_at hl 0 rfl) ?_
  refine lv_bipush (v := 16) hx hb dX12_rests_5 (by decide) ?_
  refine lv_icmp_ge (tgt := 72) hx hb dX12_rests_7 (by decide) (fun _ => ?_) (fun c0 => absurd c0 (by decide))
  refine lv_iload_n hx hb dX12_rests_72 rfl (lv_at hl 1 rfl) ?_
  have hr9 : (0 : Int32).toInt = 0 := by decide
  exact ret _ _ _ dX12_rests_73 (show ((0 : Int32) = 0) from rfl)

set_option maxHeartbeats 4000000 in
set_option maxRecDepth 100000 in
theorem b_X12_sounds (l : Launch) (G : Gho) (D : va_G) (cB cI cJ cZ cS cT : ClassId) (h0 : Nat) (v1 : Int32) (v2 : Int32)  : Met l yX12_sounds (Cond.code yX12_sounds cX12_sounds 3 (some .int) :: wsL_law) ({ frames := 1, cells := 0, slots := 0, locals := 25 }) (roP G D (tyL cB cI cJ cZ cS cT) [] [.ref h0, .int v1, .int v2]) (vp_Si (fun r : Int32 => (r = S_sounds v1 v2))) 0 0 (fun _ => False) := by
  refine metRO (own := RX12) (by decide) rfl ?_
  intro p e s m below meth c Q C hP ret
  obtain ⟨hx, hb, hml, hown, hts, hK, hN, hT⟩ := id C
  have hl := lv_entry ([.ref h0, .int v1, .int v2]) (n := 3) (Nat.le_of_ble_eq_true rfl)
  rw [lg_entry_eq]
  generalize (lg_sl ([.ref h0, .int v1, .int v2]) ++ List.replicate (3 - (lg_sl ([.ref h0, .int v1, .int v2])).length) Slot.unset).toArray = ls at hl ⊢
  have hl : lv_has ls 3 [(0, .ref h0), (1, .int v1), (2, .int v2)] := hl
  have hP : va_P D vwCl [] s.heap := hP
  refine lv_iload_n hx hb dX12_sounds_0 rfl (lv_at hl 1 rfl) ?_
  have b_v1 := i32b v1
  obtain ⟨t_1, et_1⟩ : ∃ v9 : Int64, (v1 : Int32).toInt64 = v9 := ⟨_, rfl⟩
  refine lv_i2l (v := t_1) hx hb dX12_sounds_1 et_1 ?_
  have ft_1 : t_1.toInt = v1.toInt := by rw [← et_1]; exact Int32.toInt_toInt64 _
  refine lv_lconst (v := 0) hx hb dX12_sounds_2 (by decide) ?_
  refine lv_ldc2 hx hb hown (hts _ (inr54 _ (List.mem_of_getElem? (i := 7) rfl))) dX12_sounds_3 ?_
  refine rosi (As := [.long t_1, .long 0, .long 3]) (rest := []) ⟨hx, hb, hml, hown, hts⟩ (b_X12_in l G D cB cI cJ cZ cS cT t_1 0 3 ) (csB (n := 3) (inr9 _ (List.mem_of_getElem? (i := 3) rfl)) (inr9 _ (List.mem_of_getElem? (i := 4) rfl)) (inr1 _ (List.mem_of_getElem? (i := 5) rfl)) (inr9 _ (List.mem_of_getElem? (i := 5) rfl)) (by decide +kernel) hts rfl rfl ⟨Nat.le_of_ble_eq_true rfl, Nat.le_of_ble_eq_true rfl⟩) (hP.sub [] rfl) hK hN hT rfl hl.1 rfl (Nat.le_of_ble_eq_true rfl) ⟨Nat.le_of_ble_eq_true rfl, Nat.le_of_ble_eq_true rfl⟩ dX12_sounds_6 (fun r_2 h_3 => ?_)
  have h_3 : ((r_2.toInt = 1 ∧ 0 ≤ t_1.toInt ∧ t_1.toInt ≤ 3) ∨ (r_2.toInt = 0 ∧ (t_1.toInt < 0 ∨ 3 < t_1.toInt))) ∧ (r_2 = 0 ∨ r_2 = 1) := h_3
  obtain ⟨i_4, i_5⟩ := h_3
  have ar_2 : 0 ≤ r_2.toInt ∧ r_2.toInt ≤ 1 := by rcases i_5 with h | h <;> rw [h] <;> decide
  refine lv_if_eq (tgt := 32) hx hb dX12_sounds_9 (by decide) (fun c_6 => ?_) (fun c_6 => ?_)
  · have c_6 : r_2.toInt = 0 := ci_eq_t c_6
    have b_r_2 := i32b r_2
    have d_7 : (t_1.toInt < 0 ∨ 3 < t_1.toInt) := by omega
    clear i_4
    refine lv_sipush (v := (-1000)) hx hb dX12_sounds_32 (by decide) ?_
    have hr9 : ((-1000) : Int32).toInt = (-1000) := by decide
    exact ret _ _ _ dX12_sounds_35 (show (((-1000) : Int32) = S_sounds v1 v2) from (by subst_vars; unfold S_sounds; split <;> first | rfl | (exfalso; omega)))
  · have c_6 : ¬ r_2.toInt = 0 := ci_eq_f c_6
    have b_r_2 := i32b r_2
    have d_8 : 0 ≤ t_1.toInt ∧ t_1.toInt ≤ 3 := by omega
    clear i_4
    refine lv_iload_n hx hb dX12_sounds_12 rfl (lv_at hl 2 rfl) ?_
    have b_v2 := i32b v2
    obtain ⟨t_9, et_9⟩ : ∃ v9 : Int64, (v2 : Int32).toInt64 = v9 := ⟨_, rfl⟩
    refine lv_i2l (v := t_9) hx hb dX12_sounds_13 et_9 ?_
    have ft_9 : t_9.toInt = v2.toInt := by rw [← et_9]; exact Int32.toInt_toInt64 _
    refine lv_lconst (v := 0) hx hb dX12_sounds_14 (by decide) ?_
    refine lv_ldc2 hx hb hown (hts _ (inr54 _ (List.mem_of_getElem? (i := 7) rfl))) dX12_sounds_15 ?_
    refine rosi (As := [.long t_9, .long 0, .long 3]) (rest := []) ⟨hx, hb, hml, hown, hts⟩ (b_X12_in l G D cB cI cJ cZ cS cT t_9 0 3 ) (csB (n := 3) (inr9 _ (List.mem_of_getElem? (i := 3) rfl)) (inr9 _ (List.mem_of_getElem? (i := 4) rfl)) (inr1 _ (List.mem_of_getElem? (i := 5) rfl)) (inr9 _ (List.mem_of_getElem? (i := 5) rfl)) (by decide +kernel) hts rfl rfl ⟨Nat.le_of_ble_eq_true rfl, Nat.le_of_ble_eq_true rfl⟩) (hP.sub [] rfl) hK hN hT rfl hl.1 rfl (Nat.le_of_ble_eq_true rfl) ⟨Nat.le_of_ble_eq_true rfl, Nat.le_of_ble_eq_true rfl⟩ dX12_sounds_18 (fun r_10 h_11 => ?_)
    have h_11 : ((r_10.toInt = 1 ∧ 0 ≤ t_9.toInt ∧ t_9.toInt ≤ 3) ∨ (r_10.toInt = 0 ∧ (t_9.toInt < 0 ∨ 3 < t_9.toInt))) ∧ (r_10 = 0 ∨ r_10 = 1) := h_11
    obtain ⟨i_12, i_13⟩ := h_11
    have ar_10 : 0 ≤ r_10.toInt ∧ r_10.toInt ≤ 1 := by rcases i_13 with h | h <;> rw [h] <;> decide
    refine lv_if_eq (tgt := 32) hx hb dX12_sounds_21 (by decide) (fun c_14 => ?_) (fun c_14 => ?_)
    · have c_14 : r_10.toInt = 0 := ci_eq_t c_14
      have b_r_10 := i32b r_10
      have d_15 : (t_9.toInt < 0 ∨ 3 < t_9.toInt) := by omega
      clear i_12
      refine lv_sipush (v := (-1000)) hx hb dX12_sounds_32 (by decide) ?_
      have hr9 : ((-1000) : Int32).toInt = (-1000) := by decide
      exact ret _ _ _ dX12_sounds_35 (show (((-1000) : Int32) = S_sounds v1 v2) from (by subst_vars; unfold S_sounds; split <;> first | rfl | (exfalso; omega)))
    · have c_14 : ¬ r_10.toInt = 0 := ci_eq_f c_14
      have b_r_10 := i32b r_10
      have d_16 : 0 ≤ t_9.toInt ∧ t_9.toInt ≤ 3 := by omega
      clear i_12
      refine lv_iload_n hx hb dX12_sounds_24 rfl (lv_at hl 1 rfl) ?_
      refine lv_iload_n hx hb dX12_sounds_25 rfl (lv_at hl 2 rfl) ?_
      refine rosi (As := [.int v1, .int v2]) (rest := []) ⟨hx, hb, hml, hown, hts⟩ (b_X12_soundsBy l G D cB cI cJ cZ cS cT v1 v2 ) (csB (n := 2) (inr62 _ (List.mem_of_getElem? (i := 23) rfl)) (inr63 _ (List.mem_of_getElem? (i := 0) rfl)) (inr1 _ (List.mem_of_getElem? (i := 5) rfl)) (inr63 _ (List.mem_of_getElem? (i := 1) rfl)) (by decide +kernel) hts rfl rfl ⟨Nat.le_of_ble_eq_true rfl, Nat.le_of_ble_eq_true rfl⟩) (hP.sub [] rfl) hK hN hT rfl hl.1 rfl (Nat.le_of_ble_eq_true rfl) ⟨Nat.le_of_ble_eq_true rfl, Nat.le_of_ble_eq_true rfl⟩ dX12_sounds_26 (fun r_17 h_18 => ?_)
      have h_18 : (r_17 = rw_ v1 v2) := h_18
      have i_19 := h_18
      refine lv_goto (tgt := 35) hx hb dX12_sounds_29 (by decide) ?_
      exact ret _ _ _ dX12_sounds_35 (show (r_17 = S_sounds v1 v2) from (by subst_vars; unfold S_sounds; split <;> first | rfl | (exfalso; omega)))

set_option maxHeartbeats 4000000 in
set_option maxRecDepth 100000 in
theorem b_X12_best (l : Launch) (G : Gho) (D : va_G) (cB cI cJ cZ cS cT : ClassId) (h0 : Nat) (v1 : Int32)  : Met l yX12_best (Cond.code yX12_best cX12_best 2 (some .int) :: wsL_law) ({ frames := 2, cells := 0, slots := 0, locals := 43 }) (roP G D (tyL cB cI cJ cZ cS cT) [] [.ref h0, .int v1]) (vp_Si (fun r : Int32 => (r = S_best v1))) 0 0 (fun _ => False) := by
  refine metRO (own := RX12) (by decide) rfl ?_
  intro p e s m below meth c Q C hP ret
  obtain ⟨hx, hb, hml, hown, hts, hK, hN, hT⟩ := id C
  have hl := lv_entry ([.ref h0, .int v1]) (n := 2) (Nat.le_of_ble_eq_true rfl)
  rw [lg_entry_eq]
  generalize (lg_sl ([.ref h0, .int v1]) ++ List.replicate (2 - (lg_sl ([.ref h0, .int v1])).length) Slot.unset).toArray = ls at hl ⊢
  have hl : lv_has ls 2 [(0, .ref h0), (1, .int v1)] := hl
  have hP : va_P D vwCl [] s.heap := hP
  refine lv_iload_n hx hb dX12_best_0 rfl (lv_at hl 1 rfl) ?_
  have b_v1 := i32b v1
  obtain ⟨t_1, et_1⟩ : ∃ v9 : Int64, (v1 : Int32).toInt64 = v9 := ⟨_, rfl⟩
  refine lv_i2l (v := t_1) hx hb dX12_best_1 et_1 ?_
  have ft_1 : t_1.toInt = v1.toInt := by rw [← et_1]; exact Int32.toInt_toInt64 _
  refine lv_lconst (v := 0) hx hb dX12_best_2 (by decide) ?_
  refine lv_ldc2 hx hb hown (hts _ (inr54 _ (List.mem_of_getElem? (i := 7) rfl))) dX12_best_3 ?_
  refine rosi (As := [.long t_1, .long 0, .long 3]) (rest := []) ⟨hx, hb, hml, hown, hts⟩ (b_X12_in l G D cB cI cJ cZ cS cT t_1 0 3 ) (csB (n := 3) (inr9 _ (List.mem_of_getElem? (i := 3) rfl)) (inr9 _ (List.mem_of_getElem? (i := 4) rfl)) (inr1 _ (List.mem_of_getElem? (i := 5) rfl)) (inr9 _ (List.mem_of_getElem? (i := 5) rfl)) (by decide +kernel) hts rfl rfl ⟨Nat.le_of_ble_eq_true rfl, Nat.le_of_ble_eq_true rfl⟩) (hP.sub [] rfl) hK hN hT rfl hl.1 rfl (Nat.le_of_ble_eq_true rfl) ⟨Nat.le_of_ble_eq_true rfl, Nat.le_of_ble_eq_true rfl⟩ dX12_best_6 (fun r_2 h_3 => ?_)
  have h_3 : ((r_2.toInt = 1 ∧ 0 ≤ t_1.toInt ∧ t_1.toInt ≤ 3) ∨ (r_2.toInt = 0 ∧ (t_1.toInt < 0 ∨ 3 < t_1.toInt))) ∧ (r_2 = 0 ∨ r_2 = 1) := h_3
  obtain ⟨i_4, i_5⟩ := h_3
  have ar_2 : 0 ≤ r_2.toInt ∧ r_2.toInt ≤ 1 := by rcases i_5 with h | h <;> rw [h] <;> decide
  refine lv_if_eq (tgt := 19) hx hb dX12_best_9 (by decide) (fun c_6 => ?_) (fun c_6 => ?_)
  · have c_6 : r_2.toInt = 0 := ci_eq_t c_6
    have b_r_2 := i32b r_2
    have d_7 : (t_1.toInt < 0 ∨ 3 < t_1.toInt) := by omega
    clear i_4
    refine lv_bipush (v := (-2)) hx hb dX12_best_19 (by decide) ?_
    have hr9 : ((-2) : Int32).toInt = (-2) := by decide
    exact ret _ _ _ dX12_best_21 (show (((-2) : Int32) = S_best v1) from (by unfold S_best; repeat' split <;> first | rfl | (exfalso; omega)))
  · have c_6 : ¬ r_2.toInt = 0 := ci_eq_f c_6
    have b_r_2 := i32b r_2
    have d_8 : 0 ≤ t_1.toInt ∧ t_1.toInt ≤ 3 := by omega
    clear i_4
    refine lv_iload_n hx hb dX12_best_12 rfl (lv_at hl 1 rfl) ?_
    refine rosi (As := [.int v1]) (rest := []) ⟨hx, hb, hml, hown, hts⟩ (b_X12_bestBy l G D cB cI cJ cZ cS cT v1 (by first | assumption | (have := zI0; have := zI1; have := zIm; omega) | decide)) (csB (n := 1) (inr63 _ (List.mem_of_getElem? (i := 2) rfl)) (inr63 _ (List.mem_of_getElem? (i := 3) rfl)) (inr1 _ (List.mem_of_getElem? (i := 5) rfl)) (inr63 _ (List.mem_of_getElem? (i := 4) rfl)) (by decide +kernel) hts rfl rfl ⟨Nat.le_of_ble_eq_true rfl, Nat.le_of_ble_eq_true rfl⟩) (hP.sub [] rfl) hK hN hT rfl hl.1 rfl (Nat.le_of_ble_eq_true rfl) ⟨Nat.le_of_ble_eq_true rfl, Nat.le_of_ble_eq_true rfl⟩ dX12_best_13 (fun r_9 h_10 => ?_)
    have h_10 : (r_9 = S_best v1) := h_10
    have i_11 := h_10
    refine lv_goto (tgt := 21) hx hb dX12_best_16 (by decide) ?_
    exact ret _ _ _ dX12_best_21 (show (r_9 = S_best v1) from i_11)

set_option maxHeartbeats 4000000 in
set_option maxRecDepth 100000 in
theorem b_X12_power_l5 {p : Program} {l : Launch} {e : Env} {s : State} {m : MethodId} {args : Array Value} {below : List Frame} {meth : Method} {c : Code} {Q : State → Prop} {G : Gho} {D : va_G} {cB cI cJ cZ cS cT : ClassId} (v0 : Int64) (v2 : Int32)  (C : Cx p s m args c RX12 cX12_power 6 G D (tyL cB cI cJ cZ cS cT)) (hP : va_P D vwCl [] s.heap) (ret : RroL p l e ({ frames := 0, cells := 0, slots := 0, locals := 0 }) s m args below meth c cX12_power (fun r : Int64 => (p10 v0 v2 r)) Q) :
    ∀ (N : Nat) (l5_5 : Int32) (l5_3 : Int64) (ls : Array Slot), 0 ≤ l5_5.toInt → l5_5.toInt ≤ v2.toInt ∨ l5_5.toInt = 0 → powI v0 l5_3 l5_5 → (v2.toInt - l5_5.toInt).toNat < N → lv_has ls 6 [(5, .int l5_5), (3, .long l5_3), (0, .long v0), (2, .int v2)] → W p l e ({ frames := 0, cells := 0, slots := 0, locals := 0 }) s m args below meth c s.heap [] 0 0 Q (F0 m 5 ls []) := by
  obtain ⟨hx, hb, hml, hown, hts, hK, hN, hT⟩ := id C
  intro N
  induction N with
  | zero =>
    intro l5_5 l5_3 ls kl5_5 kq kp hM_5 hl
    omega
  | succ N_5 ih_5 =>
    intro l5_5 l5_3 ls kl5_5 kq kp hM_5 hl
    have b_l5_5 := i32b l5_5
    refine lv_iload hx hb dX12_power_5 (lv_at hl 0 rfl) ?_
    refine lv_iload_n hx hb dX12_power_7 rfl (lv_at hl 3 rfl) ?_
    refine lv_icmp_ge (tgt := 21) hx hb dX12_power_8 (by decide) (fun c_1 => ?_) (fun c_1 => ?_)
    · have c_1 : v2.toInt ≤ l5_5.toInt := ci_ge_t c_1
      have b_v2 := i32b v2
      refine lv_lload_n hx hb dX12_power_21 rfl (lv_at hl 1 rfl) ?_
      exact ret _ _ _ dX12_power_22 (show (p10 v0 v2 l5_3) from (fun hb hn => powI_end kp hb (by omega)))
    · have c_1 : l5_5.toInt < v2.toInt := ci_ge_f c_1
      have b_v2 := i32b v2
      refine lv_lload_n hx hb dX12_power_11 rfl (lv_at hl 1 rfl) ?_
      refine lv_lload_n hx hb dX12_power_12 rfl (lv_at hl 2 rfl) ?_
      obtain ⟨t_2, et_2⟩ : ∃ v9 : Int64, l5_3 * v0 = v9 := ⟨_, rfl⟩
      refine z_lmul (v := t_2) hx hb dX12_power_13 et_2 ?_
      refine lv_lstore_n (lv' := [(3, .long t_2), (5, .int l5_5), (0, .long v0), (2, .int v2)]) hx hb dX12_power_14 rfl hl (by decide) rfl (fun ls hl => ?_)
      obtain ⟨t_3, et_3⟩ : ∃ v9 : Int32, l5_5 + 1 = v9 := ⟨_, rfl⟩
      have ft_3 : t_3.toInt = l5_5.toInt + 1 := addT (a := l5_5.toInt) (b := 1) rfl (by decide) et_3 (by omega) (by omega)
      refine lv_iinc (v := t_3) (lv' := [(5, .int t_3), (3, .long t_2), (0, .long v0), (2, .int v2)]) hx hb dX12_power_15 hl (k := 1) rfl (by rw [← et_3]; rfl) (by decide) rfl (fun ls hl => ?_)
      refine lv_goto (tgt := 5) hx hb dX12_power_18 (by decide) ?_
      exact ih_5 (t_3) (t_2) _ (by first | assumption | (have := zI0; have := zI1; have := zIm; omega) | decide) (by omega) (powI_step kp et_2 (by omega) (by omega)) (by omega) (lv_sub hl [0, 1, 2, 3] rfl)

set_option maxHeartbeats 4000000 in
set_option maxRecDepth 100000 in
theorem b_X12_power (l : Launch) (G : Gho) (D : va_G) (cB cI cJ cZ cS cT : ClassId) (v0 : Int64) (v2 : Int32)  : Met l yX12_power (Cond.code yX12_power cX12_power 6 (some .long) :: wsL_law) ({ frames := 0, cells := 0, slots := 0, locals := 0 }) (roP G D (tyL cB cI cJ cZ cS cT) [] [.long v0, .int v2]) (vp_Sl (fun r : Int64 => (p10 v0 v2 r))) 0 0 (fun _ => False) := by
  refine metROL (own := RX12) (by decide) rfl ?_
  intro p e s m below meth c Q C hP ret
  obtain ⟨hx, hb, hml, hown, hts, hK, hN, hT⟩ := id C
  have hl := lv_entry ([.long v0, .int v2]) (n := 6) (Nat.le_of_ble_eq_true rfl)
  rw [lg_entry_eq]
  generalize (lg_sl ([.long v0, .int v2]) ++ List.replicate (6 - (lg_sl ([.long v0, .int v2])).length) Slot.unset).toArray = ls at hl ⊢
  have hl : lv_has ls 6 [(0, .long v0), (2, .int v2)] := hl
  have hP : va_P D vwCl [] s.heap := hP
  refine lv_lconst (v := 1) hx hb dX12_power_0 (by decide) ?_
  refine lv_lstore_n (lv' := [(3, .long 1), (0, .long v0), (2, .int v2)]) hx hb dX12_power_1 rfl hl (by decide) rfl (fun ls hl => ?_)
  refine lv_iconst (v := 0) hx hb dX12_power_2 (by decide) ?_
  refine lv_istore (lv' := [(5, .int 0), (3, .long 1), (0, .long v0), (2, .int v2)]) hx hb dX12_power_3 hl (by decide) rfl (fun ls hl => ?_)
  exact b_X12_power_l5 v0 v2  C (hP.sub [] rfl) ret _ (0) (1) _ (by first | assumption | (have := zI0; have := zI1; have := zIm; omega) | decide) (Or.inr (by decide)) (fun _ _ => by decide) (Nat.lt_succ_self _) (lv_sub hl [0, 1, 2, 3] rfl)

set_option maxHeartbeats 4000000 in
set_option maxRecDepth 100000 in
theorem b_X12_divisor_l6 {p : Program} {l : Launch} {e : Env} {s : State} {m : MethodId} {args : Array Value} {below : List Frame} {meth : Method} {c : Code} {Q : State → Prop} {G : Gho} {D : va_G} {cB cI cJ cZ cS cT : ClassId} (v0 : Int64) (v2 : Int64) (hne : ¬ v0.toInt = 0 ∨ ¬ v2.toInt = 0) (C : Cx p s m args c RX12 cX12_divisor 10 G D (tyL cB cI cJ cZ cS cT)) (hP : va_P D vwCl [] s.heap) (ret : RroL p l e ({ frames := 0, cells := 0, slots := 0, locals := 0 }) s m args below meth c cX12_divisor (fun r : Int64 => (¬ r.toInt = 0)) Q) :
    ∀ (N : Nat) (l6_6 : Int64) (l6_4 : Int64) (ls : Array Slot), ¬ l6_4.toInt = 0 ∨ ¬ l6_6.toInt = 0 → ((l6_6.toInt.natAbs : Int)).toNat < N → lv_has ls 10 [(6, .long l6_6), (4, .long l6_4)] → W p l e ({ frames := 0, cells := 0, slots := 0, locals := 0 }) s m args below meth c s.heap [] 0 0 Q (F0 m 6 ls []) := by
  obtain ⟨hx, hb, hml, hown, hts, hK, hN, hT⟩ := id C
  intro N
  induction N with
  | zero =>
    intro l6_6 l6_4 ls kn hM_6 hl
    omega
  | succ N_6 ih_6 =>
    intro l6_6 l6_4 ls kn hM_6 hl
    refine lv_lload hx hb dX12_divisor_6 (lv_at hl 0 rfl) ?_
    refine lv_lconst (v := 0) hx hb dX12_divisor_8 (by decide) ?_
    obtain ⟨t_1, et_1⟩ : ∃ v9 : Int32, lg_cmp l6_6 0 = v9 := ⟨_, rfl⟩
    refine z_lcmp (v := t_1) hx hb dX12_divisor_9 et_1 ?_
    refine lv_if_eq (tgt := 31) hx hb dX12_divisor_10 (by decide) (fun c_2 => ?_) (fun c_2 => ?_)
    · have c_2 : l6_6.toInt = 0 := cl_eq_t et_1 c_2
      refine lv_lload hx hb dX12_divisor_31 (lv_at hl 1 rfl) ?_
      exact ret _ _ _ dX12_divisor_33 (show (¬ l6_4.toInt = 0) from (by omega))
    · have c_2 : ¬ l6_6.toInt = 0 := cl_eq_f et_1 c_2
      refine lv_lload hx hb dX12_divisor_13 (lv_at hl 1 rfl) ?_
      refine lv_lload hx hb dX12_divisor_15 (lv_at hl 0 rfl) ?_
      obtain ⟨t_3, et_3⟩ : ∃ v9 : Int64, l6_4 - l6_4 / l6_6 * l6_6 = v9 := ⟨_, rfl⟩
      refine z_lrem (v := t_3) hx hb dX12_divisor_17 (ne0L (by omega)) et_3 ?_
      have hab := remA (by omega : ¬ l6_6.toInt = 0) et_3
      refine lv_lstore (lv' := [(8, .long t_3), (6, .long l6_6), (4, .long l6_4)]) hx hb dX12_divisor_18 hl (by decide) rfl (fun ls hl => ?_)
      refine lv_lload hx hb dX12_divisor_20 (lv_at hl 1 rfl) ?_
      refine lv_lstore (lv' := [(4, .long l6_6), (8, .long t_3), (6, .long l6_6)]) hx hb dX12_divisor_22 hl (by decide) rfl (fun ls hl => ?_)
      refine lv_lload hx hb dX12_divisor_24 (lv_at hl 1 rfl) ?_
      refine lv_lstore (lv' := [(6, .long t_3), (4, .long l6_6), (8, .long t_3)]) hx hb dX12_divisor_26 hl (by decide) rfl (fun ls hl => ?_)
      refine lv_goto (tgt := 6) hx hb dX12_divisor_28 (by decide) ?_
      exact ih_6 (t_3) (l6_6) _ (by first | assumption | (have := zI0; have := zI1; have := zIm; omega) | decide) (by omega) (lv_sub hl [0, 1] rfl)

set_option maxHeartbeats 4000000 in
set_option maxRecDepth 100000 in
theorem b_X12_divisor (l : Launch) (G : Gho) (D : va_G) (cB cI cJ cZ cS cT : ClassId) (v0 : Int64) (v2 : Int64) (hne : ¬ v0.toInt = 0 ∨ ¬ v2.toInt = 0) : Met l yX12_divisor (Cond.code yX12_divisor cX12_divisor 10 (some .long) :: wsL_law) ({ frames := 0, cells := 0, slots := 0, locals := 0 }) (roP G D (tyL cB cI cJ cZ cS cT) [] [.long v0, .long v2]) (vp_Sl (fun r : Int64 => (¬ r.toInt = 0))) 0 0 (fun _ => False) := by
  refine metROL (own := RX12) (by decide) rfl ?_
  intro p e s m below meth c Q C hP ret
  obtain ⟨hx, hb, hml, hown, hts, hK, hN, hT⟩ := id C
  have hl := lv_entry ([.long v0, .long v2]) (n := 10) (Nat.le_of_ble_eq_true rfl)
  rw [lg_entry_eq]
  generalize (lg_sl ([.long v0, .long v2]) ++ List.replicate (10 - (lg_sl ([.long v0, .long v2])).length) Slot.unset).toArray = ls at hl ⊢
  have hl : lv_has ls 10 [(0, .long v0), (2, .long v2)] := hl
  have hP : va_P D vwCl [] s.heap := hP
  refine lv_lload_n hx hb dX12_divisor_0 rfl (lv_at hl 0 rfl) ?_
  refine lv_lstore (lv' := [(4, .long v0), (0, .long v0), (2, .long v2)]) hx hb dX12_divisor_1 hl (by decide) rfl (fun ls hl => ?_)
  refine lv_lload_n hx hb dX12_divisor_3 rfl (lv_at hl 2 rfl) ?_
  refine lv_lstore (lv' := [(6, .long v2), (4, .long v0), (0, .long v0), (2, .long v2)]) hx hb dX12_divisor_4 hl (by decide) rfl (fun ls hl => ?_)
  exact b_X12_divisor_l6 v0 v2 (by first | assumption | (have := zI0; have := zI1; have := zIm; omega) | decide) C (hP.sub [] rfl) ret _ (v2) (v0) _ (by first | assumption | (have := zI0; have := zI1; have := zIm; omega) | decide) (Nat.lt_succ_self _) (lv_sub hl [0, 1] rfl)

set_option maxHeartbeats 4000000 in
set_option maxRecDepth 100000 in
theorem b_X12_mayLose_l4 {p : Program} {l : Launch} {e : Env} {s : State} {m : MethodId} {args : Array Value} {below : List Frame} {meth : Method} {c : Code} {Q : State → Prop} {G : Gho} {D : va_G} {cB cI cJ cZ cS cT : ClassId} (h0 : Nat) (v0_thrown : Int32) (h_world : Nat) (h_images : Nat) (h_hasImage : Nat) (h_tape : Nat) (v0_taped : Int32) (h_five : Nat) (v0_size : Int32) (v0_at : Int32) (v0_from : Int32) (v0_token : Int32) (v0_value : Int32) (v0_faultKind : Int32) (v0_faultPlace : Int32) (h_fresh : Nat) (h_spokenAt : Nat) (h_heardAt : Nat) (h_lastAt : Nat) (h_answerAt : Nat) (v0_lawA : Int32) (v0_lawB : Int32) (v0_lawC : Int32) (v0_drawX : Int64) (v0_isDrawn : Int32) (v0_lostMany : Int32) (h_heardNow : Nat) (h_seenAt : Nat) (v0_roundFrom : Int32) (v0_roundTo : Int32) (v0_goLast : Int32) (v0_goAnswer : Int32) (v0_goHeard : Int32) (h_fewest : Nat) (h_costNow : Nat) (h_costThen : Nat) (h_lawsOf : Nat) (h_heardBy : Nat) (v0_lawMany : Int32) (v0_askWorst : Int32) (h_placesOf : Nat) (h_sentIn : Nat) (v0_placeMany : Int32) (v0_parentFirst : Int32) (h_lostBy : Nat) (h_many : Nat) (h_width : Nat) (h_numbers : Nat) (h_moving : Nat) (f_spokenAt : Nat → Int32) (f_world : Nat → Int32) (v1 : Int32) (iv0_taped : 0 ≤ v0_taped.toInt ∧ v0_taped.toInt ≤ 500) (iv0_size : 0 ≤ v0_size.toInt ∧ v0_size.toInt ≤ 500) (iv0_at : 0 ≤ v0_at.toInt ∧ v0_at.toInt ≤ 500) (iv0_from : 0 ≤ v0_from.toInt ∧ v0_from.toInt ≤ 500) (iv0_faultKind : 0 ≤ v0_faultKind.toInt ∧ v0_faultKind.toInt ≤ 3) (iv0_lawA : 0 ≤ v0_lawA.toInt ∧ v0_lawA.toInt ≤ 8) (iv0_lawB : 0 ≤ v0_lawB.toInt ∧ v0_lawB.toInt ≤ 8) (iv0_lawC : 0 ≤ v0_lawC.toInt ∧ v0_lawC.toInt ≤ 9) (iv0_isDrawn : 0 ≤ v0_isDrawn.toInt ∧ v0_isDrawn.toInt ≤ 1) (iv0_roundFrom : 0 ≤ v0_roundFrom.toInt ∧ v0_roundFrom.toInt ≤ 648) (iv0_roundTo : 0 ≤ v0_roundTo.toInt ∧ v0_roundTo.toInt ≤ 648) (iv0_goLast : 0 ≤ v0_goLast.toInt ∧ v0_goLast.toInt ≤ 8) (iv0_goAnswer : 0 ≤ v0_goAnswer.toInt ∧ v0_goAnswer.toInt ≤ 8) (iv0_lawMany : 0 ≤ v0_lawMany.toInt ∧ v0_lawMany.toInt ≤ 729) (iv0_placeMany : 0 ≤ v0_placeMany.toInt ∧ v0_placeMany.toInt ≤ 100) (pf_spokenAt : sg sgSp f_spokenAt) (pf_world : sg sgWo f_world) (cf_world : 0 < (f_world 9).toInt → 2 ≤ (f_world 0).toInt) (hv1 : 0 ≤ v1.toInt ∧ v1.toInt ≤ 60) (zv1 : 0 ≤ v1.toInt ∧ v1.toInt ≤ 60) (C : Cx p s m args c RX12 cX12_mayLose 4 G D (tyL cB cI cJ cZ cS cT)) (hP : va_P D vwCl [(mO h0 v0_thrown h_world h_images h_hasImage h_tape v0_taped h_five v0_size v0_at v0_from v0_token v0_value v0_faultKind v0_faultPlace h_fresh h_spokenAt h_heardAt h_lastAt h_answerAt v0_lawA v0_lawB v0_lawC v0_drawX v0_isDrawn v0_lostMany h_heardNow h_seenAt v0_roundFrom v0_roundTo v0_goLast v0_goAnswer v0_goHeard h_fewest h_costNow h_costThen h_lawsOf h_heardBy v0_lawMany v0_askWorst h_placesOf h_sentIn v0_placeMany v0_parentFirst h_lostBy h_many h_width h_numbers h_moving), (h_spokenAt, .inl (cI, 61, .inl f_spokenAt)), (h_world, .inl (cI, 53, .inl f_world))] s.heap) (ret : RroI p l e ({ frames := 2, cells := 0, slots := 0, locals := 42 }) s m args below meth c cX12_mayLose (fun r : Int32 => (0 ≤ r.toInt ∧ r.toInt ≤ v1.toInt + 1)) Q) :
    ∀ (N : Nat) (l4_3 : Int32) (l4_2 : Int32) (ls : Array Slot), 0 ≤ l4_3.toInt → 0 ≤ l4_2.toInt ∧ l4_2.toInt ≤ l4_3.toInt ∧ l4_3.toInt ≤ v1.toInt + 1 → (v1.toInt - l4_3.toInt + 1).toNat < N → lv_has ls 4 [(3, .int l4_3), (2, .int l4_2), (0, .ref h0), (1, .int v1)] → W p l e ({ frames := 2, cells := 0, slots := 0, locals := 42 }) s m args below meth c s.heap [] 0 0 Q (F0 m 4 ls []) := by
  obtain ⟨hx, hb, hml, hown, hts, hK, hN, hT⟩ := id C
  intro N
  induction N with
  | zero =>
    intro l4_3 l4_2 ls kl4_3 kc hM_4 hl
    omega
  | succ N_4 ih_4 =>
    intro l4_3 l4_2 ls kl4_3 kc hM_4 hl
    have b_l4_3 := i32b l4_3
    refine lv_iload_n hx hb dX12_mayLose_4 rfl (lv_at hl 0 rfl) ?_
    refine lv_iload_n hx hb dX12_mayLose_5 rfl (lv_at hl 3 rfl) ?_
    refine lv_icmp_gt (tgt := 41) hx hb dX12_mayLose_6 (by decide) (fun c_1 => ?_) (fun c_1 => ?_)
    · have c_1 : v1.toInt < l4_3.toInt := ci_gt_t c_1
      have b_v1 := i32b v1
      refine lv_iload_n hx hb dX12_mayLose_41 rfl (lv_at hl 1 rfl) ?_
      exact ret _ _ _ dX12_mayLose_42 (show (0 ≤ l4_2.toInt ∧ l4_2.toInt ≤ v1.toInt + 1) from (by first | assumption | (have := zI0; have := zI1; have := zIm; omega) | decide))
    · have c_1 : l4_3.toInt ≤ v1.toInt := ci_gt_f c_1
      have b_v1 := i32b v1
      refine lv_iload_n hx hb dX12_mayLose_9 rfl (lv_at hl 1 rfl) ?_
      refine lv_aload_n hx hb dX12_mayLose_10 rfl (lv_at hl 2 rfl) ?_
      refine lv_iload_n hx hb dX12_mayLose_11 rfl (lv_at hl 0 rfl) ?_
      refine roi (As := [.int l4_3]) (rest := [.int l4_2]) ⟨hx, hb, hml, hown, hts⟩ (b_X12_isGap l G D cB cI cJ cZ cS cT h0 v0_thrown h_world h_images h_hasImage h_tape v0_taped h_five v0_size v0_at v0_from v0_token v0_value v0_faultKind v0_faultPlace h_fresh h_spokenAt h_heardAt h_lastAt h_answerAt v0_lawA v0_lawB v0_lawC v0_drawX v0_isDrawn v0_lostMany h_heardNow h_seenAt v0_roundFrom v0_roundTo v0_goLast v0_goAnswer v0_goHeard h_fewest h_costNow h_costThen h_lawsOf h_heardBy v0_lawMany v0_askWorst h_placesOf h_sentIn v0_placeMany v0_parentFirst h_lostBy h_many h_width h_numbers h_moving f_world l4_3 (by first | assumption | (have := zI0; have := zI1; have := zIm; omega) | decide) (by first | assumption | (have := zI0; have := zI1; have := zIm; omega) | decide) (by first | assumption | (have := zI0; have := zI1; have := zIm; omega) | decide) (by first | assumption | (have := zI0; have := zI1; have := zIm; omega) | decide) (by first | assumption | (have := zI0; have := zI1; have := zIm; omega) | decide) (by first | assumption | (have := zI0; have := zI1; have := zIm; omega) | decide) (by first | assumption | (have := zI0; have := zI1; have := zIm; omega) | decide) (by first | assumption | (have := zI0; have := zI1; have := zIm; omega) | decide) (by first | assumption | (have := zI0; have := zI1; have := zIm; omega) | decide) (by first | assumption | (have := zI0; have := zI1; have := zIm; omega) | decide) (by first | assumption | (have := zI0; have := zI1; have := zIm; omega) | decide) (by first | assumption | (have := zI0; have := zI1; have := zIm; omega) | decide) (by first | assumption | (have := zI0; have := zI1; have := zIm; omega) | decide) (by first | assumption | (have := zI0; have := zI1; have := zIm; omega) | decide) (by first | assumption | (have := zI0; have := zI1; have := zIm; omega) | decide) (by first | assumption | (have := zI0; have := zI1; have := zIm; omega) | decide) (by first | assumption | (have := zI0; have := zI1; have := zIm; omega) | decide) (by first | assumption | (have := zI0; have := zI1; have := zIm; omega) | decide)) (cvB (n := 1) (inr25 _ (List.mem_of_getElem? (i := 18) rfl)) (inr25 _ (List.mem_of_getElem? (i := 19) rfl)) (inr25 _ (List.mem_of_getElem? (i := 20) rfl)) (inr1 _ (List.mem_of_getElem? (i := 5) rfl)) (inr25 _ (List.mem_of_getElem? (i := 21) rfl)) (by decide +kernel) hts rfl rfl ⟨Nat.le_of_ble_eq_true rfl, Nat.le_of_ble_eq_true rfl⟩) 0 12 rfl rfl rfl (hP.sub [0, 2] rfl) hK hN hT rfl hl.1 rfl (Nat.le_of_ble_eq_true rfl) ⟨Nat.le_of_ble_eq_true rfl, Nat.le_of_ble_eq_true rfl⟩ dX12_mayLose_12 (fun r_2 h_3 => ?_)
      have h_3 : ((r_2.toInt = 1 ∧ 0 < (f_world 6).toInt ∧ sgnN f_world l4_3.toInt = -1) ∨ (r_2.toInt = 0 ∧ ((f_world 6).toInt ≤ 0 ∨ ¬ sgnN f_world l4_3.toInt = -1))) ∧ (r_2 = 0 ∨ r_2 = 1) := h_3
      obtain ⟨i_4, i_5⟩ := h_3
      have ar_2 : 0 ≤ r_2.toInt ∧ r_2.toInt ≤ 1 := by rcases i_5 with h | h <;> rw [h] <;> decide
      refine lv_if_eq (tgt := 32) hx hb dX12_mayLose_15 (by decide) (fun c_6 => ?_) (fun c_6 => ?_)
      · have c_6 : r_2.toInt = 0 := ci_eq_t c_6
        have b_r_2 := i32b r_2
        have d_7 : ((f_world 6).toInt ≤ 0 ∨ ¬ sgnN f_world l4_3.toInt = -1) := by omega
        clear i_4
        refine lv_iconst (v := 0) hx hb dX12_mayLose_32 (by decide) ?_
        obtain ⟨t_8, et_8⟩ : ∃ v9 : Int32, l4_2 + 0 = v9 := ⟨_, rfl⟩
        refine z_iadd (v := t_8) hx hb dX12_mayLose_33 et_8 ?_
        have b_l4_2 := i32b l4_2
        have ft_8 : t_8.toInt = l4_2.toInt + 0 := addT (a := l4_2.toInt) (b := 0) rfl (by decide) et_8 (by omega) (by omega)
        refine lv_istore_n (lv' := [(2, .int t_8), (3, .int l4_3), (0, .ref h0), (1, .int v1)]) hx hb dX12_mayLose_34 rfl hl (by decide) rfl (fun ls hl => ?_)
        obtain ⟨t_9, et_9⟩ : ∃ v9 : Int32, l4_3 + 1 = v9 := ⟨_, rfl⟩
        have ft_9 : t_9.toInt = l4_3.toInt + 1 := addT (a := l4_3.toInt) (b := 1) rfl (by decide) et_9 (by omega) (by omega)
        refine lv_iinc (v := t_9) (lv' := [(3, .int t_9), (2, .int t_8), (0, .ref h0), (1, .int v1)]) hx hb dX12_mayLose_35 hl (k := 1) rfl (by rw [← et_9]; rfl) (by decide) rfl (fun ls hl => ?_)
        refine lv_goto (tgt := 4) hx hb dX12_mayLose_38 (by decide) ?_
        exact ih_4 (t_9) (t_8) _ (by first | assumption | (have := zI0; have := zI1; have := zIm; omega) | decide) (by omega) (by omega) (lv_sub hl [0, 1, 2, 3] rfl)
      · have c_6 : ¬ r_2.toInt = 0 := ci_eq_f c_6
        have b_r_2 := i32b r_2
        have d_10 : 0 < (f_world 6).toInt ∧ sgnN f_world l4_3.toInt = -1 := by omega
        clear i_4
        refine lv_aload_n hx hb dX12_mayLose_18 rfl (lv_at hl 2 rfl) ?_
        refine va_get (D := D) (ci := 12) (v := .ref h_spokenAt) (C := RX12) (T := TX12) (N := 48) hx hb hts inlX12 hown hK hP 0 rfl rfl 15 (by decide) (hts _ (inr6 _ (List.mem_of_getElem? (i := 23) rfl))) (fun _ h9 => h9) rfl dX12_mayLose_19 ?_
        refine lv_iload_n hx hb dX12_mayLose_22 rfl (lv_at hl 0 rfl) ?_
        obtain ⟨t_11, et_11⟩ : ∃ v9 : Int32, f_spokenAt (l4_3 : Int32).toNatClampNeg = v9 := ⟨_, rfl⟩
        refine z_iald (v := t_11) hx hb hK hP 1 1 rfl rfl (vin_nat (by omega) (by omega)) et_11 dX12_mayLose_23 ?_
        have ft_11 : (-1) ≤ t_11.toInt ∧ t_11.toInt ≤ 8 := sgL (by assumption : sg sgSp f_spokenAt) 0 rfl (by omega) (by omega) (by omega) et_11
        refine lv_iconst (v := (-1)) hx hb dX12_mayLose_24 (by decide) ?_
        refine lv_icmp_ne (tgt := 32) hx hb dX12_mayLose_25 (by decide) (fun c_12 => ?_) (fun c_12 => ?_)
        · have c_12 : ¬ t_11.toInt = (-1) := ci_ne_t c_12
          have b_t_11 := i32b t_11
          refine lv_iconst (v := 0) hx hb dX12_mayLose_32 (by decide) ?_
          obtain ⟨t_13, et_13⟩ : ∃ v9 : Int32, l4_2 + 0 = v9 := ⟨_, rfl⟩
          refine z_iadd (v := t_13) hx hb dX12_mayLose_33 et_13 ?_
          have b_l4_2 := i32b l4_2
          have ft_13 : t_13.toInt = l4_2.toInt + 0 := addT (a := l4_2.toInt) (b := 0) rfl (by decide) et_13 (by omega) (by omega)
          refine lv_istore_n (lv' := [(2, .int t_13), (3, .int l4_3), (0, .ref h0), (1, .int v1)]) hx hb dX12_mayLose_34 rfl hl (by decide) rfl (fun ls hl => ?_)
          obtain ⟨t_14, et_14⟩ : ∃ v9 : Int32, l4_3 + 1 = v9 := ⟨_, rfl⟩
          have ft_14 : t_14.toInt = l4_3.toInt + 1 := addT (a := l4_3.toInt) (b := 1) rfl (by decide) et_14 (by omega) (by omega)
          refine lv_iinc (v := t_14) (lv' := [(3, .int t_14), (2, .int t_13), (0, .ref h0), (1, .int v1)]) hx hb dX12_mayLose_35 hl (k := 1) rfl (by rw [← et_14]; rfl) (by decide) rfl (fun ls hl => ?_)
          refine lv_goto (tgt := 4) hx hb dX12_mayLose_38 (by decide) ?_
          exact ih_4 (t_14) (t_13) _ (by first | assumption | (have := zI0; have := zI1; have := zIm; omega) | decide) (by omega) (by omega) (lv_sub hl [0, 1, 2, 3] rfl)
        · have c_12 : t_11.toInt = (-1) := ci_ne_f c_12
          have b_t_11 := i32b t_11
          refine lv_iconst (v := 1) hx hb dX12_mayLose_28 (by decide) ?_
          refine lv_goto (tgt := 33) hx hb dX12_mayLose_29 (by decide) ?_
          obtain ⟨t_15, et_15⟩ : ∃ v9 : Int32, l4_2 + 1 = v9 := ⟨_, rfl⟩
          refine z_iadd (v := t_15) hx hb dX12_mayLose_33 et_15 ?_
          have b_l4_2 := i32b l4_2
          have ft_15 : t_15.toInt = l4_2.toInt + 1 := addT (a := l4_2.toInt) (b := 1) rfl (by decide) et_15 (by omega) (by omega)
          refine lv_istore_n (lv' := [(2, .int t_15), (3, .int l4_3), (0, .ref h0), (1, .int v1)]) hx hb dX12_mayLose_34 rfl hl (by decide) rfl (fun ls hl => ?_)
          obtain ⟨t_16, et_16⟩ : ∃ v9 : Int32, l4_3 + 1 = v9 := ⟨_, rfl⟩
          have ft_16 : t_16.toInt = l4_3.toInt + 1 := addT (a := l4_3.toInt) (b := 1) rfl (by decide) et_16 (by omega) (by omega)
          refine lv_iinc (v := t_16) (lv' := [(3, .int t_16), (2, .int t_15), (0, .ref h0), (1, .int v1)]) hx hb dX12_mayLose_35 hl (k := 1) rfl (by rw [← et_16]; rfl) (by decide) rfl (fun ls hl => ?_)
          refine lv_goto (tgt := 4) hx hb dX12_mayLose_38 (by decide) ?_
          exact ih_4 (t_16) (t_15) _ (by first | assumption | (have := zI0; have := zI1; have := zIm; omega) | decide) (by omega) (by omega) (lv_sub hl [0, 1, 2, 3] rfl)

set_option maxHeartbeats 4000000 in
set_option maxRecDepth 100000 in
theorem b_X12_mayLose (l : Launch) (G : Gho) (D : va_G) (cB cI cJ cZ cS cT : ClassId) (h0 : Nat) (v0_thrown : Int32) (h_world : Nat) (h_images : Nat) (h_hasImage : Nat) (h_tape : Nat) (v0_taped : Int32) (h_five : Nat) (v0_size : Int32) (v0_at : Int32) (v0_from : Int32) (v0_token : Int32) (v0_value : Int32) (v0_faultKind : Int32) (v0_faultPlace : Int32) (h_fresh : Nat) (h_spokenAt : Nat) (h_heardAt : Nat) (h_lastAt : Nat) (h_answerAt : Nat) (v0_lawA : Int32) (v0_lawB : Int32) (v0_lawC : Int32) (v0_drawX : Int64) (v0_isDrawn : Int32) (v0_lostMany : Int32) (h_heardNow : Nat) (h_seenAt : Nat) (v0_roundFrom : Int32) (v0_roundTo : Int32) (v0_goLast : Int32) (v0_goAnswer : Int32) (v0_goHeard : Int32) (h_fewest : Nat) (h_costNow : Nat) (h_costThen : Nat) (h_lawsOf : Nat) (h_heardBy : Nat) (v0_lawMany : Int32) (v0_askWorst : Int32) (h_placesOf : Nat) (h_sentIn : Nat) (v0_placeMany : Int32) (v0_parentFirst : Int32) (h_lostBy : Nat) (h_many : Nat) (h_width : Nat) (h_numbers : Nat) (h_moving : Nat) (f_spokenAt : Nat → Int32) (f_world : Nat → Int32) (v1 : Int32) (iv0_taped : 0 ≤ v0_taped.toInt ∧ v0_taped.toInt ≤ 500) (iv0_size : 0 ≤ v0_size.toInt ∧ v0_size.toInt ≤ 500) (iv0_at : 0 ≤ v0_at.toInt ∧ v0_at.toInt ≤ 500) (iv0_from : 0 ≤ v0_from.toInt ∧ v0_from.toInt ≤ 500) (iv0_faultKind : 0 ≤ v0_faultKind.toInt ∧ v0_faultKind.toInt ≤ 3) (iv0_lawA : 0 ≤ v0_lawA.toInt ∧ v0_lawA.toInt ≤ 8) (iv0_lawB : 0 ≤ v0_lawB.toInt ∧ v0_lawB.toInt ≤ 8) (iv0_lawC : 0 ≤ v0_lawC.toInt ∧ v0_lawC.toInt ≤ 9) (iv0_isDrawn : 0 ≤ v0_isDrawn.toInt ∧ v0_isDrawn.toInt ≤ 1) (iv0_roundFrom : 0 ≤ v0_roundFrom.toInt ∧ v0_roundFrom.toInt ≤ 648) (iv0_roundTo : 0 ≤ v0_roundTo.toInt ∧ v0_roundTo.toInt ≤ 648) (iv0_goLast : 0 ≤ v0_goLast.toInt ∧ v0_goLast.toInt ≤ 8) (iv0_goAnswer : 0 ≤ v0_goAnswer.toInt ∧ v0_goAnswer.toInt ≤ 8) (iv0_lawMany : 0 ≤ v0_lawMany.toInt ∧ v0_lawMany.toInt ≤ 729) (iv0_placeMany : 0 ≤ v0_placeMany.toInt ∧ v0_placeMany.toInt ≤ 100) (pf_spokenAt : sg sgSp f_spokenAt) (pf_world : sg sgWo f_world) (cf_world : 0 < (f_world 9).toInt → 2 ≤ (f_world 0).toInt) (hv1 : 0 ≤ v1.toInt ∧ v1.toInt ≤ 60) : Met l yX12_mayLose (Cond.code yX12_mayLose cX12_mayLose 4 (some .int) :: wsL_law) ({ frames := 2, cells := 0, slots := 0, locals := 42 }) (roP G D (tyL cB cI cJ cZ cS cT) [(mO h0 v0_thrown h_world h_images h_hasImage h_tape v0_taped h_five v0_size v0_at v0_from v0_token v0_value v0_faultKind v0_faultPlace h_fresh h_spokenAt h_heardAt h_lastAt h_answerAt v0_lawA v0_lawB v0_lawC v0_drawX v0_isDrawn v0_lostMany h_heardNow h_seenAt v0_roundFrom v0_roundTo v0_goLast v0_goAnswer v0_goHeard h_fewest h_costNow h_costThen h_lawsOf h_heardBy v0_lawMany v0_askWorst h_placesOf h_sentIn v0_placeMany v0_parentFirst h_lostBy h_many h_width h_numbers h_moving), (h_spokenAt, .inl (cI, 61, .inl f_spokenAt)), (h_world, .inl (cI, 53, .inl f_world))] [.ref h0, .int v1]) (vp_Si (fun r : Int32 => (0 ≤ r.toInt ∧ r.toInt ≤ v1.toInt + 1))) 0 0 (fun _ => False) := by
  refine metRO (own := RX12) (by decide) rfl ?_
  intro p e s m below meth c Q C hP ret
  obtain ⟨hx, hb, hml, hown, hts, hK, hN, hT⟩ := id C
  have hl := lv_entry ([.ref h0, .int v1]) (n := 4) (Nat.le_of_ble_eq_true rfl)
  rw [lg_entry_eq]
  generalize (lg_sl ([.ref h0, .int v1]) ++ List.replicate (4 - (lg_sl ([.ref h0, .int v1])).length) Slot.unset).toArray = ls at hl ⊢
  have hl : lv_has ls 4 [(0, .ref h0), (1, .int v1)] := hl
  have hP : va_P D vwCl [(mO h0 v0_thrown h_world h_images h_hasImage h_tape v0_taped h_five v0_size v0_at v0_from v0_token v0_value v0_faultKind v0_faultPlace h_fresh h_spokenAt h_heardAt h_lastAt h_answerAt v0_lawA v0_lawB v0_lawC v0_drawX v0_isDrawn v0_lostMany h_heardNow h_seenAt v0_roundFrom v0_roundTo v0_goLast v0_goAnswer v0_goHeard h_fewest h_costNow h_costThen h_lawsOf h_heardBy v0_lawMany v0_askWorst h_placesOf h_sentIn v0_placeMany v0_parentFirst h_lostBy h_many h_width h_numbers h_moving), (h_spokenAt, .inl (cI, 61, .inl f_spokenAt)), (h_world, .inl (cI, 53, .inl f_world))] s.heap := hP
  refine lv_iconst (v := 0) hx hb dX12_mayLose_0 (by decide) ?_
  refine lv_istore_n (lv' := [(2, .int 0), (0, .ref h0), (1, .int v1)]) hx hb dX12_mayLose_1 rfl hl (by decide) rfl (fun ls hl => ?_)
  refine lv_iconst (v := 0) hx hb dX12_mayLose_2 (by decide) ?_
  refine lv_istore_n (lv' := [(3, .int 0), (2, .int 0), (0, .ref h0), (1, .int v1)]) hx hb dX12_mayLose_3 rfl hl (by decide) rfl (fun ls hl => ?_)
  exact b_X12_mayLose_l4 h0 v0_thrown h_world h_images h_hasImage h_tape v0_taped h_five v0_size v0_at v0_from v0_token v0_value v0_faultKind v0_faultPlace h_fresh h_spokenAt h_heardAt h_lastAt h_answerAt v0_lawA v0_lawB v0_lawC v0_drawX v0_isDrawn v0_lostMany h_heardNow h_seenAt v0_roundFrom v0_roundTo v0_goLast v0_goAnswer v0_goHeard h_fewest h_costNow h_costThen h_lawsOf h_heardBy v0_lawMany v0_askWorst h_placesOf h_sentIn v0_placeMany v0_parentFirst h_lostBy h_many h_width h_numbers h_moving f_spokenAt f_world v1 (by first | assumption | (have := zI0; have := zI1; have := zIm; omega) | decide) (by first | assumption | (have := zI0; have := zI1; have := zIm; omega) | decide) (by first | assumption | (have := zI0; have := zI1; have := zIm; omega) | decide) (by first | assumption | (have := zI0; have := zI1; have := zIm; omega) | decide) (by first | assumption | (have := zI0; have := zI1; have := zIm; omega) | decide) (by first | assumption | (have := zI0; have := zI1; have := zIm; omega) | decide) (by first | assumption | (have := zI0; have := zI1; have := zIm; omega) | decide) (by first | assumption | (have := zI0; have := zI1; have := zIm; omega) | decide) (by first | assumption | (have := zI0; have := zI1; have := zIm; omega) | decide) (by first | assumption | (have := zI0; have := zI1; have := zIm; omega) | decide) (by first | assumption | (have := zI0; have := zI1; have := zIm; omega) | decide) (by first | assumption | (have := zI0; have := zI1; have := zIm; omega) | decide) (by first | assumption | (have := zI0; have := zI1; have := zIm; omega) | decide) (by first | assumption | (have := zI0; have := zI1; have := zIm; omega) | decide) (by first | assumption | (have := zI0; have := zI1; have := zIm; omega) | decide) (by first | assumption | (have := zI0; have := zI1; have := zIm; omega) | decide) (by first | assumption | (have := zI0; have := zI1; have := zIm; omega) | decide) (by first | assumption | (have := zI0; have := zI1; have := zIm; omega) | decide) (by first | assumption | (have := zI0; have := zI1; have := zIm; omega) | decide) (by first | assumption | (have := zI0; have := zI1; have := zIm; omega) | decide) C (hP.sub [0, 1, 2] rfl) ret _ (0) (0) _ (by first | assumption | (have := zI0; have := zI1; have := zIm; omega) | decide) (by have := zI0; omega) (Nat.lt_succ_self _) (lv_sub hl [0, 1, 2, 3] rfl)

set_option maxHeartbeats 4000000 in
set_option maxRecDepth 100000 in
theorem b_X12_chance (l : Launch) (G : Gho) (D : va_G) (cB cI cJ cZ cS cT : ClassId) (sz : Nat) (h0 : Nat) (v0_thrown : Int32) (h_world : Nat) (h_images : Nat) (h_hasImage : Nat) (h_tape : Nat) (v0_taped : Int32) (h_five : Nat) (v0_size : Int32) (v0_at : Int32) (v0_from : Int32) (v0_token : Int32) (v0_value : Int32) (v0_faultKind : Int32) (v0_faultPlace : Int32) (h_fresh : Nat) (h_spokenAt : Nat) (h_heardAt : Nat) (h_lastAt : Nat) (h_answerAt : Nat) (v0_lawA : Int32) (v0_lawB : Int32) (v0_lawC : Int32) (v0_drawX : Int64) (v0_isDrawn : Int32) (v0_lostMany : Int32) (h_heardNow : Nat) (h_seenAt : Nat) (v0_roundFrom : Int32) (v0_roundTo : Int32) (v0_goLast : Int32) (v0_goAnswer : Int32) (v0_goHeard : Int32) (h_fewest : Nat) (h_costNow : Nat) (h_costThen : Nat) (h_lawsOf : Nat) (h_heardBy : Nat) (v0_lawMany : Int32) (v0_askWorst : Int32) (h_placesOf : Nat) (h_sentIn : Nat) (v0_placeMany : Int32) (v0_parentFirst : Int32) (h_lostBy : Nat) (h_many : Nat) (h_width : Nat) (h_numbers : Nat) (h_moving : Nat) (f_answerAt : Nat → Int32) (f_heardAt : Nat → Int32) (f_lastAt : Nat → Int32) (f_spokenAt : Nat → Int32) (f_world : Nat → Int32) (v1 : Int32) (v2 : Int32) (iv0_taped : 0 ≤ v0_taped.toInt ∧ v0_taped.toInt ≤ 500) (iv0_size : 0 ≤ v0_size.toInt ∧ v0_size.toInt ≤ 500) (iv0_at : 0 ≤ v0_at.toInt ∧ v0_at.toInt ≤ 500) (iv0_from : 0 ≤ v0_from.toInt ∧ v0_from.toInt ≤ 500) (iv0_faultKind : 0 ≤ v0_faultKind.toInt ∧ v0_faultKind.toInt ≤ 3) (iv0_lawA : 0 ≤ v0_lawA.toInt ∧ v0_lawA.toInt ≤ 8) (iv0_lawB : 0 ≤ v0_lawB.toInt ∧ v0_lawB.toInt ≤ 8) (iv0_lawC : 0 ≤ v0_lawC.toInt ∧ v0_lawC.toInt ≤ 9) (iv0_isDrawn : 0 ≤ v0_isDrawn.toInt ∧ v0_isDrawn.toInt ≤ 1) (iv0_roundFrom : 0 ≤ v0_roundFrom.toInt ∧ v0_roundFrom.toInt ≤ 648) (iv0_roundTo : 0 ≤ v0_roundTo.toInt ∧ v0_roundTo.toInt ≤ 648) (iv0_goLast : 0 ≤ v0_goLast.toInt ∧ v0_goLast.toInt ≤ 8) (iv0_goAnswer : 0 ≤ v0_goAnswer.toInt ∧ v0_goAnswer.toInt ≤ 8) (iv0_lawMany : 0 ≤ v0_lawMany.toInt ∧ v0_lawMany.toInt ≤ 729) (iv0_placeMany : 0 ≤ v0_placeMany.toInt ∧ v0_placeMany.toInt ≤ 100) (pf_answerAt : sg sgLa f_answerAt) (pf_heardAt : sg sgSp f_heardAt) (pf_lastAt : sg sgLa f_lastAt) (pf_spokenAt : sg sgSp f_spokenAt) (pf_world : sg sgWo f_world) (cf_world : 0 < (f_world 9).toInt → 2 ≤ (f_world 0).toInt) : Met l yX12_chance (Cond.code yX12_chance cX12_chance 8 (some .long) :: wsL_law) ({ frames := 5, cells := 0, slots := 0, locals := 107 }) (wrP G D (tyL cB cI cJ cZ cS cT) [(mO h0 v0_thrown h_world h_images h_hasImage h_tape v0_taped h_five v0_size v0_at v0_from v0_token v0_value v0_faultKind v0_faultPlace h_fresh h_spokenAt h_heardAt h_lastAt h_answerAt v0_lawA v0_lawB v0_lawC v0_drawX v0_isDrawn v0_lostMany h_heardNow h_seenAt v0_roundFrom v0_roundTo v0_goLast v0_goAnswer v0_goHeard h_fewest h_costNow h_costThen h_lawsOf h_heardBy v0_lawMany v0_askWorst h_placesOf h_sentIn v0_placeMany v0_parentFirst h_lostBy h_many h_width h_numbers h_moving), (h_answerAt, .inl (cI, 62, .inl f_answerAt)), (h_heardAt, .inl (cI, 61, .inl f_heardAt)), (h_lastAt, .inl (cI, 62, .inl f_lastAt)), (h_spokenAt, .inl (cI, 61, .inl f_spokenAt)), (h_world, .inl (cI, 53, .inl f_world))] sz [.ref h0, .int v1, .int v2]) (va_Ql (fun (r : Int64) (x : Int32 × Int32 × Int32 × Int64 × Int32 × Int32 × (Nat → Int32) × (Nat → Int32) × (Nat → Int32) × (Nat → Int32)) => (0 ≤ x.1.toInt ∧ x.1.toInt ≤ 8) ∧ (0 ≤ x.2.1.toInt ∧ x.2.1.toInt ≤ 8) ∧ (0 ≤ x.2.2.1.toInt ∧ x.2.2.1.toInt ≤ 9) ∧ (0 ≤ x.2.2.2.2.1.toInt ∧ x.2.2.2.2.1.toInt ≤ 1) ∧ (sg sgLa x.2.2.2.2.2.2.1) ∧ (sg sgSp x.2.2.2.2.2.2.2.1) ∧ (sg sgLa x.2.2.2.2.2.2.2.2.1) ∧ (sg sgSp x.2.2.2.2.2.2.2.2.2)) (atW D (tyL cB cI cJ cZ cS cT) (va_A [(mO h0 v0_thrown h_world h_images h_hasImage h_tape v0_taped h_five v0_size v0_at v0_from v0_token v0_value v0_faultKind v0_faultPlace h_fresh h_spokenAt h_heardAt h_lastAt h_answerAt v0_lawA v0_lawB v0_lawC v0_drawX v0_isDrawn v0_lostMany h_heardNow h_seenAt v0_roundFrom v0_roundTo v0_goLast v0_goAnswer v0_goHeard h_fewest h_costNow h_costThen h_lawsOf h_heardBy v0_lawMany v0_askWorst h_placesOf h_sentIn v0_placeMany v0_parentFirst h_lostBy h_many h_width h_numbers h_moving), (h_answerAt, .inl (cI, 62, .inl f_answerAt)), (h_heardAt, .inl (cI, 61, .inl f_heardAt)), (h_lastAt, .inl (cI, 62, .inl f_lastAt)), (h_spokenAt, .inl (cI, 61, .inl f_spokenAt)), (h_world, .inl (cI, 53, .inl f_world))] sz) (fun x : Int32 × Int32 × Int32 × Int64 × Int32 × Int32 × (Nat → Int32) × (Nat → Int32) × (Nat → Int32) × (Nat → Int32) => [(mO h0 v0_thrown h_world h_images h_hasImage h_tape v0_taped h_five v0_size v0_at v0_from v0_token v0_value v0_faultKind v0_faultPlace h_fresh h_spokenAt h_heardAt h_lastAt h_answerAt x.1 x.2.1 x.2.2.1 x.2.2.2.1 x.2.2.2.2.1 x.2.2.2.2.2.1 h_heardNow h_seenAt v0_roundFrom v0_roundTo v0_goLast v0_goAnswer v0_goHeard h_fewest h_costNow h_costThen h_lawsOf h_heardBy v0_lawMany v0_askWorst h_placesOf h_sentIn v0_placeMany v0_parentFirst h_lostBy h_many h_width h_numbers h_moving), (h_answerAt, .inl (cI, 62, .inl x.2.2.2.2.2.2.1)), (h_heardAt, .inl (cI, 61, .inl x.2.2.2.2.2.2.2.1)), (h_lastAt, .inl (cI, 62, .inl x.2.2.2.2.2.2.2.2.1)), (h_spokenAt, .inl (cI, 61, .inl x.2.2.2.2.2.2.2.2.2)), (h_world, .inl (cI, 53, .inl f_world))])) (va_A [(mO h0 v0_thrown h_world h_images h_hasImage h_tape v0_taped h_five v0_size v0_at v0_from v0_token v0_value v0_faultKind v0_faultPlace h_fresh h_spokenAt h_heardAt h_lastAt h_answerAt v0_lawA v0_lawB v0_lawC v0_drawX v0_isDrawn v0_lostMany h_heardNow h_seenAt v0_roundFrom v0_roundTo v0_goLast v0_goAnswer v0_goHeard h_fewest h_costNow h_costThen h_lawsOf h_heardBy v0_lawMany v0_askWorst h_placesOf h_sentIn v0_placeMany v0_parentFirst h_lostBy h_many h_width h_numbers h_moving), (h_answerAt, .inl (cI, 62, .inl f_answerAt)), (h_heardAt, .inl (cI, 61, .inl f_heardAt)), (h_lastAt, .inl (cI, 62, .inl f_lastAt)), (h_spokenAt, .inl (cI, 61, .inl f_spokenAt)), (h_world, .inl (cI, 53, .inl f_world))] sz)) 0 0 (va_A [(mO h0 v0_thrown h_world h_images h_hasImage h_tape v0_taped h_five v0_size v0_at v0_from v0_token v0_value v0_faultKind v0_faultPlace h_fresh h_spokenAt h_heardAt h_lastAt h_answerAt v0_lawA v0_lawB v0_lawC v0_drawX v0_isDrawn v0_lostMany h_heardNow h_seenAt v0_roundFrom v0_roundTo v0_goLast v0_goAnswer v0_goHeard h_fewest h_costNow h_costThen h_lawsOf h_heardBy v0_lawMany v0_askWorst h_placesOf h_sentIn v0_placeMany v0_parentFirst h_lostBy h_many h_width h_numbers h_moving), (h_answerAt, .inl (cI, 62, .inl f_answerAt)), (h_heardAt, .inl (cI, 61, .inl f_heardAt)), (h_lastAt, .inl (cI, 62, .inl f_lastAt)), (h_spokenAt, .inl (cI, 61, .inl f_spokenAt)), (h_world, .inl (cI, 53, .inl f_world))] sz) := by
  refine metL (own := RX12) (by decide) rfl ?_
  intro p e s m below meth c Q hsz C hG hP hD hAB ret
  obtain ⟨hx, hb, hml, hown, hts, hK, hN, hT⟩ := id C
  subst hsz
  generalize hAe : va_A [(mO h0 v0_thrown h_world h_images h_hasImage h_tape v0_taped h_five v0_size v0_at v0_from v0_token v0_value v0_faultKind v0_faultPlace h_fresh h_spokenAt h_heardAt h_lastAt h_answerAt v0_lawA v0_lawB v0_lawC v0_drawX v0_isDrawn v0_lostMany h_heardNow h_seenAt v0_roundFrom v0_roundTo v0_goLast v0_goAnswer v0_goHeard h_fewest h_costNow h_costThen h_lawsOf h_heardBy v0_lawMany v0_askWorst h_placesOf h_sentIn v0_placeMany v0_parentFirst h_lostBy h_many h_width h_numbers h_moving), (h_answerAt, .inl (cI, 62, .inl f_answerAt)), (h_heardAt, .inl (cI, 61, .inl f_heardAt)), (h_lastAt, .inl (cI, 62, .inl f_lastAt)), (h_spokenAt, .inl (cI, 61, .inl f_spokenAt)), (h_world, .inl (cI, 53, .inl f_world))] s.heap.size = A at hD hAB ret ⊢
  have hA : ∀ q : Nat, s.heap.size ≤ q → A q := fun q h => by rw [← hAe]; exact Or.inr h
  have hS : va_S A s.heap s.heap [] := va_S.rf
  have hl := lv_entry ([.ref h0, .int v1, .int v2]) (n := 8) (Nat.le_of_ble_eq_true rfl)
  rw [lg_entry_eq]
  generalize (lg_sl ([.ref h0, .int v1, .int v2]) ++ List.replicate (8 - (lg_sl ([.ref h0, .int v1, .int v2])).length) Slot.unset).toArray = ls at hl ⊢
  have hl : lv_has ls 8 [(0, .ref h0), (1, .int v1), (2, .int v2)] := hl
  have hP : va_P D vwCl [(mO h0 v0_thrown h_world h_images h_hasImage h_tape v0_taped h_five v0_size v0_at v0_from v0_token v0_value v0_faultKind v0_faultPlace h_fresh h_spokenAt h_heardAt h_lastAt h_answerAt v0_lawA v0_lawB v0_lawC v0_drawX v0_isDrawn v0_lostMany h_heardNow h_seenAt v0_roundFrom v0_roundTo v0_goLast v0_goAnswer v0_goHeard h_fewest h_costNow h_costThen h_lawsOf h_heardBy v0_lawMany v0_askWorst h_placesOf h_sentIn v0_placeMany v0_parentFirst h_lostBy h_many h_width h_numbers h_moving), (h_answerAt, .inl (cI, 62, .inl f_answerAt)), (h_heardAt, .inl (cI, 61, .inl f_heardAt)), (h_lastAt, .inl (cI, 62, .inl f_lastAt)), (h_spokenAt, .inl (cI, 61, .inl f_spokenAt)), (h_world, .inl (cI, 53, .inl f_world))] s.heap := hP
  refine lv_aload_n hx hb dX12_chance_0 rfl (lv_at hl 0 rfl) ?_
  refine wrVi (As := []) (rest := []) (wr := []) ⟨hx, hb, hml, hown, hts⟩ (b_X12_asksStation l G D cB cI cJ cZ cS cT s.heap.size h0 v0_thrown h_world h_images h_hasImage h_tape v0_taped h_five v0_size v0_at v0_from v0_token v0_value v0_faultKind v0_faultPlace h_fresh h_spokenAt h_heardAt h_lastAt h_answerAt v0_lawA v0_lawB v0_lawC v0_drawX v0_isDrawn v0_lostMany h_heardNow h_seenAt v0_roundFrom v0_roundTo v0_goLast v0_goAnswer v0_goHeard h_fewest h_costNow h_costThen h_lawsOf h_heardBy v0_lawMany v0_askWorst h_placesOf h_sentIn v0_placeMany v0_parentFirst h_lostBy h_many h_width h_numbers h_moving f_answerAt f_heardAt f_lastAt f_spokenAt f_world (by first | assumption | (have := zI0; have := zI1; have := zIm; omega) | decide) (by first | assumption | (have := zI0; have := zI1; have := zIm; omega) | decide) (by first | assumption | (have := zI0; have := zI1; have := zIm; omega) | decide) (by first | assumption | (have := zI0; have := zI1; have := zIm; omega) | decide) (by first | assumption | (have := zI0; have := zI1; have := zIm; omega) | decide) (by first | assumption | (have := zI0; have := zI1; have := zIm; omega) | decide) (by first | assumption | (have := zI0; have := zI1; have := zIm; omega) | decide) (by first | assumption | (have := zI0; have := zI1; have := zIm; omega) | decide) (by first | assumption | (have := zI0; have := zI1; have := zIm; omega) | decide) (by first | assumption | (have := zI0; have := zI1; have := zIm; omega) | decide) (by first | assumption | (have := zI0; have := zI1; have := zIm; omega) | decide) (by first | assumption | (have := zI0; have := zI1; have := zIm; omega) | decide) (by first | assumption | (have := zI0; have := zI1; have := zIm; omega) | decide) (by first | assumption | (have := zI0; have := zI1; have := zIm; omega) | decide) (by first | assumption | (have := zI0; have := zI1; have := zIm; omega) | decide) (by first | assumption | (have := zI0; have := zI1; have := zIm; omega) | decide) (by first | assumption | (have := zI0; have := zI1; have := zIm; omega) | decide) (by first | assumption | (have := zI0; have := zI1; have := zIm; omega) | decide) (by first | assumption | (have := zI0; have := zI1; have := zIm; omega) | decide) (by first | assumption | (have := zI0; have := zI1; have := zIm; omega) | decide) (by first | assumption | (have := zI0; have := zI1; have := zIm; omega) | decide)) hP hD hS hA hK hN hT hAB hG [0, 1, 2, 3, 4, 5] [] rfl rfl (by decide) (by decide) (by decide) (cvB (n := 0) (inr24 _ (List.mem_of_getElem? (i := 3) rfl)) (inr24 _ (List.mem_of_getElem? (i := 4) rfl)) (inr24 _ (List.mem_of_getElem? (i := 5) rfl)) (inr1 _ (List.mem_of_getElem? (i := 5) rfl)) (inr24 _ (List.mem_of_getElem? (i := 6) rfl)) (by decide +kernel) hts rfl rfl ⟨Nat.le_of_ble_eq_true rfl, Nat.le_of_ble_eq_true rfl⟩) 0 12 rfl rfl rfl rfl hl.1 rfl (Nat.le_of_ble_eq_true rfl) ⟨Nat.le_of_ble_eq_true rfl, Nat.le_of_ble_eq_true rfl⟩ dX12_chance_1 (fun r_1 x9 H locs h_2 hP hD hS => ?_)
  obtain ⟨t_3, t_4, t_5, t_6, t_7, t_8, g_9, g_10, g_11, g_12⟩ := x9
  have hP : va_P D vwCl [(mO h0 v0_thrown h_world h_images h_hasImage h_tape v0_taped h_five v0_size v0_at v0_from v0_token v0_value v0_faultKind v0_faultPlace h_fresh h_spokenAt h_heardAt h_lastAt h_answerAt t_3 t_4 t_5 t_6 t_7 t_8 h_heardNow h_seenAt v0_roundFrom v0_roundTo v0_goLast v0_goAnswer v0_goHeard h_fewest h_costNow h_costThen h_lawsOf h_heardBy v0_lawMany v0_askWorst h_placesOf h_sentIn v0_placeMany v0_parentFirst h_lostBy h_many h_width h_numbers h_moving), (h_answerAt, .inl (cI, 62, .inl g_9)), (h_heardAt, .inl (cI, 61, .inl g_10)), (h_lastAt, .inl (cI, 62, .inl g_11)), (h_spokenAt, .inl (cI, 61, .inl g_12)), (h_world, .inl (cI, 53, .inl f_world))] H := hP
  have hD : va_D A [(mO h0 v0_thrown h_world h_images h_hasImage h_tape v0_taped h_five v0_size v0_at v0_from v0_token v0_value v0_faultKind v0_faultPlace h_fresh h_spokenAt h_heardAt h_lastAt h_answerAt t_3 t_4 t_5 t_6 t_7 t_8 h_heardNow h_seenAt v0_roundFrom v0_roundTo v0_goLast v0_goAnswer v0_goHeard h_fewest h_costNow h_costThen h_lawsOf h_heardBy v0_lawMany v0_askWorst h_placesOf h_sentIn v0_placeMany v0_parentFirst h_lostBy h_many h_width h_numbers h_moving), (h_answerAt, .inl (cI, 62, .inl g_9)), (h_heardAt, .inl (cI, 61, .inl g_10)), (h_lastAt, .inl (cI, 62, .inl g_11)), (h_spokenAt, .inl (cI, 61, .inl g_12)), (h_world, .inl (cI, 53, .inl f_world))] := hD
  have h_2 : (0 ≤ t_3.toInt ∧ t_3.toInt ≤ 8) ∧ (0 ≤ t_4.toInt ∧ t_4.toInt ≤ 8) ∧ (0 ≤ t_5.toInt ∧ t_5.toInt ≤ 9) ∧ (0 ≤ t_7.toInt ∧ t_7.toInt ≤ 1) ∧ (sg sgLa g_9) ∧ (sg sgSp g_10) ∧ (sg sgLa g_11) ∧ (sg sgSp g_12) ∧ ((r_1.toInt = 1 ∧ 0 < (f_world 9).toInt) ∨ (r_1.toInt = 0 ∧ (f_world 9).toInt ≤ 0)) ∧ (r_1 = 0 ∨ r_1 = 1) := h_2
  obtain ⟨i_13, i_14, i_15, i_16, i_17, i_18, i_19, i_20, i_21, i_22⟩ := h_2
  have ar_1 : 0 ≤ r_1.toInt ∧ r_1.toInt ≤ 1 := by rcases i_22 with h | h <;> rw [h] <;> decide
  refine lv_if_eq (tgt := 29) hx hb dX12_chance_4 (by decide) (fun c_23 => ?_) (fun c_23 => ?_)
  · have c_23 : r_1.toInt = 0 := ci_eq_t c_23
    have b_r_1 := i32b r_1
    have d_24 : (f_world 9).toInt ≤ 0 := by omega
    clear i_21
    refine lv_ldc2 hx hb hown (hts _ (inr64 _ (List.mem_of_getElem? (i := 23) rfl))) dX12_chance_29 ?_
    exact ret _ _ _ _ _ (t_3, t_4, t_5, t_6, t_7, t_8, g_9, g_10, g_11, g_12) dX12_chance_32 (show (0 ≤ t_3.toInt ∧ t_3.toInt ≤ 8) ∧ (0 ≤ t_4.toInt ∧ t_4.toInt ≤ 8) ∧ (0 ≤ t_5.toInt ∧ t_5.toInt ≤ 9) ∧ (0 ≤ t_7.toInt ∧ t_7.toInt ≤ 1) ∧ (sg sgLa g_9) ∧ (sg sgSp g_10) ∧ (sg sgLa g_11) ∧ (sg sgSp g_12) from ⟨(by first | assumption | (have := zI0; have := zI1; have := zIm; omega) | decide), (by first | assumption | (have := zI0; have := zI1; have := zIm; omega) | decide), (by first | assumption | (have := zI0; have := zI1; have := zIm; omega) | decide), (by first | assumption | (have := zI0; have := zI1; have := zIm; omega) | decide), (by first | assumption | (have := zI0; have := zI1; have := zIm; omega) | decide), (by first | assumption | (have := zI0; have := zI1; have := zIm; omega) | decide), (by first | assumption | (have := zI0; have := zI1; have := zIm; omega) | decide), (by first | assumption | (have := zI0; have := zI1; have := zIm; omega) | decide)⟩) (hP.sub [0, 1, 2, 3, 4, 5] rfl) (hD.sub [0, 1, 2, 3, 4, 5] (by decide) rfl) hS
  · have c_23 : ¬ r_1.toInt = 0 := ci_eq_f c_23
    have b_r_1 := i32b r_1
    have d_25 : 0 < (f_world 9).toInt := by omega
    clear i_21
    refine lv_iload_n hx hb dX12_chance_7 rfl (lv_at hl 1 rfl) ?_
    have b_v1 := i32b v1
    obtain ⟨t_26, et_26⟩ : ∃ v9 : Int64, (v1 : Int32).toInt64 = v9 := ⟨_, rfl⟩
    refine lv_i2l (v := t_26) hx hb dX12_chance_8 et_26 ?_
    have ft_26 : t_26.toInt = v1.toInt := by rw [← et_26]; exact Int32.toInt_toInt64 _
    refine lv_lconst (v := 0) hx hb dX12_chance_9 (by decide) ?_
    refine lv_ldc2 hx hb hown (hts _ (inr64 _ (List.mem_of_getElem? (i := 22) rfl))) dX12_chance_10 ?_
    refine rosi (As := [.long t_26, .long 0, .long 17]) (rest := []) ⟨hx, hb, hml, hown, hts⟩ (b_X12_in l G D cB cI cJ cZ cS cT t_26 0 17 ) (csB (n := 3) (inr9 _ (List.mem_of_getElem? (i := 3) rfl)) (inr9 _ (List.mem_of_getElem? (i := 4) rfl)) (inr1 _ (List.mem_of_getElem? (i := 5) rfl)) (inr9 _ (List.mem_of_getElem? (i := 5) rfl)) (by decide +kernel) hts rfl rfl ⟨Nat.le_of_ble_eq_true rfl, Nat.le_of_ble_eq_true rfl⟩) (hP.sub [] rfl) hK hN (kT.to hT hS hAB) rfl hl.1 rfl (Nat.le_of_ble_eq_true rfl) ⟨Nat.le_of_ble_eq_true rfl, Nat.le_of_ble_eq_true rfl⟩ dX12_chance_13 (fun r_27 h_28 => ?_)
    have h_28 : ((r_27.toInt = 1 ∧ 0 ≤ t_26.toInt ∧ t_26.toInt ≤ 17) ∨ (r_27.toInt = 0 ∧ (t_26.toInt < 0 ∨ 17 < t_26.toInt))) ∧ (r_27 = 0 ∨ r_27 = 1) := h_28
    obtain ⟨i_29, i_30⟩ := h_28
    have ar_27 : 0 ≤ r_27.toInt ∧ r_27.toInt ≤ 1 := by rcases i_30 with h | h <;> rw [h] <;> decide
    refine lv_if_eq (tgt := 29) hx hb dX12_chance_16 (by decide) (fun c_31 => ?_) (fun c_31 => ?_)
    · have c_31 : r_27.toInt = 0 := ci_eq_t c_31
      have b_r_27 := i32b r_27
      have d_32 : (t_26.toInt < 0 ∨ 17 < t_26.toInt) := by omega
      clear i_29
      refine lv_ldc2 hx hb hown (hts _ (inr64 _ (List.mem_of_getElem? (i := 23) rfl))) dX12_chance_29 ?_
      exact ret _ _ _ _ _ (t_3, t_4, t_5, t_6, t_7, t_8, g_9, g_10, g_11, g_12) dX12_chance_32 (show (0 ≤ t_3.toInt ∧ t_3.toInt ≤ 8) ∧ (0 ≤ t_4.toInt ∧ t_4.toInt ≤ 8) ∧ (0 ≤ t_5.toInt ∧ t_5.toInt ≤ 9) ∧ (0 ≤ t_7.toInt ∧ t_7.toInt ≤ 1) ∧ (sg sgLa g_9) ∧ (sg sgSp g_10) ∧ (sg sgLa g_11) ∧ (sg sgSp g_12) from ⟨(by first | assumption | (have := zI0; have := zI1; have := zIm; omega) | decide), (by first | assumption | (have := zI0; have := zI1; have := zIm; omega) | decide), (by first | assumption | (have := zI0; have := zI1; have := zIm; omega) | decide), (by first | assumption | (have := zI0; have := zI1; have := zIm; omega) | decide), (by first | assumption | (have := zI0; have := zI1; have := zIm; omega) | decide), (by first | assumption | (have := zI0; have := zI1; have := zIm; omega) | decide), (by first | assumption | (have := zI0; have := zI1; have := zIm; omega) | decide), (by first | assumption | (have := zI0; have := zI1; have := zIm; omega) | decide)⟩) (hP.sub [0, 1, 2, 3, 4, 5] rfl) (hD.sub [0, 1, 2, 3, 4, 5] (by decide) rfl) hS
    · have c_31 : ¬ r_27.toInt = 0 := ci_eq_f c_31
      have b_r_27 := i32b r_27
      have d_33 : 0 ≤ t_26.toInt ∧ t_26.toInt ≤ 17 := by omega
      clear i_29
      refine lv_iload_n hx hb dX12_chance_19 rfl (lv_at hl 2 rfl) ?_
      have b_v2 := i32b v2
      obtain ⟨t_34, et_34⟩ : ∃ v9 : Int64, (v2 : Int32).toInt64 = v9 := ⟨_, rfl⟩
      refine lv_i2l (v := t_34) hx hb dX12_chance_20 et_34 ?_
      have ft_34 : t_34.toInt = v2.toInt := by rw [← et_34]; exact Int32.toInt_toInt64 _
      refine lv_lconst (v := 0) hx hb dX12_chance_21 (by decide) ?_
      refine lv_lconst (v := 1) hx hb dX12_chance_22 (by decide) ?_
      refine rosi (As := [.long t_34, .long 0, .long 1]) (rest := []) ⟨hx, hb, hml, hown, hts⟩ (b_X12_in l G D cB cI cJ cZ cS cT t_34 0 1 ) (csB (n := 3) (inr9 _ (List.mem_of_getElem? (i := 3) rfl)) (inr9 _ (List.mem_of_getElem? (i := 4) rfl)) (inr1 _ (List.mem_of_getElem? (i := 5) rfl)) (inr9 _ (List.mem_of_getElem? (i := 5) rfl)) (by decide +kernel) hts rfl rfl ⟨Nat.le_of_ble_eq_true rfl, Nat.le_of_ble_eq_true rfl⟩) (hP.sub [] rfl) hK hN (kT.to hT hS hAB) rfl hl.1 rfl (Nat.le_of_ble_eq_true rfl) ⟨Nat.le_of_ble_eq_true rfl, Nat.le_of_ble_eq_true rfl⟩ dX12_chance_23 (fun r_35 h_36 => ?_)
      have h_36 : ((r_35.toInt = 1 ∧ 0 ≤ t_34.toInt ∧ t_34.toInt ≤ 1) ∨ (r_35.toInt = 0 ∧ (t_34.toInt < 0 ∨ 1 < t_34.toInt))) ∧ (r_35 = 0 ∨ r_35 = 1) := h_36
      obtain ⟨i_37, i_38⟩ := h_36
      have ar_35 : 0 ≤ r_35.toInt ∧ r_35.toInt ≤ 1 := by rcases i_38 with h | h <;> rw [h] <;> decide
      refine lv_if_ne (tgt := 33) hx hb dX12_chance_26 (by decide) (fun c_39 => ?_) (fun c_39 => ?_)
      · have c_39 : ¬ r_35.toInt = 0 := ci_ne_t c_39
        have b_r_35 := i32b r_35
        have d_40 : 0 ≤ t_34.toInt ∧ t_34.toInt ≤ 1 := by omega
        clear i_37
        refine lv_aload_n hx hb dX12_chance_33 rfl (lv_at hl 0 rfl) ?_
        refine lv_iload_n hx hb dX12_chance_34 rfl (lv_at hl 1 rfl) ?_
        refine roi (As := [.int v1]) (rest := []) ⟨hx, hb, hml, hown, hts⟩ (b_X12_mayLose l G D cB cI cJ cZ cS cT h0 v0_thrown h_world h_images h_hasImage h_tape v0_taped h_five v0_size v0_at v0_from v0_token v0_value v0_faultKind v0_faultPlace h_fresh h_spokenAt h_heardAt h_lastAt h_answerAt t_3 t_4 t_5 t_6 t_7 t_8 h_heardNow h_seenAt v0_roundFrom v0_roundTo v0_goLast v0_goAnswer v0_goHeard h_fewest h_costNow h_costThen h_lawsOf h_heardBy v0_lawMany v0_askWorst h_placesOf h_sentIn v0_placeMany v0_parentFirst h_lostBy h_many h_width h_numbers h_moving g_12 f_world v1 (by first | assumption | (have := zI0; have := zI1; have := zIm; omega) | decide) (by first | assumption | (have := zI0; have := zI1; have := zIm; omega) | decide) (by first | assumption | (have := zI0; have := zI1; have := zIm; omega) | decide) (by first | assumption | (have := zI0; have := zI1; have := zIm; omega) | decide) (by first | assumption | (have := zI0; have := zI1; have := zIm; omega) | decide) (by first | assumption | (have := zI0; have := zI1; have := zIm; omega) | decide) (by first | assumption | (have := zI0; have := zI1; have := zIm; omega) | decide) (by first | assumption | (have := zI0; have := zI1; have := zIm; omega) | decide) (by first | assumption | (have := zI0; have := zI1; have := zIm; omega) | decide) (by first | assumption | (have := zI0; have := zI1; have := zIm; omega) | decide) (by first | assumption | (have := zI0; have := zI1; have := zIm; omega) | decide) (by first | assumption | (have := zI0; have := zI1; have := zIm; omega) | decide) (by first | assumption | (have := zI0; have := zI1; have := zIm; omega) | decide) (by first | assumption | (have := zI0; have := zI1; have := zIm; omega) | decide) (by first | assumption | (have := zI0; have := zI1; have := zIm; omega) | decide) (by first | assumption | (have := zI0; have := zI1; have := zIm; omega) | decide) (by first | assumption | (have := zI0; have := zI1; have := zIm; omega) | decide) (by first | assumption | (have := zI0; have := zI1; have := zIm; omega) | decide) (by first | assumption | (have := zI0; have := zI1; have := zIm; omega) | decide)) (cvB (n := 1) (inr65 _ (List.mem_of_getElem? (i := 0) rfl)) (inr65 _ (List.mem_of_getElem? (i := 1) rfl)) (inr65 _ (List.mem_of_getElem? (i := 2) rfl)) (inr1 _ (List.mem_of_getElem? (i := 5) rfl)) (inr65 _ (List.mem_of_getElem? (i := 3) rfl)) (by decide +kernel) hts rfl rfl ⟨Nat.le_of_ble_eq_true rfl, Nat.le_of_ble_eq_true rfl⟩) 0 12 rfl rfl rfl (hP.sub [0, 4, 5] rfl) hK hN (kT.to hT hS hAB) rfl hl.1 rfl (Nat.le_of_ble_eq_true rfl) ⟨Nat.le_of_ble_eq_true rfl, Nat.le_of_ble_eq_true rfl⟩ dX12_chance_35 (fun r_41 h_42 => ?_)
        have h_42 : (0 ≤ r_41.toInt ∧ r_41.toInt ≤ v1.toInt + 1) := h_42
        have i_43 := h_42
        refine lv_istore_n (lv' := [(3, .int r_41), (0, .ref h0), (1, .int v1), (2, .int v2)]) hx hb dX12_chance_38 rfl hl (by decide) rfl (fun ls hl => ?_)
        refine lv_bipush (v := 10) hx hb dX12_chance_39 (by decide) ?_
        refine lv_aload_n hx hb dX12_chance_41 rfl (lv_at hl 1 rfl) ?_
        refine va_get (D := D) (ci := 12) (v := .ref h_world) (C := RX12) (T := TX12) (N := 48) hx hb hts inlX12 hown hK hP 0 rfl rfl 1 (by decide) (hts _ (inr6 _ (List.mem_of_getElem? (i := 16) rfl))) (fun _ h9 => h9) rfl dX12_chance_42 ?_
        refine lv_iconst (v := 5) hx hb dX12_chance_45 (by decide) ?_
        obtain ⟨t_44, et_44⟩ : ∃ v9 : Int32, f_world (5 : Int32).toNatClampNeg = v9 := ⟨_, rfl⟩
        refine z_iald (v := t_44) hx hb hK hP 5 1 rfl rfl (by unfold vp_in; decide) et_44 dX12_chance_46 ?_
        have ft_44 : 0 ≤ t_44.toInt ∧ t_44.toInt ≤ 10 := sgL (by assumption : sg sgWo f_world) 2 rfl (by decide) (by decide) (by decide) et_44
        have qt_44 : (f_world 5).toInt = t_44.toInt := by rw [← et_44]; rfl
        obtain ⟨t_45, et_45⟩ : ∃ v9 : Int32, 10 - t_44 = v9 := ⟨_, rfl⟩
        refine z_isub (v := t_45) hx hb dX12_chance_47 et_45 ?_
        have b_t_44 := i32b t_44
        have ft_45 : t_45.toInt = 10 - t_44.toInt := subT (a := 10) (b := t_44.toInt) (by decide) rfl et_45 (by omega) (by omega)
        have b_t_45 := i32b t_45
        obtain ⟨t_46, et_46⟩ : ∃ v9 : Int64, (t_45 : Int32).toInt64 = v9 := ⟨_, rfl⟩
        refine lv_i2l (v := t_46) hx hb dX12_chance_48 et_46 ?_
        have ft_46 : t_46.toInt = t_45.toInt := by rw [← et_46]; exact Int32.toInt_toInt64 _
        refine lv_iload_n hx hb dX12_chance_49 rfl (lv_at hl 0 rfl) ?_
        refine rosl (As := [.long t_46, .int r_41]) (rest := []) ⟨hx, hb, hml, hown, hts⟩ (b_X12_power l G D cB cI cJ cZ cS cT t_46 r_41 ) (csB (n := 2) (inr65 _ (List.mem_of_getElem? (i := 4) rfl)) (inr65 _ (List.mem_of_getElem? (i := 5) rfl)) (inr1 _ (List.mem_of_getElem? (i := 5) rfl)) (inr65 _ (List.mem_of_getElem? (i := 6) rfl)) (by decide +kernel) hts rfl rfl ⟨Nat.le_of_ble_eq_true rfl, Nat.le_of_ble_eq_true rfl⟩) (hP.sub [] rfl) hK hN (kT.to hT hS hAB) rfl hl.1 rfl (Nat.le_of_ble_eq_true rfl) ⟨Nat.le_of_ble_eq_true rfl, Nat.le_of_ble_eq_true rfl⟩ dX12_chance_50 (fun r_47 h_48 => ?_)
        have h_48 : (p10 t_46 r_41 r_47) := h_48
        have i_49 := h_48
        refine lv_lstore (lv' := [(4, .long r_47), (3, .int r_41), (0, .ref h0), (1, .int v1), (2, .int v2)]) hx hb dX12_chance_53 hl (by decide) rfl (fun ls hl => ?_)
        refine lv_ldc2 hx hb hown (hts _ (inr25 _ (List.mem_of_getElem? (i := 16) rfl))) dX12_chance_55 ?_
        refine lv_iload_n hx hb dX12_chance_58 rfl (lv_at hl 1 rfl) ?_
        refine rosl (As := [.long 10, .int r_41]) (rest := []) ⟨hx, hb, hml, hown, hts⟩ (b_X12_power l G D cB cI cJ cZ cS cT 10 r_41 ) (csB (n := 2) (inr65 _ (List.mem_of_getElem? (i := 4) rfl)) (inr65 _ (List.mem_of_getElem? (i := 5) rfl)) (inr1 _ (List.mem_of_getElem? (i := 5) rfl)) (inr65 _ (List.mem_of_getElem? (i := 6) rfl)) (by decide +kernel) hts rfl rfl ⟨Nat.le_of_ble_eq_true rfl, Nat.le_of_ble_eq_true rfl⟩) (hP.sub [] rfl) hK hN (kT.to hT hS hAB) rfl hl.1 rfl (Nat.le_of_ble_eq_true rfl) ⟨Nat.le_of_ble_eq_true rfl, Nat.le_of_ble_eq_true rfl⟩ dX12_chance_59 (fun r_50 h_51 => ?_)
        have h_51 : (p10 10 r_41 r_50) := h_51
        have i_52 := h_51
        refine lv_lstore (lv' := [(6, .long r_50), (4, .long r_47), (3, .int r_41), (0, .ref h0), (1, .int v1), (2, .int v2)]) hx hb dX12_chance_62 hl (by decide) rfl (fun ls hl => ?_)
        refine lv_iload_n hx hb dX12_chance_64 rfl (lv_at hl 5 rfl) ?_
        refine lv_if_ne (tgt := 73) hx hb dX12_chance_65 (by decide) (fun c_53 => ?_) (fun c_53 => ?_)
        · have c_53 : ¬ v2.toInt = 0 := ci_ne_t c_53
          refine lv_lload hx hb dX12_chance_73 (lv_at hl 0 rfl) ?_
          refine lv_lload hx hb dX12_chance_75 (lv_at hl 1 rfl) ?_
          refine lv_lload hx hb dX12_chance_77 (lv_at hl 0 rfl) ?_
          have hp9 : ¬ r_50.toInt = 0 := i_52 (by decide) (by omega)
          refine rosl (As := [.long r_47, .long r_50]) (rest := [.long r_50]) ⟨hx, hb, hml, hown, hts⟩ (b_X12_divisor l G D cB cI cJ cZ cS cT r_47 r_50 (by first | assumption | (have := zI0; have := zI1; have := zIm; omega) | decide)) (csB (n := 2) (inr65 _ (List.mem_of_getElem? (i := 7) rfl)) (inr65 _ (List.mem_of_getElem? (i := 8) rfl)) (inr1 _ (List.mem_of_getElem? (i := 5) rfl)) (inr65 _ (List.mem_of_getElem? (i := 9) rfl)) (by decide +kernel) hts rfl rfl ⟨Nat.le_of_ble_eq_true rfl, Nat.le_of_ble_eq_true rfl⟩) (hP.sub [] rfl) hK hN (kT.to hT hS hAB) rfl hl.1 rfl (Nat.le_of_ble_eq_true rfl) ⟨Nat.le_of_ble_eq_true rfl, Nat.le_of_ble_eq_true rfl⟩ dX12_chance_79 (fun r_54 h_55 => ?_)
          have h_55 : (¬ r_54.toInt = 0) := h_55
          have i_56 := h_55
          obtain ⟨t_57, et_57⟩ : ∃ v9 : Int64, r_50 / r_54 = v9 := ⟨_, rfl⟩
          refine z_ldiv (v := t_57) hx hb dX12_chance_82 (ne0L (by omega)) et_57 ?_
          exact ret _ _ _ _ _ (t_3, t_4, t_5, t_6, t_7, t_8, g_9, g_10, g_11, g_12) dX12_chance_83 (show (0 ≤ t_3.toInt ∧ t_3.toInt ≤ 8) ∧ (0 ≤ t_4.toInt ∧ t_4.toInt ≤ 8) ∧ (0 ≤ t_5.toInt ∧ t_5.toInt ≤ 9) ∧ (0 ≤ t_7.toInt ∧ t_7.toInt ≤ 1) ∧ (sg sgLa g_9) ∧ (sg sgSp g_10) ∧ (sg sgLa g_11) ∧ (sg sgSp g_12) from ⟨(by first | assumption | (have := zI0; have := zI1; have := zIm; omega) | decide), (by first | assumption | (have := zI0; have := zI1; have := zIm; omega) | decide), (by first | assumption | (have := zI0; have := zI1; have := zIm; omega) | decide), (by first | assumption | (have := zI0; have := zI1; have := zIm; omega) | decide), (by first | assumption | (have := zI0; have := zI1; have := zIm; omega) | decide), (by first | assumption | (have := zI0; have := zI1; have := zIm; omega) | decide), (by first | assumption | (have := zI0; have := zI1; have := zIm; omega) | decide), (by first | assumption | (have := zI0; have := zI1; have := zIm; omega) | decide)⟩) (hP.sub [0, 1, 2, 3, 4, 5] rfl) (hD.sub [0, 1, 2, 3, 4, 5] (by decide) rfl) hS
        · have c_53 : v2.toInt = 0 := ci_ne_f c_53
          refine lv_lload hx hb dX12_chance_68 (lv_at hl 1 rfl) ?_
          refine lv_goto (tgt := 75) hx hb dX12_chance_70 (by decide) ?_
          refine lv_lload hx hb dX12_chance_75 (lv_at hl 1 rfl) ?_
          refine lv_lload hx hb dX12_chance_77 (lv_at hl 0 rfl) ?_
          have hp9 : ¬ r_50.toInt = 0 := i_52 (by decide) (by omega)
          refine rosl (As := [.long r_47, .long r_50]) (rest := [.long r_47]) ⟨hx, hb, hml, hown, hts⟩ (b_X12_divisor l G D cB cI cJ cZ cS cT r_47 r_50 (by first | assumption | (have := zI0; have := zI1; have := zIm; omega) | decide)) (csB (n := 2) (inr65 _ (List.mem_of_getElem? (i := 7) rfl)) (inr65 _ (List.mem_of_getElem? (i := 8) rfl)) (inr1 _ (List.mem_of_getElem? (i := 5) rfl)) (inr65 _ (List.mem_of_getElem? (i := 9) rfl)) (by decide +kernel) hts rfl rfl ⟨Nat.le_of_ble_eq_true rfl, Nat.le_of_ble_eq_true rfl⟩) (hP.sub [] rfl) hK hN (kT.to hT hS hAB) rfl hl.1 rfl (Nat.le_of_ble_eq_true rfl) ⟨Nat.le_of_ble_eq_true rfl, Nat.le_of_ble_eq_true rfl⟩ dX12_chance_79 (fun r_58 h_59 => ?_)
          have h_59 : (¬ r_58.toInt = 0) := h_59
          have i_60 := h_59
          obtain ⟨t_61, et_61⟩ : ∃ v9 : Int64, r_47 / r_58 = v9 := ⟨_, rfl⟩
          refine z_ldiv (v := t_61) hx hb dX12_chance_82 (ne0L (by omega)) et_61 ?_
          exact ret _ _ _ _ _ (t_3, t_4, t_5, t_6, t_7, t_8, g_9, g_10, g_11, g_12) dX12_chance_83 (show (0 ≤ t_3.toInt ∧ t_3.toInt ≤ 8) ∧ (0 ≤ t_4.toInt ∧ t_4.toInt ≤ 8) ∧ (0 ≤ t_5.toInt ∧ t_5.toInt ≤ 9) ∧ (0 ≤ t_7.toInt ∧ t_7.toInt ≤ 1) ∧ (sg sgLa g_9) ∧ (sg sgSp g_10) ∧ (sg sgLa g_11) ∧ (sg sgSp g_12) from ⟨(by first | assumption | (have := zI0; have := zI1; have := zIm; omega) | decide), (by first | assumption | (have := zI0; have := zI1; have := zIm; omega) | decide), (by first | assumption | (have := zI0; have := zI1; have := zIm; omega) | decide), (by first | assumption | (have := zI0; have := zI1; have := zIm; omega) | decide), (by first | assumption | (have := zI0; have := zI1; have := zIm; omega) | decide), (by first | assumption | (have := zI0; have := zI1; have := zIm; omega) | decide), (by first | assumption | (have := zI0; have := zI1; have := zIm; omega) | decide), (by first | assumption | (have := zI0; have := zI1; have := zIm; omega) | decide)⟩) (hP.sub [0, 1, 2, 3, 4, 5] rfl) (hD.sub [0, 1, 2, 3, 4, 5] (by decide) rfl) hS
      · have c_39 : r_35.toInt = 0 := ci_ne_f c_39
        have b_r_35 := i32b r_35
        have d_62 : (t_34.toInt < 0 ∨ 1 < t_34.toInt) := by omega
        clear i_37
        refine lv_ldc2 hx hb hown (hts _ (inr64 _ (List.mem_of_getElem? (i := 23) rfl))) dX12_chance_29 ?_
        exact ret _ _ _ _ _ (t_3, t_4, t_5, t_6, t_7, t_8, g_9, g_10, g_11, g_12) dX12_chance_32 (show (0 ≤ t_3.toInt ∧ t_3.toInt ≤ 8) ∧ (0 ≤ t_4.toInt ∧ t_4.toInt ≤ 8) ∧ (0 ≤ t_5.toInt ∧ t_5.toInt ≤ 9) ∧ (0 ≤ t_7.toInt ∧ t_7.toInt ≤ 1) ∧ (sg sgLa g_9) ∧ (sg sgSp g_10) ∧ (sg sgLa g_11) ∧ (sg sgSp g_12) from ⟨(by first | assumption | (have := zI0; have := zI1; have := zIm; omega) | decide), (by first | assumption | (have := zI0; have := zI1; have := zIm; omega) | decide), (by first | assumption | (have := zI0; have := zI1; have := zIm; omega) | decide), (by first | assumption | (have := zI0; have := zI1; have := zIm; omega) | decide), (by first | assumption | (have := zI0; have := zI1; have := zIm; omega) | decide), (by first | assumption | (have := zI0; have := zI1; have := zIm; omega) | decide), (by first | assumption | (have := zI0; have := zI1; have := zIm; omega) | decide), (by first | assumption | (have := zI0; have := zI1; have := zIm; omega) | decide)⟩) (hP.sub [0, 1, 2, 3, 4, 5] rfl) (hD.sub [0, 1, 2, 3, 4, 5] (by decide) rfl) hS

set_option maxHeartbeats 4000000 in
set_option maxRecDepth 100000 in
theorem b_X12_isSure (l : Launch) (G : Gho) (D : va_G) (cB cI cJ cZ cS cT : ClassId) (h0 : Nat) (v0_thrown : Int32) (h_world : Nat) (h_images : Nat) (h_hasImage : Nat) (h_tape : Nat) (v0_taped : Int32) (h_five : Nat) (v0_size : Int32) (v0_at : Int32) (v0_from : Int32) (v0_token : Int32) (v0_value : Int32) (v0_faultKind : Int32) (v0_faultPlace : Int32) (h_fresh : Nat) (h_spokenAt : Nat) (h_heardAt : Nat) (h_lastAt : Nat) (h_answerAt : Nat) (v0_lawA : Int32) (v0_lawB : Int32) (v0_lawC : Int32) (v0_drawX : Int64) (v0_isDrawn : Int32) (v0_lostMany : Int32) (h_heardNow : Nat) (h_seenAt : Nat) (v0_roundFrom : Int32) (v0_roundTo : Int32) (v0_goLast : Int32) (v0_goAnswer : Int32) (v0_goHeard : Int32) (h_fewest : Nat) (h_costNow : Nat) (h_costThen : Nat) (h_lawsOf : Nat) (h_heardBy : Nat) (v0_lawMany : Int32) (v0_askWorst : Int32) (h_placesOf : Nat) (h_sentIn : Nat) (v0_placeMany : Int32) (v0_parentFirst : Int32) (h_lostBy : Nat) (h_many : Nat) (h_width : Nat) (h_numbers : Nat) (h_moving : Nat) (f_spokenAt : Nat → Int32) (f_world : Nat → Int32) (v1 : Int32) (v2 : Int32) (iv0_taped : 0 ≤ v0_taped.toInt ∧ v0_taped.toInt ≤ 500) (iv0_size : 0 ≤ v0_size.toInt ∧ v0_size.toInt ≤ 500) (iv0_at : 0 ≤ v0_at.toInt ∧ v0_at.toInt ≤ 500) (iv0_from : 0 ≤ v0_from.toInt ∧ v0_from.toInt ≤ 500) (iv0_faultKind : 0 ≤ v0_faultKind.toInt ∧ v0_faultKind.toInt ≤ 3) (iv0_lawA : 0 ≤ v0_lawA.toInt ∧ v0_lawA.toInt ≤ 8) (iv0_lawB : 0 ≤ v0_lawB.toInt ∧ v0_lawB.toInt ≤ 8) (iv0_lawC : 0 ≤ v0_lawC.toInt ∧ v0_lawC.toInt ≤ 9) (iv0_isDrawn : 0 ≤ v0_isDrawn.toInt ∧ v0_isDrawn.toInt ≤ 1) (iv0_roundFrom : 0 ≤ v0_roundFrom.toInt ∧ v0_roundFrom.toInt ≤ 648) (iv0_roundTo : 0 ≤ v0_roundTo.toInt ∧ v0_roundTo.toInt ≤ 648) (iv0_goLast : 0 ≤ v0_goLast.toInt ∧ v0_goLast.toInt ≤ 8) (iv0_goAnswer : 0 ≤ v0_goAnswer.toInt ∧ v0_goAnswer.toInt ≤ 8) (iv0_lawMany : 0 ≤ v0_lawMany.toInt ∧ v0_lawMany.toInt ≤ 729) (iv0_placeMany : 0 ≤ v0_placeMany.toInt ∧ v0_placeMany.toInt ≤ 100) (pf_spokenAt : sg sgSp f_spokenAt) (pf_world : sg sgWo f_world) (cf_world : 0 < (f_world 9).toInt → 2 ≤ (f_world 0).toInt) (hv1 : 0 ≤ v1.toInt ∧ v1.toInt ≤ 17) : Met l yX12_isSure (Cond.code yX12_isSure cX12_isSure 6 (some .boolean) :: wsL_law) ({ frames := 3, cells := 0, slots := 0, locals := 65 }) (roP G D (tyL cB cI cJ cZ cS cT) [(mO h0 v0_thrown h_world h_images h_hasImage h_tape v0_taped h_five v0_size v0_at v0_from v0_token v0_value v0_faultKind v0_faultPlace h_fresh h_spokenAt h_heardAt h_lastAt h_answerAt v0_lawA v0_lawB v0_lawC v0_drawX v0_isDrawn v0_lostMany h_heardNow h_seenAt v0_roundFrom v0_roundTo v0_goLast v0_goAnswer v0_goHeard h_fewest h_costNow h_costThen h_lawsOf h_heardBy v0_lawMany v0_askWorst h_placesOf h_sentIn v0_placeMany v0_parentFirst h_lostBy h_many h_width h_numbers h_moving), (h_spokenAt, .inl (cI, 61, .inl f_spokenAt)), (h_world, .inl (cI, 53, .inl f_world))] [.ref h0, .int v1, .int v2]) (vp_Si (fun r : Int32 => (r = 0 ∨ r = 1))) 0 0 (fun _ => False) := by
  refine metROZ (own := RX12) (by decide) rfl (fun r h => h) ?_
  intro p e s m below meth c Q C hP ret
  obtain ⟨hx, hb, hml, hown, hts, hK, hN, hT⟩ := id C
  have hl := lv_entry ([.ref h0, .int v1, .int v2]) (n := 6) (Nat.le_of_ble_eq_true rfl)
  rw [lg_entry_eq]
  generalize (lg_sl ([.ref h0, .int v1, .int v2]) ++ List.replicate (6 - (lg_sl ([.ref h0, .int v1, .int v2])).length) Slot.unset).toArray = ls at hl ⊢
  have hl : lv_has ls 6 [(0, .ref h0), (1, .int v1), (2, .int v2)] := hl
  have hP : va_P D vwCl [(mO h0 v0_thrown h_world h_images h_hasImage h_tape v0_taped h_five v0_size v0_at v0_from v0_token v0_value v0_faultKind v0_faultPlace h_fresh h_spokenAt h_heardAt h_lastAt h_answerAt v0_lawA v0_lawB v0_lawC v0_drawX v0_isDrawn v0_lostMany h_heardNow h_seenAt v0_roundFrom v0_roundTo v0_goLast v0_goAnswer v0_goHeard h_fewest h_costNow h_costThen h_lawsOf h_heardBy v0_lawMany v0_askWorst h_placesOf h_sentIn v0_placeMany v0_parentFirst h_lostBy h_many h_width h_numbers h_moving), (h_spokenAt, .inl (cI, 61, .inl f_spokenAt)), (h_world, .inl (cI, 53, .inl f_world))] s.heap := hP
  refine lv_aload_n hx hb dX12_isSure_0 rfl (lv_at hl 0 rfl) ?_
  refine lv_iload_n hx hb dX12_isSure_1 rfl (lv_at hl 1 rfl) ?_
  refine roi (As := [.int v1]) (rest := []) ⟨hx, hb, hml, hown, hts⟩ (b_X12_mayLose l G D cB cI cJ cZ cS cT h0 v0_thrown h_world h_images h_hasImage h_tape v0_taped h_five v0_size v0_at v0_from v0_token v0_value v0_faultKind v0_faultPlace h_fresh h_spokenAt h_heardAt h_lastAt h_answerAt v0_lawA v0_lawB v0_lawC v0_drawX v0_isDrawn v0_lostMany h_heardNow h_seenAt v0_roundFrom v0_roundTo v0_goLast v0_goAnswer v0_goHeard h_fewest h_costNow h_costThen h_lawsOf h_heardBy v0_lawMany v0_askWorst h_placesOf h_sentIn v0_placeMany v0_parentFirst h_lostBy h_many h_width h_numbers h_moving f_spokenAt f_world v1 (by first | assumption | (have := zI0; have := zI1; have := zIm; omega) | decide) (by first | assumption | (have := zI0; have := zI1; have := zIm; omega) | decide) (by first | assumption | (have := zI0; have := zI1; have := zIm; omega) | decide) (by first | assumption | (have := zI0; have := zI1; have := zIm; omega) | decide) (by first | assumption | (have := zI0; have := zI1; have := zIm; omega) | decide) (by first | assumption | (have := zI0; have := zI1; have := zIm; omega) | decide) (by first | assumption | (have := zI0; have := zI1; have := zIm; omega) | decide) (by first | assumption | (have := zI0; have := zI1; have := zIm; omega) | decide) (by first | assumption | (have := zI0; have := zI1; have := zIm; omega) | decide) (by first | assumption | (have := zI0; have := zI1; have := zIm; omega) | decide) (by first | assumption | (have := zI0; have := zI1; have := zIm; omega) | decide) (by first | assumption | (have := zI0; have := zI1; have := zIm; omega) | decide) (by first | assumption | (have := zI0; have := zI1; have := zIm; omega) | decide) (by first | assumption | (have := zI0; have := zI1; have := zIm; omega) | decide) (by first | assumption | (have := zI0; have := zI1; have := zIm; omega) | decide) (by first | assumption | (have := zI0; have := zI1; have := zIm; omega) | decide) (by first | assumption | (have := zI0; have := zI1; have := zIm; omega) | decide) (by first | assumption | (have := zI0; have := zI1; have := zIm; omega) | decide) (by first | assumption | (have := zI0; have := zI1; have := zIm; omega) | decide)) (cvB (n := 1) (inr65 _ (List.mem_of_getElem? (i := 0) rfl)) (inr65 _ (List.mem_of_getElem? (i := 1) rfl)) (inr65 _ (List.mem_of_getElem? (i := 2) rfl)) (inr1 _ (List.mem_of_getElem? (i := 5) rfl)) (inr65 _ (List.mem_of_getElem? (i := 3) rfl)) (by decide +kernel) hts rfl rfl ⟨Nat.le_of_ble_eq_true rfl, Nat.le_of_ble_eq_true rfl⟩) 0 12 rfl rfl rfl (hP.sub [0, 1, 2] rfl) hK hN hT rfl hl.1 rfl (Nat.le_of_ble_eq_true rfl) ⟨Nat.le_of_ble_eq_true rfl, Nat.le_of_ble_eq_true rfl⟩ dX12_isSure_2 (fun r_1 h_2 => ?_)
  have h_2 : (0 ≤ r_1.toInt ∧ r_1.toInt ≤ v1.toInt + 1) := h_2
  have i_3 := h_2
  refine lv_istore_n (lv' := [(3, .int r_1), (0, .ref h0), (1, .int v1), (2, .int v2)]) hx hb dX12_isSure_5 rfl hl (by decide) rfl (fun ls hl => ?_)
  refine lv_bipush (v := 10) hx hb dX12_isSure_6 (by decide) ?_
  refine lv_aload_n hx hb dX12_isSure_8 rfl (lv_at hl 1 rfl) ?_
  refine va_get (D := D) (ci := 12) (v := .ref h_world) (C := RX12) (T := TX12) (N := 48) hx hb hts inlX12 hown hK hP 0 rfl rfl 1 (by decide) (hts _ (inr6 _ (List.mem_of_getElem? (i := 16) rfl))) (fun _ h9 => h9) rfl dX12_isSure_9 ?_
  refine lv_iconst (v := 5) hx hb dX12_isSure_12 (by decide) ?_
  obtain ⟨t_4, et_4⟩ : ∃ v9 : Int32, f_world (5 : Int32).toNatClampNeg = v9 := ⟨_, rfl⟩
  refine z_iald (v := t_4) hx hb hK hP 2 1 rfl rfl (by unfold vp_in; decide) et_4 dX12_isSure_13 ?_
  have ft_4 : 0 ≤ t_4.toInt ∧ t_4.toInt ≤ 10 := sgL (by assumption : sg sgWo f_world) 2 rfl (by decide) (by decide) (by decide) et_4
  have qt_4 : (f_world 5).toInt = t_4.toInt := by rw [← et_4]; rfl
  obtain ⟨t_5, et_5⟩ : ∃ v9 : Int32, 10 - t_4 = v9 := ⟨_, rfl⟩
  refine z_isub (v := t_5) hx hb dX12_isSure_14 et_5 ?_
  have b_t_4 := i32b t_4
  have ft_5 : t_5.toInt = 10 - t_4.toInt := subT (a := 10) (b := t_4.toInt) (by decide) rfl et_5 (by omega) (by omega)
  have b_t_5 := i32b t_5
  obtain ⟨t_6, et_6⟩ : ∃ v9 : Int64, (t_5 : Int32).toInt64 = v9 := ⟨_, rfl⟩
  refine lv_i2l (v := t_6) hx hb dX12_isSure_15 et_6 ?_
  have ft_6 : t_6.toInt = t_5.toInt := by rw [← et_6]; exact Int32.toInt_toInt64 _
  refine lv_iload_n hx hb dX12_isSure_16 rfl (lv_at hl 0 rfl) ?_
  refine rosl (As := [.long t_6, .int r_1]) (rest := []) ⟨hx, hb, hml, hown, hts⟩ (b_X12_power l G D cB cI cJ cZ cS cT t_6 r_1 ) (csB (n := 2) (inr65 _ (List.mem_of_getElem? (i := 4) rfl)) (inr65 _ (List.mem_of_getElem? (i := 5) rfl)) (inr1 _ (List.mem_of_getElem? (i := 5) rfl)) (inr65 _ (List.mem_of_getElem? (i := 6) rfl)) (by decide +kernel) hts rfl rfl ⟨Nat.le_of_ble_eq_true rfl, Nat.le_of_ble_eq_true rfl⟩) (hP.sub [] rfl) hK hN hT rfl hl.1 rfl (Nat.le_of_ble_eq_true rfl) ⟨Nat.le_of_ble_eq_true rfl, Nat.le_of_ble_eq_true rfl⟩ dX12_isSure_17 (fun r_7 h_8 => ?_)
  have h_8 : (p10 t_6 r_1 r_7) := h_8
  have i_9 := h_8
  refine lv_lstore (lv' := [(4, .long r_7), (3, .int r_1), (0, .ref h0), (1, .int v1), (2, .int v2)]) hx hb dX12_isSure_20 hl (by decide) rfl (fun ls hl => ?_)
  refine lv_iload_n hx hb dX12_isSure_22 rfl (lv_at hl 1 rfl) ?_
  refine lv_iconst (v := 2) hx hb dX12_isSure_23 (by decide) ?_
  refine lv_icmp_ge (tgt := 55) hx hb dX12_isSure_24 (by decide) (fun c_10 => ?_) (fun c_10 => ?_)
  · have c_10 : 2 ≤ r_1.toInt := ci_ge_t c_10
    have b_r_1 := i32b r_1
    refine lv_lload hx hb dX12_isSure_55 (lv_at hl 0 rfl) ?_
    refine lv_iload_n hx hb dX12_isSure_57 rfl (lv_at hl 4 rfl) ?_
    have b_v2 := i32b v2
    obtain ⟨t_11, et_11⟩ : ∃ v9 : Int64, (v2 : Int32).toInt64 = v9 := ⟨_, rfl⟩
    refine lv_i2l (v := t_11) hx hb dX12_isSure_58 et_11 ?_
    have ft_11 : t_11.toInt = v2.toInt := by rw [← et_11]; exact Int32.toInt_toInt64 _
    refine lv_ldc2 hx hb hown (hts _ (inr25 _ (List.mem_of_getElem? (i := 16) rfl))) dX12_isSure_59 ?_
    refine lv_iload_n hx hb dX12_isSure_62 rfl (lv_at hl 1 rfl) ?_
    refine lv_iconst (v := 2) hx hb dX12_isSure_63 (by decide) ?_
    obtain ⟨t_12, et_12⟩ : ∃ v9 : Int32, r_1 - 2 = v9 := ⟨_, rfl⟩
    refine z_isub (v := t_12) hx hb dX12_isSure_64 et_12 ?_
    have ft_12 : t_12.toInt = r_1.toInt - 2 := subT (a := r_1.toInt) (b := 2) rfl (by decide) et_12 (by omega) (by omega)
    refine rosl (As := [.long 10, .int t_12]) (rest := [.long t_11, .long r_7]) ⟨hx, hb, hml, hown, hts⟩ (b_X12_power l G D cB cI cJ cZ cS cT 10 t_12 ) (csB (n := 2) (inr65 _ (List.mem_of_getElem? (i := 4) rfl)) (inr65 _ (List.mem_of_getElem? (i := 5) rfl)) (inr1 _ (List.mem_of_getElem? (i := 5) rfl)) (inr65 _ (List.mem_of_getElem? (i := 6) rfl)) (by decide +kernel) hts rfl rfl ⟨Nat.le_of_ble_eq_true rfl, Nat.le_of_ble_eq_true rfl⟩) (hP.sub [] rfl) hK hN hT rfl hl.1 rfl (Nat.le_of_ble_eq_true rfl) ⟨Nat.le_of_ble_eq_true rfl, Nat.le_of_ble_eq_true rfl⟩ dX12_isSure_65 (fun r_13 h_14 => ?_)
    have h_14 : (p10 10 t_12 r_13) := h_14
    have i_15 := h_14
    obtain ⟨t_16, et_16⟩ : ∃ v9 : Int64, t_11 * r_13 = v9 := ⟨_, rfl⟩
    refine z_lmul (v := t_16) hx hb dX12_isSure_68 et_16 ?_
    obtain ⟨t_17, et_17⟩ : ∃ v9 : Int32, lg_cmp r_7 t_16 = v9 := ⟨_, rfl⟩
    refine z_lcmp (v := t_17) hx hb dX12_isSure_69 et_17 ?_
    refine lv_if_lt (tgt := 77) hx hb dX12_isSure_70 (by decide) (fun c_18 => ?_) (fun c_18 => ?_)
    · have c_18 : r_7.toInt < t_16.toInt := cl_lt_t et_17 c_18
      refine lv_iconst (v := 0) hx hb dX12_isSure_77 (by decide) ?_
      have hr9 : (0 : Int32).toInt = 0 := by decide
      exact ret _ _ _ dX12_isSure_78 (show ((0 : Int32) = 0 ∨ (0 : Int32) = 1) from (Or.inl rfl))
    · have c_18 : t_16.toInt ≤ r_7.toInt := cl_lt_f et_17 c_18
      refine lv_iconst (v := 1) hx hb dX12_isSure_73 (by decide) ?_
      refine lv_goto (tgt := 78) hx hb dX12_isSure_74 (by decide) ?_
      have hr9 : (1 : Int32).toInt = 1 := by decide
      exact ret _ _ _ dX12_isSure_78 (show ((1 : Int32) = 0 ∨ (1 : Int32) = 1) from (Or.inr rfl))
  · have c_10 : r_1.toInt < 2 := ci_ge_f c_10
    have b_r_1 := i32b r_1
    refine lv_lload hx hb dX12_isSure_27 (lv_at hl 0 rfl) ?_
    refine lv_ldc2 hx hb hown (hts _ (inr65 _ (List.mem_of_getElem? (i := 23) rfl))) dX12_isSure_29 ?_
    obtain ⟨t_19, et_19⟩ : ∃ v9 : Int64, r_7 * 100 = v9 := ⟨_, rfl⟩
    refine z_lmul (v := t_19) hx hb dX12_isSure_32 et_19 ?_
    refine lv_iload_n hx hb dX12_isSure_33 rfl (lv_at hl 4 rfl) ?_
    have b_v2 := i32b v2
    obtain ⟨t_20, et_20⟩ : ∃ v9 : Int64, (v2 : Int32).toInt64 = v9 := ⟨_, rfl⟩
    refine lv_i2l (v := t_20) hx hb dX12_isSure_34 et_20 ?_
    have ft_20 : t_20.toInt = v2.toInt := by rw [← et_20]; exact Int32.toInt_toInt64 _
    refine lv_ldc2 hx hb hown (hts _ (inr25 _ (List.mem_of_getElem? (i := 16) rfl))) dX12_isSure_35 ?_
    refine lv_iload_n hx hb dX12_isSure_38 rfl (lv_at hl 1 rfl) ?_
    refine rosl (As := [.long 10, .int r_1]) (rest := [.long t_20, .long t_19]) ⟨hx, hb, hml, hown, hts⟩ (b_X12_power l G D cB cI cJ cZ cS cT 10 r_1 ) (csB (n := 2) (inr65 _ (List.mem_of_getElem? (i := 4) rfl)) (inr65 _ (List.mem_of_getElem? (i := 5) rfl)) (inr1 _ (List.mem_of_getElem? (i := 5) rfl)) (inr65 _ (List.mem_of_getElem? (i := 6) rfl)) (by decide +kernel) hts rfl rfl ⟨Nat.le_of_ble_eq_true rfl, Nat.le_of_ble_eq_true rfl⟩) (hP.sub [] rfl) hK hN hT rfl hl.1 rfl (Nat.le_of_ble_eq_true rfl) ⟨Nat.le_of_ble_eq_true rfl, Nat.le_of_ble_eq_true rfl⟩ dX12_isSure_39 (fun r_21 h_22 => ?_)
    have h_22 : (p10 10 r_1 r_21) := h_22
    have i_23 := h_22
    obtain ⟨t_24, et_24⟩ : ∃ v9 : Int64, t_20 * r_21 = v9 := ⟨_, rfl⟩
    refine z_lmul (v := t_24) hx hb dX12_isSure_42 et_24 ?_
    obtain ⟨t_25, et_25⟩ : ∃ v9 : Int32, lg_cmp t_19 t_24 = v9 := ⟨_, rfl⟩
    refine z_lcmp (v := t_25) hx hb dX12_isSure_43 et_25 ?_
    refine lv_if_lt (tgt := 51) hx hb dX12_isSure_44 (by decide) (fun c_26 => ?_) (fun c_26 => ?_)
    · have c_26 : t_19.toInt < t_24.toInt := cl_lt_t et_25 c_26
      refine lv_iconst (v := 0) hx hb dX12_isSure_51 (by decide) ?_
      refine lv_goto (tgt := 78) hx hb dX12_isSure_52 (by decide) ?_
      have hr9 : (0 : Int32).toInt = 0 := by decide
      exact ret _ _ _ dX12_isSure_78 (show ((0 : Int32) = 0 ∨ (0 : Int32) = 1) from (Or.inl rfl))
    · have c_26 : t_24.toInt ≤ t_19.toInt := cl_lt_f et_25 c_26
      refine lv_iconst (v := 1) hx hb dX12_isSure_47 (by decide) ?_
      refine lv_goto (tgt := 78) hx hb dX12_isSure_48 (by decide) ?_
      have hr9 : (1 : Int32).toInt = 1 := by decide
      exact ret _ _ _ dX12_isSure_78 (show ((1 : Int32) = 0 ∨ (1 : Int32) = 1) from (Or.inr rfl))

set_option maxHeartbeats 4000000 in
set_option maxRecDepth 100000 in
theorem b_X12_sure_l25 {p : Program} {l : Launch} {e : Env} {s : State} {m : MethodId} {args : Array Value} {below : List Frame} {meth : Method} {c : Code} {Q : State → Prop} {G : Gho} {D : va_G} {cB cI cJ cZ cS cT : ClassId} {A : Nat → Prop} (h0 : Nat) (v0_thrown : Int32) (h_world : Nat) (h_images : Nat) (h_hasImage : Nat) (h_tape : Nat) (v0_taped : Int32) (h_five : Nat) (v0_size : Int32) (v0_at : Int32) (v0_from : Int32) (v0_token : Int32) (v0_value : Int32) (v0_faultKind : Int32) (v0_faultPlace : Int32) (h_fresh : Nat) (h_spokenAt : Nat) (h_heardAt : Nat) (h_lastAt : Nat) (h_answerAt : Nat) (v0_lawA : Int32) (v0_lawB : Int32) (v0_lawC : Int32) (v0_isDrawn : Int32) (h_heardNow : Nat) (h_seenAt : Nat) (v0_roundFrom : Int32) (v0_roundTo : Int32) (v0_goLast : Int32) (v0_goAnswer : Int32) (v0_goHeard : Int32) (h_fewest : Nat) (h_costNow : Nat) (h_costThen : Nat) (h_lawsOf : Nat) (h_heardBy : Nat) (v0_lawMany : Int32) (v0_askWorst : Int32) (h_placesOf : Nat) (h_sentIn : Nat) (v0_placeMany : Int32) (v0_parentFirst : Int32) (h_lostBy : Nat) (h_many : Nat) (h_width : Nat) (h_numbers : Nat) (h_moving : Nat) (f_answerAt : Nat → Int32) (f_heardAt : Nat → Int32) (f_lastAt : Nat → Int32) (f_spokenAt : Nat → Int32) (f_world : Nat → Int32) (v1 : Int32) (t_3 : Int32) (t_4 : Int32) (t_5 : Int32) (t_6 : Int64) (t_7 : Int32) (t_8 : Int32) (g_9 : Nat → Int32) (g_10 : Nat → Int32) (g_11 : Nat → Int32) (g_12 : Nat → Int32) (iv0_taped : 0 ≤ v0_taped.toInt ∧ v0_taped.toInt ≤ 500) (iv0_size : 0 ≤ v0_size.toInt ∧ v0_size.toInt ≤ 500) (iv0_at : 0 ≤ v0_at.toInt ∧ v0_at.toInt ≤ 500) (iv0_from : 0 ≤ v0_from.toInt ∧ v0_from.toInt ≤ 500) (iv0_faultKind : 0 ≤ v0_faultKind.toInt ∧ v0_faultKind.toInt ≤ 3) (iv0_lawA : 0 ≤ v0_lawA.toInt ∧ v0_lawA.toInt ≤ 8) (iv0_lawB : 0 ≤ v0_lawB.toInt ∧ v0_lawB.toInt ≤ 8) (iv0_lawC : 0 ≤ v0_lawC.toInt ∧ v0_lawC.toInt ≤ 9) (iv0_isDrawn : 0 ≤ v0_isDrawn.toInt ∧ v0_isDrawn.toInt ≤ 1) (iv0_roundFrom : 0 ≤ v0_roundFrom.toInt ∧ v0_roundFrom.toInt ≤ 648) (iv0_roundTo : 0 ≤ v0_roundTo.toInt ∧ v0_roundTo.toInt ≤ 648) (iv0_goLast : 0 ≤ v0_goLast.toInt ∧ v0_goLast.toInt ≤ 8) (iv0_goAnswer : 0 ≤ v0_goAnswer.toInt ∧ v0_goAnswer.toInt ≤ 8) (iv0_lawMany : 0 ≤ v0_lawMany.toInt ∧ v0_lawMany.toInt ≤ 729) (iv0_placeMany : 0 ≤ v0_placeMany.toInt ∧ v0_placeMany.toInt ≤ 100) (pf_answerAt : sg sgLa f_answerAt) (pf_heardAt : sg sgSp f_heardAt) (pf_lastAt : sg sgLa f_lastAt) (pf_spokenAt : sg sgSp f_spokenAt) (pf_world : sg sgWo f_world) (cf_world : 0 < (f_world 9).toInt → 2 ≤ (f_world 0).toInt) (zv1 : 0 ≤ v1.toInt ∧ v1.toInt ≤ 100) (zt_3 : 0 ≤ t_3.toInt ∧ t_3.toInt ≤ 8) (zt_4 : 0 ≤ t_4.toInt ∧ t_4.toInt ≤ 8) (zt_5 : 0 ≤ t_5.toInt ∧ t_5.toInt ≤ 9) (zt_7 : 0 ≤ t_7.toInt ∧ t_7.toInt ≤ 1) (yg_9 : sg sgLa g_9) (yg_10 : sg sgSp g_10) (yg_11 : sg sgLa g_11) (yg_12 : sg sgSp g_12) (i_13 : 0 ≤ t_3.toInt ∧ t_3.toInt ≤ 8) (i_14 : 0 ≤ t_4.toInt ∧ t_4.toInt ≤ 8) (i_15 : 0 ≤ t_5.toInt ∧ t_5.toInt ≤ 9) (i_16 : 0 ≤ t_7.toInt ∧ t_7.toInt ≤ 1) (d_25 : 0 < (f_world 9).toInt) (C : Cx p s m args c RX12 cX12_sure 3 G D (tyL cB cI cJ cZ cS cT)) (hG : G.1 ≤ s.heap.size) (hAB : ∀ q, A q → G.1 ≤ q) (hA : ∀ q : Nat, s.heap.size ≤ q → A q) (ret : RetI p l e ({ frames := 5, cells := 0, slots := 0, locals := 107 }) s m args below meth c cX12_sure D A (fun x : Int32 × Int32 × Int32 × Int64 × Int32 × Int32 × (Nat → Int32) × (Nat → Int32) × (Nat → Int32) × (Nat → Int32) => [(mO h0 v0_thrown h_world h_images h_hasImage h_tape v0_taped h_five v0_size v0_at v0_from v0_token v0_value v0_faultKind v0_faultPlace h_fresh h_spokenAt h_heardAt h_lastAt h_answerAt x.1 x.2.1 x.2.2.1 x.2.2.2.1 x.2.2.2.2.1 x.2.2.2.2.2.1 h_heardNow h_seenAt v0_roundFrom v0_roundTo v0_goLast v0_goAnswer v0_goHeard h_fewest h_costNow h_costThen h_lawsOf h_heardBy v0_lawMany v0_askWorst h_placesOf h_sentIn v0_placeMany v0_parentFirst h_lostBy h_many h_width h_numbers h_moving), (h_answerAt, .inl (cI, 62, .inl x.2.2.2.2.2.2.1)), (h_heardAt, .inl (cI, 61, .inl x.2.2.2.2.2.2.2.1)), (h_lastAt, .inl (cI, 62, .inl x.2.2.2.2.2.2.2.2.1)), (h_spokenAt, .inl (cI, 61, .inl x.2.2.2.2.2.2.2.2.2)), (h_world, .inl (cI, 53, .inl f_world))]) (fun (r : Int32) (x : Int32 × Int32 × Int32 × Int64 × Int32 × Int32 × (Nat → Int32) × (Nat → Int32) × (Nat → Int32) × (Nat → Int32)) => (0 ≤ x.1.toInt ∧ x.1.toInt ≤ 8) ∧ (0 ≤ x.2.1.toInt ∧ x.2.1.toInt ≤ 8) ∧ (0 ≤ x.2.2.1.toInt ∧ x.2.2.1.toInt ≤ 9) ∧ (0 ≤ x.2.2.2.2.1.toInt ∧ x.2.2.2.2.1.toInt ≤ 1) ∧ (sg sgLa x.2.2.2.2.2.2.1) ∧ (sg sgSp x.2.2.2.2.2.2.2.1) ∧ (sg sgLa x.2.2.2.2.2.2.2.2.1) ∧ (sg sgSp x.2.2.2.2.2.2.2.2.2)) Q) :
    ∀ (N : Nat) (l25_2 : Int32) (H : Heap) (locs : List Loc) (ls : Array Slot), (-1) ≤ l25_2.toInt ∧ l25_2.toInt ≤ 17 → (l25_2.toInt - 0 + 1).toNat < N → va_P D vwCl [(mO h0 v0_thrown h_world h_images h_hasImage h_tape v0_taped h_five v0_size v0_at v0_from v0_token v0_value v0_faultKind v0_faultPlace h_fresh h_spokenAt h_heardAt h_lastAt h_answerAt t_3 t_4 t_5 t_6 t_7 t_8 h_heardNow h_seenAt v0_roundFrom v0_roundTo v0_goLast v0_goAnswer v0_goHeard h_fewest h_costNow h_costThen h_lawsOf h_heardBy v0_lawMany v0_askWorst h_placesOf h_sentIn v0_placeMany v0_parentFirst h_lostBy h_many h_width h_numbers h_moving), (h_answerAt, .inl (cI, 62, .inl g_9)), (h_heardAt, .inl (cI, 61, .inl g_10)), (h_lastAt, .inl (cI, 62, .inl g_11)), (h_spokenAt, .inl (cI, 61, .inl g_12)), (h_world, .inl (cI, 53, .inl f_world))] H → va_D A [(mO h0 v0_thrown h_world h_images h_hasImage h_tape v0_taped h_five v0_size v0_at v0_from v0_token v0_value v0_faultKind v0_faultPlace h_fresh h_spokenAt h_heardAt h_lastAt h_answerAt t_3 t_4 t_5 t_6 t_7 t_8 h_heardNow h_seenAt v0_roundFrom v0_roundTo v0_goLast v0_goAnswer v0_goHeard h_fewest h_costNow h_costThen h_lawsOf h_heardBy v0_lawMany v0_askWorst h_placesOf h_sentIn v0_placeMany v0_parentFirst h_lostBy h_many h_width h_numbers h_moving), (h_answerAt, .inl (cI, 62, .inl g_9)), (h_heardAt, .inl (cI, 61, .inl g_10)), (h_lastAt, .inl (cI, 62, .inl g_11)), (h_spokenAt, .inl (cI, 61, .inl g_12)), (h_world, .inl (cI, 53, .inl f_world))] → va_S A s.heap H locs → lv_has ls 3 [(2, .int l25_2), (0, .ref h0), (1, .int v1)] → W p l e ({ frames := 5, cells := 0, slots := 0, locals := 107 }) s m args below meth c H locs 0 0 Q (F0 m 25 ls []) := by
  obtain ⟨hx, hb, hml, hown, hts, hK, hN, hT⟩ := id C
  intro N
  induction N with
  | zero =>
    intro l25_2 H locs ls kl25_2 hM_25 hP hD hS hl
    omega
  | succ N_25 ih_25 =>
    intro l25_2 H locs ls kl25_2 hM_25 hP hD hS hl
    have b_l25_2 := i32b l25_2
    refine lv_iload_n hx hb dX12_sure_25 rfl (lv_at hl 0 rfl) ?_
    refine lv_if_lt (tgt := 44) hx hb dX12_sure_26 (by decide) (fun c_33 => ?_) (fun c_33 => ?_)
    · have c_33 : l25_2.toInt < 0 := ci_lt_t c_33
      refine lv_iload_n hx hb dX12_sure_44 rfl (lv_at hl 0 rfl) ?_
      exact ret _ _ _ _ _ (t_3, t_4, t_5, t_6, t_7, t_8, g_9, g_10, g_11, g_12) dX12_sure_45 (show (0 ≤ t_3.toInt ∧ t_3.toInt ≤ 8) ∧ (0 ≤ t_4.toInt ∧ t_4.toInt ≤ 8) ∧ (0 ≤ t_5.toInt ∧ t_5.toInt ≤ 9) ∧ (0 ≤ t_7.toInt ∧ t_7.toInt ≤ 1) ∧ (sg sgLa g_9) ∧ (sg sgSp g_10) ∧ (sg sgLa g_11) ∧ (sg sgSp g_12) from ⟨(by first | assumption | (have := zI0; have := zI1; have := zIm; omega) | decide), (by first | assumption | (have := zI0; have := zI1; have := zIm; omega) | decide), (by first | assumption | (have := zI0; have := zI1; have := zIm; omega) | decide), (by first | assumption | (have := zI0; have := zI1; have := zIm; omega) | decide), (by first | assumption | (have := zI0; have := zI1; have := zIm; omega) | decide), (by first | assumption | (have := zI0; have := zI1; have := zIm; omega) | decide), (by first | assumption | (have := zI0; have := zI1; have := zIm; omega) | decide), (by first | assumption | (have := zI0; have := zI1; have := zIm; omega) | decide)⟩) (hP.sub [0, 1, 2, 3, 4, 5] rfl) (hD.sub [0, 1, 2, 3, 4, 5] (by decide) rfl) hS
    · have c_33 : 0 ≤ l25_2.toInt := ci_lt_f c_33
      refine lv_aload_n hx hb dX12_sure_29 rfl (lv_at hl 1 rfl) ?_
      refine lv_iload_n hx hb dX12_sure_30 rfl (lv_at hl 0 rfl) ?_
      refine lv_iload_n hx hb dX12_sure_31 rfl (lv_at hl 2 rfl) ?_
      refine roi (As := [.int l25_2, .int v1]) (rest := []) ⟨hx, hb, hml, hown, hts⟩ (b_X12_isSure l G D cB cI cJ cZ cS cT h0 v0_thrown h_world h_images h_hasImage h_tape v0_taped h_five v0_size v0_at v0_from v0_token v0_value v0_faultKind v0_faultPlace h_fresh h_spokenAt h_heardAt h_lastAt h_answerAt t_3 t_4 t_5 t_6 t_7 t_8 h_heardNow h_seenAt v0_roundFrom v0_roundTo v0_goLast v0_goAnswer v0_goHeard h_fewest h_costNow h_costThen h_lawsOf h_heardBy v0_lawMany v0_askWorst h_placesOf h_sentIn v0_placeMany v0_parentFirst h_lostBy h_many h_width h_numbers h_moving g_12 f_world l25_2 v1 (by first | assumption | (have := zI0; have := zI1; have := zIm; omega) | decide) (by first | assumption | (have := zI0; have := zI1; have := zIm; omega) | decide) (by first | assumption | (have := zI0; have := zI1; have := zIm; omega) | decide) (by first | assumption | (have := zI0; have := zI1; have := zIm; omega) | decide) (by first | assumption | (have := zI0; have := zI1; have := zIm; omega) | decide) (by first | assumption | (have := zI0; have := zI1; have := zIm; omega) | decide) (by first | assumption | (have := zI0; have := zI1; have := zIm; omega) | decide) (by first | assumption | (have := zI0; have := zI1; have := zIm; omega) | decide) (by first | assumption | (have := zI0; have := zI1; have := zIm; omega) | decide) (by first | assumption | (have := zI0; have := zI1; have := zIm; omega) | decide) (by first | assumption | (have := zI0; have := zI1; have := zIm; omega) | decide) (by first | assumption | (have := zI0; have := zI1; have := zIm; omega) | decide) (by first | assumption | (have := zI0; have := zI1; have := zIm; omega) | decide) (by first | assumption | (have := zI0; have := zI1; have := zIm; omega) | decide) (by first | assumption | (have := zI0; have := zI1; have := zIm; omega) | decide) (by first | assumption | (have := zI0; have := zI1; have := zIm; omega) | decide) (by first | assumption | (have := zI0; have := zI1; have := zIm; omega) | decide) (by first | assumption | (have := zI0; have := zI1; have := zIm; omega) | decide) (by first | assumption | (have := zI0; have := zI1; have := zIm; omega) | decide)) (cvB (n := 2) (inr66 _ (List.mem_of_getElem? (i := 0) rfl)) (inr66 _ (List.mem_of_getElem? (i := 1) rfl)) (inr66 _ (List.mem_of_getElem? (i := 2) rfl)) (inr1 _ (List.mem_of_getElem? (i := 5) rfl)) (inr66 _ (List.mem_of_getElem? (i := 3) rfl)) (by decide +kernel) hts rfl rfl ⟨Nat.le_of_ble_eq_true rfl, Nat.le_of_ble_eq_true rfl⟩) 0 12 rfl rfl rfl (hP.sub [0, 4, 5] rfl) hK hN (kT.to hT hS hAB) rfl hl.1 rfl (Nat.le_of_ble_eq_true rfl) ⟨Nat.le_of_ble_eq_true rfl, Nat.le_of_ble_eq_true rfl⟩ dX12_sure_32 (fun r_34 h_35 => ?_)
      have h_35 : (r_34 = 0 ∨ r_34 = 1) := h_35
      have i_36 := h_35
      have ar_34 : 0 ≤ r_34.toInt ∧ r_34.toInt ≤ 1 := by rcases i_36 with h | h <;> rw [h] <;> decide
      refine lv_if_ne (tgt := 44) hx hb dX12_sure_35 (by decide) (fun c_37 => ?_) (fun c_37 => ?_)
      · have c_37 : ¬ r_34.toInt = 0 := ci_ne_t c_37
        have b_r_34 := i32b r_34
        refine lv_iload_n hx hb dX12_sure_44 rfl (lv_at hl 0 rfl) ?_
        exact ret _ _ _ _ _ (t_3, t_4, t_5, t_6, t_7, t_8, g_9, g_10, g_11, g_12) dX12_sure_45 (show (0 ≤ t_3.toInt ∧ t_3.toInt ≤ 8) ∧ (0 ≤ t_4.toInt ∧ t_4.toInt ≤ 8) ∧ (0 ≤ t_5.toInt ∧ t_5.toInt ≤ 9) ∧ (0 ≤ t_7.toInt ∧ t_7.toInt ≤ 1) ∧ (sg sgLa g_9) ∧ (sg sgSp g_10) ∧ (sg sgLa g_11) ∧ (sg sgSp g_12) from ⟨(by first | assumption | (have := zI0; have := zI1; have := zIm; omega) | decide), (by first | assumption | (have := zI0; have := zI1; have := zIm; omega) | decide), (by first | assumption | (have := zI0; have := zI1; have := zIm; omega) | decide), (by first | assumption | (have := zI0; have := zI1; have := zIm; omega) | decide), (by first | assumption | (have := zI0; have := zI1; have := zIm; omega) | decide), (by first | assumption | (have := zI0; have := zI1; have := zIm; omega) | decide), (by first | assumption | (have := zI0; have := zI1; have := zIm; omega) | decide), (by first | assumption | (have := zI0; have := zI1; have := zIm; omega) | decide)⟩) (hP.sub [0, 1, 2, 3, 4, 5] rfl) (hD.sub [0, 1, 2, 3, 4, 5] (by decide) rfl) hS
      · have c_37 : r_34.toInt = 0 := ci_ne_f c_37
        have b_r_34 := i32b r_34
        obtain ⟨t_38, et_38⟩ : ∃ v9 : Int32, l25_2 + (-1) = v9 := ⟨_, rfl⟩
        have ft_38 : t_38.toInt = l25_2.toInt + (-1) := addT (a := l25_2.toInt) (b := (-1)) rfl (by decide) et_38 (by omega) (by omega)
        refine lv_iinc (v := t_38) (lv' := [(2, .int t_38), (0, .ref h0), (1, .int v1)]) hx hb dX12_sure_38 hl (k := 0) rfl (by rw [← et_38]; rfl) (by decide) rfl (fun ls hl => ?_)
        refine lv_goto (tgt := 25) hx hb dX12_sure_41 (by decide) ?_
        exact ih_25 (t_38) _ _ _ (by first | assumption | (have := zI0; have := zI1; have := zIm; omega) | decide) (by omega) (hP.sub [0, 1, 2, 3, 4, 5] rfl) (hD.sub [0, 1, 2, 3, 4, 5] (by decide) rfl) hS (lv_sub hl [0, 1, 2] rfl)

set_option maxHeartbeats 4000000 in
set_option maxRecDepth 100000 in
theorem b_X12_sure (l : Launch) (G : Gho) (D : va_G) (cB cI cJ cZ cS cT : ClassId) (sz : Nat) (h0 : Nat) (v0_thrown : Int32) (h_world : Nat) (h_images : Nat) (h_hasImage : Nat) (h_tape : Nat) (v0_taped : Int32) (h_five : Nat) (v0_size : Int32) (v0_at : Int32) (v0_from : Int32) (v0_token : Int32) (v0_value : Int32) (v0_faultKind : Int32) (v0_faultPlace : Int32) (h_fresh : Nat) (h_spokenAt : Nat) (h_heardAt : Nat) (h_lastAt : Nat) (h_answerAt : Nat) (v0_lawA : Int32) (v0_lawB : Int32) (v0_lawC : Int32) (v0_drawX : Int64) (v0_isDrawn : Int32) (v0_lostMany : Int32) (h_heardNow : Nat) (h_seenAt : Nat) (v0_roundFrom : Int32) (v0_roundTo : Int32) (v0_goLast : Int32) (v0_goAnswer : Int32) (v0_goHeard : Int32) (h_fewest : Nat) (h_costNow : Nat) (h_costThen : Nat) (h_lawsOf : Nat) (h_heardBy : Nat) (v0_lawMany : Int32) (v0_askWorst : Int32) (h_placesOf : Nat) (h_sentIn : Nat) (v0_placeMany : Int32) (v0_parentFirst : Int32) (h_lostBy : Nat) (h_many : Nat) (h_width : Nat) (h_numbers : Nat) (h_moving : Nat) (f_answerAt : Nat → Int32) (f_heardAt : Nat → Int32) (f_lastAt : Nat → Int32) (f_spokenAt : Nat → Int32) (f_world : Nat → Int32) (v1 : Int32) (iv0_taped : 0 ≤ v0_taped.toInt ∧ v0_taped.toInt ≤ 500) (iv0_size : 0 ≤ v0_size.toInt ∧ v0_size.toInt ≤ 500) (iv0_at : 0 ≤ v0_at.toInt ∧ v0_at.toInt ≤ 500) (iv0_from : 0 ≤ v0_from.toInt ∧ v0_from.toInt ≤ 500) (iv0_faultKind : 0 ≤ v0_faultKind.toInt ∧ v0_faultKind.toInt ≤ 3) (iv0_lawA : 0 ≤ v0_lawA.toInt ∧ v0_lawA.toInt ≤ 8) (iv0_lawB : 0 ≤ v0_lawB.toInt ∧ v0_lawB.toInt ≤ 8) (iv0_lawC : 0 ≤ v0_lawC.toInt ∧ v0_lawC.toInt ≤ 9) (iv0_isDrawn : 0 ≤ v0_isDrawn.toInt ∧ v0_isDrawn.toInt ≤ 1) (iv0_roundFrom : 0 ≤ v0_roundFrom.toInt ∧ v0_roundFrom.toInt ≤ 648) (iv0_roundTo : 0 ≤ v0_roundTo.toInt ∧ v0_roundTo.toInt ≤ 648) (iv0_goLast : 0 ≤ v0_goLast.toInt ∧ v0_goLast.toInt ≤ 8) (iv0_goAnswer : 0 ≤ v0_goAnswer.toInt ∧ v0_goAnswer.toInt ≤ 8) (iv0_lawMany : 0 ≤ v0_lawMany.toInt ∧ v0_lawMany.toInt ≤ 729) (iv0_placeMany : 0 ≤ v0_placeMany.toInt ∧ v0_placeMany.toInt ≤ 100) (pf_answerAt : sg sgLa f_answerAt) (pf_heardAt : sg sgSp f_heardAt) (pf_lastAt : sg sgLa f_lastAt) (pf_spokenAt : sg sgSp f_spokenAt) (pf_world : sg sgWo f_world) (cf_world : 0 < (f_world 9).toInt → 2 ≤ (f_world 0).toInt) : Met l yX12_sure (Cond.code yX12_sure cX12_sure 3 (some .int) :: wsL_law) ({ frames := 5, cells := 0, slots := 0, locals := 107 }) (wrP G D (tyL cB cI cJ cZ cS cT) [(mO h0 v0_thrown h_world h_images h_hasImage h_tape v0_taped h_five v0_size v0_at v0_from v0_token v0_value v0_faultKind v0_faultPlace h_fresh h_spokenAt h_heardAt h_lastAt h_answerAt v0_lawA v0_lawB v0_lawC v0_drawX v0_isDrawn v0_lostMany h_heardNow h_seenAt v0_roundFrom v0_roundTo v0_goLast v0_goAnswer v0_goHeard h_fewest h_costNow h_costThen h_lawsOf h_heardBy v0_lawMany v0_askWorst h_placesOf h_sentIn v0_placeMany v0_parentFirst h_lostBy h_many h_width h_numbers h_moving), (h_answerAt, .inl (cI, 62, .inl f_answerAt)), (h_heardAt, .inl (cI, 61, .inl f_heardAt)), (h_lastAt, .inl (cI, 62, .inl f_lastAt)), (h_spokenAt, .inl (cI, 61, .inl f_spokenAt)), (h_world, .inl (cI, 53, .inl f_world))] sz [.ref h0, .int v1]) (va_Qi (fun (r : Int32) (x : Int32 × Int32 × Int32 × Int64 × Int32 × Int32 × (Nat → Int32) × (Nat → Int32) × (Nat → Int32) × (Nat → Int32)) => (0 ≤ x.1.toInt ∧ x.1.toInt ≤ 8) ∧ (0 ≤ x.2.1.toInt ∧ x.2.1.toInt ≤ 8) ∧ (0 ≤ x.2.2.1.toInt ∧ x.2.2.1.toInt ≤ 9) ∧ (0 ≤ x.2.2.2.2.1.toInt ∧ x.2.2.2.2.1.toInt ≤ 1) ∧ (sg sgLa x.2.2.2.2.2.2.1) ∧ (sg sgSp x.2.2.2.2.2.2.2.1) ∧ (sg sgLa x.2.2.2.2.2.2.2.2.1) ∧ (sg sgSp x.2.2.2.2.2.2.2.2.2)) (atW D (tyL cB cI cJ cZ cS cT) (va_A [(mO h0 v0_thrown h_world h_images h_hasImage h_tape v0_taped h_five v0_size v0_at v0_from v0_token v0_value v0_faultKind v0_faultPlace h_fresh h_spokenAt h_heardAt h_lastAt h_answerAt v0_lawA v0_lawB v0_lawC v0_drawX v0_isDrawn v0_lostMany h_heardNow h_seenAt v0_roundFrom v0_roundTo v0_goLast v0_goAnswer v0_goHeard h_fewest h_costNow h_costThen h_lawsOf h_heardBy v0_lawMany v0_askWorst h_placesOf h_sentIn v0_placeMany v0_parentFirst h_lostBy h_many h_width h_numbers h_moving), (h_answerAt, .inl (cI, 62, .inl f_answerAt)), (h_heardAt, .inl (cI, 61, .inl f_heardAt)), (h_lastAt, .inl (cI, 62, .inl f_lastAt)), (h_spokenAt, .inl (cI, 61, .inl f_spokenAt)), (h_world, .inl (cI, 53, .inl f_world))] sz) (fun x : Int32 × Int32 × Int32 × Int64 × Int32 × Int32 × (Nat → Int32) × (Nat → Int32) × (Nat → Int32) × (Nat → Int32) => [(mO h0 v0_thrown h_world h_images h_hasImage h_tape v0_taped h_five v0_size v0_at v0_from v0_token v0_value v0_faultKind v0_faultPlace h_fresh h_spokenAt h_heardAt h_lastAt h_answerAt x.1 x.2.1 x.2.2.1 x.2.2.2.1 x.2.2.2.2.1 x.2.2.2.2.2.1 h_heardNow h_seenAt v0_roundFrom v0_roundTo v0_goLast v0_goAnswer v0_goHeard h_fewest h_costNow h_costThen h_lawsOf h_heardBy v0_lawMany v0_askWorst h_placesOf h_sentIn v0_placeMany v0_parentFirst h_lostBy h_many h_width h_numbers h_moving), (h_answerAt, .inl (cI, 62, .inl x.2.2.2.2.2.2.1)), (h_heardAt, .inl (cI, 61, .inl x.2.2.2.2.2.2.2.1)), (h_lastAt, .inl (cI, 62, .inl x.2.2.2.2.2.2.2.2.1)), (h_spokenAt, .inl (cI, 61, .inl x.2.2.2.2.2.2.2.2.2)), (h_world, .inl (cI, 53, .inl f_world))])) (va_A [(mO h0 v0_thrown h_world h_images h_hasImage h_tape v0_taped h_five v0_size v0_at v0_from v0_token v0_value v0_faultKind v0_faultPlace h_fresh h_spokenAt h_heardAt h_lastAt h_answerAt v0_lawA v0_lawB v0_lawC v0_drawX v0_isDrawn v0_lostMany h_heardNow h_seenAt v0_roundFrom v0_roundTo v0_goLast v0_goAnswer v0_goHeard h_fewest h_costNow h_costThen h_lawsOf h_heardBy v0_lawMany v0_askWorst h_placesOf h_sentIn v0_placeMany v0_parentFirst h_lostBy h_many h_width h_numbers h_moving), (h_answerAt, .inl (cI, 62, .inl f_answerAt)), (h_heardAt, .inl (cI, 61, .inl f_heardAt)), (h_lastAt, .inl (cI, 62, .inl f_lastAt)), (h_spokenAt, .inl (cI, 61, .inl f_spokenAt)), (h_world, .inl (cI, 53, .inl f_world))] sz)) 0 0 (va_A [(mO h0 v0_thrown h_world h_images h_hasImage h_tape v0_taped h_five v0_size v0_at v0_from v0_token v0_value v0_faultKind v0_faultPlace h_fresh h_spokenAt h_heardAt h_lastAt h_answerAt v0_lawA v0_lawB v0_lawC v0_drawX v0_isDrawn v0_lostMany h_heardNow h_seenAt v0_roundFrom v0_roundTo v0_goLast v0_goAnswer v0_goHeard h_fewest h_costNow h_costThen h_lawsOf h_heardBy v0_lawMany v0_askWorst h_placesOf h_sentIn v0_placeMany v0_parentFirst h_lostBy h_many h_width h_numbers h_moving), (h_answerAt, .inl (cI, 62, .inl f_answerAt)), (h_heardAt, .inl (cI, 61, .inl f_heardAt)), (h_lastAt, .inl (cI, 62, .inl f_lastAt)), (h_spokenAt, .inl (cI, 61, .inl f_spokenAt)), (h_world, .inl (cI, 53, .inl f_world))] sz) := by
  refine metI (own := RX12) (by decide) rfl ?_
  intro p e s m below meth c Q hsz C hG hP hD hAB ret
  obtain ⟨hx, hb, hml, hown, hts, hK, hN, hT⟩ := id C
  subst hsz
  generalize hAe : va_A [(mO h0 v0_thrown h_world h_images h_hasImage h_tape v0_taped h_five v0_size v0_at v0_from v0_token v0_value v0_faultKind v0_faultPlace h_fresh h_spokenAt h_heardAt h_lastAt h_answerAt v0_lawA v0_lawB v0_lawC v0_drawX v0_isDrawn v0_lostMany h_heardNow h_seenAt v0_roundFrom v0_roundTo v0_goLast v0_goAnswer v0_goHeard h_fewest h_costNow h_costThen h_lawsOf h_heardBy v0_lawMany v0_askWorst h_placesOf h_sentIn v0_placeMany v0_parentFirst h_lostBy h_many h_width h_numbers h_moving), (h_answerAt, .inl (cI, 62, .inl f_answerAt)), (h_heardAt, .inl (cI, 61, .inl f_heardAt)), (h_lastAt, .inl (cI, 62, .inl f_lastAt)), (h_spokenAt, .inl (cI, 61, .inl f_spokenAt)), (h_world, .inl (cI, 53, .inl f_world))] s.heap.size = A at hD hAB ret ⊢
  have hA : ∀ q : Nat, s.heap.size ≤ q → A q := fun q h => by rw [← hAe]; exact Or.inr h
  have hS : va_S A s.heap s.heap [] := va_S.rf
  have hl := lv_entry ([.ref h0, .int v1]) (n := 3) (Nat.le_of_ble_eq_true rfl)
  rw [lg_entry_eq]
  generalize (lg_sl ([.ref h0, .int v1]) ++ List.replicate (3 - (lg_sl ([.ref h0, .int v1])).length) Slot.unset).toArray = ls at hl ⊢
  have hl : lv_has ls 3 [(0, .ref h0), (1, .int v1)] := hl
  have hP : va_P D vwCl [(mO h0 v0_thrown h_world h_images h_hasImage h_tape v0_taped h_five v0_size v0_at v0_from v0_token v0_value v0_faultKind v0_faultPlace h_fresh h_spokenAt h_heardAt h_lastAt h_answerAt v0_lawA v0_lawB v0_lawC v0_drawX v0_isDrawn v0_lostMany h_heardNow h_seenAt v0_roundFrom v0_roundTo v0_goLast v0_goAnswer v0_goHeard h_fewest h_costNow h_costThen h_lawsOf h_heardBy v0_lawMany v0_askWorst h_placesOf h_sentIn v0_placeMany v0_parentFirst h_lostBy h_many h_width h_numbers h_moving), (h_answerAt, .inl (cI, 62, .inl f_answerAt)), (h_heardAt, .inl (cI, 61, .inl f_heardAt)), (h_lastAt, .inl (cI, 62, .inl f_lastAt)), (h_spokenAt, .inl (cI, 61, .inl f_spokenAt)), (h_world, .inl (cI, 53, .inl f_world))] s.heap := hP
  refine lv_aload_n hx hb dX12_sure_0 rfl (lv_at hl 0 rfl) ?_
  refine wrVi (As := []) (rest := []) (wr := []) ⟨hx, hb, hml, hown, hts⟩ (b_X12_asksStation l G D cB cI cJ cZ cS cT s.heap.size h0 v0_thrown h_world h_images h_hasImage h_tape v0_taped h_five v0_size v0_at v0_from v0_token v0_value v0_faultKind v0_faultPlace h_fresh h_spokenAt h_heardAt h_lastAt h_answerAt v0_lawA v0_lawB v0_lawC v0_drawX v0_isDrawn v0_lostMany h_heardNow h_seenAt v0_roundFrom v0_roundTo v0_goLast v0_goAnswer v0_goHeard h_fewest h_costNow h_costThen h_lawsOf h_heardBy v0_lawMany v0_askWorst h_placesOf h_sentIn v0_placeMany v0_parentFirst h_lostBy h_many h_width h_numbers h_moving f_answerAt f_heardAt f_lastAt f_spokenAt f_world (by first | assumption | (have := zI0; have := zI1; have := zIm; omega) | decide) (by first | assumption | (have := zI0; have := zI1; have := zIm; omega) | decide) (by first | assumption | (have := zI0; have := zI1; have := zIm; omega) | decide) (by first | assumption | (have := zI0; have := zI1; have := zIm; omega) | decide) (by first | assumption | (have := zI0; have := zI1; have := zIm; omega) | decide) (by first | assumption | (have := zI0; have := zI1; have := zIm; omega) | decide) (by first | assumption | (have := zI0; have := zI1; have := zIm; omega) | decide) (by first | assumption | (have := zI0; have := zI1; have := zIm; omega) | decide) (by first | assumption | (have := zI0; have := zI1; have := zIm; omega) | decide) (by first | assumption | (have := zI0; have := zI1; have := zIm; omega) | decide) (by first | assumption | (have := zI0; have := zI1; have := zIm; omega) | decide) (by first | assumption | (have := zI0; have := zI1; have := zIm; omega) | decide) (by first | assumption | (have := zI0; have := zI1; have := zIm; omega) | decide) (by first | assumption | (have := zI0; have := zI1; have := zIm; omega) | decide) (by first | assumption | (have := zI0; have := zI1; have := zIm; omega) | decide) (by first | assumption | (have := zI0; have := zI1; have := zIm; omega) | decide) (by first | assumption | (have := zI0; have := zI1; have := zIm; omega) | decide) (by first | assumption | (have := zI0; have := zI1; have := zIm; omega) | decide) (by first | assumption | (have := zI0; have := zI1; have := zIm; omega) | decide) (by first | assumption | (have := zI0; have := zI1; have := zIm; omega) | decide) (by first | assumption | (have := zI0; have := zI1; have := zIm; omega) | decide)) hP hD hS hA hK hN hT hAB hG [0, 1, 2, 3, 4, 5] [] rfl rfl (by decide) (by decide) (by decide) (cvB (n := 0) (inr24 _ (List.mem_of_getElem? (i := 3) rfl)) (inr24 _ (List.mem_of_getElem? (i := 4) rfl)) (inr24 _ (List.mem_of_getElem? (i := 5) rfl)) (inr1 _ (List.mem_of_getElem? (i := 5) rfl)) (inr24 _ (List.mem_of_getElem? (i := 6) rfl)) (by decide +kernel) hts rfl rfl ⟨Nat.le_of_ble_eq_true rfl, Nat.le_of_ble_eq_true rfl⟩) 0 12 rfl rfl rfl rfl hl.1 rfl (Nat.le_of_ble_eq_true rfl) ⟨Nat.le_of_ble_eq_true rfl, Nat.le_of_ble_eq_true rfl⟩ dX12_sure_1 (fun r_1 x9 H locs h_2 hP hD hS => ?_)
  obtain ⟨t_3, t_4, t_5, t_6, t_7, t_8, g_9, g_10, g_11, g_12⟩ := x9
  have hP : va_P D vwCl [(mO h0 v0_thrown h_world h_images h_hasImage h_tape v0_taped h_five v0_size v0_at v0_from v0_token v0_value v0_faultKind v0_faultPlace h_fresh h_spokenAt h_heardAt h_lastAt h_answerAt t_3 t_4 t_5 t_6 t_7 t_8 h_heardNow h_seenAt v0_roundFrom v0_roundTo v0_goLast v0_goAnswer v0_goHeard h_fewest h_costNow h_costThen h_lawsOf h_heardBy v0_lawMany v0_askWorst h_placesOf h_sentIn v0_placeMany v0_parentFirst h_lostBy h_many h_width h_numbers h_moving), (h_answerAt, .inl (cI, 62, .inl g_9)), (h_heardAt, .inl (cI, 61, .inl g_10)), (h_lastAt, .inl (cI, 62, .inl g_11)), (h_spokenAt, .inl (cI, 61, .inl g_12)), (h_world, .inl (cI, 53, .inl f_world))] H := hP
  have hD : va_D A [(mO h0 v0_thrown h_world h_images h_hasImage h_tape v0_taped h_five v0_size v0_at v0_from v0_token v0_value v0_faultKind v0_faultPlace h_fresh h_spokenAt h_heardAt h_lastAt h_answerAt t_3 t_4 t_5 t_6 t_7 t_8 h_heardNow h_seenAt v0_roundFrom v0_roundTo v0_goLast v0_goAnswer v0_goHeard h_fewest h_costNow h_costThen h_lawsOf h_heardBy v0_lawMany v0_askWorst h_placesOf h_sentIn v0_placeMany v0_parentFirst h_lostBy h_many h_width h_numbers h_moving), (h_answerAt, .inl (cI, 62, .inl g_9)), (h_heardAt, .inl (cI, 61, .inl g_10)), (h_lastAt, .inl (cI, 62, .inl g_11)), (h_spokenAt, .inl (cI, 61, .inl g_12)), (h_world, .inl (cI, 53, .inl f_world))] := hD
  have h_2 : (0 ≤ t_3.toInt ∧ t_3.toInt ≤ 8) ∧ (0 ≤ t_4.toInt ∧ t_4.toInt ≤ 8) ∧ (0 ≤ t_5.toInt ∧ t_5.toInt ≤ 9) ∧ (0 ≤ t_7.toInt ∧ t_7.toInt ≤ 1) ∧ (sg sgLa g_9) ∧ (sg sgSp g_10) ∧ (sg sgLa g_11) ∧ (sg sgSp g_12) ∧ ((r_1.toInt = 1 ∧ 0 < (f_world 9).toInt) ∨ (r_1.toInt = 0 ∧ (f_world 9).toInt ≤ 0)) ∧ (r_1 = 0 ∨ r_1 = 1) := h_2
  obtain ⟨i_13, i_14, i_15, i_16, i_17, i_18, i_19, i_20, i_21, i_22⟩ := h_2
  have ar_1 : 0 ≤ r_1.toInt ∧ r_1.toInt ≤ 1 := by rcases i_22 with h | h <;> rw [h] <;> decide
  refine lv_if_eq (tgt := 19) hx hb dX12_sure_4 (by decide) (fun c_23 => ?_) (fun c_23 => ?_)
  · have c_23 : r_1.toInt = 0 := ci_eq_t c_23
    have b_r_1 := i32b r_1
    have d_24 : (f_world 9).toInt ≤ 0 := by omega
    clear i_21
    refine lv_bipush (v := (-2)) hx hb dX12_sure_19 (by decide) ?_
    exact ret _ _ _ _ _ (t_3, t_4, t_5, t_6, t_7, t_8, g_9, g_10, g_11, g_12) dX12_sure_21 (show (0 ≤ t_3.toInt ∧ t_3.toInt ≤ 8) ∧ (0 ≤ t_4.toInt ∧ t_4.toInt ≤ 8) ∧ (0 ≤ t_5.toInt ∧ t_5.toInt ≤ 9) ∧ (0 ≤ t_7.toInt ∧ t_7.toInt ≤ 1) ∧ (sg sgLa g_9) ∧ (sg sgSp g_10) ∧ (sg sgLa g_11) ∧ (sg sgSp g_12) from ⟨(by first | assumption | (have := zI0; have := zI1; have := zIm; omega) | decide), (by first | assumption | (have := zI0; have := zI1; have := zIm; omega) | decide), (by first | assumption | (have := zI0; have := zI1; have := zIm; omega) | decide), (by first | assumption | (have := zI0; have := zI1; have := zIm; omega) | decide), (by first | assumption | (have := zI0; have := zI1; have := zIm; omega) | decide), (by first | assumption | (have := zI0; have := zI1; have := zIm; omega) | decide), (by first | assumption | (have := zI0; have := zI1; have := zIm; omega) | decide), (by first | assumption | (have := zI0; have := zI1; have := zIm; omega) | decide)⟩) (hP.sub [0, 1, 2, 3, 4, 5] rfl) (hD.sub [0, 1, 2, 3, 4, 5] (by decide) rfl) hS
  · have c_23 : ¬ r_1.toInt = 0 := ci_eq_f c_23
    have b_r_1 := i32b r_1
    have d_25 : 0 < (f_world 9).toInt := by omega
    clear i_21
    refine lv_iload_n hx hb dX12_sure_7 rfl (lv_at hl 1 rfl) ?_
    have b_v1 := i32b v1
    obtain ⟨t_26, et_26⟩ : ∃ v9 : Int64, (v1 : Int32).toInt64 = v9 := ⟨_, rfl⟩
    refine lv_i2l (v := t_26) hx hb dX12_sure_8 et_26 ?_
    have ft_26 : t_26.toInt = v1.toInt := by rw [← et_26]; exact Int32.toInt_toInt64 _
    refine lv_lconst (v := 0) hx hb dX12_sure_9 (by decide) ?_
    refine lv_ldc2 hx hb hown (hts _ (inr65 _ (List.mem_of_getElem? (i := 23) rfl))) dX12_sure_10 ?_
    refine rosi (As := [.long t_26, .long 0, .long 100]) (rest := []) ⟨hx, hb, hml, hown, hts⟩ (b_X12_in l G D cB cI cJ cZ cS cT t_26 0 100 ) (csB (n := 3) (inr9 _ (List.mem_of_getElem? (i := 3) rfl)) (inr9 _ (List.mem_of_getElem? (i := 4) rfl)) (inr1 _ (List.mem_of_getElem? (i := 5) rfl)) (inr9 _ (List.mem_of_getElem? (i := 5) rfl)) (by decide +kernel) hts rfl rfl ⟨Nat.le_of_ble_eq_true rfl, Nat.le_of_ble_eq_true rfl⟩) (hP.sub [] rfl) hK hN (kT.to hT hS hAB) rfl hl.1 rfl (Nat.le_of_ble_eq_true rfl) ⟨Nat.le_of_ble_eq_true rfl, Nat.le_of_ble_eq_true rfl⟩ dX12_sure_13 (fun r_27 h_28 => ?_)
    have h_28 : ((r_27.toInt = 1 ∧ 0 ≤ t_26.toInt ∧ t_26.toInt ≤ 100) ∨ (r_27.toInt = 0 ∧ (t_26.toInt < 0 ∨ 100 < t_26.toInt))) ∧ (r_27 = 0 ∨ r_27 = 1) := h_28
    obtain ⟨i_29, i_30⟩ := h_28
    have ar_27 : 0 ≤ r_27.toInt ∧ r_27.toInt ≤ 1 := by rcases i_30 with h | h <;> rw [h] <;> decide
    refine lv_if_ne (tgt := 22) hx hb dX12_sure_16 (by decide) (fun c_31 => ?_) (fun c_31 => ?_)
    · have c_31 : ¬ r_27.toInt = 0 := ci_ne_t c_31
      have b_r_27 := i32b r_27
      have d_32 : 0 ≤ t_26.toInt ∧ t_26.toInt ≤ 100 := by omega
      clear i_29
      refine lv_bipush (v := 17) hx hb dX12_sure_22 (by decide) ?_
      refine lv_istore_n (lv' := [(2, .int 17), (0, .ref h0), (1, .int v1)]) hx hb dX12_sure_24 rfl hl (by decide) rfl (fun ls hl => ?_)
      exact b_X12_sure_l25 h0 v0_thrown h_world h_images h_hasImage h_tape v0_taped h_five v0_size v0_at v0_from v0_token v0_value v0_faultKind v0_faultPlace h_fresh h_spokenAt h_heardAt h_lastAt h_answerAt v0_lawA v0_lawB v0_lawC v0_isDrawn h_heardNow h_seenAt v0_roundFrom v0_roundTo v0_goLast v0_goAnswer v0_goHeard h_fewest h_costNow h_costThen h_lawsOf h_heardBy v0_lawMany v0_askWorst h_placesOf h_sentIn v0_placeMany v0_parentFirst h_lostBy h_many h_width h_numbers h_moving f_answerAt f_heardAt f_lastAt f_spokenAt f_world v1 t_3 t_4 t_5 t_6 t_7 t_8 g_9 g_10 g_11 g_12 (by first | assumption | (have := zI0; have := zI1; have := zIm; omega) | decide) (by first | assumption | (have := zI0; have := zI1; have := zIm; omega) | decide) (by first | assumption | (have := zI0; have := zI1; have := zIm; omega) | decide) (by first | assumption | (have := zI0; have := zI1; have := zIm; omega) | decide) (by first | assumption | (have := zI0; have := zI1; have := zIm; omega) | decide) (by first | assumption | (have := zI0; have := zI1; have := zIm; omega) | decide) (by first | assumption | (have := zI0; have := zI1; have := zIm; omega) | decide) (by first | assumption | (have := zI0; have := zI1; have := zIm; omega) | decide) (by first | assumption | (have := zI0; have := zI1; have := zIm; omega) | decide) (by first | assumption | (have := zI0; have := zI1; have := zIm; omega) | decide) (by first | assumption | (have := zI0; have := zI1; have := zIm; omega) | decide) (by first | assumption | (have := zI0; have := zI1; have := zIm; omega) | decide) (by first | assumption | (have := zI0; have := zI1; have := zIm; omega) | decide) (by first | assumption | (have := zI0; have := zI1; have := zIm; omega) | decide) (by first | assumption | (have := zI0; have := zI1; have := zIm; omega) | decide) (by first | assumption | (have := zI0; have := zI1; have := zIm; omega) | decide) (by first | assumption | (have := zI0; have := zI1; have := zIm; omega) | decide) (by first | assumption | (have := zI0; have := zI1; have := zIm; omega) | decide) (by first | assumption | (have := zI0; have := zI1; have := zIm; omega) | decide) (by first | assumption | (have := zI0; have := zI1; have := zIm; omega) | decide) (by first | assumption | (have := zI0; have := zI1; have := zIm; omega) | decide) (by first | assumption | (have := zI0; have := zI1; have := zIm; omega) | decide) (by first | assumption | (have := zI0; have := zI1; have := zIm; omega) | decide) (by first | assumption | (have := zI0; have := zI1; have := zIm; omega) | decide) (by first | assumption | (have := zI0; have := zI1; have := zIm; omega) | decide) (by first | assumption | (have := zI0; have := zI1; have := zIm; omega) | decide) (by first | assumption | (have := zI0; have := zI1; have := zIm; omega) | decide) (by first | assumption | (have := zI0; have := zI1; have := zIm; omega) | decide) (by first | assumption | (have := zI0; have := zI1; have := zIm; omega) | decide) (by first | assumption | (have := zI0; have := zI1; have := zIm; omega) | decide) (by first | assumption | (have := zI0; have := zI1; have := zIm; omega) | decide) (by first | assumption | (have := zI0; have := zI1; have := zIm; omega) | decide) (by first | assumption | (have := zI0; have := zI1; have := zIm; omega) | decide) (by first | assumption | (have := zI0; have := zI1; have := zIm; omega) | decide) (by first | assumption | (have := zI0; have := zI1; have := zIm; omega) | decide) C hG hAB hA ret _ (17) _ _ _ (by first | assumption | (have := zI0; have := zI1; have := zIm; omega) | decide) (Nat.lt_succ_self _) (hP.sub [0, 1, 2, 3, 4, 5] rfl) (hD.sub [0, 1, 2, 3, 4, 5] (by decide) rfl) hS (lv_sub hl [0, 1, 2] rfl)
    · have c_31 : r_27.toInt = 0 := ci_ne_f c_31
      have b_r_27 := i32b r_27
      have d_33 : (t_26.toInt < 0 ∨ 100 < t_26.toInt) := by omega
      clear i_29
      refine lv_bipush (v := (-2)) hx hb dX12_sure_19 (by decide) ?_
      exact ret _ _ _ _ _ (t_3, t_4, t_5, t_6, t_7, t_8, g_9, g_10, g_11, g_12) dX12_sure_21 (show (0 ≤ t_3.toInt ∧ t_3.toInt ≤ 8) ∧ (0 ≤ t_4.toInt ∧ t_4.toInt ≤ 8) ∧ (0 ≤ t_5.toInt ∧ t_5.toInt ≤ 9) ∧ (0 ≤ t_7.toInt ∧ t_7.toInt ≤ 1) ∧ (sg sgLa g_9) ∧ (sg sgSp g_10) ∧ (sg sgLa g_11) ∧ (sg sgSp g_12) from ⟨(by first | assumption | (have := zI0; have := zI1; have := zIm; omega) | decide), (by first | assumption | (have := zI0; have := zI1; have := zIm; omega) | decide), (by first | assumption | (have := zI0; have := zI1; have := zIm; omega) | decide), (by first | assumption | (have := zI0; have := zI1; have := zIm; omega) | decide), (by first | assumption | (have := zI0; have := zI1; have := zIm; omega) | decide), (by first | assumption | (have := zI0; have := zI1; have := zIm; omega) | decide), (by first | assumption | (have := zI0; have := zI1; have := zIm; omega) | decide), (by first | assumption | (have := zI0; have := zI1; have := zIm; omega) | decide)⟩) (hP.sub [0, 1, 2, 3, 4, 5] rfl) (hD.sub [0, 1, 2, 3, 4, 5] (by decide) rfl) hS

set_option maxHeartbeats 4000000 in
set_option maxRecDepth 100000 in
theorem b_X12_speak (l : Launch) (G : Gho) (D : va_G) (cB cI cJ cZ cS cT : ClassId) (sz : Nat) (h0 : Nat) (v0_thrown : Int32) (h_world : Nat) (h_images : Nat) (h_hasImage : Nat) (h_tape : Nat) (v0_taped : Int32) (h_five : Nat) (v0_size : Int32) (v0_at : Int32) (v0_from : Int32) (v0_token : Int32) (v0_value : Int32) (v0_faultKind : Int32) (v0_faultPlace : Int32) (h_fresh : Nat) (h_spokenAt : Nat) (h_heardAt : Nat) (h_lastAt : Nat) (h_answerAt : Nat) (v0_lawA : Int32) (v0_lawB : Int32) (v0_lawC : Int32) (v0_drawX : Int64) (v0_isDrawn : Int32) (v0_lostMany : Int32) (h_heardNow : Nat) (h_seenAt : Nat) (v0_roundFrom : Int32) (v0_roundTo : Int32) (v0_goLast : Int32) (v0_goAnswer : Int32) (v0_goHeard : Int32) (h_fewest : Nat) (h_costNow : Nat) (h_costThen : Nat) (h_lawsOf : Nat) (h_heardBy : Nat) (v0_lawMany : Int32) (v0_askWorst : Int32) (h_placesOf : Nat) (h_sentIn : Nat) (v0_placeMany : Int32) (v0_parentFirst : Int32) (h_lostBy : Nat) (h_many : Nat) (h_width : Nat) (h_numbers : Nat) (h_moving : Nat) (f_spokenAt : Nat → Int32) (f_world : Nat → Int32) (v1 : Int32) (v2 : Int32) (iv0_taped : 0 ≤ v0_taped.toInt ∧ v0_taped.toInt ≤ 500) (iv0_size : 0 ≤ v0_size.toInt ∧ v0_size.toInt ≤ 500) (iv0_at : 0 ≤ v0_at.toInt ∧ v0_at.toInt ≤ 500) (iv0_from : 0 ≤ v0_from.toInt ∧ v0_from.toInt ≤ 500) (iv0_faultKind : 0 ≤ v0_faultKind.toInt ∧ v0_faultKind.toInt ≤ 3) (iv0_lawA : 0 ≤ v0_lawA.toInt ∧ v0_lawA.toInt ≤ 8) (iv0_lawB : 0 ≤ v0_lawB.toInt ∧ v0_lawB.toInt ≤ 8) (iv0_lawC : 0 ≤ v0_lawC.toInt ∧ v0_lawC.toInt ≤ 9) (iv0_isDrawn : 0 ≤ v0_isDrawn.toInt ∧ v0_isDrawn.toInt ≤ 1) (iv0_roundFrom : 0 ≤ v0_roundFrom.toInt ∧ v0_roundFrom.toInt ≤ 648) (iv0_roundTo : 0 ≤ v0_roundTo.toInt ∧ v0_roundTo.toInt ≤ 648) (iv0_goLast : 0 ≤ v0_goLast.toInt ∧ v0_goLast.toInt ≤ 8) (iv0_goAnswer : 0 ≤ v0_goAnswer.toInt ∧ v0_goAnswer.toInt ≤ 8) (iv0_lawMany : 0 ≤ v0_lawMany.toInt ∧ v0_lawMany.toInt ≤ 729) (iv0_placeMany : 0 ≤ v0_placeMany.toInt ∧ v0_placeMany.toInt ≤ 100) (pf_spokenAt : sg sgSp f_spokenAt) (pf_world : sg sgWo f_world) (cf_world : 0 < (f_world 9).toInt → 2 ≤ (f_world 0).toInt) : Met l yX12_speak (Cond.code yX12_speak cX12_speak 3 (some .int) :: wsL_law) ({ frames := 2, cells := 0, slots := 0, locals := 47 }) (wrP G D (tyL cB cI cJ cZ cS cT) [(mO h0 v0_thrown h_world h_images h_hasImage h_tape v0_taped h_five v0_size v0_at v0_from v0_token v0_value v0_faultKind v0_faultPlace h_fresh h_spokenAt h_heardAt h_lastAt h_answerAt v0_lawA v0_lawB v0_lawC v0_drawX v0_isDrawn v0_lostMany h_heardNow h_seenAt v0_roundFrom v0_roundTo v0_goLast v0_goAnswer v0_goHeard h_fewest h_costNow h_costThen h_lawsOf h_heardBy v0_lawMany v0_askWorst h_placesOf h_sentIn v0_placeMany v0_parentFirst h_lostBy h_many h_width h_numbers h_moving), (h_spokenAt, .inl (cI, 61, .inl f_spokenAt)), (h_world, .inl (cI, 53, .inl f_world))] sz [.ref h0, .int v1, .int v2]) (va_Qi (fun (r : Int32) (x : Int32 × Int32 × Int32 × Int32 × (Nat → Int32) × (Nat → Int32)) => (0 ≤ x.1.toInt ∧ x.1.toInt ≤ 8) ∧ (0 ≤ x.2.1.toInt ∧ x.2.1.toInt ≤ 8) ∧ (0 ≤ x.2.2.1.toInt ∧ x.2.2.1.toInt ≤ 9) ∧ (0 ≤ x.2.2.2.1.toInt ∧ x.2.2.2.1.toInt ≤ 1) ∧ (sg sgSp x.2.2.2.2.1) ∧ (sg sgWo x.2.2.2.2.2) ∧ (0 < (x.2.2.2.2.2 9).toInt → 2 ≤ (x.2.2.2.2.2 0).toInt)) (atW D (tyL cB cI cJ cZ cS cT) (va_A [(mO h0 v0_thrown h_world h_images h_hasImage h_tape v0_taped h_five v0_size v0_at v0_from v0_token v0_value v0_faultKind v0_faultPlace h_fresh h_spokenAt h_heardAt h_lastAt h_answerAt v0_lawA v0_lawB v0_lawC v0_drawX v0_isDrawn v0_lostMany h_heardNow h_seenAt v0_roundFrom v0_roundTo v0_goLast v0_goAnswer v0_goHeard h_fewest h_costNow h_costThen h_lawsOf h_heardBy v0_lawMany v0_askWorst h_placesOf h_sentIn v0_placeMany v0_parentFirst h_lostBy h_many h_width h_numbers h_moving), (h_spokenAt, .inl (cI, 61, .inl f_spokenAt)), (h_world, .inl (cI, 53, .inl f_world))] sz) (fun x : Int32 × Int32 × Int32 × Int32 × (Nat → Int32) × (Nat → Int32) => [(mO h0 v0_thrown h_world h_images h_hasImage h_tape v0_taped h_five v0_size v0_at v0_from v0_token v0_value v0_faultKind v0_faultPlace h_fresh h_spokenAt h_heardAt h_lastAt h_answerAt x.1 x.2.1 x.2.2.1 v0_drawX x.2.2.2.1 v0_lostMany h_heardNow h_seenAt v0_roundFrom v0_roundTo v0_goLast v0_goAnswer v0_goHeard h_fewest h_costNow h_costThen h_lawsOf h_heardBy v0_lawMany v0_askWorst h_placesOf h_sentIn v0_placeMany v0_parentFirst h_lostBy h_many h_width h_numbers h_moving), (h_spokenAt, .inl (cI, 61, .inl x.2.2.2.2.1)), (h_world, .inl (cI, 53, .inl x.2.2.2.2.2))])) (va_A [(mO h0 v0_thrown h_world h_images h_hasImage h_tape v0_taped h_five v0_size v0_at v0_from v0_token v0_value v0_faultKind v0_faultPlace h_fresh h_spokenAt h_heardAt h_lastAt h_answerAt v0_lawA v0_lawB v0_lawC v0_drawX v0_isDrawn v0_lostMany h_heardNow h_seenAt v0_roundFrom v0_roundTo v0_goLast v0_goAnswer v0_goHeard h_fewest h_costNow h_costThen h_lawsOf h_heardBy v0_lawMany v0_askWorst h_placesOf h_sentIn v0_placeMany v0_parentFirst h_lostBy h_many h_width h_numbers h_moving), (h_spokenAt, .inl (cI, 61, .inl f_spokenAt)), (h_world, .inl (cI, 53, .inl f_world))] sz)) 0 0 (va_A [(mO h0 v0_thrown h_world h_images h_hasImage h_tape v0_taped h_five v0_size v0_at v0_from v0_token v0_value v0_faultKind v0_faultPlace h_fresh h_spokenAt h_heardAt h_lastAt h_answerAt v0_lawA v0_lawB v0_lawC v0_drawX v0_isDrawn v0_lostMany h_heardNow h_seenAt v0_roundFrom v0_roundTo v0_goLast v0_goAnswer v0_goHeard h_fewest h_costNow h_costThen h_lawsOf h_heardBy v0_lawMany v0_askWorst h_placesOf h_sentIn v0_placeMany v0_parentFirst h_lostBy h_many h_width h_numbers h_moving), (h_spokenAt, .inl (cI, 61, .inl f_spokenAt)), (h_world, .inl (cI, 53, .inl f_world))] sz) := by
  refine metI (own := RX12) (by decide) rfl ?_
  intro p e s m below meth c Q hsz C hG hP hD hAB ret
  obtain ⟨hx, hb, hml, hown, hts, hK, hN, hT⟩ := id C
  subst hsz
  generalize hAe : va_A [(mO h0 v0_thrown h_world h_images h_hasImage h_tape v0_taped h_five v0_size v0_at v0_from v0_token v0_value v0_faultKind v0_faultPlace h_fresh h_spokenAt h_heardAt h_lastAt h_answerAt v0_lawA v0_lawB v0_lawC v0_drawX v0_isDrawn v0_lostMany h_heardNow h_seenAt v0_roundFrom v0_roundTo v0_goLast v0_goAnswer v0_goHeard h_fewest h_costNow h_costThen h_lawsOf h_heardBy v0_lawMany v0_askWorst h_placesOf h_sentIn v0_placeMany v0_parentFirst h_lostBy h_many h_width h_numbers h_moving), (h_spokenAt, .inl (cI, 61, .inl f_spokenAt)), (h_world, .inl (cI, 53, .inl f_world))] s.heap.size = A at hD hAB ret ⊢
  have hA : ∀ q : Nat, s.heap.size ≤ q → A q := fun q h => by rw [← hAe]; exact Or.inr h
  have hS : va_S A s.heap s.heap [] := va_S.rf
  have hl := lv_entry ([.ref h0, .int v1, .int v2]) (n := 3) (Nat.le_of_ble_eq_true rfl)
  rw [lg_entry_eq]
  generalize (lg_sl ([.ref h0, .int v1, .int v2]) ++ List.replicate (3 - (lg_sl ([.ref h0, .int v1, .int v2])).length) Slot.unset).toArray = ls at hl ⊢
  have hl : lv_has ls 3 [(0, .ref h0), (1, .int v1), (2, .int v2)] := hl
  have hP : va_P D vwCl [(mO h0 v0_thrown h_world h_images h_hasImage h_tape v0_taped h_five v0_size v0_at v0_from v0_token v0_value v0_faultKind v0_faultPlace h_fresh h_spokenAt h_heardAt h_lastAt h_answerAt v0_lawA v0_lawB v0_lawC v0_drawX v0_isDrawn v0_lostMany h_heardNow h_seenAt v0_roundFrom v0_roundTo v0_goLast v0_goAnswer v0_goHeard h_fewest h_costNow h_costThen h_lawsOf h_heardBy v0_lawMany v0_askWorst h_placesOf h_sentIn v0_placeMany v0_parentFirst h_lostBy h_many h_width h_numbers h_moving), (h_spokenAt, .inl (cI, 61, .inl f_spokenAt)), (h_world, .inl (cI, 53, .inl f_world))] s.heap := hP
  refine lv_aload_n hx hb dX12_speak_0 rfl (lv_at hl 0 rfl) ?_
  refine roi (As := []) (rest := []) ⟨hx, hb, hml, hown, hts⟩ (b_X12_isStation l G D cB cI cJ cZ cS cT h0 v0_thrown h_world h_images h_hasImage h_tape v0_taped h_five v0_size v0_at v0_from v0_token v0_value v0_faultKind v0_faultPlace h_fresh h_spokenAt h_heardAt h_lastAt h_answerAt v0_lawA v0_lawB v0_lawC v0_drawX v0_isDrawn v0_lostMany h_heardNow h_seenAt v0_roundFrom v0_roundTo v0_goLast v0_goAnswer v0_goHeard h_fewest h_costNow h_costThen h_lawsOf h_heardBy v0_lawMany v0_askWorst h_placesOf h_sentIn v0_placeMany v0_parentFirst h_lostBy h_many h_width h_numbers h_moving f_world (by first | assumption | (have := zI0; have := zI1; have := zIm; omega) | decide) (by first | assumption | (have := zI0; have := zI1; have := zIm; omega) | decide) (by first | assumption | (have := zI0; have := zI1; have := zIm; omega) | decide) (by first | assumption | (have := zI0; have := zI1; have := zIm; omega) | decide) (by first | assumption | (have := zI0; have := zI1; have := zIm; omega) | decide) (by first | assumption | (have := zI0; have := zI1; have := zIm; omega) | decide) (by first | assumption | (have := zI0; have := zI1; have := zIm; omega) | decide) (by first | assumption | (have := zI0; have := zI1; have := zIm; omega) | decide) (by first | assumption | (have := zI0; have := zI1; have := zIm; omega) | decide) (by first | assumption | (have := zI0; have := zI1; have := zIm; omega) | decide) (by first | assumption | (have := zI0; have := zI1; have := zIm; omega) | decide) (by first | assumption | (have := zI0; have := zI1; have := zIm; omega) | decide) (by first | assumption | (have := zI0; have := zI1; have := zIm; omega) | decide) (by first | assumption | (have := zI0; have := zI1; have := zIm; omega) | decide) (by first | assumption | (have := zI0; have := zI1; have := zIm; omega) | decide) (by first | assumption | (have := zI0; have := zI1; have := zIm; omega) | decide) (by first | assumption | (have := zI0; have := zI1; have := zIm; omega) | decide)) (cvB (n := 0) (inr24 _ (List.mem_of_getElem? (i := 19) rfl)) (inr24 _ (List.mem_of_getElem? (i := 20) rfl)) (inr24 _ (List.mem_of_getElem? (i := 21) rfl)) (inr1 _ (List.mem_of_getElem? (i := 5) rfl)) (inr24 _ (List.mem_of_getElem? (i := 22) rfl)) (by decide +kernel) hts rfl rfl ⟨Nat.le_of_ble_eq_true rfl, Nat.le_of_ble_eq_true rfl⟩) 0 12 rfl rfl rfl (hP.sub [0, 2] rfl) hK hN (kT.to hT hS hAB) rfl hl.1 rfl (Nat.le_of_ble_eq_true rfl) ⟨Nat.le_of_ble_eq_true rfl, Nat.le_of_ble_eq_true rfl⟩ dX12_speak_1 (fun r_1 h_2 => ?_)
  have h_2 : ((r_1.toInt = 1 ∧ 0 < (f_world 9).toInt) ∨ (r_1.toInt = 0 ∧ (f_world 9).toInt ≤ 0)) ∧ (r_1 = 0 ∨ r_1 = 1) := h_2
  obtain ⟨i_3, i_4⟩ := h_2
  have ar_1 : 0 ≤ r_1.toInt ∧ r_1.toInt ≤ 1 := by rcases i_4 with h | h <;> rw [h] <;> decide
  refine lv_if_eq (tgt := 29) hx hb dX12_speak_4 (by decide) (fun c_5 => ?_) (fun c_5 => ?_)
  · have c_5 : r_1.toInt = 0 := ci_eq_t c_5
    have b_r_1 := i32b r_1
    have d_6 : (f_world 9).toInt ≤ 0 := by omega
    clear i_3
    refine lv_bipush (v := (-2)) hx hb dX12_speak_29 (by decide) ?_
    exact ret _ _ _ _ _ (v0_lawA, v0_lawB, v0_lawC, v0_isDrawn, f_spokenAt, f_world) dX12_speak_31 (show (0 ≤ v0_lawA.toInt ∧ v0_lawA.toInt ≤ 8) ∧ (0 ≤ v0_lawB.toInt ∧ v0_lawB.toInt ≤ 8) ∧ (0 ≤ v0_lawC.toInt ∧ v0_lawC.toInt ≤ 9) ∧ (0 ≤ v0_isDrawn.toInt ∧ v0_isDrawn.toInt ≤ 1) ∧ (sg sgSp f_spokenAt) ∧ (sg sgWo f_world) ∧ (0 < (f_world 9).toInt → 2 ≤ (f_world 0).toInt) from ⟨(by first | assumption | (have := zI0; have := zI1; have := zIm; omega) | decide), (by first | assumption | (have := zI0; have := zI1; have := zIm; omega) | decide), (by first | assumption | (have := zI0; have := zI1; have := zIm; omega) | decide), (by first | assumption | (have := zI0; have := zI1; have := zIm; omega) | decide), (by first | assumption | (have := zI0; have := zI1; have := zIm; omega) | decide), (by first | assumption | (have := zI0; have := zI1; have := zIm; omega) | decide), (by first | assumption | (have := zI0; have := zI1; have := zIm; omega) | decide)⟩) (hP.sub [0, 1, 2] rfl) (hD.sub [0, 1, 2] (by decide) rfl) hS
  · have c_5 : ¬ r_1.toInt = 0 := ci_eq_f c_5
    have b_r_1 := i32b r_1
    have d_7 : 0 < (f_world 9).toInt := by omega
    clear i_3
    refine lv_iload_n hx hb dX12_speak_7 rfl (lv_at hl 1 rfl) ?_
    have b_v1 := i32b v1
    obtain ⟨t_8, et_8⟩ : ∃ v9 : Int64, (v1 : Int32).toInt64 = v9 := ⟨_, rfl⟩
    refine lv_i2l (v := t_8) hx hb dX12_speak_8 et_8 ?_
    have ft_8 : t_8.toInt = v1.toInt := by rw [← et_8]; exact Int32.toInt_toInt64 _
    refine rosi (As := [.long t_8]) (rest := []) ⟨hx, hb, hml, hown, hts⟩ (b_X12_isStep l G D cB cI cJ cZ cS cT t_8 ) (csB (n := 1) (inr26 _ (List.mem_of_getElem? (i := 6) rfl)) (inr26 _ (List.mem_of_getElem? (i := 7) rfl)) (inr1 _ (List.mem_of_getElem? (i := 5) rfl)) (inr26 _ (List.mem_of_getElem? (i := 8) rfl)) (by decide +kernel) hts rfl rfl ⟨Nat.le_of_ble_eq_true rfl, Nat.le_of_ble_eq_true rfl⟩) (hP.sub [] rfl) hK hN (kT.to hT hS hAB) rfl hl.1 rfl (Nat.le_of_ble_eq_true rfl) ⟨Nat.le_of_ble_eq_true rfl, Nat.le_of_ble_eq_true rfl⟩ dX12_speak_9 (fun r_9 h_10 => ?_)
    have h_10 : ((r_9.toInt = 1 ∧ 0 ≤ t_8.toInt ∧ t_8.toInt ≤ 60) ∨ (r_9.toInt = 0 ∧ (t_8.toInt < 0 ∨ 60 < t_8.toInt))) ∧ (r_9 = 0 ∨ r_9 = 1) := h_10
    obtain ⟨i_11, i_12⟩ := h_10
    have ar_9 : 0 ≤ r_9.toInt ∧ r_9.toInt ≤ 1 := by rcases i_12 with h | h <;> rw [h] <;> decide
    refine lv_if_eq (tgt := 29) hx hb dX12_speak_12 (by decide) (fun c_13 => ?_) (fun c_13 => ?_)
    · have c_13 : r_9.toInt = 0 := ci_eq_t c_13
      have b_r_9 := i32b r_9
      have d_14 : (t_8.toInt < 0 ∨ 60 < t_8.toInt) := by omega
      clear i_11
      refine lv_bipush (v := (-2)) hx hb dX12_speak_29 (by decide) ?_
      exact ret _ _ _ _ _ (v0_lawA, v0_lawB, v0_lawC, v0_isDrawn, f_spokenAt, f_world) dX12_speak_31 (show (0 ≤ v0_lawA.toInt ∧ v0_lawA.toInt ≤ 8) ∧ (0 ≤ v0_lawB.toInt ∧ v0_lawB.toInt ≤ 8) ∧ (0 ≤ v0_lawC.toInt ∧ v0_lawC.toInt ≤ 9) ∧ (0 ≤ v0_isDrawn.toInt ∧ v0_isDrawn.toInt ≤ 1) ∧ (sg sgSp f_spokenAt) ∧ (sg sgWo f_world) ∧ (0 < (f_world 9).toInt → 2 ≤ (f_world 0).toInt) from ⟨(by first | assumption | (have := zI0; have := zI1; have := zIm; omega) | decide), (by first | assumption | (have := zI0; have := zI1; have := zIm; omega) | decide), (by first | assumption | (have := zI0; have := zI1; have := zIm; omega) | decide), (by first | assumption | (have := zI0; have := zI1; have := zIm; omega) | decide), (by first | assumption | (have := zI0; have := zI1; have := zIm; omega) | decide), (by first | assumption | (have := zI0; have := zI1; have := zIm; omega) | decide), (by first | assumption | (have := zI0; have := zI1; have := zIm; omega) | decide)⟩) (hP.sub [0, 1, 2] rfl) (hD.sub [0, 1, 2] (by decide) rfl) hS
    · have c_13 : ¬ r_9.toInt = 0 := ci_eq_f c_13
      have b_r_9 := i32b r_9
      have d_15 : 0 ≤ t_8.toInt ∧ t_8.toInt ≤ 60 := by omega
      clear i_11
      refine lv_iload_n hx hb dX12_speak_15 rfl (lv_at hl 2 rfl) ?_
      refine lv_iconst (v := (-1)) hx hb dX12_speak_16 (by decide) ?_
      refine lv_icmp_eq (tgt := 32) hx hb dX12_speak_17 (by decide) (fun c_16 => ?_) (fun c_16 => ?_)
      · have c_16 : v2.toInt = (-1) := ci_eq_t c_16
        have b_v2 := i32b v2
        refine lv_aload_n hx hb dX12_speak_32 rfl (lv_at hl 0 rfl) ?_
        refine wrVv (As := []) (rest := []) (wr := []) ⟨hx, hb, hml, hown, hts⟩ (b_X12_asItIs l G D cB cI cJ cZ cS cT s.heap.size h0 v0_thrown h_world h_images h_hasImage h_tape v0_taped h_five v0_size v0_at v0_from v0_token v0_value v0_faultKind v0_faultPlace h_fresh h_spokenAt h_heardAt h_lastAt h_answerAt v0_lawA v0_lawB v0_lawC v0_drawX v0_isDrawn v0_lostMany h_heardNow h_seenAt v0_roundFrom v0_roundTo v0_goLast v0_goAnswer v0_goHeard h_fewest h_costNow h_costThen h_lawsOf h_heardBy v0_lawMany v0_askWorst h_placesOf h_sentIn v0_placeMany v0_parentFirst h_lostBy h_many h_width h_numbers h_moving f_spokenAt f_world (by first | assumption | (have := zI0; have := zI1; have := zIm; omega) | decide) (by first | assumption | (have := zI0; have := zI1; have := zIm; omega) | decide) (by first | assumption | (have := zI0; have := zI1; have := zIm; omega) | decide) (by first | assumption | (have := zI0; have := zI1; have := zIm; omega) | decide) (by first | assumption | (have := zI0; have := zI1; have := zIm; omega) | decide) (by first | assumption | (have := zI0; have := zI1; have := zIm; omega) | decide) (by first | assumption | (have := zI0; have := zI1; have := zIm; omega) | decide) (by first | assumption | (have := zI0; have := zI1; have := zIm; omega) | decide) (by first | assumption | (have := zI0; have := zI1; have := zIm; omega) | decide) (by first | assumption | (have := zI0; have := zI1; have := zIm; omega) | decide) (by first | assumption | (have := zI0; have := zI1; have := zIm; omega) | decide) (by first | assumption | (have := zI0; have := zI1; have := zIm; omega) | decide) (by first | assumption | (have := zI0; have := zI1; have := zIm; omega) | decide) (by first | assumption | (have := zI0; have := zI1; have := zIm; omega) | decide) (by first | assumption | (have := zI0; have := zI1; have := zIm; omega) | decide) (by first | assumption | (have := zI0; have := zI1; have := zIm; omega) | decide) (by first | assumption | (have := zI0; have := zI1; have := zIm; omega) | decide) (by first | assumption | (have := zI0; have := zI1; have := zIm; omega) | decide)) hP hD hS hA hK hN hT hAB hG [0, 1, 2] [] rfl rfl (by decide) (by decide) (by decide) (cvB (n := 0) (inr24 _ (List.mem_of_getElem? (i := 7) rfl)) (inr24 _ (List.mem_of_getElem? (i := 8) rfl)) (inr24 _ (List.mem_of_getElem? (i := 9) rfl)) (inr1 _ (List.mem_of_getElem? (i := 5) rfl)) (inr24 _ (List.mem_of_getElem? (i := 10) rfl)) (by decide +kernel) hts rfl rfl ⟨Nat.le_of_ble_eq_true rfl, Nat.le_of_ble_eq_true rfl⟩) 0 12 rfl rfl rfl rfl hl.1 rfl (Nat.le_of_ble_eq_true rfl) ⟨Nat.le_of_ble_eq_true rfl, Nat.le_of_ble_eq_true rfl⟩ dX12_speak_33 (fun x9 H locs h_18 hP hD hS => ?_)
        obtain ⟨t_19, t_20, t_21, t_22, g_23⟩ := x9
        have hP : va_P D vwCl [(mO h0 v0_thrown h_world h_images h_hasImage h_tape v0_taped h_five v0_size v0_at v0_from v0_token v0_value v0_faultKind v0_faultPlace h_fresh h_spokenAt h_heardAt h_lastAt h_answerAt t_19 t_20 t_21 v0_drawX t_22 v0_lostMany h_heardNow h_seenAt v0_roundFrom v0_roundTo v0_goLast v0_goAnswer v0_goHeard h_fewest h_costNow h_costThen h_lawsOf h_heardBy v0_lawMany v0_askWorst h_placesOf h_sentIn v0_placeMany v0_parentFirst h_lostBy h_many h_width h_numbers h_moving), (h_spokenAt, .inl (cI, 61, .inl g_23)), (h_world, .inl (cI, 53, .inl f_world))] H := hP
        have hD : va_D A [(mO h0 v0_thrown h_world h_images h_hasImage h_tape v0_taped h_five v0_size v0_at v0_from v0_token v0_value v0_faultKind v0_faultPlace h_fresh h_spokenAt h_heardAt h_lastAt h_answerAt t_19 t_20 t_21 v0_drawX t_22 v0_lostMany h_heardNow h_seenAt v0_roundFrom v0_roundTo v0_goLast v0_goAnswer v0_goHeard h_fewest h_costNow h_costThen h_lawsOf h_heardBy v0_lawMany v0_askWorst h_placesOf h_sentIn v0_placeMany v0_parentFirst h_lostBy h_many h_width h_numbers h_moving), (h_spokenAt, .inl (cI, 61, .inl g_23)), (h_world, .inl (cI, 53, .inl f_world))] := hD
        have h_18 : (0 ≤ t_19.toInt ∧ t_19.toInt ≤ 8) ∧ (0 ≤ t_20.toInt ∧ t_20.toInt ≤ 8) ∧ (0 ≤ t_21.toInt ∧ t_21.toInt ≤ 9) ∧ (0 ≤ t_22.toInt ∧ t_22.toInt ≤ 1) ∧ (sg sgSp g_23) := h_18
        obtain ⟨i_24, i_25, i_26, i_27, i_28⟩ := h_18
        refine lv_aload_n hx hb dX12_speak_36 rfl (lv_at hl 0 rfl) ?_
        refine va_get (D := D) (ci := 12) (v := .ref h_world) (C := RX12) (T := TX12) (N := 48) hx hb hts inlX12 hown hK hP 0 rfl rfl 1 (by decide) (hts _ (inr6 _ (List.mem_of_getElem? (i := 16) rfl))) (fun _ h9 => h9) rfl dX12_speak_37 ?_
        refine lv_bipush (v := 8) hx hb dX12_speak_40 (by decide) ?_
        obtain ⟨t_29, et_29⟩ : ∃ v9 : Int32, f_world (8 : Int32).toNatClampNeg = v9 := ⟨_, rfl⟩
        refine z_iald (v := t_29) hx hb hK hP 2 1 rfl rfl (by unfold vp_in; decide) et_29 dX12_speak_42 ?_
        have ft_29 : 0 ≤ t_29.toInt ∧ t_29.toInt ≤ 30 := sgL (by assumption : sg sgWo f_world) 5 rfl (by decide) (by decide) (by decide) et_29
        have qt_29 : (f_world 8).toInt = t_29.toInt := by rw [← et_29]; rfl
        refine lv_bipush (v := 30) hx hb dX12_speak_43 (by decide) ?_
        refine lv_icmp_ne (tgt := 51) hx hb dX12_speak_45 (by decide) (fun c_30 => ?_) (fun c_30 => ?_)
        · have c_30 : ¬ t_29.toInt = 30 := ci_ne_t c_30
          have b_t_29 := i32b t_29
          have c_30q : ¬ (f_world 8).toInt = 30 := by omega
          refine lv_aload_n hx hb dX12_speak_51 rfl (lv_at hl 0 rfl) ?_
          refine va_get (D := D) (ci := 12) (v := .ref h_world) (C := RX12) (T := TX12) (N := 48) hx hb hts inlX12 hown hK hP 0 rfl rfl 1 (by decide) (hts _ (inr6 _ (List.mem_of_getElem? (i := 16) rfl))) (fun _ h9 => h9) rfl dX12_speak_52 ?_
          refine lv_bipush (v := 23) hx hb dX12_speak_55 (by decide) ?_
          refine lv_aload_n hx hb dX12_speak_57 rfl (lv_at hl 0 rfl) ?_
          refine va_get (D := D) (ci := 12) (v := .ref h_world) (C := RX12) (T := TX12) (N := 48) hx hb hts inlX12 hown hK hP 0 rfl rfl 1 (by decide) (hts _ (inr6 _ (List.mem_of_getElem? (i := 16) rfl))) (fun _ h9 => h9) rfl dX12_speak_58 ?_
          refine lv_bipush (v := 8) hx hb dX12_speak_61 (by decide) ?_
          obtain ⟨t_31, et_31⟩ : ∃ v9 : Int32, f_world (8 : Int32).toNatClampNeg = v9 := ⟨_, rfl⟩
          refine z_iald (v := t_31) hx hb hK hP 2 1 rfl rfl (by unfold vp_in; decide) et_31 dX12_speak_63 ?_
          have dt_31 : t_31.toInt = t_29.toInt := by rw [← et_31, ← et_29]
          have ft_31 : 0 ≤ t_31.toInt ∧ t_31.toInt ≤ 30 := sgL (by assumption : sg sgWo f_world) 5 rfl (by decide) (by decide) (by decide) et_31
          have qt_31 : (f_world 8).toInt = t_31.toInt := by rw [← et_31]; rfl
          obtain ⟨t_32, et_32⟩ : ∃ v9 : Int32, 23 + t_31 = v9 := ⟨_, rfl⟩
          refine z_iadd (v := t_32) hx hb dX12_speak_64 et_32 ?_
          have b_t_31 := i32b t_31
          have ft_32 : t_32.toInt = 23 + t_31.toInt := addT (a := 23) (b := t_31.toInt) (by decide) rfl et_32 (by omega) (by omega)
          refine lv_bipush (v := 10) hx hb dX12_speak_65 (by decide) ?_
          refine lv_iload_n hx hb dX12_speak_67 rfl (lv_at hl 1 rfl) ?_
          obtain ⟨t_33, et_33⟩ : ∃ v9 : Int32, 10 * v1 = v9 := ⟨_, rfl⟩
          refine z_imul (v := t_33) hx hb dX12_speak_68 et_33 ?_
          have ft_33 : t_33.toInt = 10 * v1.toInt := mulT (a := 10) (b := v1.toInt) (by decide) rfl et_33 (by omega) (by omega)
          refine lv_iload_n hx hb dX12_speak_69 rfl (lv_at hl 2 rfl) ?_
          obtain ⟨t_34, et_34⟩ : ∃ v9 : Int32, t_33 + v2 = v9 := ⟨_, rfl⟩
          refine z_iadd (v := t_34) hx hb dX12_speak_70 et_34 ?_
          have b_t_33 := i32b t_33
          have ft_34 : t_34.toInt = t_33.toInt + v2.toInt := addT (a := t_33.toInt) (b := v2.toInt) rfl rfl et_34 (by omega) (by omega)
          refine lv_iconst (v := 1) hx hb dX12_speak_71 (by decide) ?_
          obtain ⟨t_35, et_35⟩ : ∃ v9 : Int32, t_34 + 1 = v9 := ⟨_, rfl⟩
          refine z_iadd (v := t_35) hx hb dX12_speak_72 et_35 ?_
          have b_t_34 := i32b t_34
          have ft_35 : t_35.toInt = t_34.toInt + 1 := addT (a := t_34.toInt) (b := 1) rfl (by decide) et_35 (by omega) (by omega)
          refine va_iast hx hb hK hP hD hS 2 1 rfl rfl (vin_nat (by omega) (by omega)) dX12_speak_73 (fun H locs hP hD hS => ?_)
          have hP : va_P D vwCl [(mO h0 v0_thrown h_world h_images h_hasImage h_tape v0_taped h_five v0_size v0_at v0_from v0_token v0_value v0_faultKind v0_faultPlace h_fresh h_spokenAt h_heardAt h_lastAt h_answerAt t_19 t_20 t_21 v0_drawX t_22 v0_lostMany h_heardNow h_seenAt v0_roundFrom v0_roundTo v0_goLast v0_goAnswer v0_goHeard h_fewest h_costNow h_costThen h_lawsOf h_heardBy v0_lawMany v0_askWorst h_placesOf h_sentIn v0_placeMany v0_parentFirst h_lostBy h_many h_width h_numbers h_moving), (h_spokenAt, .inl (cI, 61, .inl g_23)), (h_world, .inl (cI, 53, .inl (upd f_world (t_32 : Int32).toNatClampNeg t_35)))] H := hP
          have hD : va_D A [(mO h0 v0_thrown h_world h_images h_hasImage h_tape v0_taped h_five v0_size v0_at v0_from v0_token v0_value v0_faultKind v0_faultPlace h_fresh h_spokenAt h_heardAt h_lastAt h_answerAt t_19 t_20 t_21 v0_drawX t_22 v0_lostMany h_heardNow h_seenAt v0_roundFrom v0_roundTo v0_goLast v0_goAnswer v0_goHeard h_fewest h_costNow h_costThen h_lawsOf h_heardBy v0_lawMany v0_askWorst h_placesOf h_sentIn v0_placeMany v0_parentFirst h_lostBy h_many h_width h_numbers h_moving), (h_spokenAt, .inl (cI, 61, .inl g_23)), (h_world, .inl (cI, 53, .inl (upd f_world (t_32 : Int32).toNatClampNeg t_35)))] := hD
          obtain ⟨g_36, eg_36⟩ : ∃ v9 : Nat → Int32, (upd f_world (t_32 : Int32).toNatClampNeg t_35) = v9 := ⟨_, rfl⟩
          rw [eg_36] at hP hD
          have hP : va_P D vwCl [(mO h0 v0_thrown h_world h_images h_hasImage h_tape v0_taped h_five v0_size v0_at v0_from v0_token v0_value v0_faultKind v0_faultPlace h_fresh h_spokenAt h_heardAt h_lastAt h_answerAt t_19 t_20 t_21 v0_drawX t_22 v0_lostMany h_heardNow h_seenAt v0_roundFrom v0_roundTo v0_goLast v0_goAnswer v0_goHeard h_fewest h_costNow h_costThen h_lawsOf h_heardBy v0_lawMany v0_askWorst h_placesOf h_sentIn v0_placeMany v0_parentFirst h_lostBy h_many h_width h_numbers h_moving), (h_spokenAt, .inl (cI, 61, .inl g_23)), (h_world, .inl (cI, 53, .inl g_36))] H := hP
          have hD : va_D A [(mO h0 v0_thrown h_world h_images h_hasImage h_tape v0_taped h_five v0_size v0_at v0_from v0_token v0_value v0_faultKind v0_faultPlace h_fresh h_spokenAt h_heardAt h_lastAt h_answerAt t_19 t_20 t_21 v0_drawX t_22 v0_lostMany h_heardNow h_seenAt v0_roundFrom v0_roundTo v0_goLast v0_goAnswer v0_goHeard h_fewest h_costNow h_costThen h_lawsOf h_heardBy v0_lawMany v0_askWorst h_placesOf h_sentIn v0_placeMany v0_parentFirst h_lostBy h_many h_width h_numbers h_moving), (h_spokenAt, .inl (cI, 61, .inl g_23)), (h_world, .inl (cI, 53, .inl g_36))] := hD
          have pg_36 : sg sgWo g_36 := by rw [← eg_36]; exact sgS (by assumption : sg sgWo f_world) (by omega) (by intro q9 hq9; simp only [sgWo, List.mem_cons, List.not_mem_nil, or_false] at hq9; rcases hq9 with rfl | rfl | rfl | rfl | rfl | rfl | rfl | rfl | rfl <;> dsimp only <;> omega)
          have wg_36_0 : (g_36 0).toInt = (f_world 0).toInt := upd9E (i := t_32) eg_36 (by omega) (by omega)
          have wg_36_6 : (g_36 6).toInt = (f_world 6).toInt := upd9E (i := t_32) eg_36 (by omega) (by omega)
          have wg_36_7 : (g_36 7).toInt = (f_world 7).toInt := upd9E (i := t_32) eg_36 (by omega) (by omega)
          have wg_36_8 : (g_36 8).toInt = (f_world 8).toInt := upd9E (i := t_32) eg_36 (by omega) (by omega)
          have wg_36_9 : (g_36 9).toInt = (f_world 9).toInt := upd9E (i := t_32) eg_36 (by omega) (by omega)
          refine lv_aload_n hx hb dX12_speak_74 rfl (lv_at hl 0 rfl) ?_
          refine va_get (D := D) (ci := 12) (v := .ref h_world) (C := RX12) (T := TX12) (N := 48) hx hb hts inlX12 hown hK hP 0 rfl rfl 1 (by decide) (hts _ (inr6 _ (List.mem_of_getElem? (i := 16) rfl))) (fun _ h9 => h9) rfl dX12_speak_75 ?_
          refine lv_bipush (v := 8) hx hb dX12_speak_78 (by decide) ?_
          refine lv_dup2_11 hx hb dX12_speak_80 rfl rfl ?_
          obtain ⟨t_37, et_37⟩ : ∃ v9 : Int32, g_36 (8 : Int32).toNatClampNeg = v9 := ⟨_, rfl⟩
          refine z_iald (v := t_37) hx hb hK hP 2 1 rfl rfl (by unfold vp_in; decide) et_37 dX12_speak_81 ?_
          have ft_37 : 0 ≤ t_37.toInt ∧ t_37.toInt ≤ 30 := sgL (by assumption : sg sgWo g_36) 5 rfl (by decide) (by decide) (by decide) et_37
          have qt_37 : (g_36 8).toInt = t_37.toInt := by rw [← et_37]; rfl
          refine lv_iconst (v := 1) hx hb dX12_speak_82 (by decide) ?_
          obtain ⟨t_38, et_38⟩ : ∃ v9 : Int32, t_37 + 1 = v9 := ⟨_, rfl⟩
          refine z_iadd (v := t_38) hx hb dX12_speak_83 et_38 ?_
          have b_t_37 := i32b t_37
          have ft_38 : t_38.toInt = t_37.toInt + 1 := addT (a := t_37.toInt) (b := 1) rfl (by decide) et_38 (by omega) (by omega)
          refine va_iast hx hb hK hP hD hS 2 1 rfl rfl (by unfold vp_in; decide) dX12_speak_84 (fun H locs hP hD hS => ?_)
          have hP : va_P D vwCl [(mO h0 v0_thrown h_world h_images h_hasImage h_tape v0_taped h_five v0_size v0_at v0_from v0_token v0_value v0_faultKind v0_faultPlace h_fresh h_spokenAt h_heardAt h_lastAt h_answerAt t_19 t_20 t_21 v0_drawX t_22 v0_lostMany h_heardNow h_seenAt v0_roundFrom v0_roundTo v0_goLast v0_goAnswer v0_goHeard h_fewest h_costNow h_costThen h_lawsOf h_heardBy v0_lawMany v0_askWorst h_placesOf h_sentIn v0_placeMany v0_parentFirst h_lostBy h_many h_width h_numbers h_moving), (h_spokenAt, .inl (cI, 61, .inl g_23)), (h_world, .inl (cI, 53, .inl (upd g_36 (8 : Int32).toNatClampNeg t_38)))] H := hP
          have hD : va_D A [(mO h0 v0_thrown h_world h_images h_hasImage h_tape v0_taped h_five v0_size v0_at v0_from v0_token v0_value v0_faultKind v0_faultPlace h_fresh h_spokenAt h_heardAt h_lastAt h_answerAt t_19 t_20 t_21 v0_drawX t_22 v0_lostMany h_heardNow h_seenAt v0_roundFrom v0_roundTo v0_goLast v0_goAnswer v0_goHeard h_fewest h_costNow h_costThen h_lawsOf h_heardBy v0_lawMany v0_askWorst h_placesOf h_sentIn v0_placeMany v0_parentFirst h_lostBy h_many h_width h_numbers h_moving), (h_spokenAt, .inl (cI, 61, .inl g_23)), (h_world, .inl (cI, 53, .inl (upd g_36 (8 : Int32).toNatClampNeg t_38)))] := hD
          obtain ⟨g_39, eg_39⟩ : ∃ v9 : Nat → Int32, (upd g_36 (8 : Int32).toNatClampNeg t_38) = v9 := ⟨_, rfl⟩
          rw [eg_39] at hP hD
          have hP : va_P D vwCl [(mO h0 v0_thrown h_world h_images h_hasImage h_tape v0_taped h_five v0_size v0_at v0_from v0_token v0_value v0_faultKind v0_faultPlace h_fresh h_spokenAt h_heardAt h_lastAt h_answerAt t_19 t_20 t_21 v0_drawX t_22 v0_lostMany h_heardNow h_seenAt v0_roundFrom v0_roundTo v0_goLast v0_goAnswer v0_goHeard h_fewest h_costNow h_costThen h_lawsOf h_heardBy v0_lawMany v0_askWorst h_placesOf h_sentIn v0_placeMany v0_parentFirst h_lostBy h_many h_width h_numbers h_moving), (h_spokenAt, .inl (cI, 61, .inl g_23)), (h_world, .inl (cI, 53, .inl g_39))] H := hP
          have hD : va_D A [(mO h0 v0_thrown h_world h_images h_hasImage h_tape v0_taped h_five v0_size v0_at v0_from v0_token v0_value v0_faultKind v0_faultPlace h_fresh h_spokenAt h_heardAt h_lastAt h_answerAt t_19 t_20 t_21 v0_drawX t_22 v0_lostMany h_heardNow h_seenAt v0_roundFrom v0_roundTo v0_goLast v0_goAnswer v0_goHeard h_fewest h_costNow h_costThen h_lawsOf h_heardBy v0_lawMany v0_askWorst h_placesOf h_sentIn v0_placeMany v0_parentFirst h_lostBy h_many h_width h_numbers h_moving), (h_spokenAt, .inl (cI, 61, .inl g_23)), (h_world, .inl (cI, 53, .inl g_39))] := hD
          have pg_39 : sg sgWo g_39 := by rw [← eg_39]; exact sgS (by assumption : sg sgWo g_36) (by decide) (by have z9_i : (8 : Int32).toInt = 8 := (by decide); intro q9 hq9; simp only [sgWo, List.mem_cons, List.not_mem_nil, or_false] at hq9; rcases hq9 with rfl | rfl | rfl | rfl | rfl | rfl | rfl | rfl | rfl <;> dsimp only <;> omega)
          have wg_39_0 : (g_39 0).toInt = (g_36 0).toInt := upd9E (i := 8) eg_39 (by decide) (by decide)
          have wg_39_6 : (g_39 6).toInt = (g_36 6).toInt := upd9E (i := 8) eg_39 (by decide) (by decide)
          have wg_39_7 : (g_39 7).toInt = (g_36 7).toInt := upd9E (i := 8) eg_39 (by decide) (by decide)
          have wg_39_8 : (g_39 8).toInt = t_38.toInt := upd9V (i := 8) (v := t_38) eg_39 (by decide) (by decide)
          have wg_39_9 : (g_39 9).toInt = (g_36 9).toInt := upd9E (i := 8) eg_39 (by decide) (by decide)
          refine lv_aload_n hx hb dX12_speak_85 rfl (lv_at hl 0 rfl) ?_
          refine va_get (D := D) (ci := 12) (v := .ref h_spokenAt) (C := RX12) (T := TX12) (N := 48) hx hb hts inlX12 hown hK hP 0 rfl rfl 15 (by decide) (hts _ (inr6 _ (List.mem_of_getElem? (i := 23) rfl))) (fun _ h9 => h9) rfl dX12_speak_86 ?_
          refine lv_iload_n hx hb dX12_speak_89 rfl (lv_at hl 1 rfl) ?_
          obtain ⟨t_40, et_40⟩ : ∃ v9 : Int32, g_23 (v1 : Int32).toNatClampNeg = v9 := ⟨_, rfl⟩
          refine z_iald (v := t_40) hx hb hK hP 1 1 rfl rfl (vin_nat (by omega) (by omega)) et_40 dX12_speak_90 ?_
          have ft_40 : (-1) ≤ t_40.toInt ∧ t_40.toInt ≤ 8 := sgL (by assumption : sg sgSp g_23) 0 rfl (by omega) (by omega) (by omega) et_40
          exact ret _ _ _ _ _ (t_19, t_20, t_21, t_22, g_23, g_39) dX12_speak_91 (show (0 ≤ t_19.toInt ∧ t_19.toInt ≤ 8) ∧ (0 ≤ t_20.toInt ∧ t_20.toInt ≤ 8) ∧ (0 ≤ t_21.toInt ∧ t_21.toInt ≤ 9) ∧ (0 ≤ t_22.toInt ∧ t_22.toInt ≤ 1) ∧ (sg sgSp g_23) ∧ (sg sgWo g_39) ∧ (0 < (g_39 9).toInt → 2 ≤ (g_39 0).toInt) from ⟨(by first | assumption | (have := zI0; have := zI1; have := zIm; omega) | decide), (by first | assumption | (have := zI0; have := zI1; have := zIm; omega) | decide), (by first | assumption | (have := zI0; have := zI1; have := zIm; omega) | decide), (by first | assumption | (have := zI0; have := zI1; have := zIm; omega) | decide), (by first | assumption | (have := zI0; have := zI1; have := zIm; omega) | decide), (by first | assumption | (have := zI0; have := zI1; have := zIm; omega) | decide), (by first | assumption | (have := zI0; have := zI1; have := zIm; omega) | decide)⟩) (hP.sub [0, 1, 2] rfl) (hD.sub [0, 1, 2] (by decide) rfl) hS
        · have c_30 : t_29.toInt = 30 := ci_ne_f c_30
          have b_t_29 := i32b t_29
          have c_30q : (f_world 8).toInt = 30 := by omega
          refine lv_bipush (v := (-5)) hx hb dX12_speak_48 (by decide) ?_
          exact ret _ _ _ _ _ (t_19, t_20, t_21, t_22, g_23, f_world) dX12_speak_50 (show (0 ≤ t_19.toInt ∧ t_19.toInt ≤ 8) ∧ (0 ≤ t_20.toInt ∧ t_20.toInt ≤ 8) ∧ (0 ≤ t_21.toInt ∧ t_21.toInt ≤ 9) ∧ (0 ≤ t_22.toInt ∧ t_22.toInt ≤ 1) ∧ (sg sgSp g_23) ∧ (sg sgWo f_world) ∧ (0 < (f_world 9).toInt → 2 ≤ (f_world 0).toInt) from ⟨(by first | assumption | (have := zI0; have := zI1; have := zIm; omega) | decide), (by first | assumption | (have := zI0; have := zI1; have := zIm; omega) | decide), (by first | assumption | (have := zI0; have := zI1; have := zIm; omega) | decide), (by first | assumption | (have := zI0; have := zI1; have := zIm; omega) | decide), (by first | assumption | (have := zI0; have := zI1; have := zIm; omega) | decide), (by first | assumption | (have := zI0; have := zI1; have := zIm; omega) | decide), (by first | assumption | (have := zI0; have := zI1; have := zIm; omega) | decide)⟩) (hP.sub [0, 1, 2] rfl) (hD.sub [0, 1, 2] (by decide) rfl) hS
      · have c_16 : ¬ v2.toInt = (-1) := ci_eq_f c_16
        have b_v2 := i32b v2
        refine lv_aload_n hx hb dX12_speak_20 rfl (lv_at hl 0 rfl) ?_
        refine lv_iload_n hx hb dX12_speak_21 rfl (lv_at hl 2 rfl) ?_
        obtain ⟨t_41, et_41⟩ : ∃ v9 : Int64, (v2 : Int32).toInt64 = v9 := ⟨_, rfl⟩
        refine lv_i2l (v := t_41) hx hb dX12_speak_22 et_41 ?_
        have ft_41 : t_41.toInt = v2.toInt := by rw [← et_41]; exact Int32.toInt_toInt64 _
        refine roi (As := [.long t_41]) (rest := []) ⟨hx, hb, hml, hown, hts⟩ (b_X12_isTone l G D cB cI cJ cZ cS cT h0 v0_thrown h_world h_images h_hasImage h_tape v0_taped h_five v0_size v0_at v0_from v0_token v0_value v0_faultKind v0_faultPlace h_fresh h_spokenAt h_heardAt h_lastAt h_answerAt v0_lawA v0_lawB v0_lawC v0_drawX v0_isDrawn v0_lostMany h_heardNow h_seenAt v0_roundFrom v0_roundTo v0_goLast v0_goAnswer v0_goHeard h_fewest h_costNow h_costThen h_lawsOf h_heardBy v0_lawMany v0_askWorst h_placesOf h_sentIn v0_placeMany v0_parentFirst h_lostBy h_many h_width h_numbers h_moving f_world t_41 (by first | assumption | (have := zI0; have := zI1; have := zIm; omega) | decide) (by first | assumption | (have := zI0; have := zI1; have := zIm; omega) | decide) (by first | assumption | (have := zI0; have := zI1; have := zIm; omega) | decide) (by first | assumption | (have := zI0; have := zI1; have := zIm; omega) | decide) (by first | assumption | (have := zI0; have := zI1; have := zIm; omega) | decide) (by first | assumption | (have := zI0; have := zI1; have := zIm; omega) | decide) (by first | assumption | (have := zI0; have := zI1; have := zIm; omega) | decide) (by first | assumption | (have := zI0; have := zI1; have := zIm; omega) | decide) (by first | assumption | (have := zI0; have := zI1; have := zIm; omega) | decide) (by first | assumption | (have := zI0; have := zI1; have := zIm; omega) | decide) (by first | assumption | (have := zI0; have := zI1; have := zIm; omega) | decide) (by first | assumption | (have := zI0; have := zI1; have := zIm; omega) | decide) (by first | assumption | (have := zI0; have := zI1; have := zIm; omega) | decide) (by first | assumption | (have := zI0; have := zI1; have := zIm; omega) | decide) (by first | assumption | (have := zI0; have := zI1; have := zIm; omega) | decide) (by first | assumption | (have := zI0; have := zI1; have := zIm; omega) | decide) (by first | assumption | (have := zI0; have := zI1; have := zIm; omega) | decide)) (cvB (n := 1) (inr30 _ (List.mem_of_getElem? (i := 0) rfl)) (inr30 _ (List.mem_of_getElem? (i := 1) rfl)) (inr30 _ (List.mem_of_getElem? (i := 2) rfl)) (inr1 _ (List.mem_of_getElem? (i := 5) rfl)) (inr30 _ (List.mem_of_getElem? (i := 3) rfl)) (by decide +kernel) hts rfl rfl ⟨Nat.le_of_ble_eq_true rfl, Nat.le_of_ble_eq_true rfl⟩) 0 12 rfl rfl rfl (hP.sub [0, 2] rfl) hK hN (kT.to hT hS hAB) rfl hl.1 rfl (Nat.le_of_ble_eq_true rfl) ⟨Nat.le_of_ble_eq_true rfl, Nat.le_of_ble_eq_true rfl⟩ dX12_speak_23 (fun r_42 h_43 => ?_)
        have h_43 : ((r_42.toInt = 1 ∧ 0 ≤ t_41.toInt ∧ t_41.toInt ≤ (f_world 0).toInt - 1) ∨ r_42.toInt = 0) ∧ (r_42 = 0 ∨ r_42 = 1) := h_43
        obtain ⟨i_44, i_45⟩ := h_43
        have ar_42 : 0 ≤ r_42.toInt ∧ r_42.toInt ≤ 1 := by rcases i_45 with h | h <;> rw [h] <;> decide
        refine lv_if_ne (tgt := 32) hx hb dX12_speak_26 (by decide) (fun c_46 => ?_) (fun c_46 => ?_)
        · have c_46 : ¬ r_42.toInt = 0 := ci_ne_t c_46
          have b_r_42 := i32b r_42
          have d_47 : 0 ≤ t_41.toInt ∧ t_41.toInt ≤ (f_world 0).toInt - 1 := by omega
          have b_48 := (by assumption : sg sgWo f_world) _ (List.mem_of_getElem? (i := 0) rfl) 0 (by decide) (by decide)
          have b_48 : 0 ≤ (f_world 0).toInt ∧ (f_world 0).toInt ≤ 9 := b_48
          clear i_44
          refine lv_aload_n hx hb dX12_speak_32 rfl (lv_at hl 0 rfl) ?_
          refine wrVv (As := []) (rest := []) (wr := []) ⟨hx, hb, hml, hown, hts⟩ (b_X12_asItIs l G D cB cI cJ cZ cS cT s.heap.size h0 v0_thrown h_world h_images h_hasImage h_tape v0_taped h_five v0_size v0_at v0_from v0_token v0_value v0_faultKind v0_faultPlace h_fresh h_spokenAt h_heardAt h_lastAt h_answerAt v0_lawA v0_lawB v0_lawC v0_drawX v0_isDrawn v0_lostMany h_heardNow h_seenAt v0_roundFrom v0_roundTo v0_goLast v0_goAnswer v0_goHeard h_fewest h_costNow h_costThen h_lawsOf h_heardBy v0_lawMany v0_askWorst h_placesOf h_sentIn v0_placeMany v0_parentFirst h_lostBy h_many h_width h_numbers h_moving f_spokenAt f_world (by first | assumption | (have := zI0; have := zI1; have := zIm; omega) | decide) (by first | assumption | (have := zI0; have := zI1; have := zIm; omega) | decide) (by first | assumption | (have := zI0; have := zI1; have := zIm; omega) | decide) (by first | assumption | (have := zI0; have := zI1; have := zIm; omega) | decide) (by first | assumption | (have := zI0; have := zI1; have := zIm; omega) | decide) (by first | assumption | (have := zI0; have := zI1; have := zIm; omega) | decide) (by first | assumption | (have := zI0; have := zI1; have := zIm; omega) | decide) (by first | assumption | (have := zI0; have := zI1; have := zIm; omega) | decide) (by first | assumption | (have := zI0; have := zI1; have := zIm; omega) | decide) (by first | assumption | (have := zI0; have := zI1; have := zIm; omega) | decide) (by first | assumption | (have := zI0; have := zI1; have := zIm; omega) | decide) (by first | assumption | (have := zI0; have := zI1; have := zIm; omega) | decide) (by first | assumption | (have := zI0; have := zI1; have := zIm; omega) | decide) (by first | assumption | (have := zI0; have := zI1; have := zIm; omega) | decide) (by first | assumption | (have := zI0; have := zI1; have := zIm; omega) | decide) (by first | assumption | (have := zI0; have := zI1; have := zIm; omega) | decide) (by first | assumption | (have := zI0; have := zI1; have := zIm; omega) | decide) (by first | assumption | (have := zI0; have := zI1; have := zIm; omega) | decide)) hP hD hS hA hK hN hT hAB hG [0, 1, 2] [] rfl rfl (by decide) (by decide) (by decide) (cvB (n := 0) (inr24 _ (List.mem_of_getElem? (i := 7) rfl)) (inr24 _ (List.mem_of_getElem? (i := 8) rfl)) (inr24 _ (List.mem_of_getElem? (i := 9) rfl)) (inr1 _ (List.mem_of_getElem? (i := 5) rfl)) (inr24 _ (List.mem_of_getElem? (i := 10) rfl)) (by decide +kernel) hts rfl rfl ⟨Nat.le_of_ble_eq_true rfl, Nat.le_of_ble_eq_true rfl⟩) 0 12 rfl rfl rfl rfl hl.1 rfl (Nat.le_of_ble_eq_true rfl) ⟨Nat.le_of_ble_eq_true rfl, Nat.le_of_ble_eq_true rfl⟩ dX12_speak_33 (fun x9 H locs h_50 hP hD hS => ?_)
          obtain ⟨t_51, t_52, t_53, t_54, g_55⟩ := x9
          have hP : va_P D vwCl [(mO h0 v0_thrown h_world h_images h_hasImage h_tape v0_taped h_five v0_size v0_at v0_from v0_token v0_value v0_faultKind v0_faultPlace h_fresh h_spokenAt h_heardAt h_lastAt h_answerAt t_51 t_52 t_53 v0_drawX t_54 v0_lostMany h_heardNow h_seenAt v0_roundFrom v0_roundTo v0_goLast v0_goAnswer v0_goHeard h_fewest h_costNow h_costThen h_lawsOf h_heardBy v0_lawMany v0_askWorst h_placesOf h_sentIn v0_placeMany v0_parentFirst h_lostBy h_many h_width h_numbers h_moving), (h_spokenAt, .inl (cI, 61, .inl g_55)), (h_world, .inl (cI, 53, .inl f_world))] H := hP
          have hD : va_D A [(mO h0 v0_thrown h_world h_images h_hasImage h_tape v0_taped h_five v0_size v0_at v0_from v0_token v0_value v0_faultKind v0_faultPlace h_fresh h_spokenAt h_heardAt h_lastAt h_answerAt t_51 t_52 t_53 v0_drawX t_54 v0_lostMany h_heardNow h_seenAt v0_roundFrom v0_roundTo v0_goLast v0_goAnswer v0_goHeard h_fewest h_costNow h_costThen h_lawsOf h_heardBy v0_lawMany v0_askWorst h_placesOf h_sentIn v0_placeMany v0_parentFirst h_lostBy h_many h_width h_numbers h_moving), (h_spokenAt, .inl (cI, 61, .inl g_55)), (h_world, .inl (cI, 53, .inl f_world))] := hD
          have h_50 : (0 ≤ t_51.toInt ∧ t_51.toInt ≤ 8) ∧ (0 ≤ t_52.toInt ∧ t_52.toInt ≤ 8) ∧ (0 ≤ t_53.toInt ∧ t_53.toInt ≤ 9) ∧ (0 ≤ t_54.toInt ∧ t_54.toInt ≤ 1) ∧ (sg sgSp g_55) := h_50
          obtain ⟨i_56, i_57, i_58, i_59, i_60⟩ := h_50
          refine lv_aload_n hx hb dX12_speak_36 rfl (lv_at hl 0 rfl) ?_
          refine va_get (D := D) (ci := 12) (v := .ref h_world) (C := RX12) (T := TX12) (N := 48) hx hb hts inlX12 hown hK hP 0 rfl rfl 1 (by decide) (hts _ (inr6 _ (List.mem_of_getElem? (i := 16) rfl))) (fun _ h9 => h9) rfl dX12_speak_37 ?_
          refine lv_bipush (v := 8) hx hb dX12_speak_40 (by decide) ?_
          obtain ⟨t_61, et_61⟩ : ∃ v9 : Int32, f_world (8 : Int32).toNatClampNeg = v9 := ⟨_, rfl⟩
          refine z_iald (v := t_61) hx hb hK hP 2 1 rfl rfl (by unfold vp_in; decide) et_61 dX12_speak_42 ?_
          have ft_61 : 0 ≤ t_61.toInt ∧ t_61.toInt ≤ 30 := sgL (by assumption : sg sgWo f_world) 5 rfl (by decide) (by decide) (by decide) et_61
          have qt_61 : (f_world 8).toInt = t_61.toInt := by rw [← et_61]; rfl
          refine lv_bipush (v := 30) hx hb dX12_speak_43 (by decide) ?_
          refine lv_icmp_ne (tgt := 51) hx hb dX12_speak_45 (by decide) (fun c_62 => ?_) (fun c_62 => ?_)
          · have c_62 : ¬ t_61.toInt = 30 := ci_ne_t c_62
            have b_t_61 := i32b t_61
            have c_62q : ¬ (f_world 8).toInt = 30 := by omega
            refine lv_aload_n hx hb dX12_speak_51 rfl (lv_at hl 0 rfl) ?_
            refine va_get (D := D) (ci := 12) (v := .ref h_world) (C := RX12) (T := TX12) (N := 48) hx hb hts inlX12 hown hK hP 0 rfl rfl 1 (by decide) (hts _ (inr6 _ (List.mem_of_getElem? (i := 16) rfl))) (fun _ h9 => h9) rfl dX12_speak_52 ?_
            refine lv_bipush (v := 23) hx hb dX12_speak_55 (by decide) ?_
            refine lv_aload_n hx hb dX12_speak_57 rfl (lv_at hl 0 rfl) ?_
            refine va_get (D := D) (ci := 12) (v := .ref h_world) (C := RX12) (T := TX12) (N := 48) hx hb hts inlX12 hown hK hP 0 rfl rfl 1 (by decide) (hts _ (inr6 _ (List.mem_of_getElem? (i := 16) rfl))) (fun _ h9 => h9) rfl dX12_speak_58 ?_
            refine lv_bipush (v := 8) hx hb dX12_speak_61 (by decide) ?_
            obtain ⟨t_63, et_63⟩ : ∃ v9 : Int32, f_world (8 : Int32).toNatClampNeg = v9 := ⟨_, rfl⟩
            refine z_iald (v := t_63) hx hb hK hP 2 1 rfl rfl (by unfold vp_in; decide) et_63 dX12_speak_63 ?_
            have dt_63 : t_63.toInt = t_61.toInt := by rw [← et_63, ← et_61]
            have ft_63 : 0 ≤ t_63.toInt ∧ t_63.toInt ≤ 30 := sgL (by assumption : sg sgWo f_world) 5 rfl (by decide) (by decide) (by decide) et_63
            have qt_63 : (f_world 8).toInt = t_63.toInt := by rw [← et_63]; rfl
            obtain ⟨t_64, et_64⟩ : ∃ v9 : Int32, 23 + t_63 = v9 := ⟨_, rfl⟩
            refine z_iadd (v := t_64) hx hb dX12_speak_64 et_64 ?_
            have b_t_63 := i32b t_63
            have ft_64 : t_64.toInt = 23 + t_63.toInt := addT (a := 23) (b := t_63.toInt) (by decide) rfl et_64 (by omega) (by omega)
            refine lv_bipush (v := 10) hx hb dX12_speak_65 (by decide) ?_
            refine lv_iload_n hx hb dX12_speak_67 rfl (lv_at hl 1 rfl) ?_
            obtain ⟨t_65, et_65⟩ : ∃ v9 : Int32, 10 * v1 = v9 := ⟨_, rfl⟩
            refine z_imul (v := t_65) hx hb dX12_speak_68 et_65 ?_
            have ft_65 : t_65.toInt = 10 * v1.toInt := mulT (a := 10) (b := v1.toInt) (by decide) rfl et_65 (by omega) (by omega)
            refine lv_iload_n hx hb dX12_speak_69 rfl (lv_at hl 2 rfl) ?_
            obtain ⟨t_66, et_66⟩ : ∃ v9 : Int32, t_65 + v2 = v9 := ⟨_, rfl⟩
            refine z_iadd (v := t_66) hx hb dX12_speak_70 et_66 ?_
            have b_t_65 := i32b t_65
            have ft_66 : t_66.toInt = t_65.toInt + v2.toInt := addT (a := t_65.toInt) (b := v2.toInt) rfl rfl et_66 (by omega) (by omega)
            refine lv_iconst (v := 1) hx hb dX12_speak_71 (by decide) ?_
            obtain ⟨t_67, et_67⟩ : ∃ v9 : Int32, t_66 + 1 = v9 := ⟨_, rfl⟩
            refine z_iadd (v := t_67) hx hb dX12_speak_72 et_67 ?_
            have b_t_66 := i32b t_66
            have ft_67 : t_67.toInt = t_66.toInt + 1 := addT (a := t_66.toInt) (b := 1) rfl (by decide) et_67 (by omega) (by omega)
            refine va_iast hx hb hK hP hD hS 2 1 rfl rfl (vin_nat (by omega) (by omega)) dX12_speak_73 (fun H locs hP hD hS => ?_)
            have hP : va_P D vwCl [(mO h0 v0_thrown h_world h_images h_hasImage h_tape v0_taped h_five v0_size v0_at v0_from v0_token v0_value v0_faultKind v0_faultPlace h_fresh h_spokenAt h_heardAt h_lastAt h_answerAt t_51 t_52 t_53 v0_drawX t_54 v0_lostMany h_heardNow h_seenAt v0_roundFrom v0_roundTo v0_goLast v0_goAnswer v0_goHeard h_fewest h_costNow h_costThen h_lawsOf h_heardBy v0_lawMany v0_askWorst h_placesOf h_sentIn v0_placeMany v0_parentFirst h_lostBy h_many h_width h_numbers h_moving), (h_spokenAt, .inl (cI, 61, .inl g_55)), (h_world, .inl (cI, 53, .inl (upd f_world (t_64 : Int32).toNatClampNeg t_67)))] H := hP
            have hD : va_D A [(mO h0 v0_thrown h_world h_images h_hasImage h_tape v0_taped h_five v0_size v0_at v0_from v0_token v0_value v0_faultKind v0_faultPlace h_fresh h_spokenAt h_heardAt h_lastAt h_answerAt t_51 t_52 t_53 v0_drawX t_54 v0_lostMany h_heardNow h_seenAt v0_roundFrom v0_roundTo v0_goLast v0_goAnswer v0_goHeard h_fewest h_costNow h_costThen h_lawsOf h_heardBy v0_lawMany v0_askWorst h_placesOf h_sentIn v0_placeMany v0_parentFirst h_lostBy h_many h_width h_numbers h_moving), (h_spokenAt, .inl (cI, 61, .inl g_55)), (h_world, .inl (cI, 53, .inl (upd f_world (t_64 : Int32).toNatClampNeg t_67)))] := hD
            obtain ⟨g_68, eg_68⟩ : ∃ v9 : Nat → Int32, (upd f_world (t_64 : Int32).toNatClampNeg t_67) = v9 := ⟨_, rfl⟩
            rw [eg_68] at hP hD
            have hP : va_P D vwCl [(mO h0 v0_thrown h_world h_images h_hasImage h_tape v0_taped h_five v0_size v0_at v0_from v0_token v0_value v0_faultKind v0_faultPlace h_fresh h_spokenAt h_heardAt h_lastAt h_answerAt t_51 t_52 t_53 v0_drawX t_54 v0_lostMany h_heardNow h_seenAt v0_roundFrom v0_roundTo v0_goLast v0_goAnswer v0_goHeard h_fewest h_costNow h_costThen h_lawsOf h_heardBy v0_lawMany v0_askWorst h_placesOf h_sentIn v0_placeMany v0_parentFirst h_lostBy h_many h_width h_numbers h_moving), (h_spokenAt, .inl (cI, 61, .inl g_55)), (h_world, .inl (cI, 53, .inl g_68))] H := hP
            have hD : va_D A [(mO h0 v0_thrown h_world h_images h_hasImage h_tape v0_taped h_five v0_size v0_at v0_from v0_token v0_value v0_faultKind v0_faultPlace h_fresh h_spokenAt h_heardAt h_lastAt h_answerAt t_51 t_52 t_53 v0_drawX t_54 v0_lostMany h_heardNow h_seenAt v0_roundFrom v0_roundTo v0_goLast v0_goAnswer v0_goHeard h_fewest h_costNow h_costThen h_lawsOf h_heardBy v0_lawMany v0_askWorst h_placesOf h_sentIn v0_placeMany v0_parentFirst h_lostBy h_many h_width h_numbers h_moving), (h_spokenAt, .inl (cI, 61, .inl g_55)), (h_world, .inl (cI, 53, .inl g_68))] := hD
            have pg_68 : sg sgWo g_68 := by rw [← eg_68]; exact sgS (by assumption : sg sgWo f_world) (by omega) (by intro q9 hq9; simp only [sgWo, List.mem_cons, List.not_mem_nil, or_false] at hq9; rcases hq9 with rfl | rfl | rfl | rfl | rfl | rfl | rfl | rfl | rfl <;> dsimp only <;> omega)
            have wg_68_0 : (g_68 0).toInt = (f_world 0).toInt := upd9E (i := t_64) eg_68 (by omega) (by omega)
            have wg_68_6 : (g_68 6).toInt = (f_world 6).toInt := upd9E (i := t_64) eg_68 (by omega) (by omega)
            have wg_68_7 : (g_68 7).toInt = (f_world 7).toInt := upd9E (i := t_64) eg_68 (by omega) (by omega)
            have wg_68_8 : (g_68 8).toInt = (f_world 8).toInt := upd9E (i := t_64) eg_68 (by omega) (by omega)
            have wg_68_9 : (g_68 9).toInt = (f_world 9).toInt := upd9E (i := t_64) eg_68 (by omega) (by omega)
            refine lv_aload_n hx hb dX12_speak_74 rfl (lv_at hl 0 rfl) ?_
            refine va_get (D := D) (ci := 12) (v := .ref h_world) (C := RX12) (T := TX12) (N := 48) hx hb hts inlX12 hown hK hP 0 rfl rfl 1 (by decide) (hts _ (inr6 _ (List.mem_of_getElem? (i := 16) rfl))) (fun _ h9 => h9) rfl dX12_speak_75 ?_
            refine lv_bipush (v := 8) hx hb dX12_speak_78 (by decide) ?_
            refine lv_dup2_11 hx hb dX12_speak_80 rfl rfl ?_
            obtain ⟨t_69, et_69⟩ : ∃ v9 : Int32, g_68 (8 : Int32).toNatClampNeg = v9 := ⟨_, rfl⟩
            refine z_iald (v := t_69) hx hb hK hP 2 1 rfl rfl (by unfold vp_in; decide) et_69 dX12_speak_81 ?_
            have ft_69 : 0 ≤ t_69.toInt ∧ t_69.toInt ≤ 30 := sgL (by assumption : sg sgWo g_68) 5 rfl (by decide) (by decide) (by decide) et_69
            have qt_69 : (g_68 8).toInt = t_69.toInt := by rw [← et_69]; rfl
            refine lv_iconst (v := 1) hx hb dX12_speak_82 (by decide) ?_
            obtain ⟨t_70, et_70⟩ : ∃ v9 : Int32, t_69 + 1 = v9 := ⟨_, rfl⟩
            refine z_iadd (v := t_70) hx hb dX12_speak_83 et_70 ?_
            have b_t_69 := i32b t_69
            have ft_70 : t_70.toInt = t_69.toInt + 1 := addT (a := t_69.toInt) (b := 1) rfl (by decide) et_70 (by omega) (by omega)
            refine va_iast hx hb hK hP hD hS 2 1 rfl rfl (by unfold vp_in; decide) dX12_speak_84 (fun H locs hP hD hS => ?_)
            have hP : va_P D vwCl [(mO h0 v0_thrown h_world h_images h_hasImage h_tape v0_taped h_five v0_size v0_at v0_from v0_token v0_value v0_faultKind v0_faultPlace h_fresh h_spokenAt h_heardAt h_lastAt h_answerAt t_51 t_52 t_53 v0_drawX t_54 v0_lostMany h_heardNow h_seenAt v0_roundFrom v0_roundTo v0_goLast v0_goAnswer v0_goHeard h_fewest h_costNow h_costThen h_lawsOf h_heardBy v0_lawMany v0_askWorst h_placesOf h_sentIn v0_placeMany v0_parentFirst h_lostBy h_many h_width h_numbers h_moving), (h_spokenAt, .inl (cI, 61, .inl g_55)), (h_world, .inl (cI, 53, .inl (upd g_68 (8 : Int32).toNatClampNeg t_70)))] H := hP
            have hD : va_D A [(mO h0 v0_thrown h_world h_images h_hasImage h_tape v0_taped h_five v0_size v0_at v0_from v0_token v0_value v0_faultKind v0_faultPlace h_fresh h_spokenAt h_heardAt h_lastAt h_answerAt t_51 t_52 t_53 v0_drawX t_54 v0_lostMany h_heardNow h_seenAt v0_roundFrom v0_roundTo v0_goLast v0_goAnswer v0_goHeard h_fewest h_costNow h_costThen h_lawsOf h_heardBy v0_lawMany v0_askWorst h_placesOf h_sentIn v0_placeMany v0_parentFirst h_lostBy h_many h_width h_numbers h_moving), (h_spokenAt, .inl (cI, 61, .inl g_55)), (h_world, .inl (cI, 53, .inl (upd g_68 (8 : Int32).toNatClampNeg t_70)))] := hD
            obtain ⟨g_71, eg_71⟩ : ∃ v9 : Nat → Int32, (upd g_68 (8 : Int32).toNatClampNeg t_70) = v9 := ⟨_, rfl⟩
            rw [eg_71] at hP hD
            have hP : va_P D vwCl [(mO h0 v0_thrown h_world h_images h_hasImage h_tape v0_taped h_five v0_size v0_at v0_from v0_token v0_value v0_faultKind v0_faultPlace h_fresh h_spokenAt h_heardAt h_lastAt h_answerAt t_51 t_52 t_53 v0_drawX t_54 v0_lostMany h_heardNow h_seenAt v0_roundFrom v0_roundTo v0_goLast v0_goAnswer v0_goHeard h_fewest h_costNow h_costThen h_lawsOf h_heardBy v0_lawMany v0_askWorst h_placesOf h_sentIn v0_placeMany v0_parentFirst h_lostBy h_many h_width h_numbers h_moving), (h_spokenAt, .inl (cI, 61, .inl g_55)), (h_world, .inl (cI, 53, .inl g_71))] H := hP
            have hD : va_D A [(mO h0 v0_thrown h_world h_images h_hasImage h_tape v0_taped h_five v0_size v0_at v0_from v0_token v0_value v0_faultKind v0_faultPlace h_fresh h_spokenAt h_heardAt h_lastAt h_answerAt t_51 t_52 t_53 v0_drawX t_54 v0_lostMany h_heardNow h_seenAt v0_roundFrom v0_roundTo v0_goLast v0_goAnswer v0_goHeard h_fewest h_costNow h_costThen h_lawsOf h_heardBy v0_lawMany v0_askWorst h_placesOf h_sentIn v0_placeMany v0_parentFirst h_lostBy h_many h_width h_numbers h_moving), (h_spokenAt, .inl (cI, 61, .inl g_55)), (h_world, .inl (cI, 53, .inl g_71))] := hD
            have pg_71 : sg sgWo g_71 := by rw [← eg_71]; exact sgS (by assumption : sg sgWo g_68) (by decide) (by have z9_i : (8 : Int32).toInt = 8 := (by decide); intro q9 hq9; simp only [sgWo, List.mem_cons, List.not_mem_nil, or_false] at hq9; rcases hq9 with rfl | rfl | rfl | rfl | rfl | rfl | rfl | rfl | rfl <;> dsimp only <;> omega)
            have wg_71_0 : (g_71 0).toInt = (g_68 0).toInt := upd9E (i := 8) eg_71 (by decide) (by decide)
            have wg_71_6 : (g_71 6).toInt = (g_68 6).toInt := upd9E (i := 8) eg_71 (by decide) (by decide)
            have wg_71_7 : (g_71 7).toInt = (g_68 7).toInt := upd9E (i := 8) eg_71 (by decide) (by decide)
            have wg_71_8 : (g_71 8).toInt = t_70.toInt := upd9V (i := 8) (v := t_70) eg_71 (by decide) (by decide)
            have wg_71_9 : (g_71 9).toInt = (g_68 9).toInt := upd9E (i := 8) eg_71 (by decide) (by decide)
            refine lv_aload_n hx hb dX12_speak_85 rfl (lv_at hl 0 rfl) ?_
            refine va_get (D := D) (ci := 12) (v := .ref h_spokenAt) (C := RX12) (T := TX12) (N := 48) hx hb hts inlX12 hown hK hP 0 rfl rfl 15 (by decide) (hts _ (inr6 _ (List.mem_of_getElem? (i := 23) rfl))) (fun _ h9 => h9) rfl dX12_speak_86 ?_
            refine lv_iload_n hx hb dX12_speak_89 rfl (lv_at hl 1 rfl) ?_
            obtain ⟨t_72, et_72⟩ : ∃ v9 : Int32, g_55 (v1 : Int32).toNatClampNeg = v9 := ⟨_, rfl⟩
            refine z_iald (v := t_72) hx hb hK hP 1 1 rfl rfl (vin_nat (by omega) (by omega)) et_72 dX12_speak_90 ?_
            have ft_72 : (-1) ≤ t_72.toInt ∧ t_72.toInt ≤ 8 := sgL (by assumption : sg sgSp g_55) 0 rfl (by omega) (by omega) (by omega) et_72
            exact ret _ _ _ _ _ (t_51, t_52, t_53, t_54, g_55, g_71) dX12_speak_91 (show (0 ≤ t_51.toInt ∧ t_51.toInt ≤ 8) ∧ (0 ≤ t_52.toInt ∧ t_52.toInt ≤ 8) ∧ (0 ≤ t_53.toInt ∧ t_53.toInt ≤ 9) ∧ (0 ≤ t_54.toInt ∧ t_54.toInt ≤ 1) ∧ (sg sgSp g_55) ∧ (sg sgWo g_71) ∧ (0 < (g_71 9).toInt → 2 ≤ (g_71 0).toInt) from ⟨(by first | assumption | (have := zI0; have := zI1; have := zIm; omega) | decide), (by first | assumption | (have := zI0; have := zI1; have := zIm; omega) | decide), (by first | assumption | (have := zI0; have := zI1; have := zIm; omega) | decide), (by first | assumption | (have := zI0; have := zI1; have := zIm; omega) | decide), (by first | assumption | (have := zI0; have := zI1; have := zIm; omega) | decide), (by first | assumption | (have := zI0; have := zI1; have := zIm; omega) | decide), (by first | assumption | (have := zI0; have := zI1; have := zIm; omega) | decide)⟩) (hP.sub [0, 1, 2] rfl) (hD.sub [0, 1, 2] (by decide) rfl) hS
          · have c_62 : t_61.toInt = 30 := ci_ne_f c_62
            have b_t_61 := i32b t_61
            have c_62q : (f_world 8).toInt = 30 := by omega
            refine lv_bipush (v := (-5)) hx hb dX12_speak_48 (by decide) ?_
            exact ret _ _ _ _ _ (t_51, t_52, t_53, t_54, g_55, f_world) dX12_speak_50 (show (0 ≤ t_51.toInt ∧ t_51.toInt ≤ 8) ∧ (0 ≤ t_52.toInt ∧ t_52.toInt ≤ 8) ∧ (0 ≤ t_53.toInt ∧ t_53.toInt ≤ 9) ∧ (0 ≤ t_54.toInt ∧ t_54.toInt ≤ 1) ∧ (sg sgSp g_55) ∧ (sg sgWo f_world) ∧ (0 < (f_world 9).toInt → 2 ≤ (f_world 0).toInt) from ⟨(by first | assumption | (have := zI0; have := zI1; have := zIm; omega) | decide), (by first | assumption | (have := zI0; have := zI1; have := zIm; omega) | decide), (by first | assumption | (have := zI0; have := zI1; have := zIm; omega) | decide), (by first | assumption | (have := zI0; have := zI1; have := zIm; omega) | decide), (by first | assumption | (have := zI0; have := zI1; have := zIm; omega) | decide), (by first | assumption | (have := zI0; have := zI1; have := zIm; omega) | decide), (by first | assumption | (have := zI0; have := zI1; have := zIm; omega) | decide)⟩) (hP.sub [0, 1, 2] rfl) (hD.sub [0, 1, 2] (by decide) rfl) hS
        · have c_46 : r_42.toInt = 0 := ci_ne_f c_46
          have b_r_42 := i32b r_42
          clear i_44
          refine lv_bipush (v := (-2)) hx hb dX12_speak_29 (by decide) ?_
          exact ret _ _ _ _ _ (v0_lawA, v0_lawB, v0_lawC, v0_isDrawn, f_spokenAt, f_world) dX12_speak_31 (show (0 ≤ v0_lawA.toInt ∧ v0_lawA.toInt ≤ 8) ∧ (0 ≤ v0_lawB.toInt ∧ v0_lawB.toInt ≤ 8) ∧ (0 ≤ v0_lawC.toInt ∧ v0_lawC.toInt ≤ 9) ∧ (0 ≤ v0_isDrawn.toInt ∧ v0_isDrawn.toInt ≤ 1) ∧ (sg sgSp f_spokenAt) ∧ (sg sgWo f_world) ∧ (0 < (f_world 9).toInt → 2 ≤ (f_world 0).toInt) from ⟨(by first | assumption | (have := zI0; have := zI1; have := zIm; omega) | decide), (by first | assumption | (have := zI0; have := zI1; have := zIm; omega) | decide), (by first | assumption | (have := zI0; have := zI1; have := zIm; omega) | decide), (by first | assumption | (have := zI0; have := zI1; have := zIm; omega) | decide), (by first | assumption | (have := zI0; have := zI1; have := zIm; omega) | decide), (by first | assumption | (have := zI0; have := zI1; have := zIm; omega) | decide), (by first | assumption | (have := zI0; have := zI1; have := zIm; omega) | decide)⟩) (hP.sub [0, 1, 2] rfl) (hD.sub [0, 1, 2] (by decide) rfl) hS

set_option maxHeartbeats 4000000 in
set_option maxRecDepth 100000 in
theorem b_X12_spoken (l : Launch) (G : Gho) (D : va_G) (cB cI cJ cZ cS cT : ClassId) (sz : Nat) (h0 : Nat) (v0_thrown : Int32) (h_world : Nat) (h_images : Nat) (h_hasImage : Nat) (h_tape : Nat) (v0_taped : Int32) (h_five : Nat) (v0_size : Int32) (v0_at : Int32) (v0_from : Int32) (v0_token : Int32) (v0_value : Int32) (v0_faultKind : Int32) (v0_faultPlace : Int32) (h_fresh : Nat) (h_spokenAt : Nat) (h_heardAt : Nat) (h_lastAt : Nat) (h_answerAt : Nat) (v0_lawA : Int32) (v0_lawB : Int32) (v0_lawC : Int32) (v0_drawX : Int64) (v0_isDrawn : Int32) (v0_lostMany : Int32) (h_heardNow : Nat) (h_seenAt : Nat) (v0_roundFrom : Int32) (v0_roundTo : Int32) (v0_goLast : Int32) (v0_goAnswer : Int32) (v0_goHeard : Int32) (h_fewest : Nat) (h_costNow : Nat) (h_costThen : Nat) (h_lawsOf : Nat) (h_heardBy : Nat) (v0_lawMany : Int32) (v0_askWorst : Int32) (h_placesOf : Nat) (h_sentIn : Nat) (v0_placeMany : Int32) (v0_parentFirst : Int32) (h_lostBy : Nat) (h_many : Nat) (h_width : Nat) (h_numbers : Nat) (h_moving : Nat) (f_answerAt : Nat → Int32) (f_heardAt : Nat → Int32) (f_lastAt : Nat → Int32) (f_spokenAt : Nat → Int32) (f_world : Nat → Int32) (v1 : Int32) (iv0_taped : 0 ≤ v0_taped.toInt ∧ v0_taped.toInt ≤ 500) (iv0_size : 0 ≤ v0_size.toInt ∧ v0_size.toInt ≤ 500) (iv0_at : 0 ≤ v0_at.toInt ∧ v0_at.toInt ≤ 500) (iv0_from : 0 ≤ v0_from.toInt ∧ v0_from.toInt ≤ 500) (iv0_faultKind : 0 ≤ v0_faultKind.toInt ∧ v0_faultKind.toInt ≤ 3) (iv0_lawA : 0 ≤ v0_lawA.toInt ∧ v0_lawA.toInt ≤ 8) (iv0_lawB : 0 ≤ v0_lawB.toInt ∧ v0_lawB.toInt ≤ 8) (iv0_lawC : 0 ≤ v0_lawC.toInt ∧ v0_lawC.toInt ≤ 9) (iv0_isDrawn : 0 ≤ v0_isDrawn.toInt ∧ v0_isDrawn.toInt ≤ 1) (iv0_roundFrom : 0 ≤ v0_roundFrom.toInt ∧ v0_roundFrom.toInt ≤ 648) (iv0_roundTo : 0 ≤ v0_roundTo.toInt ∧ v0_roundTo.toInt ≤ 648) (iv0_goLast : 0 ≤ v0_goLast.toInt ∧ v0_goLast.toInt ≤ 8) (iv0_goAnswer : 0 ≤ v0_goAnswer.toInt ∧ v0_goAnswer.toInt ≤ 8) (iv0_lawMany : 0 ≤ v0_lawMany.toInt ∧ v0_lawMany.toInt ≤ 729) (iv0_placeMany : 0 ≤ v0_placeMany.toInt ∧ v0_placeMany.toInt ≤ 100) (pf_answerAt : sg sgLa f_answerAt) (pf_heardAt : sg sgSp f_heardAt) (pf_lastAt : sg sgLa f_lastAt) (pf_spokenAt : sg sgSp f_spokenAt) (pf_world : sg sgWo f_world) (cf_world : 0 < (f_world 9).toInt → 2 ≤ (f_world 0).toInt) : Met l yX12_spoken (Cond.code yX12_spoken cX12_spoken 2 (some .int) :: wsL_law) ({ frames := 6, cells := 0, slots := 0, locals := 128 }) (wrP G D (tyL cB cI cJ cZ cS cT) [(mO h0 v0_thrown h_world h_images h_hasImage h_tape v0_taped h_five v0_size v0_at v0_from v0_token v0_value v0_faultKind v0_faultPlace h_fresh h_spokenAt h_heardAt h_lastAt h_answerAt v0_lawA v0_lawB v0_lawC v0_drawX v0_isDrawn v0_lostMany h_heardNow h_seenAt v0_roundFrom v0_roundTo v0_goLast v0_goAnswer v0_goHeard h_fewest h_costNow h_costThen h_lawsOf h_heardBy v0_lawMany v0_askWorst h_placesOf h_sentIn v0_placeMany v0_parentFirst h_lostBy h_many h_width h_numbers h_moving), (h_answerAt, .inl (cI, 62, .inl f_answerAt)), (h_heardAt, .inl (cI, 61, .inl f_heardAt)), (h_lastAt, .inl (cI, 62, .inl f_lastAt)), (h_spokenAt, .inl (cI, 61, .inl f_spokenAt)), (h_world, .inl (cI, 53, .inl f_world))] sz [.ref h0, .int v1]) (va_Qi (fun (r : Int32) (x : Int32 × Int32 × Int32 × Int64 × Int32 × Int32 × (Nat → Int32) × (Nat → Int32) × (Nat → Int32) × (Nat → Int32)) => (0 ≤ x.1.toInt ∧ x.1.toInt ≤ 8) ∧ (0 ≤ x.2.1.toInt ∧ x.2.1.toInt ≤ 8) ∧ (0 ≤ x.2.2.1.toInt ∧ x.2.2.1.toInt ≤ 9) ∧ (0 ≤ x.2.2.2.2.1.toInt ∧ x.2.2.2.2.1.toInt ≤ 1) ∧ (sg sgLa x.2.2.2.2.2.2.1) ∧ (sg sgSp x.2.2.2.2.2.2.2.1) ∧ (sg sgLa x.2.2.2.2.2.2.2.2.1) ∧ (sg sgSp x.2.2.2.2.2.2.2.2.2)) (atW D (tyL cB cI cJ cZ cS cT) (va_A [(mO h0 v0_thrown h_world h_images h_hasImage h_tape v0_taped h_five v0_size v0_at v0_from v0_token v0_value v0_faultKind v0_faultPlace h_fresh h_spokenAt h_heardAt h_lastAt h_answerAt v0_lawA v0_lawB v0_lawC v0_drawX v0_isDrawn v0_lostMany h_heardNow h_seenAt v0_roundFrom v0_roundTo v0_goLast v0_goAnswer v0_goHeard h_fewest h_costNow h_costThen h_lawsOf h_heardBy v0_lawMany v0_askWorst h_placesOf h_sentIn v0_placeMany v0_parentFirst h_lostBy h_many h_width h_numbers h_moving), (h_answerAt, .inl (cI, 62, .inl f_answerAt)), (h_heardAt, .inl (cI, 61, .inl f_heardAt)), (h_lastAt, .inl (cI, 62, .inl f_lastAt)), (h_spokenAt, .inl (cI, 61, .inl f_spokenAt)), (h_world, .inl (cI, 53, .inl f_world))] sz) (fun x : Int32 × Int32 × Int32 × Int64 × Int32 × Int32 × (Nat → Int32) × (Nat → Int32) × (Nat → Int32) × (Nat → Int32) => [(mO h0 v0_thrown h_world h_images h_hasImage h_tape v0_taped h_five v0_size v0_at v0_from v0_token v0_value v0_faultKind v0_faultPlace h_fresh h_spokenAt h_heardAt h_lastAt h_answerAt x.1 x.2.1 x.2.2.1 x.2.2.2.1 x.2.2.2.2.1 x.2.2.2.2.2.1 h_heardNow h_seenAt v0_roundFrom v0_roundTo v0_goLast v0_goAnswer v0_goHeard h_fewest h_costNow h_costThen h_lawsOf h_heardBy v0_lawMany v0_askWorst h_placesOf h_sentIn v0_placeMany v0_parentFirst h_lostBy h_many h_width h_numbers h_moving), (h_answerAt, .inl (cI, 62, .inl x.2.2.2.2.2.2.1)), (h_heardAt, .inl (cI, 61, .inl x.2.2.2.2.2.2.2.1)), (h_lastAt, .inl (cI, 62, .inl x.2.2.2.2.2.2.2.2.1)), (h_spokenAt, .inl (cI, 61, .inl x.2.2.2.2.2.2.2.2.2)), (h_world, .inl (cI, 53, .inl f_world))])) (va_A [(mO h0 v0_thrown h_world h_images h_hasImage h_tape v0_taped h_five v0_size v0_at v0_from v0_token v0_value v0_faultKind v0_faultPlace h_fresh h_spokenAt h_heardAt h_lastAt h_answerAt v0_lawA v0_lawB v0_lawC v0_drawX v0_isDrawn v0_lostMany h_heardNow h_seenAt v0_roundFrom v0_roundTo v0_goLast v0_goAnswer v0_goHeard h_fewest h_costNow h_costThen h_lawsOf h_heardBy v0_lawMany v0_askWorst h_placesOf h_sentIn v0_placeMany v0_parentFirst h_lostBy h_many h_width h_numbers h_moving), (h_answerAt, .inl (cI, 62, .inl f_answerAt)), (h_heardAt, .inl (cI, 61, .inl f_heardAt)), (h_lastAt, .inl (cI, 62, .inl f_lastAt)), (h_spokenAt, .inl (cI, 61, .inl f_spokenAt)), (h_world, .inl (cI, 53, .inl f_world))] sz)) 0 0 (va_A [(mO h0 v0_thrown h_world h_images h_hasImage h_tape v0_taped h_five v0_size v0_at v0_from v0_token v0_value v0_faultKind v0_faultPlace h_fresh h_spokenAt h_heardAt h_lastAt h_answerAt v0_lawA v0_lawB v0_lawC v0_drawX v0_isDrawn v0_lostMany h_heardNow h_seenAt v0_roundFrom v0_roundTo v0_goLast v0_goAnswer v0_goHeard h_fewest h_costNow h_costThen h_lawsOf h_heardBy v0_lawMany v0_askWorst h_placesOf h_sentIn v0_placeMany v0_parentFirst h_lostBy h_many h_width h_numbers h_moving), (h_answerAt, .inl (cI, 62, .inl f_answerAt)), (h_heardAt, .inl (cI, 61, .inl f_heardAt)), (h_lastAt, .inl (cI, 62, .inl f_lastAt)), (h_spokenAt, .inl (cI, 61, .inl f_spokenAt)), (h_world, .inl (cI, 53, .inl f_world))] sz) := by
  refine metI (own := RX12) (by decide) rfl ?_
  intro p e s m below meth c Q hsz C hG hP hD hAB ret
  obtain ⟨hx, hb, hml, hown, hts, hK, hN, hT⟩ := id C
  subst hsz
  generalize hAe : va_A [(mO h0 v0_thrown h_world h_images h_hasImage h_tape v0_taped h_five v0_size v0_at v0_from v0_token v0_value v0_faultKind v0_faultPlace h_fresh h_spokenAt h_heardAt h_lastAt h_answerAt v0_lawA v0_lawB v0_lawC v0_drawX v0_isDrawn v0_lostMany h_heardNow h_seenAt v0_roundFrom v0_roundTo v0_goLast v0_goAnswer v0_goHeard h_fewest h_costNow h_costThen h_lawsOf h_heardBy v0_lawMany v0_askWorst h_placesOf h_sentIn v0_placeMany v0_parentFirst h_lostBy h_many h_width h_numbers h_moving), (h_answerAt, .inl (cI, 62, .inl f_answerAt)), (h_heardAt, .inl (cI, 61, .inl f_heardAt)), (h_lastAt, .inl (cI, 62, .inl f_lastAt)), (h_spokenAt, .inl (cI, 61, .inl f_spokenAt)), (h_world, .inl (cI, 53, .inl f_world))] s.heap.size = A at hD hAB ret ⊢
  have hA : ∀ q : Nat, s.heap.size ≤ q → A q := fun q h => by rw [← hAe]; exact Or.inr h
  have hS : va_S A s.heap s.heap [] := va_S.rf
  have hl := lv_entry ([.ref h0, .int v1]) (n := 2) (Nat.le_of_ble_eq_true rfl)
  rw [lg_entry_eq]
  generalize (lg_sl ([.ref h0, .int v1]) ++ List.replicate (2 - (lg_sl ([.ref h0, .int v1])).length) Slot.unset).toArray = ls at hl ⊢
  have hl : lv_has ls 2 [(0, .ref h0), (1, .int v1)] := hl
  have hP : va_P D vwCl [(mO h0 v0_thrown h_world h_images h_hasImage h_tape v0_taped h_five v0_size v0_at v0_from v0_token v0_value v0_faultKind v0_faultPlace h_fresh h_spokenAt h_heardAt h_lastAt h_answerAt v0_lawA v0_lawB v0_lawC v0_drawX v0_isDrawn v0_lostMany h_heardNow h_seenAt v0_roundFrom v0_roundTo v0_goLast v0_goAnswer v0_goHeard h_fewest h_costNow h_costThen h_lawsOf h_heardBy v0_lawMany v0_askWorst h_placesOf h_sentIn v0_placeMany v0_parentFirst h_lostBy h_many h_width h_numbers h_moving), (h_answerAt, .inl (cI, 62, .inl f_answerAt)), (h_heardAt, .inl (cI, 61, .inl f_heardAt)), (h_lastAt, .inl (cI, 62, .inl f_lastAt)), (h_spokenAt, .inl (cI, 61, .inl f_spokenAt)), (h_world, .inl (cI, 53, .inl f_world))] s.heap := hP
  refine lv_aload_n hx hb dX12_spoken_0 rfl (lv_at hl 0 rfl) ?_
  refine lv_iload_n hx hb dX12_spoken_1 rfl (lv_at hl 1 rfl) ?_
  refine wrVi (As := [.int v1]) (rest := []) (wr := []) ⟨hx, hb, hml, hown, hts⟩ (b_X12_asksStep l G D cB cI cJ cZ cS cT s.heap.size h0 v0_thrown h_world h_images h_hasImage h_tape v0_taped h_five v0_size v0_at v0_from v0_token v0_value v0_faultKind v0_faultPlace h_fresh h_spokenAt h_heardAt h_lastAt h_answerAt v0_lawA v0_lawB v0_lawC v0_drawX v0_isDrawn v0_lostMany h_heardNow h_seenAt v0_roundFrom v0_roundTo v0_goLast v0_goAnswer v0_goHeard h_fewest h_costNow h_costThen h_lawsOf h_heardBy v0_lawMany v0_askWorst h_placesOf h_sentIn v0_placeMany v0_parentFirst h_lostBy h_many h_width h_numbers h_moving f_answerAt f_heardAt f_lastAt f_spokenAt f_world v1 (by first | assumption | (have := zI0; have := zI1; have := zIm; omega) | decide) (by first | assumption | (have := zI0; have := zI1; have := zIm; omega) | decide) (by first | assumption | (have := zI0; have := zI1; have := zIm; omega) | decide) (by first | assumption | (have := zI0; have := zI1; have := zIm; omega) | decide) (by first | assumption | (have := zI0; have := zI1; have := zIm; omega) | decide) (by first | assumption | (have := zI0; have := zI1; have := zIm; omega) | decide) (by first | assumption | (have := zI0; have := zI1; have := zIm; omega) | decide) (by first | assumption | (have := zI0; have := zI1; have := zIm; omega) | decide) (by first | assumption | (have := zI0; have := zI1; have := zIm; omega) | decide) (by first | assumption | (have := zI0; have := zI1; have := zIm; omega) | decide) (by first | assumption | (have := zI0; have := zI1; have := zIm; omega) | decide) (by first | assumption | (have := zI0; have := zI1; have := zIm; omega) | decide) (by first | assumption | (have := zI0; have := zI1; have := zIm; omega) | decide) (by first | assumption | (have := zI0; have := zI1; have := zIm; omega) | decide) (by first | assumption | (have := zI0; have := zI1; have := zIm; omega) | decide) (by first | assumption | (have := zI0; have := zI1; have := zIm; omega) | decide) (by first | assumption | (have := zI0; have := zI1; have := zIm; omega) | decide) (by first | assumption | (have := zI0; have := zI1; have := zIm; omega) | decide) (by first | assumption | (have := zI0; have := zI1; have := zIm; omega) | decide) (by first | assumption | (have := zI0; have := zI1; have := zIm; omega) | decide) (by first | assumption | (have := zI0; have := zI1; have := zIm; omega) | decide)) hP hD hS hA hK hN hT hAB hG [0, 1, 2, 3, 4, 5] [] rfl rfl (by decide) (by decide) (by decide) (cvB (n := 1) (inr23 _ (List.mem_of_getElem? (i := 23) rfl)) (inr24 _ (List.mem_of_getElem? (i := 0) rfl)) (inr24 _ (List.mem_of_getElem? (i := 1) rfl)) (inr1 _ (List.mem_of_getElem? (i := 5) rfl)) (inr24 _ (List.mem_of_getElem? (i := 2) rfl)) (by decide +kernel) hts rfl rfl ⟨Nat.le_of_ble_eq_true rfl, Nat.le_of_ble_eq_true rfl⟩) 0 12 rfl rfl rfl rfl hl.1 rfl (Nat.le_of_ble_eq_true rfl) ⟨Nat.le_of_ble_eq_true rfl, Nat.le_of_ble_eq_true rfl⟩ dX12_spoken_2 (fun r_1 x9 H locs h_2 hP hD hS => ?_)
  obtain ⟨t_3, t_4, t_5, t_6, t_7, t_8, g_9, g_10, g_11, g_12⟩ := x9
  have hP : va_P D vwCl [(mO h0 v0_thrown h_world h_images h_hasImage h_tape v0_taped h_five v0_size v0_at v0_from v0_token v0_value v0_faultKind v0_faultPlace h_fresh h_spokenAt h_heardAt h_lastAt h_answerAt t_3 t_4 t_5 t_6 t_7 t_8 h_heardNow h_seenAt v0_roundFrom v0_roundTo v0_goLast v0_goAnswer v0_goHeard h_fewest h_costNow h_costThen h_lawsOf h_heardBy v0_lawMany v0_askWorst h_placesOf h_sentIn v0_placeMany v0_parentFirst h_lostBy h_many h_width h_numbers h_moving), (h_answerAt, .inl (cI, 62, .inl g_9)), (h_heardAt, .inl (cI, 61, .inl g_10)), (h_lastAt, .inl (cI, 62, .inl g_11)), (h_spokenAt, .inl (cI, 61, .inl g_12)), (h_world, .inl (cI, 53, .inl f_world))] H := hP
  have hD : va_D A [(mO h0 v0_thrown h_world h_images h_hasImage h_tape v0_taped h_five v0_size v0_at v0_from v0_token v0_value v0_faultKind v0_faultPlace h_fresh h_spokenAt h_heardAt h_lastAt h_answerAt t_3 t_4 t_5 t_6 t_7 t_8 h_heardNow h_seenAt v0_roundFrom v0_roundTo v0_goLast v0_goAnswer v0_goHeard h_fewest h_costNow h_costThen h_lawsOf h_heardBy v0_lawMany v0_askWorst h_placesOf h_sentIn v0_placeMany v0_parentFirst h_lostBy h_many h_width h_numbers h_moving), (h_answerAt, .inl (cI, 62, .inl g_9)), (h_heardAt, .inl (cI, 61, .inl g_10)), (h_lastAt, .inl (cI, 62, .inl g_11)), (h_spokenAt, .inl (cI, 61, .inl g_12)), (h_world, .inl (cI, 53, .inl f_world))] := hD
  have h_2 : (0 ≤ t_3.toInt ∧ t_3.toInt ≤ 8) ∧ (0 ≤ t_4.toInt ∧ t_4.toInt ≤ 8) ∧ (0 ≤ t_5.toInt ∧ t_5.toInt ≤ 9) ∧ (0 ≤ t_7.toInt ∧ t_7.toInt ≤ 1) ∧ (sg sgLa g_9) ∧ (sg sgSp g_10) ∧ (sg sgLa g_11) ∧ (sg sgSp g_12) ∧ ((r_1.toInt = 1 ∧ 0 < (f_world 9).toInt ∧ 0 ≤ v1.toInt ∧ v1.toInt ≤ 60) ∨ r_1.toInt = 0) ∧ (r_1 = 0 ∨ r_1 = 1) := h_2
  obtain ⟨i_13, i_14, i_15, i_16, i_17, i_18, i_19, i_20, i_21, i_22⟩ := h_2
  have ar_1 : 0 ≤ r_1.toInt ∧ r_1.toInt ≤ 1 := by rcases i_22 with h | h <;> rw [h] <;> decide
  refine lv_if_eq (tgt := 17) hx hb dX12_spoken_5 (by decide) (fun c_23 => ?_) (fun c_23 => ?_)
  · have c_23 : r_1.toInt = 0 := ci_eq_t c_23
    have b_r_1 := i32b r_1
    clear i_21
    refine lv_bipush (v := (-2)) hx hb dX12_spoken_17 (by decide) ?_
    exact ret _ _ _ _ _ (t_3, t_4, t_5, t_6, t_7, t_8, g_9, g_10, g_11, g_12) dX12_spoken_19 (show (0 ≤ t_3.toInt ∧ t_3.toInt ≤ 8) ∧ (0 ≤ t_4.toInt ∧ t_4.toInt ≤ 8) ∧ (0 ≤ t_5.toInt ∧ t_5.toInt ≤ 9) ∧ (0 ≤ t_7.toInt ∧ t_7.toInt ≤ 1) ∧ (sg sgLa g_9) ∧ (sg sgSp g_10) ∧ (sg sgLa g_11) ∧ (sg sgSp g_12) from ⟨(by first | assumption | (have := zI0; have := zI1; have := zIm; omega) | decide), (by first | assumption | (have := zI0; have := zI1; have := zIm; omega) | decide), (by first | assumption | (have := zI0; have := zI1; have := zIm; omega) | decide), (by first | assumption | (have := zI0; have := zI1; have := zIm; omega) | decide), (by first | assumption | (have := zI0; have := zI1; have := zIm; omega) | decide), (by first | assumption | (have := zI0; have := zI1; have := zIm; omega) | decide), (by first | assumption | (have := zI0; have := zI1; have := zIm; omega) | decide), (by first | assumption | (have := zI0; have := zI1; have := zIm; omega) | decide)⟩) (hP.sub [0, 1, 2, 3, 4, 5] rfl) (hD.sub [0, 1, 2, 3, 4, 5] (by decide) rfl) hS
  · have c_23 : ¬ r_1.toInt = 0 := ci_eq_f c_23
    have b_r_1 := i32b r_1
    have d_24 : 0 < (f_world 9).toInt ∧ 0 ≤ v1.toInt ∧ v1.toInt ≤ 60 := by omega
    clear i_21
    refine lv_aload_n hx hb dX12_spoken_8 rfl (lv_at hl 0 rfl) ?_
    refine va_get (D := D) (ci := 12) (v := .ref h_spokenAt) (C := RX12) (T := TX12) (N := 48) hx hb hts inlX12 hown hK hP 0 rfl rfl 15 (by decide) (hts _ (inr6 _ (List.mem_of_getElem? (i := 23) rfl))) (fun _ h9 => h9) rfl dX12_spoken_9 ?_
    refine lv_iload_n hx hb dX12_spoken_12 rfl (lv_at hl 1 rfl) ?_
    obtain ⟨t_25, et_25⟩ : ∃ v9 : Int32, g_12 (v1 : Int32).toNatClampNeg = v9 := ⟨_, rfl⟩
    refine z_iald (v := t_25) hx hb hK hP 4 1 rfl rfl (vin_nat (by omega) (by omega)) et_25 dX12_spoken_13 ?_
    have ft_25 : (-1) ≤ t_25.toInt ∧ t_25.toInt ≤ 8 := sgL (by assumption : sg sgSp g_12) 0 rfl (by omega) (by omega) (by omega) et_25
    refine lv_goto (tgt := 19) hx hb dX12_spoken_14 (by decide) ?_
    exact ret _ _ _ _ _ (t_3, t_4, t_5, t_6, t_7, t_8, g_9, g_10, g_11, g_12) dX12_spoken_19 (show (0 ≤ t_3.toInt ∧ t_3.toInt ≤ 8) ∧ (0 ≤ t_4.toInt ∧ t_4.toInt ≤ 8) ∧ (0 ≤ t_5.toInt ∧ t_5.toInt ≤ 9) ∧ (0 ≤ t_7.toInt ∧ t_7.toInt ≤ 1) ∧ (sg sgLa g_9) ∧ (sg sgSp g_10) ∧ (sg sgLa g_11) ∧ (sg sgSp g_12) from ⟨(by first | assumption | (have := zI0; have := zI1; have := zIm; omega) | decide), (by first | assumption | (have := zI0; have := zI1; have := zIm; omega) | decide), (by first | assumption | (have := zI0; have := zI1; have := zIm; omega) | decide), (by first | assumption | (have := zI0; have := zI1; have := zIm; omega) | decide), (by first | assumption | (have := zI0; have := zI1; have := zIm; omega) | decide), (by first | assumption | (have := zI0; have := zI1; have := zIm; omega) | decide), (by first | assumption | (have := zI0; have := zI1; have := zIm; omega) | decide), (by first | assumption | (have := zI0; have := zI1; have := zIm; omega) | decide)⟩) (hP.sub [0, 1, 2, 3, 4, 5] rfl) (hD.sub [0, 1, 2, 3, 4, 5] (by decide) rfl) hS

set_option maxHeartbeats 4000000 in
set_option maxRecDepth 100000 in
theorem b_X12_undo (l : Launch) (G : Gho) (D : va_G) (cB cI cJ cZ cS cT : ClassId) (sz : Nat) (h0 : Nat) (v0_thrown : Int32) (h_world : Nat) (h_images : Nat) (h_hasImage : Nat) (h_tape : Nat) (v0_taped : Int32) (h_five : Nat) (v0_size : Int32) (v0_at : Int32) (v0_from : Int32) (v0_token : Int32) (v0_value : Int32) (v0_faultKind : Int32) (v0_faultPlace : Int32) (h_fresh : Nat) (h_spokenAt : Nat) (h_heardAt : Nat) (h_lastAt : Nat) (h_answerAt : Nat) (v0_lawA : Int32) (v0_lawB : Int32) (v0_lawC : Int32) (v0_drawX : Int64) (v0_isDrawn : Int32) (v0_lostMany : Int32) (h_heardNow : Nat) (h_seenAt : Nat) (v0_roundFrom : Int32) (v0_roundTo : Int32) (v0_goLast : Int32) (v0_goAnswer : Int32) (v0_goHeard : Int32) (h_fewest : Nat) (h_costNow : Nat) (h_costThen : Nat) (h_lawsOf : Nat) (h_heardBy : Nat) (v0_lawMany : Int32) (v0_askWorst : Int32) (h_placesOf : Nat) (h_sentIn : Nat) (v0_placeMany : Int32) (v0_parentFirst : Int32) (h_lostBy : Nat) (h_many : Nat) (h_width : Nat) (h_numbers : Nat) (h_moving : Nat) (f_world : Nat → Int32) (iv0_taped : 0 ≤ v0_taped.toInt ∧ v0_taped.toInt ≤ 500) (iv0_size : 0 ≤ v0_size.toInt ∧ v0_size.toInt ≤ 500) (iv0_at : 0 ≤ v0_at.toInt ∧ v0_at.toInt ≤ 500) (iv0_from : 0 ≤ v0_from.toInt ∧ v0_from.toInt ≤ 500) (iv0_faultKind : 0 ≤ v0_faultKind.toInt ∧ v0_faultKind.toInt ≤ 3) (iv0_lawA : 0 ≤ v0_lawA.toInt ∧ v0_lawA.toInt ≤ 8) (iv0_lawB : 0 ≤ v0_lawB.toInt ∧ v0_lawB.toInt ≤ 8) (iv0_lawC : 0 ≤ v0_lawC.toInt ∧ v0_lawC.toInt ≤ 9) (iv0_isDrawn : 0 ≤ v0_isDrawn.toInt ∧ v0_isDrawn.toInt ≤ 1) (iv0_roundFrom : 0 ≤ v0_roundFrom.toInt ∧ v0_roundFrom.toInt ≤ 648) (iv0_roundTo : 0 ≤ v0_roundTo.toInt ∧ v0_roundTo.toInt ≤ 648) (iv0_goLast : 0 ≤ v0_goLast.toInt ∧ v0_goLast.toInt ≤ 8) (iv0_goAnswer : 0 ≤ v0_goAnswer.toInt ∧ v0_goAnswer.toInt ≤ 8) (iv0_lawMany : 0 ≤ v0_lawMany.toInt ∧ v0_lawMany.toInt ≤ 729) (iv0_placeMany : 0 ≤ v0_placeMany.toInt ∧ v0_placeMany.toInt ≤ 100) (pf_world : sg sgWo f_world) (cf_world : 0 < (f_world 9).toInt → 2 ≤ (f_world 0).toInt) : Met l yX12_undo (Cond.code yX12_undo cX12_undo 1 (some .int) :: wsL_law) ({ frames := 1, cells := 0, slots := 0, locals := 20 }) (wrP G D (tyL cB cI cJ cZ cS cT) [(mO h0 v0_thrown h_world h_images h_hasImage h_tape v0_taped h_five v0_size v0_at v0_from v0_token v0_value v0_faultKind v0_faultPlace h_fresh h_spokenAt h_heardAt h_lastAt h_answerAt v0_lawA v0_lawB v0_lawC v0_drawX v0_isDrawn v0_lostMany h_heardNow h_seenAt v0_roundFrom v0_roundTo v0_goLast v0_goAnswer v0_goHeard h_fewest h_costNow h_costThen h_lawsOf h_heardBy v0_lawMany v0_askWorst h_placesOf h_sentIn v0_placeMany v0_parentFirst h_lostBy h_many h_width h_numbers h_moving), (h_world, .inl (cI, 53, .inl f_world))] sz [.ref h0]) (va_Qi (fun (r : Int32) (x : (Nat → Int32)) => (sg sgWo x) ∧ (0 < (x 9).toInt → 2 ≤ (x 0).toInt)) (atW D (tyL cB cI cJ cZ cS cT) (va_A [(mO h0 v0_thrown h_world h_images h_hasImage h_tape v0_taped h_five v0_size v0_at v0_from v0_token v0_value v0_faultKind v0_faultPlace h_fresh h_spokenAt h_heardAt h_lastAt h_answerAt v0_lawA v0_lawB v0_lawC v0_drawX v0_isDrawn v0_lostMany h_heardNow h_seenAt v0_roundFrom v0_roundTo v0_goLast v0_goAnswer v0_goHeard h_fewest h_costNow h_costThen h_lawsOf h_heardBy v0_lawMany v0_askWorst h_placesOf h_sentIn v0_placeMany v0_parentFirst h_lostBy h_many h_width h_numbers h_moving), (h_world, .inl (cI, 53, .inl f_world))] sz) (fun x : (Nat → Int32) => [(mO h0 v0_thrown h_world h_images h_hasImage h_tape v0_taped h_five v0_size v0_at v0_from v0_token v0_value v0_faultKind v0_faultPlace h_fresh h_spokenAt h_heardAt h_lastAt h_answerAt v0_lawA v0_lawB v0_lawC v0_drawX v0_isDrawn v0_lostMany h_heardNow h_seenAt v0_roundFrom v0_roundTo v0_goLast v0_goAnswer v0_goHeard h_fewest h_costNow h_costThen h_lawsOf h_heardBy v0_lawMany v0_askWorst h_placesOf h_sentIn v0_placeMany v0_parentFirst h_lostBy h_many h_width h_numbers h_moving), (h_world, .inl (cI, 53, .inl x))])) (va_A [(mO h0 v0_thrown h_world h_images h_hasImage h_tape v0_taped h_five v0_size v0_at v0_from v0_token v0_value v0_faultKind v0_faultPlace h_fresh h_spokenAt h_heardAt h_lastAt h_answerAt v0_lawA v0_lawB v0_lawC v0_drawX v0_isDrawn v0_lostMany h_heardNow h_seenAt v0_roundFrom v0_roundTo v0_goLast v0_goAnswer v0_goHeard h_fewest h_costNow h_costThen h_lawsOf h_heardBy v0_lawMany v0_askWorst h_placesOf h_sentIn v0_placeMany v0_parentFirst h_lostBy h_many h_width h_numbers h_moving), (h_world, .inl (cI, 53, .inl f_world))] sz)) 0 0 (va_A [(mO h0 v0_thrown h_world h_images h_hasImage h_tape v0_taped h_five v0_size v0_at v0_from v0_token v0_value v0_faultKind v0_faultPlace h_fresh h_spokenAt h_heardAt h_lastAt h_answerAt v0_lawA v0_lawB v0_lawC v0_drawX v0_isDrawn v0_lostMany h_heardNow h_seenAt v0_roundFrom v0_roundTo v0_goLast v0_goAnswer v0_goHeard h_fewest h_costNow h_costThen h_lawsOf h_heardBy v0_lawMany v0_askWorst h_placesOf h_sentIn v0_placeMany v0_parentFirst h_lostBy h_many h_width h_numbers h_moving), (h_world, .inl (cI, 53, .inl f_world))] sz) := by
  refine metI (own := RX12) (by decide) rfl ?_
  intro p e s m below meth c Q hsz C hG hP hD hAB ret
  obtain ⟨hx, hb, hml, hown, hts, hK, hN, hT⟩ := id C
  subst hsz
  generalize hAe : va_A [(mO h0 v0_thrown h_world h_images h_hasImage h_tape v0_taped h_five v0_size v0_at v0_from v0_token v0_value v0_faultKind v0_faultPlace h_fresh h_spokenAt h_heardAt h_lastAt h_answerAt v0_lawA v0_lawB v0_lawC v0_drawX v0_isDrawn v0_lostMany h_heardNow h_seenAt v0_roundFrom v0_roundTo v0_goLast v0_goAnswer v0_goHeard h_fewest h_costNow h_costThen h_lawsOf h_heardBy v0_lawMany v0_askWorst h_placesOf h_sentIn v0_placeMany v0_parentFirst h_lostBy h_many h_width h_numbers h_moving), (h_world, .inl (cI, 53, .inl f_world))] s.heap.size = A at hD hAB ret ⊢
  have hA : ∀ q : Nat, s.heap.size ≤ q → A q := fun q h => by rw [← hAe]; exact Or.inr h
  have hS : va_S A s.heap s.heap [] := va_S.rf
  have hl := lv_entry ([.ref h0]) (n := 1) (Nat.le_of_ble_eq_true rfl)
  rw [lg_entry_eq]
  generalize (lg_sl ([.ref h0]) ++ List.replicate (1 - (lg_sl ([.ref h0])).length) Slot.unset).toArray = ls at hl ⊢
  have hl : lv_has ls 1 [(0, .ref h0)] := hl
  have hP : va_P D vwCl [(mO h0 v0_thrown h_world h_images h_hasImage h_tape v0_taped h_five v0_size v0_at v0_from v0_token v0_value v0_faultKind v0_faultPlace h_fresh h_spokenAt h_heardAt h_lastAt h_answerAt v0_lawA v0_lawB v0_lawC v0_drawX v0_isDrawn v0_lostMany h_heardNow h_seenAt v0_roundFrom v0_roundTo v0_goLast v0_goAnswer v0_goHeard h_fewest h_costNow h_costThen h_lawsOf h_heardBy v0_lawMany v0_askWorst h_placesOf h_sentIn v0_placeMany v0_parentFirst h_lostBy h_many h_width h_numbers h_moving), (h_world, .inl (cI, 53, .inl f_world))] s.heap := hP
  refine lv_aload_n hx hb dX12_undo_0 rfl (lv_at hl 0 rfl) ?_
  refine roi (As := []) (rest := []) ⟨hx, hb, hml, hown, hts⟩ (b_X12_isStation l G D cB cI cJ cZ cS cT h0 v0_thrown h_world h_images h_hasImage h_tape v0_taped h_five v0_size v0_at v0_from v0_token v0_value v0_faultKind v0_faultPlace h_fresh h_spokenAt h_heardAt h_lastAt h_answerAt v0_lawA v0_lawB v0_lawC v0_drawX v0_isDrawn v0_lostMany h_heardNow h_seenAt v0_roundFrom v0_roundTo v0_goLast v0_goAnswer v0_goHeard h_fewest h_costNow h_costThen h_lawsOf h_heardBy v0_lawMany v0_askWorst h_placesOf h_sentIn v0_placeMany v0_parentFirst h_lostBy h_many h_width h_numbers h_moving f_world (by first | assumption | (have := zI0; have := zI1; have := zIm; omega) | decide) (by first | assumption | (have := zI0; have := zI1; have := zIm; omega) | decide) (by first | assumption | (have := zI0; have := zI1; have := zIm; omega) | decide) (by first | assumption | (have := zI0; have := zI1; have := zIm; omega) | decide) (by first | assumption | (have := zI0; have := zI1; have := zIm; omega) | decide) (by first | assumption | (have := zI0; have := zI1; have := zIm; omega) | decide) (by first | assumption | (have := zI0; have := zI1; have := zIm; omega) | decide) (by first | assumption | (have := zI0; have := zI1; have := zIm; omega) | decide) (by first | assumption | (have := zI0; have := zI1; have := zIm; omega) | decide) (by first | assumption | (have := zI0; have := zI1; have := zIm; omega) | decide) (by first | assumption | (have := zI0; have := zI1; have := zIm; omega) | decide) (by first | assumption | (have := zI0; have := zI1; have := zIm; omega) | decide) (by first | assumption | (have := zI0; have := zI1; have := zIm; omega) | decide) (by first | assumption | (have := zI0; have := zI1; have := zIm; omega) | decide) (by first | assumption | (have := zI0; have := zI1; have := zIm; omega) | decide) (by first | assumption | (have := zI0; have := zI1; have := zIm; omega) | decide) (by first | assumption | (have := zI0; have := zI1; have := zIm; omega) | decide)) (cvB (n := 0) (inr24 _ (List.mem_of_getElem? (i := 19) rfl)) (inr24 _ (List.mem_of_getElem? (i := 20) rfl)) (inr24 _ (List.mem_of_getElem? (i := 21) rfl)) (inr1 _ (List.mem_of_getElem? (i := 5) rfl)) (inr24 _ (List.mem_of_getElem? (i := 22) rfl)) (by decide +kernel) hts rfl rfl ⟨Nat.le_of_ble_eq_true rfl, Nat.le_of_ble_eq_true rfl⟩) 0 12 rfl rfl rfl (hP.sub [0, 1] rfl) hK hN (kT.to hT hS hAB) rfl hl.1 rfl (Nat.le_of_ble_eq_true rfl) ⟨Nat.le_of_ble_eq_true rfl, Nat.le_of_ble_eq_true rfl⟩ dX12_undo_1 (fun r_1 h_2 => ?_)
  have h_2 : ((r_1.toInt = 1 ∧ 0 < (f_world 9).toInt) ∨ (r_1.toInt = 0 ∧ (f_world 9).toInt ≤ 0)) ∧ (r_1 = 0 ∨ r_1 = 1) := h_2
  obtain ⟨i_3, i_4⟩ := h_2
  have ar_1 : 0 ≤ r_1.toInt ∧ r_1.toInt ≤ 1 := by rcases i_4 with h | h <;> rw [h] <;> decide
  refine lv_if_ne (tgt := 10) hx hb dX12_undo_4 (by decide) (fun c_5 => ?_) (fun c_5 => ?_)
  · have c_5 : ¬ r_1.toInt = 0 := ci_ne_t c_5
    have b_r_1 := i32b r_1
    have d_6 : 0 < (f_world 9).toInt := by omega
    clear i_3
    refine lv_aload_n hx hb dX12_undo_10 rfl (lv_at hl 0 rfl) ?_
    refine va_get (D := D) (ci := 12) (v := .ref h_world) (C := RX12) (T := TX12) (N := 48) hx hb hts inlX12 hown hK hP 0 rfl rfl 1 (by decide) (hts _ (inr6 _ (List.mem_of_getElem? (i := 16) rfl))) (fun _ h9 => h9) rfl dX12_undo_11 ?_
    refine lv_bipush (v := 8) hx hb dX12_undo_14 (by decide) ?_
    obtain ⟨t_7, et_7⟩ : ∃ v9 : Int32, f_world (8 : Int32).toNatClampNeg = v9 := ⟨_, rfl⟩
    refine z_iald (v := t_7) hx hb hK hP 1 1 rfl rfl (by unfold vp_in; decide) et_7 dX12_undo_16 ?_
    have ft_7 : 0 ≤ t_7.toInt ∧ t_7.toInt ≤ 30 := sgL (by assumption : sg sgWo f_world) 5 rfl (by decide) (by decide) (by decide) et_7
    have qt_7 : (f_world 8).toInt = t_7.toInt := by rw [← et_7]; rfl
    refine lv_if_ne (tgt := 23) hx hb dX12_undo_17 (by decide) (fun c_8 => ?_) (fun c_8 => ?_)
    · have c_8 : ¬ t_7.toInt = 0 := ci_ne_t c_8
      have b_t_7 := i32b t_7
      refine lv_aload_n hx hb dX12_undo_23 rfl (lv_at hl 0 rfl) ?_
      refine va_get (D := D) (ci := 12) (v := .ref h_world) (C := RX12) (T := TX12) (N := 48) hx hb hts inlX12 hown hK hP 0 rfl rfl 1 (by decide) (hts _ (inr6 _ (List.mem_of_getElem? (i := 16) rfl))) (fun _ h9 => h9) rfl dX12_undo_24 ?_
      refine lv_bipush (v := 8) hx hb dX12_undo_27 (by decide) ?_
      refine lv_dup2_11 hx hb dX12_undo_29 rfl rfl ?_
      obtain ⟨t_9, et_9⟩ : ∃ v9 : Int32, f_world (8 : Int32).toNatClampNeg = v9 := ⟨_, rfl⟩
      refine z_iald (v := t_9) hx hb hK hP 1 1 rfl rfl (by unfold vp_in; decide) et_9 dX12_undo_30 ?_
      have dt_9 : t_9.toInt = t_7.toInt := by rw [← et_9, ← et_7]
      have ft_9 : 0 ≤ t_9.toInt ∧ t_9.toInt ≤ 30 := sgL (by assumption : sg sgWo f_world) 5 rfl (by decide) (by decide) (by decide) et_9
      have qt_9 : (f_world 8).toInt = t_9.toInt := by rw [← et_9]; rfl
      refine lv_iconst (v := 1) hx hb dX12_undo_31 (by decide) ?_
      obtain ⟨t_10, et_10⟩ : ∃ v9 : Int32, t_9 - 1 = v9 := ⟨_, rfl⟩
      refine z_isub (v := t_10) hx hb dX12_undo_32 et_10 ?_
      have b_t_9 := i32b t_9
      have ft_10 : t_10.toInt = t_9.toInt - 1 := subT (a := t_9.toInt) (b := 1) rfl (by decide) et_10 (by omega) (by omega)
      refine va_iast hx hb hK hP hD hS 1 1 rfl rfl (by unfold vp_in; decide) dX12_undo_33 (fun H locs hP hD hS => ?_)
      have hP : va_P D vwCl [(mO h0 v0_thrown h_world h_images h_hasImage h_tape v0_taped h_five v0_size v0_at v0_from v0_token v0_value v0_faultKind v0_faultPlace h_fresh h_spokenAt h_heardAt h_lastAt h_answerAt v0_lawA v0_lawB v0_lawC v0_drawX v0_isDrawn v0_lostMany h_heardNow h_seenAt v0_roundFrom v0_roundTo v0_goLast v0_goAnswer v0_goHeard h_fewest h_costNow h_costThen h_lawsOf h_heardBy v0_lawMany v0_askWorst h_placesOf h_sentIn v0_placeMany v0_parentFirst h_lostBy h_many h_width h_numbers h_moving), (h_world, .inl (cI, 53, .inl (upd f_world (8 : Int32).toNatClampNeg t_10)))] H := hP
      have hD : va_D A [(mO h0 v0_thrown h_world h_images h_hasImage h_tape v0_taped h_five v0_size v0_at v0_from v0_token v0_value v0_faultKind v0_faultPlace h_fresh h_spokenAt h_heardAt h_lastAt h_answerAt v0_lawA v0_lawB v0_lawC v0_drawX v0_isDrawn v0_lostMany h_heardNow h_seenAt v0_roundFrom v0_roundTo v0_goLast v0_goAnswer v0_goHeard h_fewest h_costNow h_costThen h_lawsOf h_heardBy v0_lawMany v0_askWorst h_placesOf h_sentIn v0_placeMany v0_parentFirst h_lostBy h_many h_width h_numbers h_moving), (h_world, .inl (cI, 53, .inl (upd f_world (8 : Int32).toNatClampNeg t_10)))] := hD
      obtain ⟨g_11, eg_11⟩ : ∃ v9 : Nat → Int32, (upd f_world (8 : Int32).toNatClampNeg t_10) = v9 := ⟨_, rfl⟩
      rw [eg_11] at hP hD
      have hP : va_P D vwCl [(mO h0 v0_thrown h_world h_images h_hasImage h_tape v0_taped h_five v0_size v0_at v0_from v0_token v0_value v0_faultKind v0_faultPlace h_fresh h_spokenAt h_heardAt h_lastAt h_answerAt v0_lawA v0_lawB v0_lawC v0_drawX v0_isDrawn v0_lostMany h_heardNow h_seenAt v0_roundFrom v0_roundTo v0_goLast v0_goAnswer v0_goHeard h_fewest h_costNow h_costThen h_lawsOf h_heardBy v0_lawMany v0_askWorst h_placesOf h_sentIn v0_placeMany v0_parentFirst h_lostBy h_many h_width h_numbers h_moving), (h_world, .inl (cI, 53, .inl g_11))] H := hP
      have hD : va_D A [(mO h0 v0_thrown h_world h_images h_hasImage h_tape v0_taped h_five v0_size v0_at v0_from v0_token v0_value v0_faultKind v0_faultPlace h_fresh h_spokenAt h_heardAt h_lastAt h_answerAt v0_lawA v0_lawB v0_lawC v0_drawX v0_isDrawn v0_lostMany h_heardNow h_seenAt v0_roundFrom v0_roundTo v0_goLast v0_goAnswer v0_goHeard h_fewest h_costNow h_costThen h_lawsOf h_heardBy v0_lawMany v0_askWorst h_placesOf h_sentIn v0_placeMany v0_parentFirst h_lostBy h_many h_width h_numbers h_moving), (h_world, .inl (cI, 53, .inl g_11))] := hD
      have pg_11 : sg sgWo g_11 := by rw [← eg_11]; exact sgS (by assumption : sg sgWo f_world) (by decide) (by have z9_i : (8 : Int32).toInt = 8 := (by decide); intro q9 hq9; simp only [sgWo, List.mem_cons, List.not_mem_nil, or_false] at hq9; rcases hq9 with rfl | rfl | rfl | rfl | rfl | rfl | rfl | rfl | rfl <;> dsimp only <;> omega)
      have wg_11_0 : (g_11 0).toInt = (f_world 0).toInt := upd9E (i := 8) eg_11 (by decide) (by decide)
      have wg_11_6 : (g_11 6).toInt = (f_world 6).toInt := upd9E (i := 8) eg_11 (by decide) (by decide)
      have wg_11_7 : (g_11 7).toInt = (f_world 7).toInt := upd9E (i := 8) eg_11 (by decide) (by decide)
      have wg_11_8 : (g_11 8).toInt = t_10.toInt := upd9V (i := 8) (v := t_10) eg_11 (by decide) (by decide)
      have wg_11_9 : (g_11 9).toInt = (f_world 9).toInt := upd9E (i := 8) eg_11 (by decide) (by decide)
      refine lv_aload_n hx hb dX12_undo_34 rfl (lv_at hl 0 rfl) ?_
      refine va_get (D := D) (ci := 12) (v := .ref h_world) (C := RX12) (T := TX12) (N := 48) hx hb hts inlX12 hown hK hP 0 rfl rfl 1 (by decide) (hts _ (inr6 _ (List.mem_of_getElem? (i := 16) rfl))) (fun _ h9 => h9) rfl dX12_undo_35 ?_
      refine lv_bipush (v := 8) hx hb dX12_undo_38 (by decide) ?_
      obtain ⟨t_12, et_12⟩ : ∃ v9 : Int32, g_11 (8 : Int32).toNatClampNeg = v9 := ⟨_, rfl⟩
      refine z_iald (v := t_12) hx hb hK hP 1 1 rfl rfl (by unfold vp_in; decide) et_12 dX12_undo_40 ?_
      have qt_12 : t_12.toInt = t_10.toInt := (upd9S (v := t_10) eg_11 et_12)
      exact ret _ _ _ _ _ g_11 dX12_undo_41 (show (sg sgWo g_11) ∧ (0 < (g_11 9).toInt → 2 ≤ (g_11 0).toInt) from ⟨(by first | assumption | (have := zI0; have := zI1; have := zIm; omega) | decide), (by first | assumption | (have := zI0; have := zI1; have := zIm; omega) | decide)⟩) (hP.sub [0, 1] rfl) (hD.sub [0, 1] (by decide) rfl) hS
    · have c_8 : t_7.toInt = 0 := ci_ne_f c_8
      have b_t_7 := i32b t_7
      refine lv_bipush (v := (-5)) hx hb dX12_undo_20 (by decide) ?_
      exact ret _ _ _ _ _ f_world dX12_undo_22 (show (sg sgWo f_world) ∧ (0 < (f_world 9).toInt → 2 ≤ (f_world 0).toInt) from ⟨(by first | assumption | (have := zI0; have := zI1; have := zIm; omega) | decide), (by first | assumption | (have := zI0; have := zI1; have := zIm; omega) | decide)⟩) (hP.sub [0, 1] rfl) (hD.sub [0, 1] (by decide) rfl) hS
  · have c_5 : r_1.toInt = 0 := ci_ne_f c_5
    have b_r_1 := i32b r_1
    have d_13 : (f_world 9).toInt ≤ 0 := by omega
    clear i_3
    refine lv_bipush (v := (-2)) hx hb dX12_undo_7 (by decide) ?_
    exact ret _ _ _ _ _ f_world dX12_undo_9 (show (sg sgWo f_world) ∧ (0 < (f_world 9).toInt → 2 ≤ (f_world 0).toInt) from ⟨(by first | assumption | (have := zI0; have := zI1; have := zIm; omega) | decide), (by first | assumption | (have := zI0; have := zI1; have := zIm; omega) | decide)⟩) (hP.sub [0, 1] rfl) (hD.sub [0, 1] (by decide) rfl) hS

set_option maxHeartbeats 4000000 in
set_option maxRecDepth 100000 in
theorem b_X12_anew (l : Launch) (G : Gho) (D : va_G) (cB cI cJ cZ cS cT : ClassId) (sz : Nat) (h0 : Nat) (v0_thrown : Int32) (h_world : Nat) (h_images : Nat) (h_hasImage : Nat) (h_tape : Nat) (v0_taped : Int32) (h_five : Nat) (v0_size : Int32) (v0_at : Int32) (v0_from : Int32) (v0_token : Int32) (v0_value : Int32) (v0_faultKind : Int32) (v0_faultPlace : Int32) (h_fresh : Nat) (h_spokenAt : Nat) (h_heardAt : Nat) (h_lastAt : Nat) (h_answerAt : Nat) (v0_lawA : Int32) (v0_lawB : Int32) (v0_lawC : Int32) (v0_drawX : Int64) (v0_isDrawn : Int32) (v0_lostMany : Int32) (h_heardNow : Nat) (h_seenAt : Nat) (v0_roundFrom : Int32) (v0_roundTo : Int32) (v0_goLast : Int32) (v0_goAnswer : Int32) (v0_goHeard : Int32) (h_fewest : Nat) (h_costNow : Nat) (h_costThen : Nat) (h_lawsOf : Nat) (h_heardBy : Nat) (v0_lawMany : Int32) (v0_askWorst : Int32) (h_placesOf : Nat) (h_sentIn : Nat) (v0_placeMany : Int32) (v0_parentFirst : Int32) (h_lostBy : Nat) (h_many : Nat) (h_width : Nat) (h_numbers : Nat) (h_moving : Nat) (f_world : Nat → Int32) (iv0_taped : 0 ≤ v0_taped.toInt ∧ v0_taped.toInt ≤ 500) (iv0_size : 0 ≤ v0_size.toInt ∧ v0_size.toInt ≤ 500) (iv0_at : 0 ≤ v0_at.toInt ∧ v0_at.toInt ≤ 500) (iv0_from : 0 ≤ v0_from.toInt ∧ v0_from.toInt ≤ 500) (iv0_faultKind : 0 ≤ v0_faultKind.toInt ∧ v0_faultKind.toInt ≤ 3) (iv0_lawA : 0 ≤ v0_lawA.toInt ∧ v0_lawA.toInt ≤ 8) (iv0_lawB : 0 ≤ v0_lawB.toInt ∧ v0_lawB.toInt ≤ 8) (iv0_lawC : 0 ≤ v0_lawC.toInt ∧ v0_lawC.toInt ≤ 9) (iv0_isDrawn : 0 ≤ v0_isDrawn.toInt ∧ v0_isDrawn.toInt ≤ 1) (iv0_roundFrom : 0 ≤ v0_roundFrom.toInt ∧ v0_roundFrom.toInt ≤ 648) (iv0_roundTo : 0 ≤ v0_roundTo.toInt ∧ v0_roundTo.toInt ≤ 648) (iv0_goLast : 0 ≤ v0_goLast.toInt ∧ v0_goLast.toInt ≤ 8) (iv0_goAnswer : 0 ≤ v0_goAnswer.toInt ∧ v0_goAnswer.toInt ≤ 8) (iv0_lawMany : 0 ≤ v0_lawMany.toInt ∧ v0_lawMany.toInt ≤ 729) (iv0_placeMany : 0 ≤ v0_placeMany.toInt ∧ v0_placeMany.toInt ≤ 100) (pf_world : sg sgWo f_world) (cf_world : 0 < (f_world 9).toInt → 2 ≤ (f_world 0).toInt) : Met l yX12_anew (Cond.code yX12_anew cX12_anew 2 (some .int) :: wsL_law) ({ frames := 1, cells := 0, slots := 0, locals := 20 }) (wrP G D (tyL cB cI cJ cZ cS cT) [(mO h0 v0_thrown h_world h_images h_hasImage h_tape v0_taped h_five v0_size v0_at v0_from v0_token v0_value v0_faultKind v0_faultPlace h_fresh h_spokenAt h_heardAt h_lastAt h_answerAt v0_lawA v0_lawB v0_lawC v0_drawX v0_isDrawn v0_lostMany h_heardNow h_seenAt v0_roundFrom v0_roundTo v0_goLast v0_goAnswer v0_goHeard h_fewest h_costNow h_costThen h_lawsOf h_heardBy v0_lawMany v0_askWorst h_placesOf h_sentIn v0_placeMany v0_parentFirst h_lostBy h_many h_width h_numbers h_moving), (h_world, .inl (cI, 53, .inl f_world))] sz [.ref h0]) (va_Qi (fun (r : Int32) (x : (Nat → Int32)) => (sg sgWo x) ∧ (0 < (x 9).toInt → 2 ≤ (x 0).toInt)) (atW D (tyL cB cI cJ cZ cS cT) (va_A [(mO h0 v0_thrown h_world h_images h_hasImage h_tape v0_taped h_five v0_size v0_at v0_from v0_token v0_value v0_faultKind v0_faultPlace h_fresh h_spokenAt h_heardAt h_lastAt h_answerAt v0_lawA v0_lawB v0_lawC v0_drawX v0_isDrawn v0_lostMany h_heardNow h_seenAt v0_roundFrom v0_roundTo v0_goLast v0_goAnswer v0_goHeard h_fewest h_costNow h_costThen h_lawsOf h_heardBy v0_lawMany v0_askWorst h_placesOf h_sentIn v0_placeMany v0_parentFirst h_lostBy h_many h_width h_numbers h_moving), (h_world, .inl (cI, 53, .inl f_world))] sz) (fun x : (Nat → Int32) => [(mO h0 v0_thrown h_world h_images h_hasImage h_tape v0_taped h_five v0_size v0_at v0_from v0_token v0_value v0_faultKind v0_faultPlace h_fresh h_spokenAt h_heardAt h_lastAt h_answerAt v0_lawA v0_lawB v0_lawC v0_drawX v0_isDrawn v0_lostMany h_heardNow h_seenAt v0_roundFrom v0_roundTo v0_goLast v0_goAnswer v0_goHeard h_fewest h_costNow h_costThen h_lawsOf h_heardBy v0_lawMany v0_askWorst h_placesOf h_sentIn v0_placeMany v0_parentFirst h_lostBy h_many h_width h_numbers h_moving), (h_world, .inl (cI, 53, .inl x))])) (va_A [(mO h0 v0_thrown h_world h_images h_hasImage h_tape v0_taped h_five v0_size v0_at v0_from v0_token v0_value v0_faultKind v0_faultPlace h_fresh h_spokenAt h_heardAt h_lastAt h_answerAt v0_lawA v0_lawB v0_lawC v0_drawX v0_isDrawn v0_lostMany h_heardNow h_seenAt v0_roundFrom v0_roundTo v0_goLast v0_goAnswer v0_goHeard h_fewest h_costNow h_costThen h_lawsOf h_heardBy v0_lawMany v0_askWorst h_placesOf h_sentIn v0_placeMany v0_parentFirst h_lostBy h_many h_width h_numbers h_moving), (h_world, .inl (cI, 53, .inl f_world))] sz)) 0 0 (va_A [(mO h0 v0_thrown h_world h_images h_hasImage h_tape v0_taped h_five v0_size v0_at v0_from v0_token v0_value v0_faultKind v0_faultPlace h_fresh h_spokenAt h_heardAt h_lastAt h_answerAt v0_lawA v0_lawB v0_lawC v0_drawX v0_isDrawn v0_lostMany h_heardNow h_seenAt v0_roundFrom v0_roundTo v0_goLast v0_goAnswer v0_goHeard h_fewest h_costNow h_costThen h_lawsOf h_heardBy v0_lawMany v0_askWorst h_placesOf h_sentIn v0_placeMany v0_parentFirst h_lostBy h_many h_width h_numbers h_moving), (h_world, .inl (cI, 53, .inl f_world))] sz) := by
  refine metI (own := RX12) (by decide) rfl ?_
  intro p e s m below meth c Q hsz C hG hP hD hAB ret
  obtain ⟨hx, hb, hml, hown, hts, hK, hN, hT⟩ := id C
  subst hsz
  generalize hAe : va_A [(mO h0 v0_thrown h_world h_images h_hasImage h_tape v0_taped h_five v0_size v0_at v0_from v0_token v0_value v0_faultKind v0_faultPlace h_fresh h_spokenAt h_heardAt h_lastAt h_answerAt v0_lawA v0_lawB v0_lawC v0_drawX v0_isDrawn v0_lostMany h_heardNow h_seenAt v0_roundFrom v0_roundTo v0_goLast v0_goAnswer v0_goHeard h_fewest h_costNow h_costThen h_lawsOf h_heardBy v0_lawMany v0_askWorst h_placesOf h_sentIn v0_placeMany v0_parentFirst h_lostBy h_many h_width h_numbers h_moving), (h_world, .inl (cI, 53, .inl f_world))] s.heap.size = A at hD hAB ret ⊢
  have hA : ∀ q : Nat, s.heap.size ≤ q → A q := fun q h => by rw [← hAe]; exact Or.inr h
  have hS : va_S A s.heap s.heap [] := va_S.rf
  have hl := lv_entry ([.ref h0]) (n := 2) (Nat.le_of_ble_eq_true rfl)
  rw [lg_entry_eq]
  generalize (lg_sl ([.ref h0]) ++ List.replicate (2 - (lg_sl ([.ref h0])).length) Slot.unset).toArray = ls at hl ⊢
  have hl : lv_has ls 2 [(0, .ref h0)] := hl
  have hP : va_P D vwCl [(mO h0 v0_thrown h_world h_images h_hasImage h_tape v0_taped h_five v0_size v0_at v0_from v0_token v0_value v0_faultKind v0_faultPlace h_fresh h_spokenAt h_heardAt h_lastAt h_answerAt v0_lawA v0_lawB v0_lawC v0_drawX v0_isDrawn v0_lostMany h_heardNow h_seenAt v0_roundFrom v0_roundTo v0_goLast v0_goAnswer v0_goHeard h_fewest h_costNow h_costThen h_lawsOf h_heardBy v0_lawMany v0_askWorst h_placesOf h_sentIn v0_placeMany v0_parentFirst h_lostBy h_many h_width h_numbers h_moving), (h_world, .inl (cI, 53, .inl f_world))] s.heap := hP
  refine lv_aload_n hx hb dX12_anew_0 rfl (lv_at hl 0 rfl) ?_
  refine roi (As := []) (rest := []) ⟨hx, hb, hml, hown, hts⟩ (b_X12_isStation l G D cB cI cJ cZ cS cT h0 v0_thrown h_world h_images h_hasImage h_tape v0_taped h_five v0_size v0_at v0_from v0_token v0_value v0_faultKind v0_faultPlace h_fresh h_spokenAt h_heardAt h_lastAt h_answerAt v0_lawA v0_lawB v0_lawC v0_drawX v0_isDrawn v0_lostMany h_heardNow h_seenAt v0_roundFrom v0_roundTo v0_goLast v0_goAnswer v0_goHeard h_fewest h_costNow h_costThen h_lawsOf h_heardBy v0_lawMany v0_askWorst h_placesOf h_sentIn v0_placeMany v0_parentFirst h_lostBy h_many h_width h_numbers h_moving f_world (by first | assumption | (have := zI0; have := zI1; have := zIm; omega) | decide) (by first | assumption | (have := zI0; have := zI1; have := zIm; omega) | decide) (by first | assumption | (have := zI0; have := zI1; have := zIm; omega) | decide) (by first | assumption | (have := zI0; have := zI1; have := zIm; omega) | decide) (by first | assumption | (have := zI0; have := zI1; have := zIm; omega) | decide) (by first | assumption | (have := zI0; have := zI1; have := zIm; omega) | decide) (by first | assumption | (have := zI0; have := zI1; have := zIm; omega) | decide) (by first | assumption | (have := zI0; have := zI1; have := zIm; omega) | decide) (by first | assumption | (have := zI0; have := zI1; have := zIm; omega) | decide) (by first | assumption | (have := zI0; have := zI1; have := zIm; omega) | decide) (by first | assumption | (have := zI0; have := zI1; have := zIm; omega) | decide) (by first | assumption | (have := zI0; have := zI1; have := zIm; omega) | decide) (by first | assumption | (have := zI0; have := zI1; have := zIm; omega) | decide) (by first | assumption | (have := zI0; have := zI1; have := zIm; omega) | decide) (by first | assumption | (have := zI0; have := zI1; have := zIm; omega) | decide) (by first | assumption | (have := zI0; have := zI1; have := zIm; omega) | decide) (by first | assumption | (have := zI0; have := zI1; have := zIm; omega) | decide)) (cvB (n := 0) (inr24 _ (List.mem_of_getElem? (i := 19) rfl)) (inr24 _ (List.mem_of_getElem? (i := 20) rfl)) (inr24 _ (List.mem_of_getElem? (i := 21) rfl)) (inr1 _ (List.mem_of_getElem? (i := 5) rfl)) (inr24 _ (List.mem_of_getElem? (i := 22) rfl)) (by decide +kernel) hts rfl rfl ⟨Nat.le_of_ble_eq_true rfl, Nat.le_of_ble_eq_true rfl⟩) 0 12 rfl rfl rfl (hP.sub [0, 1] rfl) hK hN (kT.to hT hS hAB) rfl hl.1 rfl (Nat.le_of_ble_eq_true rfl) ⟨Nat.le_of_ble_eq_true rfl, Nat.le_of_ble_eq_true rfl⟩ dX12_anew_1 (fun r_1 h_2 => ?_)
  have h_2 : ((r_1.toInt = 1 ∧ 0 < (f_world 9).toInt) ∨ (r_1.toInt = 0 ∧ (f_world 9).toInt ≤ 0)) ∧ (r_1 = 0 ∨ r_1 = 1) := h_2
  obtain ⟨i_3, i_4⟩ := h_2
  have ar_1 : 0 ≤ r_1.toInt ∧ r_1.toInt ≤ 1 := by rcases i_4 with h | h <;> rw [h] <;> decide
  refine lv_if_ne (tgt := 10) hx hb dX12_anew_4 (by decide) (fun c_5 => ?_) (fun c_5 => ?_)
  · have c_5 : ¬ r_1.toInt = 0 := ci_ne_t c_5
    have b_r_1 := i32b r_1
    have d_6 : 0 < (f_world 9).toInt := by omega
    clear i_3
    refine lv_aload_n hx hb dX12_anew_10 rfl (lv_at hl 0 rfl) ?_
    refine va_get (D := D) (ci := 12) (v := .ref h_world) (C := RX12) (T := TX12) (N := 48) hx hb hts inlX12 hown hK hP 0 rfl rfl 1 (by decide) (hts _ (inr6 _ (List.mem_of_getElem? (i := 16) rfl))) (fun _ h9 => h9) rfl dX12_anew_11 ?_
    refine lv_bipush (v := 8) hx hb dX12_anew_14 (by decide) ?_
    obtain ⟨t_7, et_7⟩ : ∃ v9 : Int32, f_world (8 : Int32).toNatClampNeg = v9 := ⟨_, rfl⟩
    refine z_iald (v := t_7) hx hb hK hP 1 1 rfl rfl (by unfold vp_in; decide) et_7 dX12_anew_16 ?_
    have ft_7 : 0 ≤ t_7.toInt ∧ t_7.toInt ≤ 30 := sgL (by assumption : sg sgWo f_world) 5 rfl (by decide) (by decide) (by decide) et_7
    have qt_7 : (f_world 8).toInt = t_7.toInt := by rw [← et_7]; rfl
    refine lv_istore_n (lv' := [(1, .int t_7), (0, .ref h0)]) hx hb dX12_anew_17 rfl hl (by decide) rfl (fun ls hl => ?_)
    refine lv_aload_n hx hb dX12_anew_18 rfl (lv_at hl 1 rfl) ?_
    refine va_get (D := D) (ci := 12) (v := .ref h_world) (C := RX12) (T := TX12) (N := 48) hx hb hts inlX12 hown hK hP 0 rfl rfl 1 (by decide) (hts _ (inr6 _ (List.mem_of_getElem? (i := 16) rfl))) (fun _ h9 => h9) rfl dX12_anew_19 ?_
    refine lv_bipush (v := 8) hx hb dX12_anew_22 (by decide) ?_
    refine lv_iconst (v := 0) hx hb dX12_anew_24 (by decide) ?_
    refine va_iast hx hb hK hP hD hS 1 1 rfl rfl (by unfold vp_in; decide) dX12_anew_25 (fun H locs hP hD hS => ?_)
    have hP : va_P D vwCl [(mO h0 v0_thrown h_world h_images h_hasImage h_tape v0_taped h_five v0_size v0_at v0_from v0_token v0_value v0_faultKind v0_faultPlace h_fresh h_spokenAt h_heardAt h_lastAt h_answerAt v0_lawA v0_lawB v0_lawC v0_drawX v0_isDrawn v0_lostMany h_heardNow h_seenAt v0_roundFrom v0_roundTo v0_goLast v0_goAnswer v0_goHeard h_fewest h_costNow h_costThen h_lawsOf h_heardBy v0_lawMany v0_askWorst h_placesOf h_sentIn v0_placeMany v0_parentFirst h_lostBy h_many h_width h_numbers h_moving), (h_world, .inl (cI, 53, .inl (upd f_world (8 : Int32).toNatClampNeg 0)))] H := hP
    have hD : va_D A [(mO h0 v0_thrown h_world h_images h_hasImage h_tape v0_taped h_five v0_size v0_at v0_from v0_token v0_value v0_faultKind v0_faultPlace h_fresh h_spokenAt h_heardAt h_lastAt h_answerAt v0_lawA v0_lawB v0_lawC v0_drawX v0_isDrawn v0_lostMany h_heardNow h_seenAt v0_roundFrom v0_roundTo v0_goLast v0_goAnswer v0_goHeard h_fewest h_costNow h_costThen h_lawsOf h_heardBy v0_lawMany v0_askWorst h_placesOf h_sentIn v0_placeMany v0_parentFirst h_lostBy h_many h_width h_numbers h_moving), (h_world, .inl (cI, 53, .inl (upd f_world (8 : Int32).toNatClampNeg 0)))] := hD
    obtain ⟨g_8, eg_8⟩ : ∃ v9 : Nat → Int32, (upd f_world (8 : Int32).toNatClampNeg 0) = v9 := ⟨_, rfl⟩
    rw [eg_8] at hP hD
    have hP : va_P D vwCl [(mO h0 v0_thrown h_world h_images h_hasImage h_tape v0_taped h_five v0_size v0_at v0_from v0_token v0_value v0_faultKind v0_faultPlace h_fresh h_spokenAt h_heardAt h_lastAt h_answerAt v0_lawA v0_lawB v0_lawC v0_drawX v0_isDrawn v0_lostMany h_heardNow h_seenAt v0_roundFrom v0_roundTo v0_goLast v0_goAnswer v0_goHeard h_fewest h_costNow h_costThen h_lawsOf h_heardBy v0_lawMany v0_askWorst h_placesOf h_sentIn v0_placeMany v0_parentFirst h_lostBy h_many h_width h_numbers h_moving), (h_world, .inl (cI, 53, .inl g_8))] H := hP
    have hD : va_D A [(mO h0 v0_thrown h_world h_images h_hasImage h_tape v0_taped h_five v0_size v0_at v0_from v0_token v0_value v0_faultKind v0_faultPlace h_fresh h_spokenAt h_heardAt h_lastAt h_answerAt v0_lawA v0_lawB v0_lawC v0_drawX v0_isDrawn v0_lostMany h_heardNow h_seenAt v0_roundFrom v0_roundTo v0_goLast v0_goAnswer v0_goHeard h_fewest h_costNow h_costThen h_lawsOf h_heardBy v0_lawMany v0_askWorst h_placesOf h_sentIn v0_placeMany v0_parentFirst h_lostBy h_many h_width h_numbers h_moving), (h_world, .inl (cI, 53, .inl g_8))] := hD
    have pg_8 : sg sgWo g_8 := by rw [← eg_8]; exact sgS (by assumption : sg sgWo f_world) (by decide) (by have z9_i : (8 : Int32).toInt = 8 := (by decide); have z9_v : (0 : Int32).toInt = 0 := (by decide); intro q9 hq9; simp only [sgWo, List.mem_cons, List.not_mem_nil, or_false] at hq9; rcases hq9 with rfl | rfl | rfl | rfl | rfl | rfl | rfl | rfl | rfl <;> dsimp only <;> omega)
    have wg_8_0 : (g_8 0).toInt = (f_world 0).toInt := upd9E (i := 8) eg_8 (by decide) (by decide)
    have wg_8_6 : (g_8 6).toInt = (f_world 6).toInt := upd9E (i := 8) eg_8 (by decide) (by decide)
    have wg_8_7 : (g_8 7).toInt = (f_world 7).toInt := upd9E (i := 8) eg_8 (by decide) (by decide)
    have wg_8_8 : (g_8 8).toInt = 0 := upd9V (i := 8) (v := 0) eg_8 (by decide) (by decide)
    have wg_8_9 : (g_8 9).toInt = (f_world 9).toInt := upd9E (i := 8) eg_8 (by decide) (by decide)
    refine lv_iload_n hx hb dX12_anew_26 rfl (lv_at hl 0 rfl) ?_
    exact ret _ _ _ _ _ g_8 dX12_anew_27 (show (sg sgWo g_8) ∧ (0 < (g_8 9).toInt → 2 ≤ (g_8 0).toInt) from ⟨(by first | assumption | (have := zI0; have := zI1; have := zIm; omega) | decide), (by first | assumption | (have := zI0; have := zI1; have := zIm; omega) | decide)⟩) (hP.sub [0, 1] rfl) (hD.sub [0, 1] (by decide) rfl) hS
  · have c_5 : r_1.toInt = 0 := ci_ne_f c_5
    have b_r_1 := i32b r_1
    have d_9 : (f_world 9).toInt ≤ 0 := by omega
    clear i_3
    refine lv_bipush (v := (-2)) hx hb dX12_anew_7 (by decide) ?_
    exact ret _ _ _ _ _ f_world dX12_anew_9 (show (sg sgWo f_world) ∧ (0 < (f_world 9).toInt → 2 ≤ (f_world 0).toInt) from ⟨(by first | assumption | (have := zI0; have := zI1; have := zIm; omega) | decide), (by first | assumption | (have := zI0; have := zI1; have := zIm; omega) | decide)⟩) (hP.sub [0, 1] rfl) (hD.sub [0, 1] (by decide) rfl) hS

set_option maxHeartbeats 4000000 in
set_option maxRecDepth 100000 in
theorem b_X12_isSeed (l : Launch) (G : Gho) (D : va_G) (cB cI cJ cZ cS cT : ClassId) (v0 : Int32)  : Met l yX12_isSeed (Cond.code yX12_isSeed cX12_isSeed 1 (some .boolean) :: wsL_law) ({ frames := 1, cells := 0, slots := 0, locals := 25 }) (roP G D (tyL cB cI cJ cZ cS cT) [] [.int v0]) (vp_Si (fun r : Int32 => ((r.toInt = 1 ∧ 0 ≤ v0.toInt ∧ v0.toInt ≤ 2000000000) ∨ r.toInt = 0) ∧ (r = 0 ∨ r = 1))) 0 0 (fun _ => False) := by
  refine metROZ (own := RX12) (by decide) rfl (fun r h => h.2) ?_
  intro p e s m below meth c Q C hP ret
  obtain ⟨hx, hb, hml, hown, hts, hK, hN, hT⟩ := id C
  have hl := lv_entry ([.int v0]) (n := 1) (Nat.le_of_ble_eq_true rfl)
  rw [lg_entry_eq]
  generalize (lg_sl ([.int v0]) ++ List.replicate (1 - (lg_sl ([.int v0])).length) Slot.unset).toArray = ls at hl ⊢
  have hl : lv_has ls 1 [(0, .int v0)] := hl
  have hP : va_P D vwCl [] s.heap := hP
  refine lv_iload_n hx hb dX12_isSeed_0 rfl (lv_at hl 0 rfl) ?_
  have b_v0 := i32b v0
  obtain ⟨t_1, et_1⟩ : ∃ v9 : Int64, (v0 : Int32).toInt64 = v9 := ⟨_, rfl⟩
  refine lv_i2l (v := t_1) hx hb dX12_isSeed_1 et_1 ?_
  have ft_1 : t_1.toInt = v0.toInt := by rw [← et_1]; exact Int32.toInt_toInt64 _
  refine lv_lconst (v := 0) hx hb dX12_isSeed_2 (by decide) ?_
  refine lv_ldc2 hx hb hown (hts _ (inr47 _ (List.mem_of_getElem? (i := 23) rfl))) dX12_isSeed_3 ?_
  refine rosi (As := [.long t_1, .long 0, .long 2000000000]) (rest := []) ⟨hx, hb, hml, hown, hts⟩ (b_X12_in l G D cB cI cJ cZ cS cT t_1 0 2000000000 ) (csB (n := 3) (inr9 _ (List.mem_of_getElem? (i := 3) rfl)) (inr9 _ (List.mem_of_getElem? (i := 4) rfl)) (inr1 _ (List.mem_of_getElem? (i := 5) rfl)) (inr9 _ (List.mem_of_getElem? (i := 5) rfl)) (by decide +kernel) hts rfl rfl ⟨Nat.le_of_ble_eq_true rfl, Nat.le_of_ble_eq_true rfl⟩) (hP.sub [] rfl) hK hN hT rfl hl.1 rfl (Nat.le_of_ble_eq_true rfl) ⟨Nat.le_of_ble_eq_true rfl, Nat.le_of_ble_eq_true rfl⟩ dX12_isSeed_6 (fun r_2 h_3 => ?_)
  have h_3 : ((r_2.toInt = 1 ∧ 0 ≤ t_1.toInt ∧ t_1.toInt ≤ 2000000000) ∨ (r_2.toInt = 0 ∧ (t_1.toInt < 0 ∨ 2000000000 < t_1.toInt))) ∧ (r_2 = 0 ∨ r_2 = 1) := h_3
  obtain ⟨i_4, i_5⟩ := h_3
  have ar_2 : 0 ≤ r_2.toInt ∧ r_2.toInt ≤ 1 := by rcases i_5 with h | h <;> rw [h] <;> decide
  exact ret _ _ _ dX12_isSeed_9 (show ((r_2.toInt = 1 ∧ 0 ≤ v0.toInt ∧ v0.toInt ≤ 2000000000) ∨ r_2.toInt = 0) ∧ (r_2 = 0 ∨ r_2 = 1) from ⟨(by first | assumption | (have := zI0; have := zI1; have := zIm; omega) | decide), i_5⟩)

set_option maxHeartbeats 4000000 in
set_option maxRecDepth 100000 in
theorem b_X12_goDrawn_l33 {p : Program} {l : Launch} {e : Env} {s : State} {m : MethodId} {args : Array Value} {below : List Frame} {meth : Method} {c : Code} {Q : State → Prop} {G : Gho} {D : va_G} {cB cI cJ cZ cS cT : ClassId} {A : Nat → Prop} (h0 : Nat) (v0_thrown : Int32) (h_world : Nat) (h_images : Nat) (h_hasImage : Nat) (h_tape : Nat) (v0_taped : Int32) (h_five : Nat) (v0_size : Int32) (v0_at : Int32) (v0_from : Int32) (v0_token : Int32) (v0_value : Int32) (v0_faultKind : Int32) (v0_faultPlace : Int32) (h_fresh : Nat) (h_spokenAt : Nat) (h_heardAt : Nat) (h_lastAt : Nat) (h_answerAt : Nat) (v0_lawA : Int32) (v0_lawB : Int32) (v0_lawC : Int32) (v0_isDrawn : Int32) (h_heardNow : Nat) (h_seenAt : Nat) (v0_roundFrom : Int32) (v0_roundTo : Int32) (v0_goLast : Int32) (v0_goAnswer : Int32) (v0_goHeard : Int32) (h_fewest : Nat) (h_costNow : Nat) (h_costThen : Nat) (h_lawsOf : Nat) (h_heardBy : Nat) (v0_lawMany : Int32) (v0_askWorst : Int32) (h_placesOf : Nat) (h_sentIn : Nat) (v0_placeMany : Int32) (v0_parentFirst : Int32) (h_lostBy : Nat) (h_many : Nat) (h_width : Nat) (h_numbers : Nat) (h_moving : Nat) (f_answerAt : Nat → Int32) (f_heardAt : Nat → Int32) (f_lastAt : Nat → Int32) (f_spokenAt : Nat → Int32) (f_world : Nat → Int32) (t_3 : Int32) (t_4 : Int32) (t_5 : Int32) (t_15 : Int64) (t_16 : Int32) (g_17 : Nat → Int32) (g_18 : Nat → Int32) (g_19 : Nat → Int32) (g_7 : Nat → Int32) (iv0_taped : 0 ≤ v0_taped.toInt ∧ v0_taped.toInt ≤ 500) (iv0_size : 0 ≤ v0_size.toInt ∧ v0_size.toInt ≤ 500) (iv0_at : 0 ≤ v0_at.toInt ∧ v0_at.toInt ≤ 500) (iv0_from : 0 ≤ v0_from.toInt ∧ v0_from.toInt ≤ 500) (iv0_faultKind : 0 ≤ v0_faultKind.toInt ∧ v0_faultKind.toInt ≤ 3) (iv0_lawA : 0 ≤ v0_lawA.toInt ∧ v0_lawA.toInt ≤ 8) (iv0_lawB : 0 ≤ v0_lawB.toInt ∧ v0_lawB.toInt ≤ 8) (iv0_lawC : 0 ≤ v0_lawC.toInt ∧ v0_lawC.toInt ≤ 9) (iv0_isDrawn : 0 ≤ v0_isDrawn.toInt ∧ v0_isDrawn.toInt ≤ 1) (iv0_roundFrom : 0 ≤ v0_roundFrom.toInt ∧ v0_roundFrom.toInt ≤ 648) (iv0_roundTo : 0 ≤ v0_roundTo.toInt ∧ v0_roundTo.toInt ≤ 648) (iv0_goLast : 0 ≤ v0_goLast.toInt ∧ v0_goLast.toInt ≤ 8) (iv0_goAnswer : 0 ≤ v0_goAnswer.toInt ∧ v0_goAnswer.toInt ≤ 8) (iv0_lawMany : 0 ≤ v0_lawMany.toInt ∧ v0_lawMany.toInt ≤ 729) (iv0_placeMany : 0 ≤ v0_placeMany.toInt ∧ v0_placeMany.toInt ≤ 100) (pf_answerAt : sg sgLa f_answerAt) (pf_heardAt : sg sgSp f_heardAt) (pf_lastAt : sg sgLa f_lastAt) (pf_spokenAt : sg sgSp f_spokenAt) (pf_world : sg sgWo f_world) (cf_world : 0 < (f_world 9).toInt → 2 ≤ (f_world 0).toInt) (h0w : 2 ≤ (f_world 0).toInt) (zt_3 : 0 ≤ t_3.toInt ∧ t_3.toInt ≤ 8) (zt_4 : 0 ≤ t_4.toInt ∧ t_4.toInt ≤ 8) (zt_5 : 0 ≤ t_5.toInt ∧ t_5.toInt ≤ 9) (yg_17 : sg sgLa g_17) (yg_18 : sg sgSp g_18) (yg_19 : sg sgLa g_19) (yg_7 : sg sgSp g_7) (i_8 : 0 ≤ t_3.toInt ∧ t_3.toInt ≤ 8) (i_9 : 0 ≤ t_4.toInt ∧ t_4.toInt ≤ 8) (i_10 : 0 ≤ t_5.toInt ∧ t_5.toInt ≤ 9) (C : Cx p s m args c RX12 cX12_goDrawn 5 G D (tyL cB cI cJ cZ cS cT)) (hG : G.1 ≤ s.heap.size) (hAB : ∀ q, A q → G.1 ≤ q) (hA : ∀ q : Nat, s.heap.size ≤ q → A q) (ret : RetV p l e ({ frames := 4, cells := 0, slots := 0, locals := 87 }) s m args below meth c cX12_goDrawn D A (fun x : Int32 × Int32 × Int32 × Int64 × Int32 × Int32 × (Nat → Int32) × (Nat → Int32) × (Nat → Int32) × (Nat → Int32) × (Nat → Int32) => [(mO h0 v0_thrown h_world h_images h_hasImage h_tape v0_taped h_five v0_size v0_at v0_from v0_token v0_value v0_faultKind v0_faultPlace h_fresh h_spokenAt h_heardAt h_lastAt h_answerAt x.1 x.2.1 x.2.2.1 x.2.2.2.1 x.2.2.2.2.1 x.2.2.2.2.2.1 h_heardNow h_seenAt v0_roundFrom v0_roundTo v0_goLast v0_goAnswer v0_goHeard h_fewest h_costNow h_costThen h_lawsOf h_heardBy v0_lawMany v0_askWorst h_placesOf h_sentIn v0_placeMany v0_parentFirst h_lostBy h_many h_width h_numbers h_moving), (h_answerAt, .inl (cI, 62, .inl x.2.2.2.2.2.2.1)), (h_heardAt, .inl (cI, 61, .inl x.2.2.2.2.2.2.2.1)), (h_lastAt, .inl (cI, 62, .inl x.2.2.2.2.2.2.2.2.1)), (h_lostBy, .inl (cI, 61, .inl x.2.2.2.2.2.2.2.2.2.1)), (h_spokenAt, .inl (cI, 61, .inl x.2.2.2.2.2.2.2.2.2.2)), (h_world, .inl (cI, 53, .inl f_world))]) (fun x : Int32 × Int32 × Int32 × Int64 × Int32 × Int32 × (Nat → Int32) × (Nat → Int32) × (Nat → Int32) × (Nat → Int32) × (Nat → Int32) => (0 ≤ x.1.toInt ∧ x.1.toInt ≤ 8) ∧ (0 ≤ x.2.1.toInt ∧ x.2.1.toInt ≤ 8) ∧ (0 ≤ x.2.2.1.toInt ∧ x.2.2.1.toInt ≤ 9) ∧ (0 ≤ x.2.2.2.2.1.toInt ∧ x.2.2.2.2.1.toInt ≤ 1) ∧ (sg sgLa x.2.2.2.2.2.2.1) ∧ (sg sgSp x.2.2.2.2.2.2.2.1) ∧ (sg sgLa x.2.2.2.2.2.2.2.2.1) ∧ (sg sgSp x.2.2.2.2.2.2.2.2.2.2)) Q) :
    ∀ (N : Nat) (g33_lostBy : Nat → Int32) (l33_4 : Int32) (l33_3 : Int32) (H : Heap) (locs : List Loc) (ls : Array Slot), 0 ≤ l33_4.toInt ∧ l33_4.toInt ≤ 61 → (60 - l33_4.toInt + 1).toNat < N → va_P D vwCl [(mO h0 v0_thrown h_world h_images h_hasImage h_tape v0_taped h_five v0_size v0_at v0_from v0_token v0_value v0_faultKind v0_faultPlace h_fresh h_spokenAt h_heardAt h_lastAt h_answerAt t_3 t_4 t_5 t_15 0 t_16 h_heardNow h_seenAt v0_roundFrom v0_roundTo v0_goLast v0_goAnswer v0_goHeard h_fewest h_costNow h_costThen h_lawsOf h_heardBy v0_lawMany v0_askWorst h_placesOf h_sentIn v0_placeMany v0_parentFirst h_lostBy h_many h_width h_numbers h_moving), (h_answerAt, .inl (cI, 62, .inl g_17)), (h_heardAt, .inl (cI, 61, .inl g_18)), (h_lastAt, .inl (cI, 62, .inl g_19)), (h_lostBy, .inl (cI, 61, .inl g33_lostBy)), (h_spokenAt, .inl (cI, 61, .inl g_7)), (h_world, .inl (cI, 53, .inl f_world))] H → va_D A [(mO h0 v0_thrown h_world h_images h_hasImage h_tape v0_taped h_five v0_size v0_at v0_from v0_token v0_value v0_faultKind v0_faultPlace h_fresh h_spokenAt h_heardAt h_lastAt h_answerAt t_3 t_4 t_5 t_15 0 t_16 h_heardNow h_seenAt v0_roundFrom v0_roundTo v0_goLast v0_goAnswer v0_goHeard h_fewest h_costNow h_costThen h_lawsOf h_heardBy v0_lawMany v0_askWorst h_placesOf h_sentIn v0_placeMany v0_parentFirst h_lostBy h_many h_width h_numbers h_moving), (h_answerAt, .inl (cI, 62, .inl g_17)), (h_heardAt, .inl (cI, 61, .inl g_18)), (h_lastAt, .inl (cI, 62, .inl g_19)), (h_lostBy, .inl (cI, 61, .inl g33_lostBy)), (h_spokenAt, .inl (cI, 61, .inl g_7)), (h_world, .inl (cI, 53, .inl f_world))] → va_S A s.heap H locs → lv_has ls 5 [(4, .int l33_4), (3, .int l33_3), (0, .ref h0)] → W p l e ({ frames := 4, cells := 0, slots := 0, locals := 87 }) s m args below meth c H locs 0 0 Q (F0 m 33 ls []) := by
  obtain ⟨hx, hb, hml, hown, hts, hK, hN, hT⟩ := id C
  intro N
  induction N with
  | zero =>
    intro g33_lostBy l33_4 l33_3 H locs ls kl33_4 hM_33 hP hD hS hl
    omega
  | succ N_33 ih_33 =>
    intro g33_lostBy l33_4 l33_3 H locs ls kl33_4 hM_33 hP hD hS hl
    have b_l33_4 := i32b l33_4
    refine lv_iload hx hb dX12_goDrawn_33 (lv_at hl 0 rfl) ?_
    refine lv_bipush (v := 60) hx hb dX12_goDrawn_35 (by decide) ?_
    refine lv_icmp_gt (tgt := 82) hx hb dX12_goDrawn_37 (by decide) (fun c_23 => ?_) (fun c_23 => ?_)
    · have c_23 : 60 < l33_4.toInt := ci_gt_t c_23
      exact ret _ _ _ _ (t_3, t_4, t_5, t_15, 0, t_16, g_17, g_18, g_19, g33_lostBy, g_7) dX12_goDrawn_82 (show (0 ≤ t_3.toInt ∧ t_3.toInt ≤ 8) ∧ (0 ≤ t_4.toInt ∧ t_4.toInt ≤ 8) ∧ (0 ≤ t_5.toInt ∧ t_5.toInt ≤ 9) ∧ (0 ≤ (0 : Int32).toInt ∧ (0 : Int32).toInt ≤ 1) ∧ (sg sgLa g_17) ∧ (sg sgSp g_18) ∧ (sg sgLa g_19) ∧ (sg sgSp g_7) from ⟨(by first | assumption | (have := zI0; have := zI1; have := zIm; omega) | decide), (by first | assumption | (have := zI0; have := zI1; have := zIm; omega) | decide), (by first | assumption | (have := zI0; have := zI1; have := zIm; omega) | decide), (by first | assumption | (have := zI0; have := zI1; have := zIm; omega) | decide), (by first | assumption | (have := zI0; have := zI1; have := zIm; omega) | decide), (by first | assumption | (have := zI0; have := zI1; have := zIm; omega) | decide), (by first | assumption | (have := zI0; have := zI1; have := zIm; omega) | decide), (by first | assumption | (have := zI0; have := zI1; have := zIm; omega) | decide)⟩) (hP.sub [0, 1, 2, 3, 4, 5, 6] rfl) (hD.sub [0, 1, 2, 3, 4, 5, 6] (by decide) rfl) hS
    · have c_23 : l33_4.toInt ≤ 60 := ci_gt_f c_23
      refine lv_iload_n hx hb dX12_goDrawn_40 rfl (lv_at hl 1 rfl) ?_
      refine lv_aload_n hx hb dX12_goDrawn_41 rfl (lv_at hl 2 rfl) ?_
      refine lv_iload hx hb dX12_goDrawn_42 (lv_at hl 0 rfl) ?_
      refine roi (As := [.int l33_4]) (rest := [.int l33_3]) ⟨hx, hb, hml, hown, hts⟩ (b_X12_isGap l G D cB cI cJ cZ cS cT h0 v0_thrown h_world h_images h_hasImage h_tape v0_taped h_five v0_size v0_at v0_from v0_token v0_value v0_faultKind v0_faultPlace h_fresh h_spokenAt h_heardAt h_lastAt h_answerAt t_3 t_4 t_5 t_15 0 t_16 h_heardNow h_seenAt v0_roundFrom v0_roundTo v0_goLast v0_goAnswer v0_goHeard h_fewest h_costNow h_costThen h_lawsOf h_heardBy v0_lawMany v0_askWorst h_placesOf h_sentIn v0_placeMany v0_parentFirst h_lostBy h_many h_width h_numbers h_moving f_world l33_4 (by first | assumption | (have := zI0; have := zI1; have := zIm; omega) | decide) (by first | assumption | (have := zI0; have := zI1; have := zIm; omega) | decide) (by first | assumption | (have := zI0; have := zI1; have := zIm; omega) | decide) (by first | assumption | (have := zI0; have := zI1; have := zIm; omega) | decide) (by first | assumption | (have := zI0; have := zI1; have := zIm; omega) | decide) (by first | assumption | (have := zI0; have := zI1; have := zIm; omega) | decide) (by first | assumption | (have := zI0; have := zI1; have := zIm; omega) | decide) (by first | assumption | (have := zI0; have := zI1; have := zIm; omega) | decide) (by first | assumption | (have := zI0; have := zI1; have := zIm; omega) | decide) (by first | assumption | (have := zI0; have := zI1; have := zIm; omega) | decide) (by first | assumption | (have := zI0; have := zI1; have := zIm; omega) | decide) (by first | assumption | (have := zI0; have := zI1; have := zIm; omega) | decide) (by first | assumption | (have := zI0; have := zI1; have := zIm; omega) | decide) (by first | assumption | (have := zI0; have := zI1; have := zIm; omega) | decide) (by first | assumption | (have := zI0; have := zI1; have := zIm; omega) | decide) (by first | assumption | (have := zI0; have := zI1; have := zIm; omega) | decide) (by first | assumption | (have := zI0; have := zI1; have := zIm; omega) | decide) (by first | assumption | (have := zI0; have := zI1; have := zIm; omega) | decide)) (cvB (n := 1) (inr25 _ (List.mem_of_getElem? (i := 18) rfl)) (inr25 _ (List.mem_of_getElem? (i := 19) rfl)) (inr25 _ (List.mem_of_getElem? (i := 20) rfl)) (inr1 _ (List.mem_of_getElem? (i := 5) rfl)) (inr25 _ (List.mem_of_getElem? (i := 21) rfl)) (by decide +kernel) hts rfl rfl ⟨Nat.le_of_ble_eq_true rfl, Nat.le_of_ble_eq_true rfl⟩) 0 12 rfl rfl rfl (hP.sub [0, 6] rfl) hK hN (kT.to hT hS hAB) rfl hl.1 rfl (Nat.le_of_ble_eq_true rfl) ⟨Nat.le_of_ble_eq_true rfl, Nat.le_of_ble_eq_true rfl⟩ dX12_goDrawn_44 (fun r_24 h_25 => ?_)
      have h_25 : ((r_24.toInt = 1 ∧ 0 < (f_world 6).toInt ∧ sgnN f_world l33_4.toInt = -1) ∨ (r_24.toInt = 0 ∧ ((f_world 6).toInt ≤ 0 ∨ ¬ sgnN f_world l33_4.toInt = -1))) ∧ (r_24 = 0 ∨ r_24 = 1) := h_25
      obtain ⟨i_26, i_27⟩ := h_25
      have ar_24 : 0 ≤ r_24.toInt ∧ r_24.toInt ≤ 1 := by rcases i_27 with h | h <;> rw [h] <;> decide
      refine lv_if_eq (tgt := 65) hx hb dX12_goDrawn_47 (by decide) (fun c_28 => ?_) (fun c_28 => ?_)
      · have c_28 : r_24.toInt = 0 := ci_eq_t c_28
        have b_r_24 := i32b r_24
        have d_29 : ((f_world 6).toInt ≤ 0 ∨ ¬ sgnN f_world l33_4.toInt = -1) := by omega
        clear i_26
        refine lv_iconst (v := 0) hx hb dX12_goDrawn_65 (by decide) ?_
        obtain ⟨t_30, et_30⟩ : ∃ v9 : Int32, l33_3 + 0 = v9 := ⟨_, rfl⟩
        refine z_iadd (v := t_30) hx hb dX12_goDrawn_66 et_30 ?_
        have b_l33_3 := i32b l33_3
        have ft_30 : t_30.toInt = l33_3.toInt + 0 := addT (a := l33_3.toInt) (b := 0) rfl (by decide) et_30 (by omega) (by omega)
        refine lv_istore_n (lv' := [(3, .int t_30), (4, .int l33_4), (0, .ref h0)]) hx hb dX12_goDrawn_67 rfl hl (by decide) rfl (fun ls hl => ?_)
        refine lv_aload_n hx hb dX12_goDrawn_68 rfl (lv_at hl 2 rfl) ?_
        refine va_get (D := D) (ci := 12) (v := .ref h_lostBy) (C := RX12) (T := TX12) (N := 48) hx hb hts inlX12 hown hK hP 0 rfl rfl 43 (by decide) (hts _ (inr7 _ (List.mem_of_getElem? (i := 13) rfl))) (fun _ h9 => h9) rfl dX12_goDrawn_69 ?_
        refine lv_iload hx hb dX12_goDrawn_72 (lv_at hl 1 rfl) ?_
        refine lv_iload_n hx hb dX12_goDrawn_74 rfl (lv_at hl 0 rfl) ?_
        refine va_iast hx hb hK hP hD hS 4 1 rfl rfl (vin_nat (by omega) (by omega)) dX12_goDrawn_75 (fun H locs hP hD hS => ?_)
        have hP : va_P D vwCl [(mO h0 v0_thrown h_world h_images h_hasImage h_tape v0_taped h_five v0_size v0_at v0_from v0_token v0_value v0_faultKind v0_faultPlace h_fresh h_spokenAt h_heardAt h_lastAt h_answerAt t_3 t_4 t_5 t_15 0 t_16 h_heardNow h_seenAt v0_roundFrom v0_roundTo v0_goLast v0_goAnswer v0_goHeard h_fewest h_costNow h_costThen h_lawsOf h_heardBy v0_lawMany v0_askWorst h_placesOf h_sentIn v0_placeMany v0_parentFirst h_lostBy h_many h_width h_numbers h_moving), (h_answerAt, .inl (cI, 62, .inl g_17)), (h_heardAt, .inl (cI, 61, .inl g_18)), (h_lastAt, .inl (cI, 62, .inl g_19)), (h_lostBy, .inl (cI, 61, .inl (upd g33_lostBy (l33_4 : Int32).toNatClampNeg t_30))), (h_spokenAt, .inl (cI, 61, .inl g_7)), (h_world, .inl (cI, 53, .inl f_world))] H := hP
        have hD : va_D A [(mO h0 v0_thrown h_world h_images h_hasImage h_tape v0_taped h_five v0_size v0_at v0_from v0_token v0_value v0_faultKind v0_faultPlace h_fresh h_spokenAt h_heardAt h_lastAt h_answerAt t_3 t_4 t_5 t_15 0 t_16 h_heardNow h_seenAt v0_roundFrom v0_roundTo v0_goLast v0_goAnswer v0_goHeard h_fewest h_costNow h_costThen h_lawsOf h_heardBy v0_lawMany v0_askWorst h_placesOf h_sentIn v0_placeMany v0_parentFirst h_lostBy h_many h_width h_numbers h_moving), (h_answerAt, .inl (cI, 62, .inl g_17)), (h_heardAt, .inl (cI, 61, .inl g_18)), (h_lastAt, .inl (cI, 62, .inl g_19)), (h_lostBy, .inl (cI, 61, .inl (upd g33_lostBy (l33_4 : Int32).toNatClampNeg t_30))), (h_spokenAt, .inl (cI, 61, .inl g_7)), (h_world, .inl (cI, 53, .inl f_world))] := hD
        obtain ⟨g_31, eg_31⟩ : ∃ v9 : Nat → Int32, (upd g33_lostBy (l33_4 : Int32).toNatClampNeg t_30) = v9 := ⟨_, rfl⟩
        rw [eg_31] at hP hD
        have hP : va_P D vwCl [(mO h0 v0_thrown h_world h_images h_hasImage h_tape v0_taped h_five v0_size v0_at v0_from v0_token v0_value v0_faultKind v0_faultPlace h_fresh h_spokenAt h_heardAt h_lastAt h_answerAt t_3 t_4 t_5 t_15 0 t_16 h_heardNow h_seenAt v0_roundFrom v0_roundTo v0_goLast v0_goAnswer v0_goHeard h_fewest h_costNow h_costThen h_lawsOf h_heardBy v0_lawMany v0_askWorst h_placesOf h_sentIn v0_placeMany v0_parentFirst h_lostBy h_many h_width h_numbers h_moving), (h_answerAt, .inl (cI, 62, .inl g_17)), (h_heardAt, .inl (cI, 61, .inl g_18)), (h_lastAt, .inl (cI, 62, .inl g_19)), (h_lostBy, .inl (cI, 61, .inl g_31)), (h_spokenAt, .inl (cI, 61, .inl g_7)), (h_world, .inl (cI, 53, .inl f_world))] H := hP
        have hD : va_D A [(mO h0 v0_thrown h_world h_images h_hasImage h_tape v0_taped h_five v0_size v0_at v0_from v0_token v0_value v0_faultKind v0_faultPlace h_fresh h_spokenAt h_heardAt h_lastAt h_answerAt t_3 t_4 t_5 t_15 0 t_16 h_heardNow h_seenAt v0_roundFrom v0_roundTo v0_goLast v0_goAnswer v0_goHeard h_fewest h_costNow h_costThen h_lawsOf h_heardBy v0_lawMany v0_askWorst h_placesOf h_sentIn v0_placeMany v0_parentFirst h_lostBy h_many h_width h_numbers h_moving), (h_answerAt, .inl (cI, 62, .inl g_17)), (h_heardAt, .inl (cI, 61, .inl g_18)), (h_lastAt, .inl (cI, 62, .inl g_19)), (h_lostBy, .inl (cI, 61, .inl g_31)), (h_spokenAt, .inl (cI, 61, .inl g_7)), (h_world, .inl (cI, 53, .inl f_world))] := hD
        obtain ⟨t_32, et_32⟩ : ∃ v9 : Int32, l33_4 + 1 = v9 := ⟨_, rfl⟩
        have ft_32 : t_32.toInt = l33_4.toInt + 1 := addT (a := l33_4.toInt) (b := 1) rfl (by decide) et_32 (by omega) (by omega)
        refine lv_iinc (v := t_32) (lv' := [(4, .int t_32), (3, .int t_30), (0, .ref h0)]) hx hb dX12_goDrawn_76 hl (k := 1) rfl (by rw [← et_32]; rfl) (by decide) rfl (fun ls hl => ?_)
        refine lv_goto (tgt := 33) hx hb dX12_goDrawn_79 (by decide) ?_
        exact ih_33 (g_31) (t_32) (t_30) _ _ _ (by first | assumption | (have := zI0; have := zI1; have := zIm; omega) | decide) (by omega) (hP.sub [0, 1, 2, 3, 4, 5, 6] rfl) (hD.sub [0, 1, 2, 3, 4, 5, 6] (by decide) rfl) hS (lv_sub hl [0, 1, 2] rfl)
      · have c_28 : ¬ r_24.toInt = 0 := ci_eq_f c_28
        have b_r_24 := i32b r_24
        have d_33 : 0 < (f_world 6).toInt ∧ sgnN f_world l33_4.toInt = -1 := by omega
        clear i_26
        refine lv_aload_n hx hb dX12_goDrawn_50 rfl (lv_at hl 2 rfl) ?_
        refine va_get (D := D) (ci := 12) (v := .ref h_heardAt) (C := RX12) (T := TX12) (N := 48) hx hb hts inlX12 hown hK hP 0 rfl rfl 16 (by decide) (hts _ (inr7 _ (List.mem_of_getElem? (i := 0) rfl))) (fun _ h9 => h9) rfl dX12_goDrawn_51 ?_
        refine lv_iload hx hb dX12_goDrawn_54 (lv_at hl 0 rfl) ?_
        obtain ⟨t_34, et_34⟩ : ∃ v9 : Int32, g_18 (l33_4 : Int32).toNatClampNeg = v9 := ⟨_, rfl⟩
        refine z_iald (v := t_34) hx hb hK hP 2 1 rfl rfl (vin_nat (by omega) (by omega)) et_34 dX12_goDrawn_56 ?_
        have ft_34 : (-1) ≤ t_34.toInt ∧ t_34.toInt ≤ 8 := sgL (by assumption : sg sgSp g_18) 0 rfl (by omega) (by omega) (by omega) et_34
        refine lv_iconst (v := (-1)) hx hb dX12_goDrawn_57 (by decide) ?_
        refine lv_icmp_ne (tgt := 65) hx hb dX12_goDrawn_58 (by decide) (fun c_35 => ?_) (fun c_35 => ?_)
        · have c_35 : ¬ t_34.toInt = (-1) := ci_ne_t c_35
          have b_t_34 := i32b t_34
          refine lv_iconst (v := 0) hx hb dX12_goDrawn_65 (by decide) ?_
          obtain ⟨t_36, et_36⟩ : ∃ v9 : Int32, l33_3 + 0 = v9 := ⟨_, rfl⟩
          refine z_iadd (v := t_36) hx hb dX12_goDrawn_66 et_36 ?_
          have b_l33_3 := i32b l33_3
          have ft_36 : t_36.toInt = l33_3.toInt + 0 := addT (a := l33_3.toInt) (b := 0) rfl (by decide) et_36 (by omega) (by omega)
          refine lv_istore_n (lv' := [(3, .int t_36), (4, .int l33_4), (0, .ref h0)]) hx hb dX12_goDrawn_67 rfl hl (by decide) rfl (fun ls hl => ?_)
          refine lv_aload_n hx hb dX12_goDrawn_68 rfl (lv_at hl 2 rfl) ?_
          refine va_get (D := D) (ci := 12) (v := .ref h_lostBy) (C := RX12) (T := TX12) (N := 48) hx hb hts inlX12 hown hK hP 0 rfl rfl 43 (by decide) (hts _ (inr7 _ (List.mem_of_getElem? (i := 13) rfl))) (fun _ h9 => h9) rfl dX12_goDrawn_69 ?_
          refine lv_iload hx hb dX12_goDrawn_72 (lv_at hl 1 rfl) ?_
          refine lv_iload_n hx hb dX12_goDrawn_74 rfl (lv_at hl 0 rfl) ?_
          refine va_iast hx hb hK hP hD hS 4 1 rfl rfl (vin_nat (by omega) (by omega)) dX12_goDrawn_75 (fun H locs hP hD hS => ?_)
          have hP : va_P D vwCl [(mO h0 v0_thrown h_world h_images h_hasImage h_tape v0_taped h_five v0_size v0_at v0_from v0_token v0_value v0_faultKind v0_faultPlace h_fresh h_spokenAt h_heardAt h_lastAt h_answerAt t_3 t_4 t_5 t_15 0 t_16 h_heardNow h_seenAt v0_roundFrom v0_roundTo v0_goLast v0_goAnswer v0_goHeard h_fewest h_costNow h_costThen h_lawsOf h_heardBy v0_lawMany v0_askWorst h_placesOf h_sentIn v0_placeMany v0_parentFirst h_lostBy h_many h_width h_numbers h_moving), (h_answerAt, .inl (cI, 62, .inl g_17)), (h_heardAt, .inl (cI, 61, .inl g_18)), (h_lastAt, .inl (cI, 62, .inl g_19)), (h_lostBy, .inl (cI, 61, .inl (upd g33_lostBy (l33_4 : Int32).toNatClampNeg t_36))), (h_spokenAt, .inl (cI, 61, .inl g_7)), (h_world, .inl (cI, 53, .inl f_world))] H := hP
          have hD : va_D A [(mO h0 v0_thrown h_world h_images h_hasImage h_tape v0_taped h_five v0_size v0_at v0_from v0_token v0_value v0_faultKind v0_faultPlace h_fresh h_spokenAt h_heardAt h_lastAt h_answerAt t_3 t_4 t_5 t_15 0 t_16 h_heardNow h_seenAt v0_roundFrom v0_roundTo v0_goLast v0_goAnswer v0_goHeard h_fewest h_costNow h_costThen h_lawsOf h_heardBy v0_lawMany v0_askWorst h_placesOf h_sentIn v0_placeMany v0_parentFirst h_lostBy h_many h_width h_numbers h_moving), (h_answerAt, .inl (cI, 62, .inl g_17)), (h_heardAt, .inl (cI, 61, .inl g_18)), (h_lastAt, .inl (cI, 62, .inl g_19)), (h_lostBy, .inl (cI, 61, .inl (upd g33_lostBy (l33_4 : Int32).toNatClampNeg t_36))), (h_spokenAt, .inl (cI, 61, .inl g_7)), (h_world, .inl (cI, 53, .inl f_world))] := hD
          obtain ⟨g_37, eg_37⟩ : ∃ v9 : Nat → Int32, (upd g33_lostBy (l33_4 : Int32).toNatClampNeg t_36) = v9 := ⟨_, rfl⟩
          rw [eg_37] at hP hD
          have hP : va_P D vwCl [(mO h0 v0_thrown h_world h_images h_hasImage h_tape v0_taped h_five v0_size v0_at v0_from v0_token v0_value v0_faultKind v0_faultPlace h_fresh h_spokenAt h_heardAt h_lastAt h_answerAt t_3 t_4 t_5 t_15 0 t_16 h_heardNow h_seenAt v0_roundFrom v0_roundTo v0_goLast v0_goAnswer v0_goHeard h_fewest h_costNow h_costThen h_lawsOf h_heardBy v0_lawMany v0_askWorst h_placesOf h_sentIn v0_placeMany v0_parentFirst h_lostBy h_many h_width h_numbers h_moving), (h_answerAt, .inl (cI, 62, .inl g_17)), (h_heardAt, .inl (cI, 61, .inl g_18)), (h_lastAt, .inl (cI, 62, .inl g_19)), (h_lostBy, .inl (cI, 61, .inl g_37)), (h_spokenAt, .inl (cI, 61, .inl g_7)), (h_world, .inl (cI, 53, .inl f_world))] H := hP
          have hD : va_D A [(mO h0 v0_thrown h_world h_images h_hasImage h_tape v0_taped h_five v0_size v0_at v0_from v0_token v0_value v0_faultKind v0_faultPlace h_fresh h_spokenAt h_heardAt h_lastAt h_answerAt t_3 t_4 t_5 t_15 0 t_16 h_heardNow h_seenAt v0_roundFrom v0_roundTo v0_goLast v0_goAnswer v0_goHeard h_fewest h_costNow h_costThen h_lawsOf h_heardBy v0_lawMany v0_askWorst h_placesOf h_sentIn v0_placeMany v0_parentFirst h_lostBy h_many h_width h_numbers h_moving), (h_answerAt, .inl (cI, 62, .inl g_17)), (h_heardAt, .inl (cI, 61, .inl g_18)), (h_lastAt, .inl (cI, 62, .inl g_19)), (h_lostBy, .inl (cI, 61, .inl g_37)), (h_spokenAt, .inl (cI, 61, .inl g_7)), (h_world, .inl (cI, 53, .inl f_world))] := hD
          obtain ⟨t_38, et_38⟩ : ∃ v9 : Int32, l33_4 + 1 = v9 := ⟨_, rfl⟩
          have ft_38 : t_38.toInt = l33_4.toInt + 1 := addT (a := l33_4.toInt) (b := 1) rfl (by decide) et_38 (by omega) (by omega)
          refine lv_iinc (v := t_38) (lv' := [(4, .int t_38), (3, .int t_36), (0, .ref h0)]) hx hb dX12_goDrawn_76 hl (k := 1) rfl (by rw [← et_38]; rfl) (by decide) rfl (fun ls hl => ?_)
          refine lv_goto (tgt := 33) hx hb dX12_goDrawn_79 (by decide) ?_
          exact ih_33 (g_37) (t_38) (t_36) _ _ _ (by first | assumption | (have := zI0; have := zI1; have := zIm; omega) | decide) (by omega) (hP.sub [0, 1, 2, 3, 4, 5, 6] rfl) (hD.sub [0, 1, 2, 3, 4, 5, 6] (by decide) rfl) hS (lv_sub hl [0, 1, 2] rfl)
        · have c_35 : t_34.toInt = (-1) := ci_ne_f c_35
          have b_t_34 := i32b t_34
          refine lv_iconst (v := 1) hx hb dX12_goDrawn_61 (by decide) ?_
          refine lv_goto (tgt := 66) hx hb dX12_goDrawn_62 (by decide) ?_
          obtain ⟨t_39, et_39⟩ : ∃ v9 : Int32, l33_3 + 1 = v9 := ⟨_, rfl⟩
          refine z_iadd (v := t_39) hx hb dX12_goDrawn_66 et_39 ?_
          refine lv_istore_n (lv' := [(3, .int t_39), (4, .int l33_4), (0, .ref h0)]) hx hb dX12_goDrawn_67 rfl hl (by decide) rfl (fun ls hl => ?_)
          refine lv_aload_n hx hb dX12_goDrawn_68 rfl (lv_at hl 2 rfl) ?_
          refine va_get (D := D) (ci := 12) (v := .ref h_lostBy) (C := RX12) (T := TX12) (N := 48) hx hb hts inlX12 hown hK hP 0 rfl rfl 43 (by decide) (hts _ (inr7 _ (List.mem_of_getElem? (i := 13) rfl))) (fun _ h9 => h9) rfl dX12_goDrawn_69 ?_
          refine lv_iload hx hb dX12_goDrawn_72 (lv_at hl 1 rfl) ?_
          refine lv_iload_n hx hb dX12_goDrawn_74 rfl (lv_at hl 0 rfl) ?_
          refine va_iast hx hb hK hP hD hS 4 1 rfl rfl (vin_nat (by omega) (by omega)) dX12_goDrawn_75 (fun H locs hP hD hS => ?_)
          have hP : va_P D vwCl [(mO h0 v0_thrown h_world h_images h_hasImage h_tape v0_taped h_five v0_size v0_at v0_from v0_token v0_value v0_faultKind v0_faultPlace h_fresh h_spokenAt h_heardAt h_lastAt h_answerAt t_3 t_4 t_5 t_15 0 t_16 h_heardNow h_seenAt v0_roundFrom v0_roundTo v0_goLast v0_goAnswer v0_goHeard h_fewest h_costNow h_costThen h_lawsOf h_heardBy v0_lawMany v0_askWorst h_placesOf h_sentIn v0_placeMany v0_parentFirst h_lostBy h_many h_width h_numbers h_moving), (h_answerAt, .inl (cI, 62, .inl g_17)), (h_heardAt, .inl (cI, 61, .inl g_18)), (h_lastAt, .inl (cI, 62, .inl g_19)), (h_lostBy, .inl (cI, 61, .inl (upd g33_lostBy (l33_4 : Int32).toNatClampNeg t_39))), (h_spokenAt, .inl (cI, 61, .inl g_7)), (h_world, .inl (cI, 53, .inl f_world))] H := hP
          have hD : va_D A [(mO h0 v0_thrown h_world h_images h_hasImage h_tape v0_taped h_five v0_size v0_at v0_from v0_token v0_value v0_faultKind v0_faultPlace h_fresh h_spokenAt h_heardAt h_lastAt h_answerAt t_3 t_4 t_5 t_15 0 t_16 h_heardNow h_seenAt v0_roundFrom v0_roundTo v0_goLast v0_goAnswer v0_goHeard h_fewest h_costNow h_costThen h_lawsOf h_heardBy v0_lawMany v0_askWorst h_placesOf h_sentIn v0_placeMany v0_parentFirst h_lostBy h_many h_width h_numbers h_moving), (h_answerAt, .inl (cI, 62, .inl g_17)), (h_heardAt, .inl (cI, 61, .inl g_18)), (h_lastAt, .inl (cI, 62, .inl g_19)), (h_lostBy, .inl (cI, 61, .inl (upd g33_lostBy (l33_4 : Int32).toNatClampNeg t_39))), (h_spokenAt, .inl (cI, 61, .inl g_7)), (h_world, .inl (cI, 53, .inl f_world))] := hD
          obtain ⟨g_40, eg_40⟩ : ∃ v9 : Nat → Int32, (upd g33_lostBy (l33_4 : Int32).toNatClampNeg t_39) = v9 := ⟨_, rfl⟩
          rw [eg_40] at hP hD
          have hP : va_P D vwCl [(mO h0 v0_thrown h_world h_images h_hasImage h_tape v0_taped h_five v0_size v0_at v0_from v0_token v0_value v0_faultKind v0_faultPlace h_fresh h_spokenAt h_heardAt h_lastAt h_answerAt t_3 t_4 t_5 t_15 0 t_16 h_heardNow h_seenAt v0_roundFrom v0_roundTo v0_goLast v0_goAnswer v0_goHeard h_fewest h_costNow h_costThen h_lawsOf h_heardBy v0_lawMany v0_askWorst h_placesOf h_sentIn v0_placeMany v0_parentFirst h_lostBy h_many h_width h_numbers h_moving), (h_answerAt, .inl (cI, 62, .inl g_17)), (h_heardAt, .inl (cI, 61, .inl g_18)), (h_lastAt, .inl (cI, 62, .inl g_19)), (h_lostBy, .inl (cI, 61, .inl g_40)), (h_spokenAt, .inl (cI, 61, .inl g_7)), (h_world, .inl (cI, 53, .inl f_world))] H := hP
          have hD : va_D A [(mO h0 v0_thrown h_world h_images h_hasImage h_tape v0_taped h_five v0_size v0_at v0_from v0_token v0_value v0_faultKind v0_faultPlace h_fresh h_spokenAt h_heardAt h_lastAt h_answerAt t_3 t_4 t_5 t_15 0 t_16 h_heardNow h_seenAt v0_roundFrom v0_roundTo v0_goLast v0_goAnswer v0_goHeard h_fewest h_costNow h_costThen h_lawsOf h_heardBy v0_lawMany v0_askWorst h_placesOf h_sentIn v0_placeMany v0_parentFirst h_lostBy h_many h_width h_numbers h_moving), (h_answerAt, .inl (cI, 62, .inl g_17)), (h_heardAt, .inl (cI, 61, .inl g_18)), (h_lastAt, .inl (cI, 62, .inl g_19)), (h_lostBy, .inl (cI, 61, .inl g_40)), (h_spokenAt, .inl (cI, 61, .inl g_7)), (h_world, .inl (cI, 53, .inl f_world))] := hD
          obtain ⟨t_41, et_41⟩ : ∃ v9 : Int32, l33_4 + 1 = v9 := ⟨_, rfl⟩
          have ft_41 : t_41.toInt = l33_4.toInt + 1 := addT (a := l33_4.toInt) (b := 1) rfl (by decide) et_41 (by omega) (by omega)
          refine lv_iinc (v := t_41) (lv' := [(4, .int t_41), (3, .int t_39), (0, .ref h0)]) hx hb dX12_goDrawn_76 hl (k := 1) rfl (by rw [← et_41]; rfl) (by decide) rfl (fun ls hl => ?_)
          refine lv_goto (tgt := 33) hx hb dX12_goDrawn_79 (by decide) ?_
          exact ih_33 (g_40) (t_41) (t_39) _ _ _ (by first | assumption | (have := zI0; have := zI1; have := zIm; omega) | decide) (by omega) (hP.sub [0, 1, 2, 3, 4, 5, 6] rfl) (hD.sub [0, 1, 2, 3, 4, 5, 6] (by decide) rfl) hS (lv_sub hl [0, 1, 2] rfl)

set_option maxHeartbeats 4000000 in
set_option maxRecDepth 100000 in
theorem b_X12_goDrawn (l : Launch) (G : Gho) (D : va_G) (cB cI cJ cZ cS cT : ClassId) (sz : Nat) (h0 : Nat) (v0_thrown : Int32) (h_world : Nat) (h_images : Nat) (h_hasImage : Nat) (h_tape : Nat) (v0_taped : Int32) (h_five : Nat) (v0_size : Int32) (v0_at : Int32) (v0_from : Int32) (v0_token : Int32) (v0_value : Int32) (v0_faultKind : Int32) (v0_faultPlace : Int32) (h_fresh : Nat) (h_spokenAt : Nat) (h_heardAt : Nat) (h_lastAt : Nat) (h_answerAt : Nat) (v0_lawA : Int32) (v0_lawB : Int32) (v0_lawC : Int32) (v0_drawX : Int64) (v0_isDrawn : Int32) (v0_lostMany : Int32) (h_heardNow : Nat) (h_seenAt : Nat) (v0_roundFrom : Int32) (v0_roundTo : Int32) (v0_goLast : Int32) (v0_goAnswer : Int32) (v0_goHeard : Int32) (h_fewest : Nat) (h_costNow : Nat) (h_costThen : Nat) (h_lawsOf : Nat) (h_heardBy : Nat) (v0_lawMany : Int32) (v0_askWorst : Int32) (h_placesOf : Nat) (h_sentIn : Nat) (v0_placeMany : Int32) (v0_parentFirst : Int32) (h_lostBy : Nat) (h_many : Nat) (h_width : Nat) (h_numbers : Nat) (h_moving : Nat) (f_answerAt : Nat → Int32) (f_heardAt : Nat → Int32) (f_lastAt : Nat → Int32) (f_lostBy : Nat → Int32) (f_spokenAt : Nat → Int32) (f_world : Nat → Int32) (v1 : Int64) (iv0_taped : 0 ≤ v0_taped.toInt ∧ v0_taped.toInt ≤ 500) (iv0_size : 0 ≤ v0_size.toInt ∧ v0_size.toInt ≤ 500) (iv0_at : 0 ≤ v0_at.toInt ∧ v0_at.toInt ≤ 500) (iv0_from : 0 ≤ v0_from.toInt ∧ v0_from.toInt ≤ 500) (iv0_faultKind : 0 ≤ v0_faultKind.toInt ∧ v0_faultKind.toInt ≤ 3) (iv0_lawA : 0 ≤ v0_lawA.toInt ∧ v0_lawA.toInt ≤ 8) (iv0_lawB : 0 ≤ v0_lawB.toInt ∧ v0_lawB.toInt ≤ 8) (iv0_lawC : 0 ≤ v0_lawC.toInt ∧ v0_lawC.toInt ≤ 9) (iv0_isDrawn : 0 ≤ v0_isDrawn.toInt ∧ v0_isDrawn.toInt ≤ 1) (iv0_roundFrom : 0 ≤ v0_roundFrom.toInt ∧ v0_roundFrom.toInt ≤ 648) (iv0_roundTo : 0 ≤ v0_roundTo.toInt ∧ v0_roundTo.toInt ≤ 648) (iv0_goLast : 0 ≤ v0_goLast.toInt ∧ v0_goLast.toInt ≤ 8) (iv0_goAnswer : 0 ≤ v0_goAnswer.toInt ∧ v0_goAnswer.toInt ≤ 8) (iv0_lawMany : 0 ≤ v0_lawMany.toInt ∧ v0_lawMany.toInt ≤ 729) (iv0_placeMany : 0 ≤ v0_placeMany.toInt ∧ v0_placeMany.toInt ≤ 100) (pf_answerAt : sg sgLa f_answerAt) (pf_heardAt : sg sgSp f_heardAt) (pf_lastAt : sg sgLa f_lastAt) (pf_spokenAt : sg sgSp f_spokenAt) (pf_world : sg sgWo f_world) (cf_world : 0 < (f_world 9).toInt → 2 ≤ (f_world 0).toInt) (h0w : 2 ≤ (f_world 0).toInt) : Met l yX12_goDrawn (Cond.code yX12_goDrawn cX12_goDrawn 5 none :: wsL_law) ({ frames := 4, cells := 0, slots := 0, locals := 87 }) (wrP G D (tyL cB cI cJ cZ cS cT) [(mO h0 v0_thrown h_world h_images h_hasImage h_tape v0_taped h_five v0_size v0_at v0_from v0_token v0_value v0_faultKind v0_faultPlace h_fresh h_spokenAt h_heardAt h_lastAt h_answerAt v0_lawA v0_lawB v0_lawC v0_drawX v0_isDrawn v0_lostMany h_heardNow h_seenAt v0_roundFrom v0_roundTo v0_goLast v0_goAnswer v0_goHeard h_fewest h_costNow h_costThen h_lawsOf h_heardBy v0_lawMany v0_askWorst h_placesOf h_sentIn v0_placeMany v0_parentFirst h_lostBy h_many h_width h_numbers h_moving), (h_answerAt, .inl (cI, 62, .inl f_answerAt)), (h_heardAt, .inl (cI, 61, .inl f_heardAt)), (h_lastAt, .inl (cI, 62, .inl f_lastAt)), (h_lostBy, .inl (cI, 61, .inl f_lostBy)), (h_spokenAt, .inl (cI, 61, .inl f_spokenAt)), (h_world, .inl (cI, 53, .inl f_world))] sz [.ref h0, .long v1]) (va_Qv (fun x : Int32 × Int32 × Int32 × Int64 × Int32 × Int32 × (Nat → Int32) × (Nat → Int32) × (Nat → Int32) × (Nat → Int32) × (Nat → Int32) => (0 ≤ x.1.toInt ∧ x.1.toInt ≤ 8) ∧ (0 ≤ x.2.1.toInt ∧ x.2.1.toInt ≤ 8) ∧ (0 ≤ x.2.2.1.toInt ∧ x.2.2.1.toInt ≤ 9) ∧ (0 ≤ x.2.2.2.2.1.toInt ∧ x.2.2.2.2.1.toInt ≤ 1) ∧ (sg sgLa x.2.2.2.2.2.2.1) ∧ (sg sgSp x.2.2.2.2.2.2.2.1) ∧ (sg sgLa x.2.2.2.2.2.2.2.2.1) ∧ (sg sgSp x.2.2.2.2.2.2.2.2.2.2)) (atW D (tyL cB cI cJ cZ cS cT) (va_A [(mO h0 v0_thrown h_world h_images h_hasImage h_tape v0_taped h_five v0_size v0_at v0_from v0_token v0_value v0_faultKind v0_faultPlace h_fresh h_spokenAt h_heardAt h_lastAt h_answerAt v0_lawA v0_lawB v0_lawC v0_drawX v0_isDrawn v0_lostMany h_heardNow h_seenAt v0_roundFrom v0_roundTo v0_goLast v0_goAnswer v0_goHeard h_fewest h_costNow h_costThen h_lawsOf h_heardBy v0_lawMany v0_askWorst h_placesOf h_sentIn v0_placeMany v0_parentFirst h_lostBy h_many h_width h_numbers h_moving), (h_answerAt, .inl (cI, 62, .inl f_answerAt)), (h_heardAt, .inl (cI, 61, .inl f_heardAt)), (h_lastAt, .inl (cI, 62, .inl f_lastAt)), (h_lostBy, .inl (cI, 61, .inl f_lostBy)), (h_spokenAt, .inl (cI, 61, .inl f_spokenAt)), (h_world, .inl (cI, 53, .inl f_world))] sz) (fun x : Int32 × Int32 × Int32 × Int64 × Int32 × Int32 × (Nat → Int32) × (Nat → Int32) × (Nat → Int32) × (Nat → Int32) × (Nat → Int32) => [(mO h0 v0_thrown h_world h_images h_hasImage h_tape v0_taped h_five v0_size v0_at v0_from v0_token v0_value v0_faultKind v0_faultPlace h_fresh h_spokenAt h_heardAt h_lastAt h_answerAt x.1 x.2.1 x.2.2.1 x.2.2.2.1 x.2.2.2.2.1 x.2.2.2.2.2.1 h_heardNow h_seenAt v0_roundFrom v0_roundTo v0_goLast v0_goAnswer v0_goHeard h_fewest h_costNow h_costThen h_lawsOf h_heardBy v0_lawMany v0_askWorst h_placesOf h_sentIn v0_placeMany v0_parentFirst h_lostBy h_many h_width h_numbers h_moving), (h_answerAt, .inl (cI, 62, .inl x.2.2.2.2.2.2.1)), (h_heardAt, .inl (cI, 61, .inl x.2.2.2.2.2.2.2.1)), (h_lastAt, .inl (cI, 62, .inl x.2.2.2.2.2.2.2.2.1)), (h_lostBy, .inl (cI, 61, .inl x.2.2.2.2.2.2.2.2.2.1)), (h_spokenAt, .inl (cI, 61, .inl x.2.2.2.2.2.2.2.2.2.2)), (h_world, .inl (cI, 53, .inl f_world))])) (va_A [(mO h0 v0_thrown h_world h_images h_hasImage h_tape v0_taped h_five v0_size v0_at v0_from v0_token v0_value v0_faultKind v0_faultPlace h_fresh h_spokenAt h_heardAt h_lastAt h_answerAt v0_lawA v0_lawB v0_lawC v0_drawX v0_isDrawn v0_lostMany h_heardNow h_seenAt v0_roundFrom v0_roundTo v0_goLast v0_goAnswer v0_goHeard h_fewest h_costNow h_costThen h_lawsOf h_heardBy v0_lawMany v0_askWorst h_placesOf h_sentIn v0_placeMany v0_parentFirst h_lostBy h_many h_width h_numbers h_moving), (h_answerAt, .inl (cI, 62, .inl f_answerAt)), (h_heardAt, .inl (cI, 61, .inl f_heardAt)), (h_lastAt, .inl (cI, 62, .inl f_lastAt)), (h_lostBy, .inl (cI, 61, .inl f_lostBy)), (h_spokenAt, .inl (cI, 61, .inl f_spokenAt)), (h_world, .inl (cI, 53, .inl f_world))] sz)) 0 0 (va_A [(mO h0 v0_thrown h_world h_images h_hasImage h_tape v0_taped h_five v0_size v0_at v0_from v0_token v0_value v0_faultKind v0_faultPlace h_fresh h_spokenAt h_heardAt h_lastAt h_answerAt v0_lawA v0_lawB v0_lawC v0_drawX v0_isDrawn v0_lostMany h_heardNow h_seenAt v0_roundFrom v0_roundTo v0_goLast v0_goAnswer v0_goHeard h_fewest h_costNow h_costThen h_lawsOf h_heardBy v0_lawMany v0_askWorst h_placesOf h_sentIn v0_placeMany v0_parentFirst h_lostBy h_many h_width h_numbers h_moving), (h_answerAt, .inl (cI, 62, .inl f_answerAt)), (h_heardAt, .inl (cI, 61, .inl f_heardAt)), (h_lastAt, .inl (cI, 62, .inl f_lastAt)), (h_lostBy, .inl (cI, 61, .inl f_lostBy)), (h_spokenAt, .inl (cI, 61, .inl f_spokenAt)), (h_world, .inl (cI, 53, .inl f_world))] sz) := by
  refine metV (own := RX12) (by decide) rfl ?_
  intro p e s m below meth c Q hsz C hG hP hD hAB ret
  obtain ⟨hx, hb, hml, hown, hts, hK, hN, hT⟩ := id C
  subst hsz
  generalize hAe : va_A [(mO h0 v0_thrown h_world h_images h_hasImage h_tape v0_taped h_five v0_size v0_at v0_from v0_token v0_value v0_faultKind v0_faultPlace h_fresh h_spokenAt h_heardAt h_lastAt h_answerAt v0_lawA v0_lawB v0_lawC v0_drawX v0_isDrawn v0_lostMany h_heardNow h_seenAt v0_roundFrom v0_roundTo v0_goLast v0_goAnswer v0_goHeard h_fewest h_costNow h_costThen h_lawsOf h_heardBy v0_lawMany v0_askWorst h_placesOf h_sentIn v0_placeMany v0_parentFirst h_lostBy h_many h_width h_numbers h_moving), (h_answerAt, .inl (cI, 62, .inl f_answerAt)), (h_heardAt, .inl (cI, 61, .inl f_heardAt)), (h_lastAt, .inl (cI, 62, .inl f_lastAt)), (h_lostBy, .inl (cI, 61, .inl f_lostBy)), (h_spokenAt, .inl (cI, 61, .inl f_spokenAt)), (h_world, .inl (cI, 53, .inl f_world))] s.heap.size = A at hD hAB ret ⊢
  have hA : ∀ q : Nat, s.heap.size ≤ q → A q := fun q h => by rw [← hAe]; exact Or.inr h
  have hS : va_S A s.heap s.heap [] := va_S.rf
  have hl := lv_entry ([.ref h0, .long v1]) (n := 5) (Nat.le_of_ble_eq_true rfl)
  rw [lg_entry_eq]
  generalize (lg_sl ([.ref h0, .long v1]) ++ List.replicate (5 - (lg_sl ([.ref h0, .long v1])).length) Slot.unset).toArray = ls at hl ⊢
  have hl : lv_has ls 5 [(0, .ref h0), (1, .long v1)] := hl
  have hP : va_P D vwCl [(mO h0 v0_thrown h_world h_images h_hasImage h_tape v0_taped h_five v0_size v0_at v0_from v0_token v0_value v0_faultKind v0_faultPlace h_fresh h_spokenAt h_heardAt h_lastAt h_answerAt v0_lawA v0_lawB v0_lawC v0_drawX v0_isDrawn v0_lostMany h_heardNow h_seenAt v0_roundFrom v0_roundTo v0_goLast v0_goAnswer v0_goHeard h_fewest h_costNow h_costThen h_lawsOf h_heardBy v0_lawMany v0_askWorst h_placesOf h_sentIn v0_placeMany v0_parentFirst h_lostBy h_many h_width h_numbers h_moving), (h_answerAt, .inl (cI, 62, .inl f_answerAt)), (h_heardAt, .inl (cI, 61, .inl f_heardAt)), (h_lastAt, .inl (cI, 62, .inl f_lastAt)), (h_lostBy, .inl (cI, 61, .inl f_lostBy)), (h_spokenAt, .inl (cI, 61, .inl f_spokenAt)), (h_world, .inl (cI, 53, .inl f_world))] s.heap := hP
  refine lv_aload_n hx hb dX12_goDrawn_0 rfl (lv_at hl 0 rfl) ?_
  refine wrVv (As := []) (rest := []) (wr := [(h_answerAt, .inl (cI, 62, .inl f_answerAt)), (h_heardAt, .inl (cI, 61, .inl f_heardAt)), (h_lastAt, .inl (cI, 62, .inl f_lastAt)), (h_lostBy, .inl (cI, 61, .inl f_lostBy))]) ⟨hx, hb, hml, hown, hts⟩ (b_X12_asItIs l G D cB cI cJ cZ cS cT s.heap.size h0 v0_thrown h_world h_images h_hasImage h_tape v0_taped h_five v0_size v0_at v0_from v0_token v0_value v0_faultKind v0_faultPlace h_fresh h_spokenAt h_heardAt h_lastAt h_answerAt v0_lawA v0_lawB v0_lawC v0_drawX v0_isDrawn v0_lostMany h_heardNow h_seenAt v0_roundFrom v0_roundTo v0_goLast v0_goAnswer v0_goHeard h_fewest h_costNow h_costThen h_lawsOf h_heardBy v0_lawMany v0_askWorst h_placesOf h_sentIn v0_placeMany v0_parentFirst h_lostBy h_many h_width h_numbers h_moving f_spokenAt f_world (by first | assumption | (have := zI0; have := zI1; have := zIm; omega) | decide) (by first | assumption | (have := zI0; have := zI1; have := zIm; omega) | decide) (by first | assumption | (have := zI0; have := zI1; have := zIm; omega) | decide) (by first | assumption | (have := zI0; have := zI1; have := zIm; omega) | decide) (by first | assumption | (have := zI0; have := zI1; have := zIm; omega) | decide) (by first | assumption | (have := zI0; have := zI1; have := zIm; omega) | decide) (by first | assumption | (have := zI0; have := zI1; have := zIm; omega) | decide) (by first | assumption | (have := zI0; have := zI1; have := zIm; omega) | decide) (by first | assumption | (have := zI0; have := zI1; have := zIm; omega) | decide) (by first | assumption | (have := zI0; have := zI1; have := zIm; omega) | decide) (by first | assumption | (have := zI0; have := zI1; have := zIm; omega) | decide) (by first | assumption | (have := zI0; have := zI1; have := zIm; omega) | decide) (by first | assumption | (have := zI0; have := zI1; have := zIm; omega) | decide) (by first | assumption | (have := zI0; have := zI1; have := zIm; omega) | decide) (by first | assumption | (have := zI0; have := zI1; have := zIm; omega) | decide) (by first | assumption | (have := zI0; have := zI1; have := zIm; omega) | decide) (by first | assumption | (have := zI0; have := zI1; have := zIm; omega) | decide) (by first | assumption | (have := zI0; have := zI1; have := zIm; omega) | decide)) hP hD hS hA hK hN hT hAB hG [0, 5, 6] [1, 2, 3, 4] rfl rfl (by decide) (by decide) (by decide) (cvB (n := 0) (inr24 _ (List.mem_of_getElem? (i := 7) rfl)) (inr24 _ (List.mem_of_getElem? (i := 8) rfl)) (inr24 _ (List.mem_of_getElem? (i := 9) rfl)) (inr1 _ (List.mem_of_getElem? (i := 5) rfl)) (inr24 _ (List.mem_of_getElem? (i := 10) rfl)) (by decide +kernel) hts rfl rfl ⟨Nat.le_of_ble_eq_true rfl, Nat.le_of_ble_eq_true rfl⟩) 0 12 rfl rfl rfl rfl hl.1 rfl (Nat.le_of_ble_eq_true rfl) ⟨Nat.le_of_ble_eq_true rfl, Nat.le_of_ble_eq_true rfl⟩ dX12_goDrawn_1 (fun x9 H locs h_2 hP hD hS => ?_)
  obtain ⟨t_3, t_4, t_5, t_6, g_7⟩ := x9
  have hP : va_P D vwCl [(h_answerAt, .inl (cI, 62, .inl f_answerAt)), (h_heardAt, .inl (cI, 61, .inl f_heardAt)), (h_lastAt, .inl (cI, 62, .inl f_lastAt)), (h_lostBy, .inl (cI, 61, .inl f_lostBy)), (mO h0 v0_thrown h_world h_images h_hasImage h_tape v0_taped h_five v0_size v0_at v0_from v0_token v0_value v0_faultKind v0_faultPlace h_fresh h_spokenAt h_heardAt h_lastAt h_answerAt t_3 t_4 t_5 v0_drawX t_6 v0_lostMany h_heardNow h_seenAt v0_roundFrom v0_roundTo v0_goLast v0_goAnswer v0_goHeard h_fewest h_costNow h_costThen h_lawsOf h_heardBy v0_lawMany v0_askWorst h_placesOf h_sentIn v0_placeMany v0_parentFirst h_lostBy h_many h_width h_numbers h_moving), (h_spokenAt, .inl (cI, 61, .inl g_7)), (h_world, .inl (cI, 53, .inl f_world))] H := hP
  have hD : va_D A [(h_answerAt, .inl (cI, 62, .inl f_answerAt)), (h_heardAt, .inl (cI, 61, .inl f_heardAt)), (h_lastAt, .inl (cI, 62, .inl f_lastAt)), (h_lostBy, .inl (cI, 61, .inl f_lostBy)), (mO h0 v0_thrown h_world h_images h_hasImage h_tape v0_taped h_five v0_size v0_at v0_from v0_token v0_value v0_faultKind v0_faultPlace h_fresh h_spokenAt h_heardAt h_lastAt h_answerAt t_3 t_4 t_5 v0_drawX t_6 v0_lostMany h_heardNow h_seenAt v0_roundFrom v0_roundTo v0_goLast v0_goAnswer v0_goHeard h_fewest h_costNow h_costThen h_lawsOf h_heardBy v0_lawMany v0_askWorst h_placesOf h_sentIn v0_placeMany v0_parentFirst h_lostBy h_many h_width h_numbers h_moving), (h_spokenAt, .inl (cI, 61, .inl g_7)), (h_world, .inl (cI, 53, .inl f_world))] := hD
  have h_2 : (0 ≤ t_3.toInt ∧ t_3.toInt ≤ 8) ∧ (0 ≤ t_4.toInt ∧ t_4.toInt ≤ 8) ∧ (0 ≤ t_5.toInt ∧ t_5.toInt ≤ 9) ∧ (0 ≤ t_6.toInt ∧ t_6.toInt ≤ 1) ∧ (sg sgSp g_7) := h_2
  obtain ⟨i_8, i_9, i_10, i_11, i_12⟩ := h_2
  refine lv_aload_n hx hb dX12_goDrawn_4 rfl (lv_at hl 0 rfl) ?_
  refine lv_lload_n hx hb dX12_goDrawn_5 rfl (lv_at hl 1 rfl) ?_
  refine va_put (D := D) (ci := 12) (v := .long v1) (ty := .long) (C := RX12) (T := TX12) (N := 48) hx hb hts inlX12 tyX12 tyX12_ok nmX12 hown hK hP hD hS 4 rfl rfl 22 (by decide) (hts _ (inr25 _ (List.mem_of_getElem? (i := 12) rfl))) (fun _ h9 => h9) rfl (by decide +kernel) rfl rfl (Nat.le_of_ble_eq_true rfl) dX12_goDrawn_6 (fun H locs hP hD hS => ?_)
  have hP : va_P D vwCl [(h_answerAt, .inl (cI, 62, .inl f_answerAt)), (h_heardAt, .inl (cI, 61, .inl f_heardAt)), (h_lastAt, .inl (cI, 62, .inl f_lastAt)), (h_lostBy, .inl (cI, 61, .inl f_lostBy)), (mO h0 v0_thrown h_world h_images h_hasImage h_tape v0_taped h_five v0_size v0_at v0_from v0_token v0_value v0_faultKind v0_faultPlace h_fresh h_spokenAt h_heardAt h_lastAt h_answerAt t_3 t_4 t_5 v1 t_6 v0_lostMany h_heardNow h_seenAt v0_roundFrom v0_roundTo v0_goLast v0_goAnswer v0_goHeard h_fewest h_costNow h_costThen h_lawsOf h_heardBy v0_lawMany v0_askWorst h_placesOf h_sentIn v0_placeMany v0_parentFirst h_lostBy h_many h_width h_numbers h_moving), (h_spokenAt, .inl (cI, 61, .inl g_7)), (h_world, .inl (cI, 53, .inl f_world))] H := hP
  have hD : va_D A [(h_answerAt, .inl (cI, 62, .inl f_answerAt)), (h_heardAt, .inl (cI, 61, .inl f_heardAt)), (h_lastAt, .inl (cI, 62, .inl f_lastAt)), (h_lostBy, .inl (cI, 61, .inl f_lostBy)), (mO h0 v0_thrown h_world h_images h_hasImage h_tape v0_taped h_five v0_size v0_at v0_from v0_token v0_value v0_faultKind v0_faultPlace h_fresh h_spokenAt h_heardAt h_lastAt h_answerAt t_3 t_4 t_5 v1 t_6 v0_lostMany h_heardNow h_seenAt v0_roundFrom v0_roundTo v0_goLast v0_goAnswer v0_goHeard h_fewest h_costNow h_costThen h_lawsOf h_heardBy v0_lawMany v0_askWorst h_placesOf h_sentIn v0_placeMany v0_parentFirst h_lostBy h_many h_width h_numbers h_moving), (h_spokenAt, .inl (cI, 61, .inl g_7)), (h_world, .inl (cI, 53, .inl f_world))] := hD
  refine lv_aload_n hx hb dX12_goDrawn_9 rfl (lv_at hl 0 rfl) ?_
  refine lv_iconst (v := 0) hx hb dX12_goDrawn_10 (by decide) ?_
  refine va_put (D := D) (ci := 12) (v := .int 0) (ty := .int) (C := RX12) (T := TX12) (N := 48) hx hb hts inlX12 tyX12 tyX12_ok nmX12 hown hK hP hD hS 4 rfl rfl 24 (by decide) (hts _ (inr25 _ (List.mem_of_getElem? (i := 17) rfl))) (fun _ h9 => h9) rfl (by decide +kernel) rfl rfl (Nat.le_of_ble_eq_true rfl) dX12_goDrawn_11 (fun H locs hP hD hS => ?_)
  have hP : va_P D vwCl [(h_answerAt, .inl (cI, 62, .inl f_answerAt)), (h_heardAt, .inl (cI, 61, .inl f_heardAt)), (h_lastAt, .inl (cI, 62, .inl f_lastAt)), (h_lostBy, .inl (cI, 61, .inl f_lostBy)), (mO h0 v0_thrown h_world h_images h_hasImage h_tape v0_taped h_five v0_size v0_at v0_from v0_token v0_value v0_faultKind v0_faultPlace h_fresh h_spokenAt h_heardAt h_lastAt h_answerAt t_3 t_4 t_5 v1 t_6 0 h_heardNow h_seenAt v0_roundFrom v0_roundTo v0_goLast v0_goAnswer v0_goHeard h_fewest h_costNow h_costThen h_lawsOf h_heardBy v0_lawMany v0_askWorst h_placesOf h_sentIn v0_placeMany v0_parentFirst h_lostBy h_many h_width h_numbers h_moving), (h_spokenAt, .inl (cI, 61, .inl g_7)), (h_world, .inl (cI, 53, .inl f_world))] H := hP
  have hD : va_D A [(h_answerAt, .inl (cI, 62, .inl f_answerAt)), (h_heardAt, .inl (cI, 61, .inl f_heardAt)), (h_lastAt, .inl (cI, 62, .inl f_lastAt)), (h_lostBy, .inl (cI, 61, .inl f_lostBy)), (mO h0 v0_thrown h_world h_images h_hasImage h_tape v0_taped h_five v0_size v0_at v0_from v0_token v0_value v0_faultKind v0_faultPlace h_fresh h_spokenAt h_heardAt h_lastAt h_answerAt t_3 t_4 t_5 v1 t_6 0 h_heardNow h_seenAt v0_roundFrom v0_roundTo v0_goLast v0_goAnswer v0_goHeard h_fewest h_costNow h_costThen h_lawsOf h_heardBy v0_lawMany v0_askWorst h_placesOf h_sentIn v0_placeMany v0_parentFirst h_lostBy h_many h_width h_numbers h_moving), (h_spokenAt, .inl (cI, 61, .inl g_7)), (h_world, .inl (cI, 53, .inl f_world))] := hD
  refine lv_aload_n hx hb dX12_goDrawn_14 rfl (lv_at hl 0 rfl) ?_
  refine lv_iconst (v := 1) hx hb dX12_goDrawn_15 (by decide) ?_
  refine va_put (D := D) (ci := 12) (v := .int 1) (ty := .boolean) (C := RX12) (T := TX12) (N := 48) hx hb hts inlX12 tyX12 tyX12_ok nmX12 hown hK hP hD hS 4 rfl rfl 23 (by decide) (hts _ (inr24 _ (List.mem_of_getElem? (i := 18) rfl))) (fun _ h9 => h9) rfl (by decide +kernel) rfl rfl (Nat.le_of_ble_eq_true rfl) dX12_goDrawn_16 (fun H locs hP hD hS => ?_)
  have hP : va_P D vwCl [(h_answerAt, .inl (cI, 62, .inl f_answerAt)), (h_heardAt, .inl (cI, 61, .inl f_heardAt)), (h_lastAt, .inl (cI, 62, .inl f_lastAt)), (h_lostBy, .inl (cI, 61, .inl f_lostBy)), (mO h0 v0_thrown h_world h_images h_hasImage h_tape v0_taped h_five v0_size v0_at v0_from v0_token v0_value v0_faultKind v0_faultPlace h_fresh h_spokenAt h_heardAt h_lastAt h_answerAt t_3 t_4 t_5 v1 1 0 h_heardNow h_seenAt v0_roundFrom v0_roundTo v0_goLast v0_goAnswer v0_goHeard h_fewest h_costNow h_costThen h_lawsOf h_heardBy v0_lawMany v0_askWorst h_placesOf h_sentIn v0_placeMany v0_parentFirst h_lostBy h_many h_width h_numbers h_moving), (h_spokenAt, .inl (cI, 61, .inl g_7)), (h_world, .inl (cI, 53, .inl f_world))] H := hP
  have hD : va_D A [(h_answerAt, .inl (cI, 62, .inl f_answerAt)), (h_heardAt, .inl (cI, 61, .inl f_heardAt)), (h_lastAt, .inl (cI, 62, .inl f_lastAt)), (h_lostBy, .inl (cI, 61, .inl f_lostBy)), (mO h0 v0_thrown h_world h_images h_hasImage h_tape v0_taped h_five v0_size v0_at v0_from v0_token v0_value v0_faultKind v0_faultPlace h_fresh h_spokenAt h_heardAt h_lastAt h_answerAt t_3 t_4 t_5 v1 1 0 h_heardNow h_seenAt v0_roundFrom v0_roundTo v0_goLast v0_goAnswer v0_goHeard h_fewest h_costNow h_costThen h_lawsOf h_heardBy v0_lawMany v0_askWorst h_placesOf h_sentIn v0_placeMany v0_parentFirst h_lostBy h_many h_width h_numbers h_moving), (h_spokenAt, .inl (cI, 61, .inl g_7)), (h_world, .inl (cI, 53, .inl f_world))] := hD
  refine lv_aload_n hx hb dX12_goDrawn_19 rfl (lv_at hl 0 rfl) ?_
  refine wrVv (As := []) (rest := []) (wr := [(h_lostBy, .inl (cI, 61, .inl f_lostBy))]) ⟨hx, hb, hml, hown, hts⟩ (b_X12_goNight l G D cB cI cJ cZ cS cT H.size h0 v0_thrown h_world h_images h_hasImage h_tape v0_taped h_five v0_size v0_at v0_from v0_token v0_value v0_faultKind v0_faultPlace h_fresh h_spokenAt h_heardAt h_lastAt h_answerAt t_3 t_4 t_5 v1 1 0 h_heardNow h_seenAt v0_roundFrom v0_roundTo v0_goLast v0_goAnswer v0_goHeard h_fewest h_costNow h_costThen h_lawsOf h_heardBy v0_lawMany v0_askWorst h_placesOf h_sentIn v0_placeMany v0_parentFirst h_lostBy h_many h_width h_numbers h_moving f_answerAt f_heardAt f_lastAt g_7 f_world (by first | assumption | (have := zI0; have := zI1; have := zIm; omega) | decide) (by first | assumption | (have := zI0; have := zI1; have := zIm; omega) | decide) (by first | assumption | (have := zI0; have := zI1; have := zIm; omega) | decide) (by first | assumption | (have := zI0; have := zI1; have := zIm; omega) | decide) (by first | assumption | (have := zI0; have := zI1; have := zIm; omega) | decide) (by first | assumption | (have := zI0; have := zI1; have := zIm; omega) | decide) (by first | assumption | (have := zI0; have := zI1; have := zIm; omega) | decide) (by first | assumption | (have := zI0; have := zI1; have := zIm; omega) | decide) (by first | assumption | (have := zI0; have := zI1; have := zIm; omega) | decide) (by first | assumption | (have := zI0; have := zI1; have := zIm; omega) | decide) (by first | assumption | (have := zI0; have := zI1; have := zIm; omega) | decide) (by first | assumption | (have := zI0; have := zI1; have := zIm; omega) | decide) (by first | assumption | (have := zI0; have := zI1; have := zIm; omega) | decide) (by first | assumption | (have := zI0; have := zI1; have := zIm; omega) | decide) (by first | assumption | (have := zI0; have := zI1; have := zIm; omega) | decide) (by first | assumption | (have := zI0; have := zI1; have := zIm; omega) | decide) (by first | assumption | (have := zI0; have := zI1; have := zIm; omega) | decide) (by first | assumption | (have := zI0; have := zI1; have := zIm; omega) | decide) (by first | assumption | (have := zI0; have := zI1; have := zIm; omega) | decide) (by first | assumption | (have := zI0; have := zI1; have := zIm; omega) | decide) (by first | assumption | (have := zI0; have := zI1; have := zIm; omega) | decide) (by first | assumption | (have := zI0; have := zI1; have := zIm; omega) | decide)) hP hD hS hA hK hN hT hAB hG [4, 0, 1, 2, 5, 6] [3] rfl rfl (by decide) (by decide) (by decide) (cvB (n := 0) (inr24 _ (List.mem_of_getElem? (i := 23) rfl)) (inr25 _ (List.mem_of_getElem? (i := 0) rfl)) (inr25 _ (List.mem_of_getElem? (i := 1) rfl)) (inr1 _ (List.mem_of_getElem? (i := 5) rfl)) (inr25 _ (List.mem_of_getElem? (i := 2) rfl)) (by decide +kernel) hts rfl rfl ⟨Nat.le_of_ble_eq_true rfl, Nat.le_of_ble_eq_true rfl⟩) 0 12 rfl rfl rfl rfl hl.1 rfl (Nat.le_of_ble_eq_true rfl) ⟨Nat.le_of_ble_eq_true rfl, Nat.le_of_ble_eq_true rfl⟩ dX12_goDrawn_20 (fun x9 H locs h_14 hP hD hS => ?_)
  obtain ⟨t_15, t_16, g_17, g_18, g_19⟩ := x9
  have hP : va_P D vwCl [(h_lostBy, .inl (cI, 61, .inl f_lostBy)), (mO h0 v0_thrown h_world h_images h_hasImage h_tape v0_taped h_five v0_size v0_at v0_from v0_token v0_value v0_faultKind v0_faultPlace h_fresh h_spokenAt h_heardAt h_lastAt h_answerAt t_3 t_4 t_5 t_15 1 t_16 h_heardNow h_seenAt v0_roundFrom v0_roundTo v0_goLast v0_goAnswer v0_goHeard h_fewest h_costNow h_costThen h_lawsOf h_heardBy v0_lawMany v0_askWorst h_placesOf h_sentIn v0_placeMany v0_parentFirst h_lostBy h_many h_width h_numbers h_moving), (h_answerAt, .inl (cI, 62, .inl g_17)), (h_heardAt, .inl (cI, 61, .inl g_18)), (h_lastAt, .inl (cI, 62, .inl g_19)), (h_spokenAt, .inl (cI, 61, .inl g_7)), (h_world, .inl (cI, 53, .inl f_world))] H := hP
  have hD : va_D A [(h_lostBy, .inl (cI, 61, .inl f_lostBy)), (mO h0 v0_thrown h_world h_images h_hasImage h_tape v0_taped h_five v0_size v0_at v0_from v0_token v0_value v0_faultKind v0_faultPlace h_fresh h_spokenAt h_heardAt h_lastAt h_answerAt t_3 t_4 t_5 t_15 1 t_16 h_heardNow h_seenAt v0_roundFrom v0_roundTo v0_goLast v0_goAnswer v0_goHeard h_fewest h_costNow h_costThen h_lawsOf h_heardBy v0_lawMany v0_askWorst h_placesOf h_sentIn v0_placeMany v0_parentFirst h_lostBy h_many h_width h_numbers h_moving), (h_answerAt, .inl (cI, 62, .inl g_17)), (h_heardAt, .inl (cI, 61, .inl g_18)), (h_lastAt, .inl (cI, 62, .inl g_19)), (h_spokenAt, .inl (cI, 61, .inl g_7)), (h_world, .inl (cI, 53, .inl f_world))] := hD
  have h_14 : (sg sgLa g_17) ∧ (sg sgSp g_18) ∧ (sg sgLa g_19) := h_14
  obtain ⟨i_20, i_21, i_22⟩ := h_14
  refine lv_aload_n hx hb dX12_goDrawn_23 rfl (lv_at hl 0 rfl) ?_
  refine lv_iconst (v := 0) hx hb dX12_goDrawn_24 (by decide) ?_
  refine va_put (D := D) (ci := 12) (v := .int 0) (ty := .boolean) (C := RX12) (T := TX12) (N := 48) hx hb hts inlX12 tyX12 tyX12_ok nmX12 hown hK hP hD hS 1 rfl rfl 23 (by decide) (hts _ (inr24 _ (List.mem_of_getElem? (i := 18) rfl))) (fun _ h9 => h9) rfl (by decide +kernel) rfl rfl (Nat.le_of_ble_eq_true rfl) dX12_goDrawn_25 (fun H locs hP hD hS => ?_)
  have hP : va_P D vwCl [(h_lostBy, .inl (cI, 61, .inl f_lostBy)), (mO h0 v0_thrown h_world h_images h_hasImage h_tape v0_taped h_five v0_size v0_at v0_from v0_token v0_value v0_faultKind v0_faultPlace h_fresh h_spokenAt h_heardAt h_lastAt h_answerAt t_3 t_4 t_5 t_15 0 t_16 h_heardNow h_seenAt v0_roundFrom v0_roundTo v0_goLast v0_goAnswer v0_goHeard h_fewest h_costNow h_costThen h_lawsOf h_heardBy v0_lawMany v0_askWorst h_placesOf h_sentIn v0_placeMany v0_parentFirst h_lostBy h_many h_width h_numbers h_moving), (h_answerAt, .inl (cI, 62, .inl g_17)), (h_heardAt, .inl (cI, 61, .inl g_18)), (h_lastAt, .inl (cI, 62, .inl g_19)), (h_spokenAt, .inl (cI, 61, .inl g_7)), (h_world, .inl (cI, 53, .inl f_world))] H := hP
  have hD : va_D A [(h_lostBy, .inl (cI, 61, .inl f_lostBy)), (mO h0 v0_thrown h_world h_images h_hasImage h_tape v0_taped h_five v0_size v0_at v0_from v0_token v0_value v0_faultKind v0_faultPlace h_fresh h_spokenAt h_heardAt h_lastAt h_answerAt t_3 t_4 t_5 t_15 0 t_16 h_heardNow h_seenAt v0_roundFrom v0_roundTo v0_goLast v0_goAnswer v0_goHeard h_fewest h_costNow h_costThen h_lawsOf h_heardBy v0_lawMany v0_askWorst h_placesOf h_sentIn v0_placeMany v0_parentFirst h_lostBy h_many h_width h_numbers h_moving), (h_answerAt, .inl (cI, 62, .inl g_17)), (h_heardAt, .inl (cI, 61, .inl g_18)), (h_lastAt, .inl (cI, 62, .inl g_19)), (h_spokenAt, .inl (cI, 61, .inl g_7)), (h_world, .inl (cI, 53, .inl f_world))] := hD
  refine lv_iconst (v := 0) hx hb dX12_goDrawn_28 (by decide) ?_
  refine lv_istore_n (lv' := [(3, .int 0), (0, .ref h0), (1, .long v1)]) hx hb dX12_goDrawn_29 rfl hl (by decide) rfl (fun ls hl => ?_)
  refine lv_iconst (v := 0) hx hb dX12_goDrawn_30 (by decide) ?_
  refine lv_istore (lv' := [(4, .int 0), (3, .int 0), (0, .ref h0), (1, .long v1)]) hx hb dX12_goDrawn_31 hl (by decide) rfl (fun ls hl => ?_)
  exact b_X12_goDrawn_l33 h0 v0_thrown h_world h_images h_hasImage h_tape v0_taped h_five v0_size v0_at v0_from v0_token v0_value v0_faultKind v0_faultPlace h_fresh h_spokenAt h_heardAt h_lastAt h_answerAt v0_lawA v0_lawB v0_lawC v0_isDrawn h_heardNow h_seenAt v0_roundFrom v0_roundTo v0_goLast v0_goAnswer v0_goHeard h_fewest h_costNow h_costThen h_lawsOf h_heardBy v0_lawMany v0_askWorst h_placesOf h_sentIn v0_placeMany v0_parentFirst h_lostBy h_many h_width h_numbers h_moving f_answerAt f_heardAt f_lastAt f_spokenAt f_world t_3 t_4 t_5 t_15 t_16 g_17 g_18 g_19 g_7 (by first | assumption | (have := zI0; have := zI1; have := zIm; omega) | decide) (by first | assumption | (have := zI0; have := zI1; have := zIm; omega) | decide) (by first | assumption | (have := zI0; have := zI1; have := zIm; omega) | decide) (by first | assumption | (have := zI0; have := zI1; have := zIm; omega) | decide) (by first | assumption | (have := zI0; have := zI1; have := zIm; omega) | decide) (by first | assumption | (have := zI0; have := zI1; have := zIm; omega) | decide) (by first | assumption | (have := zI0; have := zI1; have := zIm; omega) | decide) (by first | assumption | (have := zI0; have := zI1; have := zIm; omega) | decide) (by first | assumption | (have := zI0; have := zI1; have := zIm; omega) | decide) (by first | assumption | (have := zI0; have := zI1; have := zIm; omega) | decide) (by first | assumption | (have := zI0; have := zI1; have := zIm; omega) | decide) (by first | assumption | (have := zI0; have := zI1; have := zIm; omega) | decide) (by first | assumption | (have := zI0; have := zI1; have := zIm; omega) | decide) (by first | assumption | (have := zI0; have := zI1; have := zIm; omega) | decide) (by first | assumption | (have := zI0; have := zI1; have := zIm; omega) | decide) (by first | assumption | (have := zI0; have := zI1; have := zIm; omega) | decide) (by first | assumption | (have := zI0; have := zI1; have := zIm; omega) | decide) (by first | assumption | (have := zI0; have := zI1; have := zIm; omega) | decide) (by first | assumption | (have := zI0; have := zI1; have := zIm; omega) | decide) (by first | assumption | (have := zI0; have := zI1; have := zIm; omega) | decide) (by first | assumption | (have := zI0; have := zI1; have := zIm; omega) | decide) (by first | assumption | (have := zI0; have := zI1; have := zIm; omega) | decide) (by first | assumption | (have := zI0; have := zI1; have := zIm; omega) | decide) (by first | assumption | (have := zI0; have := zI1; have := zIm; omega) | decide) (by first | assumption | (have := zI0; have := zI1; have := zIm; omega) | decide) (by first | assumption | (have := zI0; have := zI1; have := zIm; omega) | decide) (by first | assumption | (have := zI0; have := zI1; have := zIm; omega) | decide) (by first | assumption | (have := zI0; have := zI1; have := zIm; omega) | decide) (by first | assumption | (have := zI0; have := zI1; have := zIm; omega) | decide) (by first | assumption | (have := zI0; have := zI1; have := zIm; omega) | decide) (by first | assumption | (have := zI0; have := zI1; have := zIm; omega) | decide) (by first | assumption | (have := zI0; have := zI1; have := zIm; omega) | decide) C hG hAB hA ret _ (f_lostBy) (0) (0) _ _ _ (by first | assumption | (have := zI0; have := zI1; have := zIm; omega) | decide) (Nat.lt_succ_self _) (hP.sub [1, 2, 3, 4, 0, 5, 6] rfl) (hD.sub [1, 2, 3, 4, 0, 5, 6] (by decide) rfl) hS (lv_sub hl [0, 1, 2] rfl)
