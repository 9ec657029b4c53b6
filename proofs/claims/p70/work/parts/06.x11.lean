theorem dX11_best_0 : decode cX11_best 0 = .ok (.iload_n 1, 1) := by decide +kernel
theorem dX11_best_1 : decode cX11_best 1 = .ok (.i2l, 1) := by decide +kernel
theorem dX11_best_12 : decode cX11_best 12 = .ok (.bipush (-2), 2) := by decide +kernel
theorem dX11_best_14 : decode cX11_best 14 = .ok (.ireturn, 1) := by decide +kernel
theorem dX11_best_15 : decode cX11_best 15 = .ok (.iconst 0, 1) := by decide +kernel
theorem dX11_best_16 : decode cX11_best 16 = .ok (.istore_n 2, 1) := by decide +kernel
theorem dX11_best_17 : decode cX11_best 17 = .ok (.iconst 1, 1) := by decide +kernel
theorem dX11_best_18 : decode cX11_best 18 = .ok (.istore_n 3, 1) := by decide +kernel
theorem dX11_best_19 : decode cX11_best 19 = .ok (.iload_n 3, 1) := by decide +kernel
theorem dX11_best_2 : decode cX11_best 2 = .ok (.lconst 0, 1) := by decide +kernel
theorem dX11_best_20 : decode cX11_best 20 = .ok (.iconst 3, 1) := by decide +kernel
theorem dX11_best_21 : decode cX11_best 21 = .ok (.if_icmp .gt 24, 3) := by decide +kernel
theorem dX11_best_24 : decode cX11_best 24 = .ok (.iload_n 3, 1) := by decide +kernel
theorem dX11_best_25 : decode cX11_best 25 = .ok (.iload_n 1, 1) := by decide +kernel
theorem dX11_best_26 : decode cX11_best 26 = .ok (.invokestatic 350, 3) := by decide +kernel
theorem dX11_best_29 : decode cX11_best 29 = .ok (.iload_n 2, 1) := by decide +kernel
theorem dX11_best_3 : decode cX11_best 3 = .ok (.ldc2_w 348, 3) := by decide +kernel
theorem dX11_best_30 : decode cX11_best 30 = .ok (.iload_n 1, 1) := by decide +kernel
theorem dX11_best_31 : decode cX11_best 31 = .ok (.invokestatic 350, 3) := by decide +kernel
theorem dX11_best_34 : decode cX11_best 34 = .ok (.if_icmp .le 5, 3) := by decide +kernel
theorem dX11_best_37 : decode cX11_best 37 = .ok (.iload_n 3, 1) := by decide +kernel
theorem dX11_best_38 : decode cX11_best 38 = .ok (.istore_n 2, 1) := by decide +kernel
theorem dX11_best_39 : decode cX11_best 39 = .ok (.iinc 3 1, 3) := by decide +kernel
theorem dX11_best_42 : decode cX11_best 42 = .ok (.goto (-23), 3) := by decide +kernel
theorem dX11_best_45 : decode cX11_best 45 = .ok (.iload_n 2, 1) := by decide +kernel
theorem dX11_best_46 : decode cX11_best 46 = .ok (.ireturn, 1) := by decide +kernel
theorem dX11_best_6 : decode cX11_best 6 = .ok (.invokestatic 101, 3) := by decide +kernel
theorem dX11_best_9 : decode cX11_best 9 = .ok (.ifCond .eq 6, 3) := by decide +kernel
theorem dX11_chanceIsAtLeast_0 : decode cX11_chanceIsAtLeast 0 = .ok (.bipush 10, 2) := by decide +kernel
theorem dX11_chanceIsAtLeast_10 : decode cX11_chanceIsAtLeast 10 = .ok (.iload_n 2, 1) := by decide +kernel
theorem dX11_chanceIsAtLeast_11 : decode cX11_chanceIsAtLeast 11 = .ok (.invokestatic 366, 3) := by decide +kernel
theorem dX11_chanceIsAtLeast_14 : decode cX11_chanceIsAtLeast 14 = .ok (.lstore_n 3, 1) := by decide +kernel
theorem dX11_chanceIsAtLeast_15 : decode cX11_chanceIsAtLeast 15 = .ok (.iload_n 2, 1) := by decide +kernel
theorem dX11_chanceIsAtLeast_16 : decode cX11_chanceIsAtLeast 16 = .ok (.iconst 2, 1) := by decide +kernel
theorem dX11_chanceIsAtLeast_17 : decode cX11_chanceIsAtLeast 17 = .ok (.if_icmp .lt 25, 3) := by decide +kernel
theorem dX11_chanceIsAtLeast_2 : decode cX11_chanceIsAtLeast 2 = .ok (.aload_n 0, 1) := by decide +kernel
theorem dX11_chanceIsAtLeast_20 : decode cX11_chanceIsAtLeast 20 = .ok (.lload_n 3, 1) := by decide +kernel
theorem dX11_chanceIsAtLeast_21 : decode cX11_chanceIsAtLeast 21 = .ok (.iload_n 1, 1) := by decide +kernel
theorem dX11_chanceIsAtLeast_22 : decode cX11_chanceIsAtLeast 22 = .ok (.i2l, 1) := by decide +kernel
theorem dX11_chanceIsAtLeast_23 : decode cX11_chanceIsAtLeast 23 = .ok (.bipush 10, 2) := by decide +kernel
theorem dX11_chanceIsAtLeast_25 : decode cX11_chanceIsAtLeast 25 = .ok (.iload_n 2, 1) := by decide +kernel
theorem dX11_chanceIsAtLeast_26 : decode cX11_chanceIsAtLeast 26 = .ok (.iconst 2, 1) := by decide +kernel
theorem dX11_chanceIsAtLeast_27 : decode cX11_chanceIsAtLeast 27 = .ok (.isub, 1) := by decide +kernel
theorem dX11_chanceIsAtLeast_28 : decode cX11_chanceIsAtLeast 28 = .ok (.invokestatic 366, 3) := by decide +kernel
theorem dX11_chanceIsAtLeast_3 : decode cX11_chanceIsAtLeast 3 = .ok (.getfield 26, 3) := by decide +kernel
theorem dX11_chanceIsAtLeast_31 : decode cX11_chanceIsAtLeast 31 = .ok (.lmul, 1) := by decide +kernel
theorem dX11_chanceIsAtLeast_32 : decode cX11_chanceIsAtLeast 32 = .ok (.lcmp, 1) := by decide +kernel
theorem dX11_chanceIsAtLeast_33 : decode cX11_chanceIsAtLeast 33 = .ok (.ifCond .lt 7, 3) := by decide +kernel
theorem dX11_chanceIsAtLeast_36 : decode cX11_chanceIsAtLeast 36 = .ok (.iconst 1, 1) := by decide +kernel
theorem dX11_chanceIsAtLeast_37 : decode cX11_chanceIsAtLeast 37 = .ok (.goto 4, 3) := by decide +kernel
theorem dX11_chanceIsAtLeast_40 : decode cX11_chanceIsAtLeast 40 = .ok (.iconst 0, 1) := by decide +kernel
theorem dX11_chanceIsAtLeast_41 : decode cX11_chanceIsAtLeast 41 = .ok (.ireturn, 1) := by decide +kernel
theorem dX11_chanceIsAtLeast_42 : decode cX11_chanceIsAtLeast 42 = .ok (.lload_n 3, 1) := by decide +kernel
theorem dX11_chanceIsAtLeast_43 : decode cX11_chanceIsAtLeast 43 = .ok (.ldc2_w 370, 3) := by decide +kernel
theorem dX11_chanceIsAtLeast_46 : decode cX11_chanceIsAtLeast 46 = .ok (.lmul, 1) := by decide +kernel
theorem dX11_chanceIsAtLeast_47 : decode cX11_chanceIsAtLeast 47 = .ok (.iload_n 1, 1) := by decide +kernel
theorem dX11_chanceIsAtLeast_48 : decode cX11_chanceIsAtLeast 48 = .ok (.i2l, 1) := by decide +kernel
theorem dX11_chanceIsAtLeast_49 : decode cX11_chanceIsAtLeast 49 = .ok (.bipush 10, 2) := by decide +kernel
theorem dX11_chanceIsAtLeast_51 : decode cX11_chanceIsAtLeast 51 = .ok (.iload_n 2, 1) := by decide +kernel
theorem dX11_chanceIsAtLeast_52 : decode cX11_chanceIsAtLeast 52 = .ok (.invokestatic 366, 3) := by decide +kernel
theorem dX11_chanceIsAtLeast_55 : decode cX11_chanceIsAtLeast 55 = .ok (.lmul, 1) := by decide +kernel
theorem dX11_chanceIsAtLeast_56 : decode cX11_chanceIsAtLeast 56 = .ok (.lcmp, 1) := by decide +kernel
theorem dX11_chanceIsAtLeast_57 : decode cX11_chanceIsAtLeast 57 = .ok (.ifCond .lt 7, 3) := by decide +kernel
theorem dX11_chanceIsAtLeast_6 : decode cX11_chanceIsAtLeast 6 = .ok (.invokevirtual 357, 3) := by decide +kernel
theorem dX11_chanceIsAtLeast_60 : decode cX11_chanceIsAtLeast 60 = .ok (.iconst 1, 1) := by decide +kernel
theorem dX11_chanceIsAtLeast_61 : decode cX11_chanceIsAtLeast 61 = .ok (.goto 4, 3) := by decide +kernel
theorem dX11_chanceIsAtLeast_64 : decode cX11_chanceIsAtLeast 64 = .ok (.iconst 0, 1) := by decide +kernel
theorem dX11_chanceIsAtLeast_65 : decode cX11_chanceIsAtLeast 65 = .ok (.ireturn, 1) := by decide +kernel
theorem dX11_chanceIsAtLeast_9 : decode cX11_chanceIsAtLeast 9 = .ok (.isub, 1) := by decide +kernel
theorem dX11_chance_0 : decode cX11_chance 0 = .ok (.aload_n 0, 1) := by decide +kernel
theorem dX11_chance_1 : decode cX11_chance 1 = .ok (.invokevirtual 165, 3) := by decide +kernel
theorem dX11_chance_10 : decode cX11_chance 10 = .ok (.ldc2_w 353, 3) := by decide +kernel
theorem dX11_chance_13 : decode cX11_chance 13 = .ok (.invokestatic 101, 3) := by decide +kernel
theorem dX11_chance_16 : decode cX11_chance 16 = .ok (.ifCond .ne 13, 3) := by decide +kernel
theorem dX11_chance_19 : decode cX11_chance 19 = .ok (.iload_n 2, 1) := by decide +kernel
theorem dX11_chance_20 : decode cX11_chance 20 = .ok (.i2l, 1) := by decide +kernel
theorem dX11_chance_21 : decode cX11_chance 21 = .ok (.lconst 0, 1) := by decide +kernel
theorem dX11_chance_22 : decode cX11_chance 22 = .ok (.lconst 1, 1) := by decide +kernel
theorem dX11_chance_23 : decode cX11_chance 23 = .ok (.invokestatic 101, 3) := by decide +kernel
theorem dX11_chance_26 : decode cX11_chance 26 = .ok (.ifCond .eq 7, 3) := by decide +kernel
theorem dX11_chance_29 : decode cX11_chance 29 = .ok (.ldc2_w 355, 3) := by decide +kernel
theorem dX11_chance_32 : decode cX11_chance 32 = .ok (.lreturn, 1) := by decide +kernel
theorem dX11_chance_33 : decode cX11_chance 33 = .ok (.bipush 10, 2) := by decide +kernel
theorem dX11_chance_35 : decode cX11_chance 35 = .ok (.aload_n 0, 1) := by decide +kernel
theorem dX11_chance_36 : decode cX11_chance 36 = .ok (.getfield 26, 3) := by decide +kernel
theorem dX11_chance_39 : decode cX11_chance 39 = .ok (.invokevirtual 357, 3) := by decide +kernel
theorem dX11_chance_4 : decode cX11_chance 4 = .ok (.ifCond .ne 25, 3) := by decide +kernel
theorem dX11_chance_42 : decode cX11_chance 42 = .ok (.isub, 1) := by decide +kernel
theorem dX11_chance_43 : decode cX11_chance 43 = .ok (.istore_n 3, 1) := by decide +kernel
theorem dX11_chance_44 : decode cX11_chance 44 = .ok (.iload_n 3, 1) := by decide +kernel
theorem dX11_chance_45 : decode cX11_chance 45 = .ok (.bipush 10, 2) := by decide +kernel
theorem dX11_chance_47 : decode cX11_chance 47 = .ok (.invokestatic 360, 3) := by decide +kernel
theorem dX11_chance_50 : decode cX11_chance 50 = .ok (.istore 4, 2) := by decide +kernel
theorem dX11_chance_52 : decode cX11_chance 52 = .ok (.iload 4, 2) := by decide +kernel
theorem dX11_chance_54 : decode cX11_chance 54 = .ok (.ifCond .gt 7, 3) := by decide +kernel
theorem dX11_chance_57 : decode cX11_chance 57 = .ok (.ldc2_w 355, 3) := by decide +kernel
theorem dX11_chance_60 : decode cX11_chance 60 = .ok (.lreturn, 1) := by decide +kernel
theorem dX11_chance_61 : decode cX11_chance 61 = .ok (.aload_n 0, 1) := by decide +kernel
theorem dX11_chance_62 : decode cX11_chance 62 = .ok (.getfield 26, 3) := by decide +kernel
theorem dX11_chance_65 : decode cX11_chance 65 = .ok (.iload_n 1, 1) := by decide +kernel
theorem dX11_chance_66 : decode cX11_chance 66 = .ok (.invokevirtual 363, 3) := by decide +kernel
theorem dX11_chance_69 : decode cX11_chance 69 = .ok (.istore 5, 2) := by decide +kernel
theorem dX11_chance_7 : decode cX11_chance 7 = .ok (.iload_n 1, 1) := by decide +kernel
theorem dX11_chance_71 : decode cX11_chance 71 = .ok (.iload_n 2, 1) := by decide +kernel
theorem dX11_chance_72 : decode cX11_chance 72 = .ok (.ifCond .ne 15, 3) := by decide +kernel
theorem dX11_chance_75 : decode cX11_chance 75 = .ok (.iload_n 3, 1) := by decide +kernel
theorem dX11_chance_76 : decode cX11_chance 76 = .ok (.iload 4, 2) := by decide +kernel
theorem dX11_chance_78 : decode cX11_chance 78 = .ok (.idiv, 1) := by decide +kernel
theorem dX11_chance_79 : decode cX11_chance 79 = .ok (.iload 5, 2) := by decide +kernel
theorem dX11_chance_8 : decode cX11_chance 8 = .ok (.i2l, 1) := by decide +kernel
theorem dX11_chance_81 : decode cX11_chance 81 = .ok (.invokestatic 366, 3) := by decide +kernel
theorem dX11_chance_84 : decode cX11_chance 84 = .ok (.goto 13, 3) := by decide +kernel
theorem dX11_chance_87 : decode cX11_chance 87 = .ok (.bipush 10, 2) := by decide +kernel
theorem dX11_chance_89 : decode cX11_chance 89 = .ok (.iload 4, 2) := by decide +kernel
theorem dX11_chance_9 : decode cX11_chance 9 = .ok (.lconst 0, 1) := by decide +kernel
theorem dX11_chance_91 : decode cX11_chance 91 = .ok (.idiv, 1) := by decide +kernel
theorem dX11_chance_92 : decode cX11_chance 92 = .ok (.iload 5, 2) := by decide +kernel
theorem dX11_chance_94 : decode cX11_chance 94 = .ok (.invokestatic 366, 3) := by decide +kernel
theorem dX11_chance_97 : decode cX11_chance 97 = .ok (.lreturn, 1) := by decide +kernel
theorem dX11_commonDivisor_0 : decode cX11_commonDivisor 0 = .ok (.iload_n 1, 1) := by decide +kernel
theorem dX11_commonDivisor_1 : decode cX11_commonDivisor 1 = .ok (.istore_n 2, 1) := by decide +kernel
theorem dX11_commonDivisor_10 : decode cX11_commonDivisor 10 = .ok (.ifCond .ne 11, 3) := by decide +kernel
theorem dX11_commonDivisor_13 : decode cX11_commonDivisor 13 = .ok (.iload_n 1, 1) := by decide +kernel
theorem dX11_commonDivisor_14 : decode cX11_commonDivisor 14 = .ok (.iload_n 2, 1) := by decide +kernel
theorem dX11_commonDivisor_15 : decode cX11_commonDivisor 15 = .ok (.irem, 1) := by decide +kernel
theorem dX11_commonDivisor_16 : decode cX11_commonDivisor 16 = .ok (.ifCond .ne 5, 3) := by decide +kernel
theorem dX11_commonDivisor_19 : decode cX11_commonDivisor 19 = .ok (.iload_n 2, 1) := by decide +kernel
theorem dX11_commonDivisor_2 : decode cX11_commonDivisor 2 = .ok (.iload_n 2, 1) := by decide +kernel
theorem dX11_commonDivisor_20 : decode cX11_commonDivisor 20 = .ok (.ireturn, 1) := by decide +kernel
theorem dX11_commonDivisor_21 : decode cX11_commonDivisor 21 = .ok (.iinc 2 (-1), 3) := by decide +kernel
theorem dX11_commonDivisor_24 : decode cX11_commonDivisor 24 = .ok (.goto (-22), 3) := by decide +kernel
theorem dX11_commonDivisor_27 : decode cX11_commonDivisor 27 = .ok (.iconst 1, 1) := by decide +kernel
theorem dX11_commonDivisor_28 : decode cX11_commonDivisor 28 = .ok (.ireturn, 1) := by decide +kernel
theorem dX11_commonDivisor_3 : decode cX11_commonDivisor 3 = .ok (.iconst 1, 1) := by decide +kernel
theorem dX11_commonDivisor_4 : decode cX11_commonDivisor 4 = .ok (.if_icmp .le 23, 3) := by decide +kernel
theorem dX11_commonDivisor_7 : decode cX11_commonDivisor 7 = .ok (.iload_n 0, 1) := by decide +kernel
theorem dX11_commonDivisor_8 : decode cX11_commonDivisor 8 = .ok (.iload_n 2, 1) := by decide +kernel
theorem dX11_commonDivisor_9 : decode cX11_commonDivisor 9 = .ok (.irem, 1) := by decide +kernel
theorem dX11_drawn_0 : decode cX11_drawn 0 = .ok (.aload_n 0, 1) := by decide +kernel
theorem dX11_drawn_1 : decode cX11_drawn 1 = .ok (.iload_n 2, 1) := by decide +kernel
theorem dX11_drawn_10 : decode cX11_drawn 10 = .ok (.lconst 0, 1) := by decide +kernel
theorem dX11_drawn_11 : decode cX11_drawn 11 = .ok (.ldc2_w 255, 3) := by decide +kernel
theorem dX11_drawn_14 : decode cX11_drawn 14 = .ok (.invokestatic 101, 3) := by decide +kernel
theorem dX11_drawn_17 : decode cX11_drawn 17 = .ok (.ifCond .ne 15, 3) := by decide +kernel
theorem dX11_drawn_2 : decode cX11_drawn 2 = .ok (.invokevirtual 142, 3) := by decide +kernel
theorem dX11_drawn_20 : decode cX11_drawn 20 = .ok (.iload_n 3, 1) := by decide +kernel
theorem dX11_drawn_21 : decode cX11_drawn 21 = .ok (.i2l, 1) := by decide +kernel
theorem dX11_drawn_22 : decode cX11_drawn 22 = .ok (.lconst 0, 1) := by decide +kernel
theorem dX11_drawn_23 : decode cX11_drawn 23 = .ok (.ldc2_w 375, 3) := by decide +kernel
theorem dX11_drawn_26 : decode cX11_drawn 26 = .ok (.invokestatic 101, 3) := by decide +kernel
theorem dX11_drawn_29 : decode cX11_drawn 29 = .ok (.ifCond .eq 6, 3) := by decide +kernel
theorem dX11_drawn_32 : decode cX11_drawn 32 = .ok (.bipush (-2), 2) := by decide +kernel
theorem dX11_drawn_34 : decode cX11_drawn 34 = .ok (.ireturn, 1) := by decide +kernel
theorem dX11_drawn_35 : decode cX11_drawn 35 = .ok (.aload_n 0, 1) := by decide +kernel
theorem dX11_drawn_36 : decode cX11_drawn 36 = .ok (.getfield 89, 3) := by decide +kernel
theorem dX11_drawn_39 : decode cX11_drawn 39 = .ok (.aload_n 0, 1) := by decide +kernel
theorem dX11_drawn_40 : decode cX11_drawn 40 = .ok (.getfield 26, 3) := by decide +kernel
theorem dX11_drawn_43 : decode cX11_drawn 43 = .ok (.iload_n 1, 1) := by decide +kernel
theorem dX11_drawn_44 : decode cX11_drawn 44 = .ok (.iload_n 2, 1) := by decide +kernel
theorem dX11_drawn_45 : decode cX11_drawn 45 = .ok (.invokevirtual 377, 3) := by decide +kernel
theorem dX11_drawn_48 : decode cX11_drawn 48 = .ok (.iload_n 3, 1) := by decide +kernel
theorem dX11_drawn_49 : decode cX11_drawn 49 = .ok (.lookupswitch 43 #[(0, 27), (1, 35)], 27) := by decide +kernel
theorem dX11_drawn_5 : decode cX11_drawn 5 = .ok (.ifCond .ne 27, 3) := by decide +kernel
theorem dX11_drawn_76 : decode cX11_drawn 76 = .ok (.aload_n 0, 1) := by decide +kernel
theorem dX11_drawn_77 : decode cX11_drawn 77 = .ok (.getfield 89, 3) := by decide +kernel
theorem dX11_drawn_8 : decode cX11_drawn 8 = .ok (.iload_n 1, 1) := by decide +kernel
theorem dX11_drawn_80 : decode cX11_drawn 80 = .ok (.invokevirtual 381, 3) := by decide +kernel
theorem dX11_drawn_83 : decode cX11_drawn 83 = .ok (.ireturn, 1) := by decide +kernel
theorem dX11_drawn_84 : decode cX11_drawn 84 = .ok (.aload_n 0, 1) := by decide +kernel
theorem dX11_drawn_85 : decode cX11_drawn 85 = .ok (.getfield 89, 3) := by decide +kernel
theorem dX11_drawn_88 : decode cX11_drawn 88 = .ok (.invokevirtual 384, 3) := by decide +kernel
theorem dX11_drawn_9 : decode cX11_drawn 9 = .ok (.i2l, 1) := by decide +kernel
theorem dX11_drawn_91 : decode cX11_drawn 91 = .ok (.ireturn, 1) := by decide +kernel
theorem dX11_drawn_92 : decode cX11_drawn 92 = .ok (.aload_n 0, 1) := by decide +kernel
theorem dX11_drawn_93 : decode cX11_drawn 93 = .ok (.getfield 89, 3) := by decide +kernel
theorem dX11_drawn_96 : decode cX11_drawn 96 = .ok (.invokevirtual 387, 3) := by decide +kernel
theorem dX11_drawn_99 : decode cX11_drawn 99 = .ok (.ireturn, 1) := by decide +kernel
theorem dX11_luck_0 : decode cX11_luck 0 = .ok (.aload_n 0, 1) := by decide +kernel
theorem dX11_luck_1 : decode cX11_luck 1 = .ok (.iload_n 3, 1) := by decide +kernel
theorem dX11_luck_11 : decode cX11_luck 11 = .ok (.invokevirtual 172, 3) := by decide +kernel
theorem dX11_luck_14 : decode cX11_luck 14 = .ok (.ifCond .ne 27, 3) := by decide +kernel
theorem dX11_luck_17 : decode cX11_luck 17 = .ok (.iload_n 1, 1) := by decide +kernel
theorem dX11_luck_18 : decode cX11_luck 18 = .ok (.i2l, 1) := by decide +kernel
theorem dX11_luck_19 : decode cX11_luck 19 = .ok (.lconst 0, 1) := by decide +kernel
theorem dX11_luck_2 : decode cX11_luck 2 = .ok (.invokevirtual 142, 3) := by decide +kernel
theorem dX11_luck_20 : decode cX11_luck 20 = .ok (.ldc2_w 255, 3) := by decide +kernel
theorem dX11_luck_23 : decode cX11_luck 23 = .ok (.invokestatic 101, 3) := by decide +kernel
theorem dX11_luck_26 : decode cX11_luck 26 = .ok (.ifCond .ne 15, 3) := by decide +kernel
theorem dX11_luck_29 : decode cX11_luck 29 = .ok (.iload_n 2, 1) := by decide +kernel
theorem dX11_luck_30 : decode cX11_luck 30 = .ok (.i2l, 1) := by decide +kernel
theorem dX11_luck_31 : decode cX11_luck 31 = .ok (.lconst 1, 1) := by decide +kernel
theorem dX11_luck_32 : decode cX11_luck 32 = .ok (.ldc2_w 390, 3) := by decide +kernel
theorem dX11_luck_35 : decode cX11_luck 35 = .ok (.invokestatic 101, 3) := by decide +kernel
theorem dX11_luck_38 : decode cX11_luck 38 = .ok (.ifCond .eq 6, 3) := by decide +kernel
theorem dX11_luck_41 : decode cX11_luck 41 = .ok (.bipush (-2), 2) := by decide +kernel
theorem dX11_luck_43 : decode cX11_luck 43 = .ok (.ireturn, 1) := by decide +kernel
theorem dX11_luck_44 : decode cX11_luck 44 = .ok (.iconst 0, 1) := by decide +kernel
theorem dX11_luck_45 : decode cX11_luck 45 = .ok (.istore 5, 2) := by decide +kernel
theorem dX11_luck_47 : decode cX11_luck 47 = .ok (.iconst 0, 1) := by decide +kernel
theorem dX11_luck_48 : decode cX11_luck 48 = .ok (.istore 6, 2) := by decide +kernel
theorem dX11_luck_5 : decode cX11_luck 5 = .ok (.ifCond .ne 36, 3) := by decide +kernel
theorem dX11_luck_50 : decode cX11_luck 50 = .ok (.iload 6, 2) := by decide +kernel
theorem dX11_luck_52 : decode cX11_luck 52 = .ok (.iload_n 2, 1) := by decide +kernel
theorem dX11_luck_53 : decode cX11_luck 53 = .ok (.if_icmp .ge 40, 3) := by decide +kernel
theorem dX11_luck_56 : decode cX11_luck 56 = .ok (.aload_n 0, 1) := by decide +kernel
theorem dX11_luck_57 : decode cX11_luck 57 = .ok (.getfield 89, 3) := by decide +kernel
theorem dX11_luck_60 : decode cX11_luck 60 = .ok (.aload_n 0, 1) := by decide +kernel
theorem dX11_luck_61 : decode cX11_luck 61 = .ok (.getfield 26, 3) := by decide +kernel
theorem dX11_luck_64 : decode cX11_luck 64 = .ok (.iload_n 1, 1) := by decide +kernel
theorem dX11_luck_65 : decode cX11_luck 65 = .ok (.iload 6, 2) := by decide +kernel
theorem dX11_luck_67 : decode cX11_luck 67 = .ok (.iadd, 1) := by decide +kernel
theorem dX11_luck_68 : decode cX11_luck 68 = .ok (.iload_n 3, 1) := by decide +kernel
theorem dX11_luck_69 : decode cX11_luck 69 = .ok (.invokevirtual 377, 3) := by decide +kernel
theorem dX11_luck_72 : decode cX11_luck 72 = .ok (.aload_n 0, 1) := by decide +kernel
theorem dX11_luck_73 : decode cX11_luck 73 = .ok (.getfield 89, 3) := by decide +kernel
theorem dX11_luck_76 : decode cX11_luck 76 = .ok (.invokevirtual 381, 3) := by decide +kernel
theorem dX11_luck_79 : decode cX11_luck 79 = .ok (.iload 4, 2) := by decide +kernel
theorem dX11_luck_8 : decode cX11_luck 8 = .ok (.aload_n 0, 1) := by decide +kernel
theorem dX11_luck_81 : decode cX11_luck 81 = .ok (.if_icmp .ne 6, 3) := by decide +kernel
theorem dX11_luck_84 : decode cX11_luck 84 = .ok (.iinc 5 1, 3) := by decide +kernel
theorem dX11_luck_87 : decode cX11_luck 87 = .ok (.iinc 6 1, 3) := by decide +kernel
theorem dX11_luck_9 : decode cX11_luck 9 = .ok (.iload 4, 2) := by decide +kernel
theorem dX11_luck_90 : decode cX11_luck 90 = .ok (.goto (-40), 3) := by decide +kernel
theorem dX11_luck_93 : decode cX11_luck 93 = .ok (.iload 5, 2) := by decide +kernel
theorem dX11_luck_95 : decode cX11_luck 95 = .ok (.ireturn, 1) := by decide +kernel
theorem dX11_noneBetter_0 : decode cX11_noneBetter 0 = .ok (.iconst 0, 1) := by decide +kernel
theorem dX11_noneBetter_1 : decode cX11_noneBetter 1 = .ok (.istore_n 2, 1) := by decide +kernel
theorem dX11_noneBetter_12 : decode cX11_noneBetter 12 = .ok (.iload_n 0, 1) := by decide +kernel
theorem dX11_noneBetter_13 : decode cX11_noneBetter 13 = .ok (.iload_n 1, 1) := by decide +kernel
theorem dX11_noneBetter_14 : decode cX11_noneBetter 14 = .ok (.invokestatic 350, 3) := by decide +kernel
theorem dX11_noneBetter_17 : decode cX11_noneBetter 17 = .ok (.if_icmp .le 5, 3) := by decide +kernel
theorem dX11_noneBetter_2 : decode cX11_noneBetter 2 = .ok (.iload_n 2, 1) := by decide +kernel
theorem dX11_noneBetter_20 : decode cX11_noneBetter 20 = .ok (.iconst 0, 1) := by decide +kernel
theorem dX11_noneBetter_21 : decode cX11_noneBetter 21 = .ok (.ireturn, 1) := by decide +kernel
theorem dX11_noneBetter_22 : decode cX11_noneBetter 22 = .ok (.iinc 2 1, 3) := by decide +kernel
theorem dX11_noneBetter_25 : decode cX11_noneBetter 25 = .ok (.goto (-23), 3) := by decide +kernel
theorem dX11_noneBetter_28 : decode cX11_noneBetter 28 = .ok (.iconst 1, 1) := by decide +kernel
theorem dX11_noneBetter_29 : decode cX11_noneBetter 29 = .ok (.ireturn, 1) := by decide +kernel
theorem dX11_noneBetter_3 : decode cX11_noneBetter 3 = .ok (.iconst 3, 1) := by decide +kernel
theorem dX11_noneBetter_4 : decode cX11_noneBetter 4 = .ok (.if_icmp .gt 24, 3) := by decide +kernel
theorem dX11_noneBetter_7 : decode cX11_noneBetter 7 = .ok (.iload_n 2, 1) := by decide +kernel
theorem dX11_noneBetter_8 : decode cX11_noneBetter 8 = .ok (.iload_n 1, 1) := by decide +kernel
theorem dX11_noneBetter_9 : decode cX11_noneBetter 9 = .ok (.invokestatic 350, 3) := by decide +kernel
theorem dX11_parent_0 : decode cX11_parent 0 = .ok (.aload_n 0, 1) := by decide +kernel
theorem dX11_parent_1 : decode cX11_parent 1 = .ok (.iload_n 1, 1) := by decide +kernel
theorem dX11_parent_10 : decode cX11_parent 10 = .ok (.ireturn, 1) := by decide +kernel
theorem dX11_parent_11 : decode cX11_parent 11 = .ok (.iconst 0, 1) := by decide +kernel
theorem dX11_parent_12 : decode cX11_parent 12 = .ok (.istore_n 2, 1) := by decide +kernel
theorem dX11_parent_13 : decode cX11_parent 13 = .ok (.iload_n 2, 1) := by decide +kernel
theorem dX11_parent_14 : decode cX11_parent 14 = .ok (.aload_n 0, 1) := by decide +kernel
theorem dX11_parent_15 : decode cX11_parent 15 = .ok (.getfield 26, 3) := by decide +kernel
theorem dX11_parent_18 : decode cX11_parent 18 = .ok (.invokevirtual 129, 3) := by decide +kernel
theorem dX11_parent_2 : decode cX11_parent 2 = .ok (.invokevirtual 172, 3) := by decide +kernel
theorem dX11_parent_21 : decode cX11_parent 21 = .ok (.if_icmp .ge 50, 3) := by decide +kernel
theorem dX11_parent_24 : decode cX11_parent 24 = .ok (.iload_n 2, 1) := by decide +kernel
theorem dX11_parent_25 : decode cX11_parent 25 = .ok (.iconst 1, 1) := by decide +kernel
theorem dX11_parent_26 : decode cX11_parent 26 = .ok (.iadd, 1) := by decide +kernel
theorem dX11_parent_27 : decode cX11_parent 27 = .ok (.istore_n 3, 1) := by decide +kernel
theorem dX11_parent_28 : decode cX11_parent 28 = .ok (.iload_n 3, 1) := by decide +kernel
theorem dX11_parent_29 : decode cX11_parent 29 = .ok (.aload_n 0, 1) := by decide +kernel
theorem dX11_parent_30 : decode cX11_parent 30 = .ok (.getfield 26, 3) := by decide +kernel
theorem dX11_parent_33 : decode cX11_parent 33 = .ok (.invokevirtual 129, 3) := by decide +kernel
theorem dX11_parent_36 : decode cX11_parent 36 = .ok (.if_icmp .ge 29, 3) := by decide +kernel
theorem dX11_parent_39 : decode cX11_parent 39 = .ok (.aload_n 0, 1) := by decide +kernel
theorem dX11_parent_40 : decode cX11_parent 40 = .ok (.getfield 26, 3) := by decide +kernel
theorem dX11_parent_43 : decode cX11_parent 43 = .ok (.iload_n 2, 1) := by decide +kernel
theorem dX11_parent_44 : decode cX11_parent 44 = .ok (.iload_n 3, 1) := by decide +kernel
theorem dX11_parent_45 : decode cX11_parent 45 = .ok (.iload_n 1, 1) := by decide +kernel
theorem dX11_parent_46 : decode cX11_parent 46 = .ok (.invokevirtual 341, 3) := by decide +kernel
theorem dX11_parent_49 : decode cX11_parent 49 = .ok (.ifCond .eq 10, 3) := by decide +kernel
theorem dX11_parent_5 : decode cX11_parent 5 = .ok (.ifCond .eq 6, 3) := by decide +kernel
theorem dX11_parent_52 : decode cX11_parent 52 = .ok (.bipush 10, 2) := by decide +kernel
theorem dX11_parent_54 : decode cX11_parent 54 = .ok (.iload_n 2, 1) := by decide +kernel
theorem dX11_parent_55 : decode cX11_parent 55 = .ok (.imul, 1) := by decide +kernel
theorem dX11_parent_56 : decode cX11_parent 56 = .ok (.iload_n 3, 1) := by decide +kernel
theorem dX11_parent_57 : decode cX11_parent 57 = .ok (.iadd, 1) := by decide +kernel
theorem dX11_parent_58 : decode cX11_parent 58 = .ok (.ireturn, 1) := by decide +kernel
theorem dX11_parent_59 : decode cX11_parent 59 = .ok (.iinc 3 1, 3) := by decide +kernel
theorem dX11_parent_62 : decode cX11_parent 62 = .ok (.goto (-34), 3) := by decide +kernel
theorem dX11_parent_65 : decode cX11_parent 65 = .ok (.iinc 2 1, 3) := by decide +kernel
theorem dX11_parent_68 : decode cX11_parent 68 = .ok (.goto (-55), 3) := by decide +kernel
theorem dX11_parent_71 : decode cX11_parent 71 = .ok (.iconst (-1), 1) := by decide +kernel
theorem dX11_parent_72 : decode cX11_parent 72 = .ok (.ireturn, 1) := by decide +kernel
theorem dX11_parent_8 : decode cX11_parent 8 = .ok (.bipush (-2), 2) := by decide +kernel
theorem dX11_parents_0 : decode cX11_parents 0 = .ok (.aload_n 0, 1) := by decide +kernel
theorem dX11_parents_1 : decode cX11_parents 1 = .ok (.iload_n 1, 1) := by decide +kernel
theorem dX11_parents_10 : decode cX11_parents 10 = .ok (.ireturn, 1) := by decide +kernel
theorem dX11_parents_11 : decode cX11_parents 11 = .ok (.iconst 0, 1) := by decide +kernel
theorem dX11_parents_12 : decode cX11_parents 12 = .ok (.istore_n 2, 1) := by decide +kernel
theorem dX11_parents_13 : decode cX11_parents 13 = .ok (.iconst 0, 1) := by decide +kernel
theorem dX11_parents_14 : decode cX11_parents 14 = .ok (.istore_n 3, 1) := by decide +kernel
theorem dX11_parents_15 : decode cX11_parents 15 = .ok (.iload_n 3, 1) := by decide +kernel
theorem dX11_parents_16 : decode cX11_parents 16 = .ok (.aload_n 0, 1) := by decide +kernel
theorem dX11_parents_17 : decode cX11_parents 17 = .ok (.getfield 26, 3) := by decide +kernel
theorem dX11_parents_2 : decode cX11_parents 2 = .ok (.invokevirtual 172, 3) := by decide +kernel
theorem dX11_parents_20 : decode cX11_parents 20 = .ok (.invokevirtual 129, 3) := by decide +kernel
theorem dX11_parents_23 : decode cX11_parents 23 = .ok (.if_icmp .ge 49, 3) := by decide +kernel
theorem dX11_parents_26 : decode cX11_parents 26 = .ok (.iload_n 3, 1) := by decide +kernel
theorem dX11_parents_27 : decode cX11_parents 27 = .ok (.iconst 1, 1) := by decide +kernel
theorem dX11_parents_28 : decode cX11_parents 28 = .ok (.iadd, 1) := by decide +kernel
theorem dX11_parents_29 : decode cX11_parents 29 = .ok (.istore 4, 2) := by decide +kernel
theorem dX11_parents_31 : decode cX11_parents 31 = .ok (.iload 4, 2) := by decide +kernel
theorem dX11_parents_33 : decode cX11_parents 33 = .ok (.aload_n 0, 1) := by decide +kernel
theorem dX11_parents_34 : decode cX11_parents 34 = .ok (.getfield 26, 3) := by decide +kernel
theorem dX11_parents_37 : decode cX11_parents 37 = .ok (.invokevirtual 129, 3) := by decide +kernel
theorem dX11_parents_40 : decode cX11_parents 40 = .ok (.if_icmp .ge 26, 3) := by decide +kernel
theorem dX11_parents_43 : decode cX11_parents 43 = .ok (.aload_n 0, 1) := by decide +kernel
theorem dX11_parents_44 : decode cX11_parents 44 = .ok (.getfield 26, 3) := by decide +kernel
theorem dX11_parents_47 : decode cX11_parents 47 = .ok (.iload_n 3, 1) := by decide +kernel
theorem dX11_parents_48 : decode cX11_parents 48 = .ok (.iload 4, 2) := by decide +kernel
theorem dX11_parents_5 : decode cX11_parents 5 = .ok (.ifCond .eq 6, 3) := by decide +kernel
theorem dX11_parents_50 : decode cX11_parents 50 = .ok (.iload_n 1, 1) := by decide +kernel
theorem dX11_parents_51 : decode cX11_parents 51 = .ok (.invokevirtual 341, 3) := by decide +kernel
theorem dX11_parents_54 : decode cX11_parents 54 = .ok (.ifCond .eq 6, 3) := by decide +kernel
theorem dX11_parents_57 : decode cX11_parents 57 = .ok (.iinc 2 1, 3) := by decide +kernel
theorem dX11_parents_60 : decode cX11_parents 60 = .ok (.iinc 4 1, 3) := by decide +kernel
theorem dX11_parents_63 : decode cX11_parents 63 = .ok (.goto (-32), 3) := by decide +kernel
theorem dX11_parents_66 : decode cX11_parents 66 = .ok (.iinc 3 1, 3) := by decide +kernel
theorem dX11_parents_69 : decode cX11_parents 69 = .ok (.goto (-54), 3) := by decide +kernel
theorem dX11_parents_72 : decode cX11_parents 72 = .ok (.iload_n 2, 1) := by decide +kernel
theorem dX11_parents_73 : decode cX11_parents 73 = .ok (.ireturn, 1) := by decide +kernel
theorem dX11_parents_8 : decode cX11_parents 8 = .ok (.bipush (-2), 2) := by decide +kernel
theorem dX11_power_0 : decode cX11_power 0 = .ok (.lconst 1, 1) := by decide +kernel
theorem dX11_power_1 : decode cX11_power 1 = .ok (.lstore_n 2, 1) := by decide +kernel
theorem dX11_power_11 : decode cX11_power 11 = .ok (.lload_n 2, 1) := by decide +kernel
theorem dX11_power_12 : decode cX11_power 12 = .ok (.iload_n 0, 1) := by decide +kernel
theorem dX11_power_13 : decode cX11_power 13 = .ok (.i2l, 1) := by decide +kernel
theorem dX11_power_14 : decode cX11_power 14 = .ok (.lmul, 1) := by decide +kernel
theorem dX11_power_15 : decode cX11_power 15 = .ok (.lstore_n 2, 1) := by decide +kernel
theorem dX11_power_16 : decode cX11_power 16 = .ok (.iinc 4 1, 3) := by decide +kernel
theorem dX11_power_19 : decode cX11_power 19 = .ok (.goto (-14), 3) := by decide +kernel
theorem dX11_power_2 : decode cX11_power 2 = .ok (.iconst 0, 1) := by decide +kernel
theorem dX11_power_22 : decode cX11_power 22 = .ok (.lload_n 2, 1) := by decide +kernel
theorem dX11_power_23 : decode cX11_power 23 = .ok (.lreturn, 1) := by decide +kernel
theorem dX11_power_3 : decode cX11_power 3 = .ok (.istore 4, 2) := by decide +kernel
theorem dX11_power_5 : decode cX11_power 5 = .ok (.iload 4, 2) := by decide +kernel
theorem dX11_power_7 : decode cX11_power 7 = .ok (.iload_n 1, 1) := by decide +kernel
theorem dX11_power_8 : decode cX11_power 8 = .ok (.if_icmp .ge 14, 3) := by decide +kernel
theorem dX11_rests_0 : decode cX11_rests 0 = .ok (.iconst 0, 1) := by decide +kernel
theorem dX11_rests_1 : decode cX11_rests 1 = .ok (.istore_n 1, 1) := by decide +kernel
theorem dX11_rests_10 : decode cX11_rests 10 = .ok (.istore_n 3, 1) := by decide +kernel
theorem dX11_rests_11 : decode cX11_rests 11 = .ok (.iload_n 3, 1) := by decide +kernel
theorem dX11_rests_12 : decode cX11_rests 12 = .ok (.iconst 3, 1) := by decide +kernel
theorem dX11_rests_13 : decode cX11_rests 13 = .ok (.if_icmp .gt 28, 3) := by decide +kernel
theorem dX11_rests_16 : decode cX11_rests 16 = .ok (.iload_n 2, 1) := by decide +kernel
theorem dX11_rests_17 : decode cX11_rests 17 = .ok (.iload_n 3, 1) := by decide +kernel
theorem dX11_rests_18 : decode cX11_rests 18 = .ok (.invokestatic 345, 3) := by decide +kernel
theorem dX11_rests_2 : decode cX11_rests 2 = .ok (.iconst 0, 1) := by decide +kernel
theorem dX11_rests_21 : decode cX11_rests 21 = .ok (.ifCond .eq 14, 3) := by decide +kernel
theorem dX11_rests_24 : decode cX11_rests 24 = .ok (.iload_n 3, 1) := by decide +kernel
theorem dX11_rests_25 : decode cX11_rests 25 = .ok (.iload_n 2, 1) := by decide +kernel
theorem dX11_rests_26 : decode cX11_rests 26 = .ok (.invokestatic 345, 3) := by decide +kernel
theorem dX11_rests_29 : decode cX11_rests 29 = .ok (.ifCond .eq 6, 3) := by decide +kernel
theorem dX11_rests_3 : decode cX11_rests 3 = .ok (.istore_n 2, 1) := by decide +kernel
theorem dX11_rests_35 : decode cX11_rests 35 = .ok (.iinc 3 1, 3) := by decide +kernel
theorem dX11_rests_38 : decode cX11_rests 38 = .ok (.goto (-27), 3) := by decide +kernel
theorem dX11_rests_4 : decode cX11_rests 4 = .ok (.iload_n 2, 1) := by decide +kernel
theorem dX11_rests_41 : decode cX11_rests 41 = .ok (.iinc 2 1, 3) := by decide +kernel
theorem dX11_rests_44 : decode cX11_rests 44 = .ok (.goto (-40), 3) := by decide +kernel
theorem dX11_rests_47 : decode cX11_rests 47 = .ok (.iload_n 1, 1) := by decide +kernel
theorem dX11_rests_48 : decode cX11_rests 48 = .ok (.ireturn, 1) := by decide +kernel
theorem dX11_rests_5 : decode cX11_rests 5 = .ok (.iconst 3, 1) := by decide +kernel
theorem dX11_rests_6 : decode cX11_rests 6 = .ok (.if_icmp .gt 41, 3) := by decide +kernel
theorem dX11_rests_9 : decode cX11_rests 9 = .ok (.iconst 0, 1) := by decide +kernel
theorem dX11_reward_0 : decode cX11_reward 0 = .ok (.iload_n 0, 1) := by decide +kernel
theorem dX11_reward_1 : decode cX11_reward 1 = .ok (.iload_n 1, 1) := by decide +kernel
theorem dX11_reward_10 : decode cX11_reward 10 = .ok (.iload_n 0, 1) := by decide +kernel
theorem dX11_reward_11 : decode cX11_reward 11 = .ok (.iload_n 1, 1) := by decide +kernel
theorem dX11_reward_12 : decode cX11_reward 12 = .ok (.if_icmp .ne 7, 3) := by decide +kernel
theorem dX11_reward_15 : decode cX11_reward 15 = .ok (.iconst 4, 1) := by decide +kernel
theorem dX11_reward_16 : decode cX11_reward 16 = .ok (.goto 4, 3) := by decide +kernel
theorem dX11_reward_19 : decode cX11_reward 19 = .ok (.iconst 0, 1) := by decide +kernel
theorem dX11_reward_2 : decode cX11_reward 2 = .ok (.if_icmp .le 8, 3) := by decide +kernel
theorem dX11_reward_20 : decode cX11_reward 20 = .ok (.istore_n 2, 1) := by decide +kernel
theorem dX11_reward_21 : decode cX11_reward 21 = .ok (.iload_n 2, 1) := by decide +kernel
theorem dX11_reward_22 : decode cX11_reward 22 = .ok (.iload_n 0, 1) := by decide +kernel
theorem dX11_reward_23 : decode cX11_reward 23 = .ok (.iload_n 0, 1) := by decide +kernel
theorem dX11_reward_24 : decode cX11_reward 24 = .ok (.imul, 1) := by decide +kernel
theorem dX11_reward_25 : decode cX11_reward 25 = .ok (.isub, 1) := by decide +kernel
theorem dX11_reward_26 : decode cX11_reward 26 = .ok (.ireturn, 1) := by decide +kernel
theorem dX11_reward_5 : decode cX11_reward 5 = .ok (.bipush 10, 2) := by decide +kernel
theorem dX11_reward_7 : decode cX11_reward 7 = .ok (.goto 13, 3) := by decide +kernel
theorem dX11_set_0 : decode cX11_set 0 = .ok (.aload_n 0, 1) := by decide +kernel
theorem dX11_set_1 : decode cX11_set 1 = .ok (.iload_n 1, 1) := by decide +kernel
theorem dX11_set_10 : decode cX11_set 10 = .ok (.iload_n 2, 1) := by decide +kernel
theorem dX11_set_11 : decode cX11_set 11 = .ok (.ireturn, 1) := by decide +kernel
theorem dX11_set_12 : decode cX11_set 12 = .ok (.aload_n 0, 1) := by decide +kernel
theorem dX11_set_13 : decode cX11_set 13 = .ok (.getfield 43, 3) := by decide +kernel
theorem dX11_set_16 : decode cX11_set 16 = .ok (.iload_n 1, 1) := by decide +kernel
theorem dX11_set_17 : decode cX11_set 17 = .ok (.aaload, 1) := by decide +kernel
theorem dX11_set_18 : decode cX11_set 18 = .ok (.invokevirtual 337, 3) := by decide +kernel
theorem dX11_set_2 : decode cX11_set 2 = .ok (.invokevirtual 324, 3) := by decide +kernel
theorem dX11_set_21 : decode cX11_set 21 = .ok (.ifCond .ne 6, 3) := by decide +kernel
theorem dX11_set_24 : decode cX11_set 24 = .ok (.bipush (-2), 2) := by decide +kernel
theorem dX11_set_26 : decode cX11_set 26 = .ok (.ireturn, 1) := by decide +kernel
theorem dX11_set_27 : decode cX11_set 27 = .ok (.aload_n 0, 1) := by decide +kernel
theorem dX11_set_28 : decode cX11_set 28 = .ok (.getfield 82, 3) := by decide +kernel
theorem dX11_set_31 : decode cX11_set 31 = .ok (.aload_n 0, 1) := by decide +kernel
theorem dX11_set_32 : decode cX11_set 32 = .ok (.getfield 26, 3) := by decide +kernel
theorem dX11_set_35 : decode cX11_set 35 = .ok (.aload_n 0, 1) := by decide +kernel
theorem dX11_set_36 : decode cX11_set 36 = .ok (.getfield 43, 3) := by decide +kernel
theorem dX11_set_39 : decode cX11_set 39 = .ok (.iload_n 1, 1) := by decide +kernel
theorem dX11_set_40 : decode cX11_set 40 = .ok (.aaload, 1) := by decide +kernel
theorem dX11_set_41 : decode cX11_set 41 = .ok (.invokevirtual 327, 3) := by decide +kernel
theorem dX11_set_44 : decode cX11_set 44 = .ok (.aload_n 0, 1) := by decide +kernel
theorem dX11_set_45 : decode cX11_set 45 = .ok (.getfield 82, 3) := by decide +kernel
theorem dX11_set_48 : decode cX11_set 48 = .ok (.invokevirtual 338, 3) := by decide +kernel
theorem dX11_set_5 : decode cX11_set 5 = .ok (.istore_n 2, 1) := by decide +kernel
theorem dX11_set_51 : decode cX11_set 51 = .ok (.ireturn, 1) := by decide +kernel
theorem dX11_set_6 : decode cX11_set 6 = .ok (.iload_n 2, 1) := by decide +kernel
theorem dX11_set_7 : decode cX11_set 7 = .ok (.ifCond .eq 5, 3) := by decide +kernel
theorem dX11_sounds_0 : decode cX11_sounds 0 = .ok (.iload_n 1, 1) := by decide +kernel
theorem dX11_sounds_1 : decode cX11_sounds 1 = .ok (.i2l, 1) := by decide +kernel
theorem dX11_sounds_12 : decode cX11_sounds 12 = .ok (.iload_n 2, 1) := by decide +kernel
theorem dX11_sounds_13 : decode cX11_sounds 13 = .ok (.i2l, 1) := by decide +kernel
theorem dX11_sounds_14 : decode cX11_sounds 14 = .ok (.lconst 0, 1) := by decide +kernel
theorem dX11_sounds_15 : decode cX11_sounds 15 = .ok (.ldc2_w 348, 3) := by decide +kernel
theorem dX11_sounds_18 : decode cX11_sounds 18 = .ok (.invokestatic 101, 3) := by decide +kernel
theorem dX11_sounds_2 : decode cX11_sounds 2 = .ok (.lconst 0, 1) := by decide +kernel
theorem dX11_sounds_21 : decode cX11_sounds 21 = .ok (.ifCond .eq 9, 3) := by decide +kernel
theorem dX11_sounds_24 : decode cX11_sounds 24 = .ok (.sipush (-1000), 3) := by decide +kernel
theorem dX11_sounds_27 : decode cX11_sounds 27 = .ok (.goto 8, 3) := by decide +kernel
theorem dX11_sounds_3 : decode cX11_sounds 3 = .ok (.ldc2_w 348, 3) := by decide +kernel
theorem dX11_sounds_30 : decode cX11_sounds 30 = .ok (.iload_n 1, 1) := by decide +kernel
theorem dX11_sounds_31 : decode cX11_sounds 31 = .ok (.iload_n 2, 1) := by decide +kernel
theorem dX11_sounds_32 : decode cX11_sounds 32 = .ok (.invokestatic 350, 3) := by decide +kernel
theorem dX11_sounds_35 : decode cX11_sounds 35 = .ok (.ireturn, 1) := by decide +kernel
theorem dX11_sounds_6 : decode cX11_sounds 6 = .ok (.invokestatic 101, 3) := by decide +kernel
theorem dX11_sounds_9 : decode cX11_sounds 9 = .ok (.ifCond .ne 15, 3) := by decide +kernel
theorem dX11_speak_0 : decode cX11_speak 0 = .ok (.aload_n 0, 1) := by decide +kernel
theorem dX11_speak_1 : decode cX11_speak 1 = .ok (.iload_n 1, 1) := by decide +kernel
theorem dX11_speak_10 : decode cX11_speak 10 = .ok (.if_icmp .eq 14, 3) := by decide +kernel
theorem dX11_speak_13 : decode cX11_speak 13 = .ok (.aload_n 0, 1) := by decide +kernel
theorem dX11_speak_14 : decode cX11_speak 14 = .ok (.iload_n 2, 1) := by decide +kernel
theorem dX11_speak_15 : decode cX11_speak 15 = .ok (.invokevirtual 172, 3) := by decide +kernel
theorem dX11_speak_18 : decode cX11_speak 18 = .ok (.ifCond .eq 6, 3) := by decide +kernel
theorem dX11_speak_2 : decode cX11_speak 2 = .ok (.invokevirtual 142, 3) := by decide +kernel
theorem dX11_speak_21 : decode cX11_speak 21 = .ok (.bipush (-2), 2) := by decide +kernel
theorem dX11_speak_23 : decode cX11_speak 23 = .ok (.ireturn, 1) := by decide +kernel
theorem dX11_speak_24 : decode cX11_speak 24 = .ok (.aload_n 0, 1) := by decide +kernel
theorem dX11_speak_25 : decode cX11_speak 25 = .ok (.getfield 26, 3) := by decide +kernel
theorem dX11_speak_28 : decode cX11_speak 28 = .ok (.invokevirtual 275, 3) := by decide +kernel
theorem dX11_speak_31 : decode cX11_speak 31 = .ok (.invokevirtual 392, 3) := by decide +kernel
theorem dX11_speak_34 : decode cX11_speak 34 = .ok (.bipush 30, 2) := by decide +kernel
theorem dX11_speak_36 : decode cX11_speak 36 = .ok (.if_icmp .lt 6, 3) := by decide +kernel
theorem dX11_speak_39 : decode cX11_speak 39 = .ok (.bipush (-5), 2) := by decide +kernel
theorem dX11_speak_41 : decode cX11_speak 41 = .ok (.ireturn, 1) := by decide +kernel
theorem dX11_speak_42 : decode cX11_speak 42 = .ok (.aload_n 0, 1) := by decide +kernel
theorem dX11_speak_43 : decode cX11_speak 43 = .ok (.getfield 26, 3) := by decide +kernel
theorem dX11_speak_46 : decode cX11_speak 46 = .ok (.invokevirtual 275, 3) := by decide +kernel
theorem dX11_speak_49 : decode cX11_speak 49 = .ok (.iload_n 1, 1) := by decide +kernel
theorem dX11_speak_5 : decode cX11_speak 5 = .ok (.ifCond .ne 16, 3) := by decide +kernel
theorem dX11_speak_50 : decode cX11_speak 50 = .ok (.invokevirtual 393, 3) := by decide +kernel
theorem dX11_speak_53 : decode cX11_speak 53 = .ok (.istore_n 3, 1) := by decide +kernel
theorem dX11_speak_54 : decode cX11_speak 54 = .ok (.aload_n 0, 1) := by decide +kernel
theorem dX11_speak_55 : decode cX11_speak 55 = .ok (.getfield 26, 3) := by decide +kernel
theorem dX11_speak_58 : decode cX11_speak 58 = .ok (.invokevirtual 275, 3) := by decide +kernel
theorem dX11_speak_61 : decode cX11_speak 61 = .ok (.iload_n 1, 1) := by decide +kernel
theorem dX11_speak_62 : decode cX11_speak 62 = .ok (.iload_n 2, 1) := by decide +kernel
theorem dX11_speak_63 : decode cX11_speak 63 = .ok (.invokevirtual 396, 3) := by decide +kernel
theorem dX11_speak_66 : decode cX11_speak 66 = .ok (.iload_n 3, 1) := by decide +kernel
theorem dX11_speak_67 : decode cX11_speak 67 = .ok (.ireturn, 1) := by decide +kernel
theorem dX11_speak_8 : decode cX11_speak 8 = .ok (.iload_n 2, 1) := by decide +kernel
theorem dX11_speak_9 : decode cX11_speak 9 = .ok (.iconst (-1), 1) := by decide +kernel
theorem dX11_sure_0 : decode cX11_sure 0 = .ok (.aload_n 0, 1) := by decide +kernel
theorem dX11_sure_1 : decode cX11_sure 1 = .ok (.invokevirtual 165, 3) := by decide +kernel
theorem dX11_sure_10 : decode cX11_sure 10 = .ok (.ldc2_w 370, 3) := by decide +kernel
theorem dX11_sure_13 : decode cX11_sure 13 = .ok (.invokestatic 101, 3) := by decide +kernel
theorem dX11_sure_16 : decode cX11_sure 16 = .ok (.ifCond .eq 6, 3) := by decide +kernel
theorem dX11_sure_19 : decode cX11_sure 19 = .ok (.bipush (-2), 2) := by decide +kernel
theorem dX11_sure_21 : decode cX11_sure 21 = .ok (.ireturn, 1) := by decide +kernel
theorem dX11_sure_22 : decode cX11_sure 22 = .ok (.bipush 17, 2) := by decide +kernel
theorem dX11_sure_24 : decode cX11_sure 24 = .ok (.istore_n 2, 1) := by decide +kernel
theorem dX11_sure_25 : decode cX11_sure 25 = .ok (.iload_n 2, 1) := by decide +kernel
theorem dX11_sure_26 : decode cX11_sure 26 = .ok (.ifCond .lt 27, 3) := by decide +kernel
theorem dX11_sure_29 : decode cX11_sure 29 = .ok (.aload_n 0, 1) := by decide +kernel
theorem dX11_sure_30 : decode cX11_sure 30 = .ok (.iload_n 1, 1) := by decide +kernel
theorem dX11_sure_31 : decode cX11_sure 31 = .ok (.aload_n 0, 1) := by decide +kernel
theorem dX11_sure_32 : decode cX11_sure 32 = .ok (.getfield 26, 3) := by decide +kernel
theorem dX11_sure_35 : decode cX11_sure 35 = .ok (.iload_n 2, 1) := by decide +kernel
theorem dX11_sure_36 : decode cX11_sure 36 = .ok (.invokevirtual 363, 3) := by decide +kernel
theorem dX11_sure_39 : decode cX11_sure 39 = .ok (.invokevirtual 372, 3) := by decide +kernel
theorem dX11_sure_4 : decode cX11_sure 4 = .ok (.ifCond .ne 15, 3) := by decide +kernel
theorem dX11_sure_42 : decode cX11_sure 42 = .ok (.ifCond .eq 5, 3) := by decide +kernel
theorem dX11_sure_45 : decode cX11_sure 45 = .ok (.iload_n 2, 1) := by decide +kernel
theorem dX11_sure_46 : decode cX11_sure 46 = .ok (.ireturn, 1) := by decide +kernel
theorem dX11_sure_47 : decode cX11_sure 47 = .ok (.iinc 2 (-1), 3) := by decide +kernel
theorem dX11_sure_50 : decode cX11_sure 50 = .ok (.goto (-25), 3) := by decide +kernel
theorem dX11_sure_53 : decode cX11_sure 53 = .ok (.iconst (-1), 1) := by decide +kernel
theorem dX11_sure_54 : decode cX11_sure 54 = .ok (.ireturn, 1) := by decide +kernel
theorem dX11_sure_7 : decode cX11_sure 7 = .ok (.iload_n 1, 1) := by decide +kernel
theorem dX11_sure_8 : decode cX11_sure 8 = .ok (.i2l, 1) := by decide +kernel
theorem dX11_sure_9 : decode cX11_sure 9 = .ok (.lconst 0, 1) := by decide +kernel
set_option maxHeartbeats 4000000 in
set_option maxRecDepth 100000 in
theorem b_X11_set (l : Launch) (G : Gho) (D : va_G) (cB cI cJ cZ cS cT : ClassId) (sz : Nat) (h0 : Nat) (h_tape : Nat) (h_reader : Nat) (h_now : Nat) (h_trial : Nat) (h_images : Nat) (h_imageKept : Nat) (h_slots : Nat) (h_night : Nat) (h_otherNight : Nat) (h_circle : Nat) (h_words : Nat) (h_lawSearch : Nat) (h_placeSearch : Nat) (h_drawnNight : Nat) (v_now_tones : Int32) (v_now_a : Int32) (v_now_b : Int32) (v_now_c : Int32) (v_now_d : Int32) (v_now_odds : Int32) (v_now_lines : Int32) (h_now_signs : Nat) (v_now_signCount : Int32) (h_now_posts : Nat) (v_now_postCount : Int32) (h_now_acts : Nat) (h_placeSearch_sentAt : Nat) (h_placeSearch_tally : Nat) (v_placeSearch_found : Int32) (v_placeSearch_leastPlace : Int32) (v_placeSearch_greatestPlace : Int32) (h_slots_0 : Nat) (h_slots_1 : Nat) (h_slots_2 : Nat) (h_slots_3 : Nat) (f_now_posts : Nat → Int32) (f_placeSearch_sentAt : Nat → Int32) (f_placeSearch_tally : Nat → Int32) (h_slots_0_numbers : Nat) (v_slots_0_width : Int32) (v_slots_0_size : Int32) (v_slots_0_made : Int32) (h_slots_1_numbers : Nat) (v_slots_1_width : Int32) (v_slots_1_size : Int32) (v_slots_1_made : Int32) (h_slots_2_numbers : Nat) (v_slots_2_width : Int32) (v_slots_2_size : Int32) (v_slots_2_made : Int32) (h_slots_3_numbers : Nat) (v_slots_3_width : Int32) (v_slots_3_size : Int32) (v_slots_3_made : Int32) (f_slots_0_numbers : Nat → Int64) (f_slots_1_numbers : Nat → Int64) (f_slots_2_numbers : Nat → Int64) (f_slots_3_numbers : Nat → Int64) (v1 : Int32) (iv_now_signCount : 0 ≤ v_now_signCount.toInt ∧ v_now_signCount.toInt ≤ 8) (iv_now_postCount : 0 ≤ v_now_postCount.toInt ∧ v_now_postCount.toInt ≤ 5) (iv_slots_0_size : 0 ≤ v_slots_0_size.toInt ∧ v_slots_0_size.toInt ≤ 60) (iv_slots_0_made : 0 ≤ v_slots_0_made.toInt ∧ v_slots_0_made.toInt ≤ 1) (iv_slots_1_size : 0 ≤ v_slots_1_size.toInt ∧ v_slots_1_size.toInt ≤ 60) (iv_slots_1_made : 0 ≤ v_slots_1_made.toInt ∧ v_slots_1_made.toInt ≤ 1) (iv_slots_2_size : 0 ≤ v_slots_2_size.toInt ∧ v_slots_2_size.toInt ≤ 60) (iv_slots_2_made : 0 ≤ v_slots_2_made.toInt ∧ v_slots_2_made.toInt ≤ 1) (iv_slots_3_size : 0 ≤ v_slots_3_size.toInt ∧ v_slots_3_size.toInt ≤ 60) (iv_slots_3_made : 0 ≤ v_slots_3_made.toInt ∧ v_slots_3_made.toInt ≤ 1) : Met l yX11_set (Cond.code yX11_set cX11_set 3 (some .int) :: wsL_law) ({ frames := 4, cells := 0, slots := 0, locals := 91 }) (wrP G D (tyL cB cI cJ cZ cS cT) [(h0, .inr (11, [.ref h_tape, .ref h_reader, .ref h_now, .ref h_trial, .ref h_images, .ref h_imageKept, .ref h_slots, .ref h_night, .ref h_otherNight, .ref h_circle, .ref h_words, .ref h_lawSearch, .ref h_placeSearch, .ref h_drawnNight])), (h_now, .inr (8, [.int v_now_tones, .int v_now_a, .int v_now_b, .int v_now_c, .int v_now_d, .int v_now_odds, .int v_now_lines, .ref h_now_signs, .int v_now_signCount, .ref h_now_posts, .int v_now_postCount, .ref h_now_acts])), (h_placeSearch, .inr (5, [.ref h_placeSearch_sentAt, .ref h_placeSearch_tally, .int v_placeSearch_found, .int v_placeSearch_leastPlace, .int v_placeSearch_greatestPlace])), (h_slots, .inl (cS, 4, .inr (.inr (.inr (.inr (va_up (va_up (va_up (va_up (fun _ => none) 0 (some h_slots_0)) 1 (some h_slots_1)) 2 (some h_slots_2)) 3 (some h_slots_3))))))), (h_now_posts, .inl (cI, 5, .inl f_now_posts)), (h_placeSearch_sentAt, .inl (cI, 100, .inl f_placeSearch_sentAt)), (h_placeSearch_tally, .inl (cI, 1099, .inl f_placeSearch_tally)), (h_slots_0, .inr (7, [.ref h_slots_0_numbers, .int v_slots_0_width, .int v_slots_0_size, .int v_slots_0_made])), (h_slots_1, .inr (7, [.ref h_slots_1_numbers, .int v_slots_1_width, .int v_slots_1_size, .int v_slots_1_made])), (h_slots_2, .inr (7, [.ref h_slots_2_numbers, .int v_slots_2_width, .int v_slots_2_size, .int v_slots_2_made])), (h_slots_3, .inr (7, [.ref h_slots_3_numbers, .int v_slots_3_width, .int v_slots_3_size, .int v_slots_3_made])), (h_slots_0_numbers, .inl (cJ, 60, .inr (.inl f_slots_0_numbers))), (h_slots_1_numbers, .inl (cJ, 60, .inr (.inl f_slots_1_numbers))), (h_slots_2_numbers, .inl (cJ, 60, .inr (.inl f_slots_2_numbers))), (h_slots_3_numbers, .inl (cJ, 60, .inr (.inl f_slots_3_numbers)))] sz [.ref h0, .int v1]) (va_Qi (fun (r : Int32) (x : Int32 × Int32 × Int32 × (Nat → Int32) × (Nat → Int32)) => True) (atW D (tyL cB cI cJ cZ cS cT) (va_A [(h0, .inr (11, [.ref h_tape, .ref h_reader, .ref h_now, .ref h_trial, .ref h_images, .ref h_imageKept, .ref h_slots, .ref h_night, .ref h_otherNight, .ref h_circle, .ref h_words, .ref h_lawSearch, .ref h_placeSearch, .ref h_drawnNight])), (h_now, .inr (8, [.int v_now_tones, .int v_now_a, .int v_now_b, .int v_now_c, .int v_now_d, .int v_now_odds, .int v_now_lines, .ref h_now_signs, .int v_now_signCount, .ref h_now_posts, .int v_now_postCount, .ref h_now_acts])), (h_placeSearch, .inr (5, [.ref h_placeSearch_sentAt, .ref h_placeSearch_tally, .int v_placeSearch_found, .int v_placeSearch_leastPlace, .int v_placeSearch_greatestPlace])), (h_slots, .inl (cS, 4, .inr (.inr (.inr (.inr (va_up (va_up (va_up (va_up (fun _ => none) 0 (some h_slots_0)) 1 (some h_slots_1)) 2 (some h_slots_2)) 3 (some h_slots_3))))))), (h_now_posts, .inl (cI, 5, .inl f_now_posts)), (h_placeSearch_sentAt, .inl (cI, 100, .inl f_placeSearch_sentAt)), (h_placeSearch_tally, .inl (cI, 1099, .inl f_placeSearch_tally)), (h_slots_0, .inr (7, [.ref h_slots_0_numbers, .int v_slots_0_width, .int v_slots_0_size, .int v_slots_0_made])), (h_slots_1, .inr (7, [.ref h_slots_1_numbers, .int v_slots_1_width, .int v_slots_1_size, .int v_slots_1_made])), (h_slots_2, .inr (7, [.ref h_slots_2_numbers, .int v_slots_2_width, .int v_slots_2_size, .int v_slots_2_made])), (h_slots_3, .inr (7, [.ref h_slots_3_numbers, .int v_slots_3_width, .int v_slots_3_size, .int v_slots_3_made])), (h_slots_0_numbers, .inl (cJ, 60, .inr (.inl f_slots_0_numbers))), (h_slots_1_numbers, .inl (cJ, 60, .inr (.inl f_slots_1_numbers))), (h_slots_2_numbers, .inl (cJ, 60, .inr (.inl f_slots_2_numbers))), (h_slots_3_numbers, .inl (cJ, 60, .inr (.inl f_slots_3_numbers)))] sz) (fun x : Int32 × Int32 × Int32 × (Nat → Int32) × (Nat → Int32) => [(h0, .inr (11, [.ref h_tape, .ref h_reader, .ref h_now, .ref h_trial, .ref h_images, .ref h_imageKept, .ref h_slots, .ref h_night, .ref h_otherNight, .ref h_circle, .ref h_words, .ref h_lawSearch, .ref h_placeSearch, .ref h_drawnNight])), (h_now, .inr (8, [.int v_now_tones, .int v_now_a, .int v_now_b, .int v_now_c, .int v_now_d, .int v_now_odds, .int v_now_lines, .ref h_now_signs, .int v_now_signCount, .ref h_now_posts, .int v_now_postCount, .ref h_now_acts])), (h_placeSearch, .inr (5, [.ref h_placeSearch_sentAt, .ref h_placeSearch_tally, .int x.1, .int x.2.1, .int x.2.2.1])), (h_slots, .inl (cS, 4, .inr (.inr (.inr (.inr (va_up (va_up (va_up (va_up (fun _ => none) 0 (some h_slots_0)) 1 (some h_slots_1)) 2 (some h_slots_2)) 3 (some h_slots_3))))))), (h_now_posts, .inl (cI, 5, .inl f_now_posts)), (h_placeSearch_sentAt, .inl (cI, 100, .inl x.2.2.2.1)), (h_placeSearch_tally, .inl (cI, 1099, .inl x.2.2.2.2)), (h_slots_0, .inr (7, [.ref h_slots_0_numbers, .int v_slots_0_width, .int v_slots_0_size, .int v_slots_0_made])), (h_slots_1, .inr (7, [.ref h_slots_1_numbers, .int v_slots_1_width, .int v_slots_1_size, .int v_slots_1_made])), (h_slots_2, .inr (7, [.ref h_slots_2_numbers, .int v_slots_2_width, .int v_slots_2_size, .int v_slots_2_made])), (h_slots_3, .inr (7, [.ref h_slots_3_numbers, .int v_slots_3_width, .int v_slots_3_size, .int v_slots_3_made])), (h_slots_0_numbers, .inl (cJ, 60, .inr (.inl f_slots_0_numbers))), (h_slots_1_numbers, .inl (cJ, 60, .inr (.inl f_slots_1_numbers))), (h_slots_2_numbers, .inl (cJ, 60, .inr (.inl f_slots_2_numbers))), (h_slots_3_numbers, .inl (cJ, 60, .inr (.inl f_slots_3_numbers)))])) (va_A [(h0, .inr (11, [.ref h_tape, .ref h_reader, .ref h_now, .ref h_trial, .ref h_images, .ref h_imageKept, .ref h_slots, .ref h_night, .ref h_otherNight, .ref h_circle, .ref h_words, .ref h_lawSearch, .ref h_placeSearch, .ref h_drawnNight])), (h_now, .inr (8, [.int v_now_tones, .int v_now_a, .int v_now_b, .int v_now_c, .int v_now_d, .int v_now_odds, .int v_now_lines, .ref h_now_signs, .int v_now_signCount, .ref h_now_posts, .int v_now_postCount, .ref h_now_acts])), (h_placeSearch, .inr (5, [.ref h_placeSearch_sentAt, .ref h_placeSearch_tally, .int v_placeSearch_found, .int v_placeSearch_leastPlace, .int v_placeSearch_greatestPlace])), (h_slots, .inl (cS, 4, .inr (.inr (.inr (.inr (va_up (va_up (va_up (va_up (fun _ => none) 0 (some h_slots_0)) 1 (some h_slots_1)) 2 (some h_slots_2)) 3 (some h_slots_3))))))), (h_now_posts, .inl (cI, 5, .inl f_now_posts)), (h_placeSearch_sentAt, .inl (cI, 100, .inl f_placeSearch_sentAt)), (h_placeSearch_tally, .inl (cI, 1099, .inl f_placeSearch_tally)), (h_slots_0, .inr (7, [.ref h_slots_0_numbers, .int v_slots_0_width, .int v_slots_0_size, .int v_slots_0_made])), (h_slots_1, .inr (7, [.ref h_slots_1_numbers, .int v_slots_1_width, .int v_slots_1_size, .int v_slots_1_made])), (h_slots_2, .inr (7, [.ref h_slots_2_numbers, .int v_slots_2_width, .int v_slots_2_size, .int v_slots_2_made])), (h_slots_3, .inr (7, [.ref h_slots_3_numbers, .int v_slots_3_width, .int v_slots_3_size, .int v_slots_3_made])), (h_slots_0_numbers, .inl (cJ, 60, .inr (.inl f_slots_0_numbers))), (h_slots_1_numbers, .inl (cJ, 60, .inr (.inl f_slots_1_numbers))), (h_slots_2_numbers, .inl (cJ, 60, .inr (.inl f_slots_2_numbers))), (h_slots_3_numbers, .inl (cJ, 60, .inr (.inl f_slots_3_numbers)))] sz)) 0 0 (va_A [(h0, .inr (11, [.ref h_tape, .ref h_reader, .ref h_now, .ref h_trial, .ref h_images, .ref h_imageKept, .ref h_slots, .ref h_night, .ref h_otherNight, .ref h_circle, .ref h_words, .ref h_lawSearch, .ref h_placeSearch, .ref h_drawnNight])), (h_now, .inr (8, [.int v_now_tones, .int v_now_a, .int v_now_b, .int v_now_c, .int v_now_d, .int v_now_odds, .int v_now_lines, .ref h_now_signs, .int v_now_signCount, .ref h_now_posts, .int v_now_postCount, .ref h_now_acts])), (h_placeSearch, .inr (5, [.ref h_placeSearch_sentAt, .ref h_placeSearch_tally, .int v_placeSearch_found, .int v_placeSearch_leastPlace, .int v_placeSearch_greatestPlace])), (h_slots, .inl (cS, 4, .inr (.inr (.inr (.inr (va_up (va_up (va_up (va_up (fun _ => none) 0 (some h_slots_0)) 1 (some h_slots_1)) 2 (some h_slots_2)) 3 (some h_slots_3))))))), (h_now_posts, .inl (cI, 5, .inl f_now_posts)), (h_placeSearch_sentAt, .inl (cI, 100, .inl f_placeSearch_sentAt)), (h_placeSearch_tally, .inl (cI, 1099, .inl f_placeSearch_tally)), (h_slots_0, .inr (7, [.ref h_slots_0_numbers, .int v_slots_0_width, .int v_slots_0_size, .int v_slots_0_made])), (h_slots_1, .inr (7, [.ref h_slots_1_numbers, .int v_slots_1_width, .int v_slots_1_size, .int v_slots_1_made])), (h_slots_2, .inr (7, [.ref h_slots_2_numbers, .int v_slots_2_width, .int v_slots_2_size, .int v_slots_2_made])), (h_slots_3, .inr (7, [.ref h_slots_3_numbers, .int v_slots_3_width, .int v_slots_3_size, .int v_slots_3_made])), (h_slots_0_numbers, .inl (cJ, 60, .inr (.inl f_slots_0_numbers))), (h_slots_1_numbers, .inl (cJ, 60, .inr (.inl f_slots_1_numbers))), (h_slots_2_numbers, .inl (cJ, 60, .inr (.inl f_slots_2_numbers))), (h_slots_3_numbers, .inl (cJ, 60, .inr (.inl f_slots_3_numbers)))] sz) := by
  refine metI (own := RX11) (by decide) rfl ?_
  intro p e s m below meth c Q hsz C hG hP hD hAB ret
  obtain ⟨hx, hb, hml, hown, hts, hK, hN, hT⟩ := id C
  subst hsz
  generalize hAe : va_A [(h0, .inr (11, [.ref h_tape, .ref h_reader, .ref h_now, .ref h_trial, .ref h_images, .ref h_imageKept, .ref h_slots, .ref h_night, .ref h_otherNight, .ref h_circle, .ref h_words, .ref h_lawSearch, .ref h_placeSearch, .ref h_drawnNight])), (h_now, .inr (8, [.int v_now_tones, .int v_now_a, .int v_now_b, .int v_now_c, .int v_now_d, .int v_now_odds, .int v_now_lines, .ref h_now_signs, .int v_now_signCount, .ref h_now_posts, .int v_now_postCount, .ref h_now_acts])), (h_placeSearch, .inr (5, [.ref h_placeSearch_sentAt, .ref h_placeSearch_tally, .int v_placeSearch_found, .int v_placeSearch_leastPlace, .int v_placeSearch_greatestPlace])), (h_slots, .inl (cS, 4, .inr (.inr (.inr (.inr (va_up (va_up (va_up (va_up (fun _ => none) 0 (some h_slots_0)) 1 (some h_slots_1)) 2 (some h_slots_2)) 3 (some h_slots_3))))))), (h_now_posts, .inl (cI, 5, .inl f_now_posts)), (h_placeSearch_sentAt, .inl (cI, 100, .inl f_placeSearch_sentAt)), (h_placeSearch_tally, .inl (cI, 1099, .inl f_placeSearch_tally)), (h_slots_0, .inr (7, [.ref h_slots_0_numbers, .int v_slots_0_width, .int v_slots_0_size, .int v_slots_0_made])), (h_slots_1, .inr (7, [.ref h_slots_1_numbers, .int v_slots_1_width, .int v_slots_1_size, .int v_slots_1_made])), (h_slots_2, .inr (7, [.ref h_slots_2_numbers, .int v_slots_2_width, .int v_slots_2_size, .int v_slots_2_made])), (h_slots_3, .inr (7, [.ref h_slots_3_numbers, .int v_slots_3_width, .int v_slots_3_size, .int v_slots_3_made])), (h_slots_0_numbers, .inl (cJ, 60, .inr (.inl f_slots_0_numbers))), (h_slots_1_numbers, .inl (cJ, 60, .inr (.inl f_slots_1_numbers))), (h_slots_2_numbers, .inl (cJ, 60, .inr (.inl f_slots_2_numbers))), (h_slots_3_numbers, .inl (cJ, 60, .inr (.inl f_slots_3_numbers)))] s.heap.size = A at hD hAB ret ⊢
  have hA : ∀ q : Nat, s.heap.size ≤ q → A q := fun q h => by rw [← hAe]; exact Or.inr h
  have hS : va_S A s.heap s.heap [] := va_S.rf
  have hl := lv_entry ([.ref h0, .int v1]) (n := 3) (Nat.le_of_ble_eq_true rfl)
  rw [lg_entry_eq]
  generalize (lg_sl ([.ref h0, .int v1]) ++ List.replicate (3 - (lg_sl ([.ref h0, .int v1])).length) Slot.unset).toArray = ls at hl ⊢
  have hl : lv_has ls 3 [(0, .ref h0), (1, .int v1)] := hl
  have hP : va_P D vwCl [(h0, .inr (11, [.ref h_tape, .ref h_reader, .ref h_now, .ref h_trial, .ref h_images, .ref h_imageKept, .ref h_slots, .ref h_night, .ref h_otherNight, .ref h_circle, .ref h_words, .ref h_lawSearch, .ref h_placeSearch, .ref h_drawnNight])), (h_now, .inr (8, [.int v_now_tones, .int v_now_a, .int v_now_b, .int v_now_c, .int v_now_d, .int v_now_odds, .int v_now_lines, .ref h_now_signs, .int v_now_signCount, .ref h_now_posts, .int v_now_postCount, .ref h_now_acts])), (h_placeSearch, .inr (5, [.ref h_placeSearch_sentAt, .ref h_placeSearch_tally, .int v_placeSearch_found, .int v_placeSearch_leastPlace, .int v_placeSearch_greatestPlace])), (h_slots, .inl (cS, 4, .inr (.inr (.inr (.inr (va_up (va_up (va_up (va_up (fun _ => none) 0 (some h_slots_0)) 1 (some h_slots_1)) 2 (some h_slots_2)) 3 (some h_slots_3))))))), (h_now_posts, .inl (cI, 5, .inl f_now_posts)), (h_placeSearch_sentAt, .inl (cI, 100, .inl f_placeSearch_sentAt)), (h_placeSearch_tally, .inl (cI, 1099, .inl f_placeSearch_tally)), (h_slots_0, .inr (7, [.ref h_slots_0_numbers, .int v_slots_0_width, .int v_slots_0_size, .int v_slots_0_made])), (h_slots_1, .inr (7, [.ref h_slots_1_numbers, .int v_slots_1_width, .int v_slots_1_size, .int v_slots_1_made])), (h_slots_2, .inr (7, [.ref h_slots_2_numbers, .int v_slots_2_width, .int v_slots_2_size, .int v_slots_2_made])), (h_slots_3, .inr (7, [.ref h_slots_3_numbers, .int v_slots_3_width, .int v_slots_3_size, .int v_slots_3_made])), (h_slots_0_numbers, .inl (cJ, 60, .inr (.inl f_slots_0_numbers))), (h_slots_1_numbers, .inl (cJ, 60, .inr (.inl f_slots_1_numbers))), (h_slots_2_numbers, .inl (cJ, 60, .inr (.inl f_slots_2_numbers))), (h_slots_3_numbers, .inl (cJ, 60, .inr (.inl f_slots_3_numbers)))] s.heap := hP
  refine lv_aload_n hx hb dX11_set_0 rfl (lv_at hl 0 rfl) ?_
  refine lv_iload_n hx hb dX11_set_1 rfl (lv_at hl 1 rfl) ?_
  refine roi (As := [.int v1]) (rest := []) ⟨hx, hb, hml, hown, hts⟩ (b_X11_placeTrouble l G D cB cI cJ cZ cS cT h0 h_tape h_reader h_now h_trial h_images h_imageKept h_slots h_night h_otherNight h_circle h_words h_lawSearch h_placeSearch h_drawnNight v_now_tones v_now_a v_now_b v_now_c v_now_d v_now_odds v_now_lines h_now_signs v_now_signCount h_now_posts v_now_postCount h_now_acts h_slots_0 h_slots_1 h_slots_2 h_slots_3 h_slots_0_numbers v_slots_0_width v_slots_0_size v_slots_0_made h_slots_1_numbers v_slots_1_width v_slots_1_size v_slots_1_made h_slots_2_numbers v_slots_2_width v_slots_2_size v_slots_2_made h_slots_3_numbers v_slots_3_width v_slots_3_size v_slots_3_made f_slots_0_numbers f_slots_1_numbers f_slots_2_numbers f_slots_3_numbers v1 (by first | assumption | omega | decide) (by first | assumption | omega | decide) (by first | assumption | omega | decide) (by first | assumption | omega | decide) (by first | assumption | omega | decide) (by first | assumption | omega | decide) (by first | assumption | omega | decide) (by first | assumption | omega | decide) (by first | assumption | omega | decide) (by first | assumption | omega | decide)) (cvB (n := 1) (inr56 _ (List.mem_of_getElem? (i := 14) rfl)) (inr56 _ (List.mem_of_getElem? (i := 15) rfl)) (inr56 _ (List.mem_of_getElem? (i := 16) rfl)) (inr1 _ (List.mem_of_getElem? (i := 2) rfl)) (inr56 _ (List.mem_of_getElem? (i := 17) rfl)) (by decide +kernel) hts rfl rfl ⟨Nat.le_of_ble_eq_true rfl, Nat.le_of_ble_eq_true rfl⟩) 0 11 rfl rfl rfl (hP.sub [0, 1, 3, 7, 8, 9, 10, 11, 12, 13, 14] rfl) hK hN (kT.to hT hS hAB) rfl hl.1 rfl (Nat.le_of_ble_eq_true rfl) ⟨Nat.le_of_ble_eq_true rfl, Nat.le_of_ble_eq_true rfl⟩ dX11_set_2 (fun r_1 h_2 => ?_)
  have h_2 : (r_1.toInt = 0 → 0 ≤ v1.toInt ∧ v1.toInt ≤ 3) := h_2
  have i_3 := h_2
  refine lv_istore_n (lv' := [(2, .int r_1), (0, .ref h0), (1, .int v1)]) hx hb dX11_set_5 rfl hl (by decide) rfl (fun ls hl => ?_)
  refine lv_iload_n hx hb dX11_set_6 rfl (lv_at hl 0 rfl) ?_
  refine lv_if_eq (tgt := 12) hx hb dX11_set_7 (by decide) (fun c_4 => ?_) (fun c_4 => ?_)
  · have c_4 : r_1.toInt = 0 := ci_eq_t c_4
    have b_r_1 := i32b r_1
    rcases in4 (x := v1) (by omega) (by omega) with e_5 | e_5 | e_5 | e_5
    · have c_6 : v1.toInt = 0 := by rw [e_5]; decide
      have hl : lv_has ls 3 [(2, .int r_1), (0, .ref h0), (1, .int 0)] := by rw [e_5] at hl; exact hl
      refine lv_aload_n hx hb dX11_set_12 rfl (lv_at hl 1 rfl) ?_
      refine va_get (D := D) (ci := 11) (v := .ref h_slots) (C := RX11) (T := TX11) (N := 14) hx hb hts inlX11 hown hK hP 0 rfl rfl 6 (by decide) (hts _ (inr2 _ (List.mem_of_getElem? (i := 6) rfl))) (fun _ h9 => h9) rfl dX11_set_13 ?_
      refine lv_iload_n hx hb dX11_set_16 rfl (lv_at hl 2 rfl) ?_
      refine va_aldq hx hb hK hP 3 4 rfl rfl (by unfold vp_in; decide) dX11_set_17 ?_
      refine W.eq (g2 := F0 m 18 ls [.ref h_slots_0]) rfl ?_
      refine roi (As := []) (rest := []) ⟨hx, hb, hml, hown, hts⟩ (b_X7_size l G D cB cI cJ cZ cS cT h_slots_0 h_slots_0_numbers v_slots_0_width v_slots_0_size v_slots_0_made (by first | assumption | omega | decide) (by first | assumption | omega | decide)) (cvB (n := 0) (inr52 _ (List.mem_of_getElem? (i := 4) rfl)) (inr52 _ (List.mem_of_getElem? (i := 5) rfl)) (inr52 _ (List.mem_of_getElem? (i := 6) rfl)) (inr2 _ (List.mem_of_getElem? (i := 8) rfl)) (inr52 _ (List.mem_of_getElem? (i := 7) rfl)) (by decide +kernel) hts rfl rfl ⟨Nat.le_of_ble_eq_true rfl, Nat.le_of_ble_eq_true rfl⟩) 0 7 rfl rfl rfl (hP.sub [7] rfl) hK hN (kT.to hT hS hAB) rfl hl.1 rfl (Nat.le_of_ble_eq_true rfl) ⟨Nat.le_of_ble_eq_true rfl, Nat.le_of_ble_eq_true rfl⟩ dX11_set_18 (fun r_7 h_8 => ?_)
      have h_8 : (r_7 = v_slots_0_size) := h_8
      have i_9 := h_8
      obtain rfl := i_9.symm
      refine lv_if_ne (tgt := 27) hx hb dX11_set_21 (by decide) (fun c_10 => ?_) (fun c_10 => ?_)
      · have c_10 : ¬ v_slots_0_size.toInt = 0 := ci_ne_t c_10
        have b_v_slots_0_size := i32b v_slots_0_size
        refine lv_aload_n hx hb dX11_set_27 rfl (lv_at hl 1 rfl) ?_
        refine va_get (D := D) (ci := 11) (v := .ref h_placeSearch) (C := RX11) (T := TX11) (N := 14) hx hb hts inlX11 hown hK hP 0 rfl rfl 12 (by decide) (hts _ (inr3 _ (List.mem_of_getElem? (i := 5) rfl))) (fun _ h9 => h9) rfl dX11_set_28 ?_
        refine lv_aload_n hx hb dX11_set_31 rfl (lv_at hl 1 rfl) ?_
        refine va_get (D := D) (ci := 11) (v := .ref h_now) (C := RX11) (T := TX11) (N := 14) hx hb hts inlX11 hown hK hP 0 rfl rfl 2 (by decide) (hts _ (inr2 _ (List.mem_of_getElem? (i := 0) rfl))) (fun _ h9 => h9) rfl dX11_set_32 ?_
        refine lv_aload_n hx hb dX11_set_35 rfl (lv_at hl 1 rfl) ?_
        refine va_get (D := D) (ci := 11) (v := .ref h_slots) (C := RX11) (T := TX11) (N := 14) hx hb hts inlX11 hown hK hP 0 rfl rfl 6 (by decide) (hts _ (inr2 _ (List.mem_of_getElem? (i := 6) rfl))) (fun _ h9 => h9) rfl dX11_set_36 ?_
        refine lv_iload_n hx hb dX11_set_39 rfl (lv_at hl 2 rfl) ?_
        refine va_aldq hx hb hK hP 3 4 rfl rfl (by unfold vp_in; decide) dX11_set_40 ?_
        refine W.eq (g2 := F0 m 41 ls [.ref h_slots_0, .ref h_now, .ref h_placeSearch]) rfl ?_
        refine wrVv (As := [.ref h_now, .ref h_slots_0]) (rest := []) (wr := [(h0, .inr (11, [.ref h_tape, .ref h_reader, .ref h_now, .ref h_trial, .ref h_images, .ref h_imageKept, .ref h_slots, .ref h_night, .ref h_otherNight, .ref h_circle, .ref h_words, .ref h_lawSearch, .ref h_placeSearch, .ref h_drawnNight])), (h_slots, .inl (cS, 4, .inr (.inr (.inr (.inr (va_up (va_up (va_up (va_up (fun _ => none) 0 (some h_slots_0)) 1 (some h_slots_1)) 2 (some h_slots_2)) 3 (some h_slots_3))))))), (h_placeSearch_tally, .inl (cI, 1099, .inl f_placeSearch_tally)), (h_slots_1, .inr (7, [.ref h_slots_1_numbers, .int v_slots_1_width, .int v_slots_1_size, .int v_slots_1_made])), (h_slots_2, .inr (7, [.ref h_slots_2_numbers, .int v_slots_2_width, .int v_slots_2_size, .int v_slots_2_made])), (h_slots_3, .inr (7, [.ref h_slots_3_numbers, .int v_slots_3_width, .int v_slots_3_size, .int v_slots_3_made])), (h_slots_1_numbers, .inl (cJ, 60, .inr (.inl f_slots_1_numbers))), (h_slots_2_numbers, .inl (cJ, 60, .inr (.inl f_slots_2_numbers))), (h_slots_3_numbers, .inl (cJ, 60, .inr (.inl f_slots_3_numbers)))]) ⟨hx, hb, hml, hown, hts⟩ (b_X5_searchFitting l G D cB cI cJ cZ cS cT s.heap.size h_placeSearch h_placeSearch_sentAt h_placeSearch_tally v_placeSearch_found v_placeSearch_leastPlace v_placeSearch_greatestPlace f_placeSearch_sentAt h_now v_now_tones v_now_a v_now_b v_now_c v_now_d v_now_odds v_now_lines h_now_signs v_now_signCount h_now_posts v_now_postCount h_now_acts f_now_posts h_slots_0 h_slots_0_numbers v_slots_0_width v_slots_0_size v_slots_0_made f_slots_0_numbers (by first | assumption | omega | decide) (by first | assumption | omega | decide) (by first | assumption | omega | decide) (by first | assumption | omega | decide)) hP hD hS hA hK hN hT hAB hG [2, 5, 1, 4, 7, 11] [0, 3, 6, 8, 9, 10, 12, 13, 14] rfl rfl (by decide) (by decide) (by decide) (cvB (n := 2) (inr56 _ (List.mem_of_getElem? (i := 18) rfl)) (inr56 _ (List.mem_of_getElem? (i := 19) rfl)) (inr56 _ (List.mem_of_getElem? (i := 20) rfl)) (inr3 _ (List.mem_of_getElem? (i := 4) rfl)) (inr56 _ (List.mem_of_getElem? (i := 21) rfl)) (by decide +kernel) hts rfl rfl ⟨Nat.le_of_ble_eq_true rfl, Nat.le_of_ble_eq_true rfl⟩) 0 5 rfl rfl rfl rfl hl.1 rfl (Nat.le_of_ble_eq_true rfl) ⟨Nat.le_of_ble_eq_true rfl, Nat.le_of_ble_eq_true rfl⟩ dX11_set_41 (fun x9 H locs h_12 hP hD hS => ?_)
        obtain ⟨t_13, t_14, t_15, g_16⟩ := x9
        have hP : va_P D vwCl [(h0, .inr (11, [.ref h_tape, .ref h_reader, .ref h_now, .ref h_trial, .ref h_images, .ref h_imageKept, .ref h_slots, .ref h_night, .ref h_otherNight, .ref h_circle, .ref h_words, .ref h_lawSearch, .ref h_placeSearch, .ref h_drawnNight])), (h_slots, .inl (cS, 4, .inr (.inr (.inr (.inr (va_up (va_up (va_up (va_up (fun _ => none) 0 (some h_slots_0)) 1 (some h_slots_1)) 2 (some h_slots_2)) 3 (some h_slots_3))))))), (h_placeSearch_tally, .inl (cI, 1099, .inl f_placeSearch_tally)), (h_slots_1, .inr (7, [.ref h_slots_1_numbers, .int v_slots_1_width, .int v_slots_1_size, .int v_slots_1_made])), (h_slots_2, .inr (7, [.ref h_slots_2_numbers, .int v_slots_2_width, .int v_slots_2_size, .int v_slots_2_made])), (h_slots_3, .inr (7, [.ref h_slots_3_numbers, .int v_slots_3_width, .int v_slots_3_size, .int v_slots_3_made])), (h_slots_1_numbers, .inl (cJ, 60, .inr (.inl f_slots_1_numbers))), (h_slots_2_numbers, .inl (cJ, 60, .inr (.inl f_slots_2_numbers))), (h_slots_3_numbers, .inl (cJ, 60, .inr (.inl f_slots_3_numbers))), (h_placeSearch, .inr (5, [.ref h_placeSearch_sentAt, .ref h_placeSearch_tally, .int t_13, .int t_14, .int t_15])), (h_placeSearch_sentAt, .inl (cI, 100, .inl g_16)), (h_now, .inr (8, [.int v_now_tones, .int v_now_a, .int v_now_b, .int v_now_c, .int v_now_d, .int v_now_odds, .int v_now_lines, .ref h_now_signs, .int v_now_signCount, .ref h_now_posts, .int v_now_postCount, .ref h_now_acts])), (h_now_posts, .inl (cI, 5, .inl f_now_posts)), (h_slots_0, .inr (7, [.ref h_slots_0_numbers, .int v_slots_0_width, .int v_slots_0_size, .int v_slots_0_made])), (h_slots_0_numbers, .inl (cJ, 60, .inr (.inl f_slots_0_numbers)))] H := hP
        have hD : va_D A [(h0, .inr (11, [.ref h_tape, .ref h_reader, .ref h_now, .ref h_trial, .ref h_images, .ref h_imageKept, .ref h_slots, .ref h_night, .ref h_otherNight, .ref h_circle, .ref h_words, .ref h_lawSearch, .ref h_placeSearch, .ref h_drawnNight])), (h_slots, .inl (cS, 4, .inr (.inr (.inr (.inr (va_up (va_up (va_up (va_up (fun _ => none) 0 (some h_slots_0)) 1 (some h_slots_1)) 2 (some h_slots_2)) 3 (some h_slots_3))))))), (h_placeSearch_tally, .inl (cI, 1099, .inl f_placeSearch_tally)), (h_slots_1, .inr (7, [.ref h_slots_1_numbers, .int v_slots_1_width, .int v_slots_1_size, .int v_slots_1_made])), (h_slots_2, .inr (7, [.ref h_slots_2_numbers, .int v_slots_2_width, .int v_slots_2_size, .int v_slots_2_made])), (h_slots_3, .inr (7, [.ref h_slots_3_numbers, .int v_slots_3_width, .int v_slots_3_size, .int v_slots_3_made])), (h_slots_1_numbers, .inl (cJ, 60, .inr (.inl f_slots_1_numbers))), (h_slots_2_numbers, .inl (cJ, 60, .inr (.inl f_slots_2_numbers))), (h_slots_3_numbers, .inl (cJ, 60, .inr (.inl f_slots_3_numbers))), (h_placeSearch, .inr (5, [.ref h_placeSearch_sentAt, .ref h_placeSearch_tally, .int t_13, .int t_14, .int t_15])), (h_placeSearch_sentAt, .inl (cI, 100, .inl g_16)), (h_now, .inr (8, [.int v_now_tones, .int v_now_a, .int v_now_b, .int v_now_c, .int v_now_d, .int v_now_odds, .int v_now_lines, .ref h_now_signs, .int v_now_signCount, .ref h_now_posts, .int v_now_postCount, .ref h_now_acts])), (h_now_posts, .inl (cI, 5, .inl f_now_posts)), (h_slots_0, .inr (7, [.ref h_slots_0_numbers, .int v_slots_0_width, .int v_slots_0_size, .int v_slots_0_made])), (h_slots_0_numbers, .inl (cJ, 60, .inr (.inl f_slots_0_numbers)))] := hD
        refine lv_aload_n hx hb dX11_set_44 rfl (lv_at hl 1 rfl) ?_
        refine va_get (D := D) (ci := 11) (v := .ref h_placeSearch) (C := RX11) (T := TX11) (N := 14) hx hb hts inlX11 hown hK hP 0 rfl rfl 12 (by decide) (hts _ (inr3 _ (List.mem_of_getElem? (i := 5) rfl))) (fun _ h9 => h9) rfl dX11_set_45 ?_
        refine wrVi (As := []) (rest := []) (wr := [(h0, .inr (11, [.ref h_tape, .ref h_reader, .ref h_now, .ref h_trial, .ref h_images, .ref h_imageKept, .ref h_slots, .ref h_night, .ref h_otherNight, .ref h_circle, .ref h_words, .ref h_lawSearch, .ref h_placeSearch, .ref h_drawnNight])), (h_slots, .inl (cS, 4, .inr (.inr (.inr (.inr (va_up (va_up (va_up (va_up (fun _ => none) 0 (some h_slots_0)) 1 (some h_slots_1)) 2 (some h_slots_2)) 3 (some h_slots_3))))))), (h_slots_1, .inr (7, [.ref h_slots_1_numbers, .int v_slots_1_width, .int v_slots_1_size, .int v_slots_1_made])), (h_slots_2, .inr (7, [.ref h_slots_2_numbers, .int v_slots_2_width, .int v_slots_2_size, .int v_slots_2_made])), (h_slots_3, .inr (7, [.ref h_slots_3_numbers, .int v_slots_3_width, .int v_slots_3_size, .int v_slots_3_made])), (h_slots_1_numbers, .inl (cJ, 60, .inr (.inl f_slots_1_numbers))), (h_slots_2_numbers, .inl (cJ, 60, .inr (.inl f_slots_2_numbers))), (h_slots_3_numbers, .inl (cJ, 60, .inr (.inl f_slots_3_numbers))), (h_now, .inr (8, [.int v_now_tones, .int v_now_a, .int v_now_b, .int v_now_c, .int v_now_d, .int v_now_odds, .int v_now_lines, .ref h_now_signs, .int v_now_signCount, .ref h_now_posts, .int v_now_postCount, .ref h_now_acts])), (h_now_posts, .inl (cI, 5, .inl f_now_posts)), (h_slots_0, .inr (7, [.ref h_slots_0_numbers, .int v_slots_0_width, .int v_slots_0_size, .int v_slots_0_made])), (h_slots_0_numbers, .inl (cJ, 60, .inr (.inl f_slots_0_numbers)))]) ⟨hx, hb, hml, hown, hts⟩ (b_X5_whereToSet l G D cB cI cJ cZ cS cT H.size h_placeSearch h_placeSearch_sentAt h_placeSearch_tally t_13 t_14 t_15 g_16 f_placeSearch_tally ) hP hD hS hA hK hN hT hAB hG [9, 10, 2] [0, 1, 3, 4, 5, 6, 7, 8, 11, 12, 13, 14] rfl rfl (by decide) (by decide) (by decide) (cvB (n := 0) (inr59 _ (List.mem_of_getElem? (i := 1) rfl)) (inr59 _ (List.mem_of_getElem? (i := 2) rfl)) (inr59 _ (List.mem_of_getElem? (i := 3) rfl)) (inr3 _ (List.mem_of_getElem? (i := 4) rfl)) (inr59 _ (List.mem_of_getElem? (i := 4) rfl)) (by decide +kernel) hts rfl rfl ⟨Nat.le_of_ble_eq_true rfl, Nat.le_of_ble_eq_true rfl⟩) 0 5 rfl rfl rfl rfl hl.1 rfl (Nat.le_of_ble_eq_true rfl) ⟨Nat.le_of_ble_eq_true rfl, Nat.le_of_ble_eq_true rfl⟩ dX11_set_48 (fun r_17 x9 H locs h_18 hP hD hS => ?_)
        obtain ⟨g_19, rfl⟩ : ∃ z, z = x9 := ⟨_, rfl⟩
        have hP : va_P D vwCl [(h0, .inr (11, [.ref h_tape, .ref h_reader, .ref h_now, .ref h_trial, .ref h_images, .ref h_imageKept, .ref h_slots, .ref h_night, .ref h_otherNight, .ref h_circle, .ref h_words, .ref h_lawSearch, .ref h_placeSearch, .ref h_drawnNight])), (h_slots, .inl (cS, 4, .inr (.inr (.inr (.inr (va_up (va_up (va_up (va_up (fun _ => none) 0 (some h_slots_0)) 1 (some h_slots_1)) 2 (some h_slots_2)) 3 (some h_slots_3))))))), (h_slots_1, .inr (7, [.ref h_slots_1_numbers, .int v_slots_1_width, .int v_slots_1_size, .int v_slots_1_made])), (h_slots_2, .inr (7, [.ref h_slots_2_numbers, .int v_slots_2_width, .int v_slots_2_size, .int v_slots_2_made])), (h_slots_3, .inr (7, [.ref h_slots_3_numbers, .int v_slots_3_width, .int v_slots_3_size, .int v_slots_3_made])), (h_slots_1_numbers, .inl (cJ, 60, .inr (.inl f_slots_1_numbers))), (h_slots_2_numbers, .inl (cJ, 60, .inr (.inl f_slots_2_numbers))), (h_slots_3_numbers, .inl (cJ, 60, .inr (.inl f_slots_3_numbers))), (h_now, .inr (8, [.int v_now_tones, .int v_now_a, .int v_now_b, .int v_now_c, .int v_now_d, .int v_now_odds, .int v_now_lines, .ref h_now_signs, .int v_now_signCount, .ref h_now_posts, .int v_now_postCount, .ref h_now_acts])), (h_now_posts, .inl (cI, 5, .inl f_now_posts)), (h_slots_0, .inr (7, [.ref h_slots_0_numbers, .int v_slots_0_width, .int v_slots_0_size, .int v_slots_0_made])), (h_slots_0_numbers, .inl (cJ, 60, .inr (.inl f_slots_0_numbers))), (h_placeSearch, .inr (5, [.ref h_placeSearch_sentAt, .ref h_placeSearch_tally, .int t_13, .int t_14, .int t_15])), (h_placeSearch_sentAt, .inl (cI, 100, .inl g_16)), (h_placeSearch_tally, .inl (cI, 1099, .inl g_19))] H := hP
        have hD : va_D A [(h0, .inr (11, [.ref h_tape, .ref h_reader, .ref h_now, .ref h_trial, .ref h_images, .ref h_imageKept, .ref h_slots, .ref h_night, .ref h_otherNight, .ref h_circle, .ref h_words, .ref h_lawSearch, .ref h_placeSearch, .ref h_drawnNight])), (h_slots, .inl (cS, 4, .inr (.inr (.inr (.inr (va_up (va_up (va_up (va_up (fun _ => none) 0 (some h_slots_0)) 1 (some h_slots_1)) 2 (some h_slots_2)) 3 (some h_slots_3))))))), (h_slots_1, .inr (7, [.ref h_slots_1_numbers, .int v_slots_1_width, .int v_slots_1_size, .int v_slots_1_made])), (h_slots_2, .inr (7, [.ref h_slots_2_numbers, .int v_slots_2_width, .int v_slots_2_size, .int v_slots_2_made])), (h_slots_3, .inr (7, [.ref h_slots_3_numbers, .int v_slots_3_width, .int v_slots_3_size, .int v_slots_3_made])), (h_slots_1_numbers, .inl (cJ, 60, .inr (.inl f_slots_1_numbers))), (h_slots_2_numbers, .inl (cJ, 60, .inr (.inl f_slots_2_numbers))), (h_slots_3_numbers, .inl (cJ, 60, .inr (.inl f_slots_3_numbers))), (h_now, .inr (8, [.int v_now_tones, .int v_now_a, .int v_now_b, .int v_now_c, .int v_now_d, .int v_now_odds, .int v_now_lines, .ref h_now_signs, .int v_now_signCount, .ref h_now_posts, .int v_now_postCount, .ref h_now_acts])), (h_now_posts, .inl (cI, 5, .inl f_now_posts)), (h_slots_0, .inr (7, [.ref h_slots_0_numbers, .int v_slots_0_width, .int v_slots_0_size, .int v_slots_0_made])), (h_slots_0_numbers, .inl (cJ, 60, .inr (.inl f_slots_0_numbers))), (h_placeSearch, .inr (5, [.ref h_placeSearch_sentAt, .ref h_placeSearch_tally, .int t_13, .int t_14, .int t_15])), (h_placeSearch_sentAt, .inl (cI, 100, .inl g_16)), (h_placeSearch_tally, .inl (cI, 1099, .inl g_19))] := hD
        exact ret _ _ _ _ _ (t_13, t_14, t_15, g_16, g_19) dX11_set_51 trivial (hP.sub [0, 8, 12, 1, 9, 13, 14, 10, 2, 3, 4, 11, 5, 6, 7] rfl) (hD.sub [0, 8, 12, 1, 9, 13, 14, 10, 2, 3, 4, 11, 5, 6, 7] (by decide) rfl) hS
      · have c_10 : v_slots_0_size.toInt = 0 := ci_ne_f c_10
        have b_v_slots_0_size := i32b v_slots_0_size
        refine lv_bipush (v := (-2)) hx hb dX11_set_24 (by decide) ?_
        exact ret _ _ _ _ _ (v_placeSearch_found, v_placeSearch_leastPlace, v_placeSearch_greatestPlace, f_placeSearch_sentAt, f_placeSearch_tally) dX11_set_26 trivial (hP.sub [0, 1, 2, 3, 4, 5, 6, 7, 8, 9, 10, 11, 12, 13, 14] rfl) (hD.sub [0, 1, 2, 3, 4, 5, 6, 7, 8, 9, 10, 11, 12, 13, 14] (by decide) rfl) hS
    · have c_6 : v1.toInt = 1 := by rw [e_5]; decide
      have hl : lv_has ls 3 [(2, .int r_1), (0, .ref h0), (1, .int 1)] := by rw [e_5] at hl; exact hl
      refine lv_aload_n hx hb dX11_set_12 rfl (lv_at hl 1 rfl) ?_
      refine va_get (D := D) (ci := 11) (v := .ref h_slots) (C := RX11) (T := TX11) (N := 14) hx hb hts inlX11 hown hK hP 0 rfl rfl 6 (by decide) (hts _ (inr2 _ (List.mem_of_getElem? (i := 6) rfl))) (fun _ h9 => h9) rfl dX11_set_13 ?_
      refine lv_iload_n hx hb dX11_set_16 rfl (lv_at hl 2 rfl) ?_
      refine va_aldq hx hb hK hP 3 4 rfl rfl (by unfold vp_in; decide) dX11_set_17 ?_
      refine W.eq (g2 := F0 m 18 ls [.ref h_slots_1]) rfl ?_
      refine roi (As := []) (rest := []) ⟨hx, hb, hml, hown, hts⟩ (b_X7_size l G D cB cI cJ cZ cS cT h_slots_1 h_slots_1_numbers v_slots_1_width v_slots_1_size v_slots_1_made (by first | assumption | omega | decide) (by first | assumption | omega | decide)) (cvB (n := 0) (inr52 _ (List.mem_of_getElem? (i := 4) rfl)) (inr52 _ (List.mem_of_getElem? (i := 5) rfl)) (inr52 _ (List.mem_of_getElem? (i := 6) rfl)) (inr2 _ (List.mem_of_getElem? (i := 8) rfl)) (inr52 _ (List.mem_of_getElem? (i := 7) rfl)) (by decide +kernel) hts rfl rfl ⟨Nat.le_of_ble_eq_true rfl, Nat.le_of_ble_eq_true rfl⟩) 0 7 rfl rfl rfl (hP.sub [8] rfl) hK hN (kT.to hT hS hAB) rfl hl.1 rfl (Nat.le_of_ble_eq_true rfl) ⟨Nat.le_of_ble_eq_true rfl, Nat.le_of_ble_eq_true rfl⟩ dX11_set_18 (fun r_20 h_21 => ?_)
      have h_21 : (r_20 = v_slots_1_size) := h_21
      have i_22 := h_21
      obtain rfl := i_22.symm
      refine lv_if_ne (tgt := 27) hx hb dX11_set_21 (by decide) (fun c_23 => ?_) (fun c_23 => ?_)
      · have c_23 : ¬ v_slots_1_size.toInt = 0 := ci_ne_t c_23
        have b_v_slots_1_size := i32b v_slots_1_size
        refine lv_aload_n hx hb dX11_set_27 rfl (lv_at hl 1 rfl) ?_
        refine va_get (D := D) (ci := 11) (v := .ref h_placeSearch) (C := RX11) (T := TX11) (N := 14) hx hb hts inlX11 hown hK hP 0 rfl rfl 12 (by decide) (hts _ (inr3 _ (List.mem_of_getElem? (i := 5) rfl))) (fun _ h9 => h9) rfl dX11_set_28 ?_
        refine lv_aload_n hx hb dX11_set_31 rfl (lv_at hl 1 rfl) ?_
        refine va_get (D := D) (ci := 11) (v := .ref h_now) (C := RX11) (T := TX11) (N := 14) hx hb hts inlX11 hown hK hP 0 rfl rfl 2 (by decide) (hts _ (inr2 _ (List.mem_of_getElem? (i := 0) rfl))) (fun _ h9 => h9) rfl dX11_set_32 ?_
        refine lv_aload_n hx hb dX11_set_35 rfl (lv_at hl 1 rfl) ?_
        refine va_get (D := D) (ci := 11) (v := .ref h_slots) (C := RX11) (T := TX11) (N := 14) hx hb hts inlX11 hown hK hP 0 rfl rfl 6 (by decide) (hts _ (inr2 _ (List.mem_of_getElem? (i := 6) rfl))) (fun _ h9 => h9) rfl dX11_set_36 ?_
        refine lv_iload_n hx hb dX11_set_39 rfl (lv_at hl 2 rfl) ?_
        refine va_aldq hx hb hK hP 3 4 rfl rfl (by unfold vp_in; decide) dX11_set_40 ?_
        refine W.eq (g2 := F0 m 41 ls [.ref h_slots_1, .ref h_now, .ref h_placeSearch]) rfl ?_
        refine wrVv (As := [.ref h_now, .ref h_slots_1]) (rest := []) (wr := [(h0, .inr (11, [.ref h_tape, .ref h_reader, .ref h_now, .ref h_trial, .ref h_images, .ref h_imageKept, .ref h_slots, .ref h_night, .ref h_otherNight, .ref h_circle, .ref h_words, .ref h_lawSearch, .ref h_placeSearch, .ref h_drawnNight])), (h_slots, .inl (cS, 4, .inr (.inr (.inr (.inr (va_up (va_up (va_up (va_up (fun _ => none) 0 (some h_slots_0)) 1 (some h_slots_1)) 2 (some h_slots_2)) 3 (some h_slots_3))))))), (h_placeSearch_tally, .inl (cI, 1099, .inl f_placeSearch_tally)), (h_slots_0, .inr (7, [.ref h_slots_0_numbers, .int v_slots_0_width, .int v_slots_0_size, .int v_slots_0_made])), (h_slots_2, .inr (7, [.ref h_slots_2_numbers, .int v_slots_2_width, .int v_slots_2_size, .int v_slots_2_made])), (h_slots_3, .inr (7, [.ref h_slots_3_numbers, .int v_slots_3_width, .int v_slots_3_size, .int v_slots_3_made])), (h_slots_0_numbers, .inl (cJ, 60, .inr (.inl f_slots_0_numbers))), (h_slots_2_numbers, .inl (cJ, 60, .inr (.inl f_slots_2_numbers))), (h_slots_3_numbers, .inl (cJ, 60, .inr (.inl f_slots_3_numbers)))]) ⟨hx, hb, hml, hown, hts⟩ (b_X5_searchFitting l G D cB cI cJ cZ cS cT s.heap.size h_placeSearch h_placeSearch_sentAt h_placeSearch_tally v_placeSearch_found v_placeSearch_leastPlace v_placeSearch_greatestPlace f_placeSearch_sentAt h_now v_now_tones v_now_a v_now_b v_now_c v_now_d v_now_odds v_now_lines h_now_signs v_now_signCount h_now_posts v_now_postCount h_now_acts f_now_posts h_slots_1 h_slots_1_numbers v_slots_1_width v_slots_1_size v_slots_1_made f_slots_1_numbers (by first | assumption | omega | decide) (by first | assumption | omega | decide) (by first | assumption | omega | decide) (by first | assumption | omega | decide)) hP hD hS hA hK hN hT hAB hG [2, 5, 1, 4, 8, 12] [0, 3, 6, 7, 9, 10, 11, 13, 14] rfl rfl (by decide) (by decide) (by decide) (cvB (n := 2) (inr56 _ (List.mem_of_getElem? (i := 18) rfl)) (inr56 _ (List.mem_of_getElem? (i := 19) rfl)) (inr56 _ (List.mem_of_getElem? (i := 20) rfl)) (inr3 _ (List.mem_of_getElem? (i := 4) rfl)) (inr56 _ (List.mem_of_getElem? (i := 21) rfl)) (by decide +kernel) hts rfl rfl ⟨Nat.le_of_ble_eq_true rfl, Nat.le_of_ble_eq_true rfl⟩) 0 5 rfl rfl rfl rfl hl.1 rfl (Nat.le_of_ble_eq_true rfl) ⟨Nat.le_of_ble_eq_true rfl, Nat.le_of_ble_eq_true rfl⟩ dX11_set_41 (fun x9 H locs h_25 hP hD hS => ?_)
        obtain ⟨t_26, t_27, t_28, g_29⟩ := x9
        have hP : va_P D vwCl [(h0, .inr (11, [.ref h_tape, .ref h_reader, .ref h_now, .ref h_trial, .ref h_images, .ref h_imageKept, .ref h_slots, .ref h_night, .ref h_otherNight, .ref h_circle, .ref h_words, .ref h_lawSearch, .ref h_placeSearch, .ref h_drawnNight])), (h_slots, .inl (cS, 4, .inr (.inr (.inr (.inr (va_up (va_up (va_up (va_up (fun _ => none) 0 (some h_slots_0)) 1 (some h_slots_1)) 2 (some h_slots_2)) 3 (some h_slots_3))))))), (h_placeSearch_tally, .inl (cI, 1099, .inl f_placeSearch_tally)), (h_slots_0, .inr (7, [.ref h_slots_0_numbers, .int v_slots_0_width, .int v_slots_0_size, .int v_slots_0_made])), (h_slots_2, .inr (7, [.ref h_slots_2_numbers, .int v_slots_2_width, .int v_slots_2_size, .int v_slots_2_made])), (h_slots_3, .inr (7, [.ref h_slots_3_numbers, .int v_slots_3_width, .int v_slots_3_size, .int v_slots_3_made])), (h_slots_0_numbers, .inl (cJ, 60, .inr (.inl f_slots_0_numbers))), (h_slots_2_numbers, .inl (cJ, 60, .inr (.inl f_slots_2_numbers))), (h_slots_3_numbers, .inl (cJ, 60, .inr (.inl f_slots_3_numbers))), (h_placeSearch, .inr (5, [.ref h_placeSearch_sentAt, .ref h_placeSearch_tally, .int t_26, .int t_27, .int t_28])), (h_placeSearch_sentAt, .inl (cI, 100, .inl g_29)), (h_now, .inr (8, [.int v_now_tones, .int v_now_a, .int v_now_b, .int v_now_c, .int v_now_d, .int v_now_odds, .int v_now_lines, .ref h_now_signs, .int v_now_signCount, .ref h_now_posts, .int v_now_postCount, .ref h_now_acts])), (h_now_posts, .inl (cI, 5, .inl f_now_posts)), (h_slots_1, .inr (7, [.ref h_slots_1_numbers, .int v_slots_1_width, .int v_slots_1_size, .int v_slots_1_made])), (h_slots_1_numbers, .inl (cJ, 60, .inr (.inl f_slots_1_numbers)))] H := hP
        have hD : va_D A [(h0, .inr (11, [.ref h_tape, .ref h_reader, .ref h_now, .ref h_trial, .ref h_images, .ref h_imageKept, .ref h_slots, .ref h_night, .ref h_otherNight, .ref h_circle, .ref h_words, .ref h_lawSearch, .ref h_placeSearch, .ref h_drawnNight])), (h_slots, .inl (cS, 4, .inr (.inr (.inr (.inr (va_up (va_up (va_up (va_up (fun _ => none) 0 (some h_slots_0)) 1 (some h_slots_1)) 2 (some h_slots_2)) 3 (some h_slots_3))))))), (h_placeSearch_tally, .inl (cI, 1099, .inl f_placeSearch_tally)), (h_slots_0, .inr (7, [.ref h_slots_0_numbers, .int v_slots_0_width, .int v_slots_0_size, .int v_slots_0_made])), (h_slots_2, .inr (7, [.ref h_slots_2_numbers, .int v_slots_2_width, .int v_slots_2_size, .int v_slots_2_made])), (h_slots_3, .inr (7, [.ref h_slots_3_numbers, .int v_slots_3_width, .int v_slots_3_size, .int v_slots_3_made])), (h_slots_0_numbers, .inl (cJ, 60, .inr (.inl f_slots_0_numbers))), (h_slots_2_numbers, .inl (cJ, 60, .inr (.inl f_slots_2_numbers))), (h_slots_3_numbers, .inl (cJ, 60, .inr (.inl f_slots_3_numbers))), (h_placeSearch, .inr (5, [.ref h_placeSearch_sentAt, .ref h_placeSearch_tally, .int t_26, .int t_27, .int t_28])), (h_placeSearch_sentAt, .inl (cI, 100, .inl g_29)), (h_now, .inr (8, [.int v_now_tones, .int v_now_a, .int v_now_b, .int v_now_c, .int v_now_d, .int v_now_odds, .int v_now_lines, .ref h_now_signs, .int v_now_signCount, .ref h_now_posts, .int v_now_postCount, .ref h_now_acts])), (h_now_posts, .inl (cI, 5, .inl f_now_posts)), (h_slots_1, .inr (7, [.ref h_slots_1_numbers, .int v_slots_1_width, .int v_slots_1_size, .int v_slots_1_made])), (h_slots_1_numbers, .inl (cJ, 60, .inr (.inl f_slots_1_numbers)))] := hD
        refine lv_aload_n hx hb dX11_set_44 rfl (lv_at hl 1 rfl) ?_
        refine va_get (D := D) (ci := 11) (v := .ref h_placeSearch) (C := RX11) (T := TX11) (N := 14) hx hb hts inlX11 hown hK hP 0 rfl rfl 12 (by decide) (hts _ (inr3 _ (List.mem_of_getElem? (i := 5) rfl))) (fun _ h9 => h9) rfl dX11_set_45 ?_
        refine wrVi (As := []) (rest := []) (wr := [(h0, .inr (11, [.ref h_tape, .ref h_reader, .ref h_now, .ref h_trial, .ref h_images, .ref h_imageKept, .ref h_slots, .ref h_night, .ref h_otherNight, .ref h_circle, .ref h_words, .ref h_lawSearch, .ref h_placeSearch, .ref h_drawnNight])), (h_slots, .inl (cS, 4, .inr (.inr (.inr (.inr (va_up (va_up (va_up (va_up (fun _ => none) 0 (some h_slots_0)) 1 (some h_slots_1)) 2 (some h_slots_2)) 3 (some h_slots_3))))))), (h_slots_0, .inr (7, [.ref h_slots_0_numbers, .int v_slots_0_width, .int v_slots_0_size, .int v_slots_0_made])), (h_slots_2, .inr (7, [.ref h_slots_2_numbers, .int v_slots_2_width, .int v_slots_2_size, .int v_slots_2_made])), (h_slots_3, .inr (7, [.ref h_slots_3_numbers, .int v_slots_3_width, .int v_slots_3_size, .int v_slots_3_made])), (h_slots_0_numbers, .inl (cJ, 60, .inr (.inl f_slots_0_numbers))), (h_slots_2_numbers, .inl (cJ, 60, .inr (.inl f_slots_2_numbers))), (h_slots_3_numbers, .inl (cJ, 60, .inr (.inl f_slots_3_numbers))), (h_now, .inr (8, [.int v_now_tones, .int v_now_a, .int v_now_b, .int v_now_c, .int v_now_d, .int v_now_odds, .int v_now_lines, .ref h_now_signs, .int v_now_signCount, .ref h_now_posts, .int v_now_postCount, .ref h_now_acts])), (h_now_posts, .inl (cI, 5, .inl f_now_posts)), (h_slots_1, .inr (7, [.ref h_slots_1_numbers, .int v_slots_1_width, .int v_slots_1_size, .int v_slots_1_made])), (h_slots_1_numbers, .inl (cJ, 60, .inr (.inl f_slots_1_numbers)))]) ⟨hx, hb, hml, hown, hts⟩ (b_X5_whereToSet l G D cB cI cJ cZ cS cT H.size h_placeSearch h_placeSearch_sentAt h_placeSearch_tally t_26 t_27 t_28 g_29 f_placeSearch_tally ) hP hD hS hA hK hN hT hAB hG [9, 10, 2] [0, 1, 3, 4, 5, 6, 7, 8, 11, 12, 13, 14] rfl rfl (by decide) (by decide) (by decide) (cvB (n := 0) (inr59 _ (List.mem_of_getElem? (i := 1) rfl)) (inr59 _ (List.mem_of_getElem? (i := 2) rfl)) (inr59 _ (List.mem_of_getElem? (i := 3) rfl)) (inr3 _ (List.mem_of_getElem? (i := 4) rfl)) (inr59 _ (List.mem_of_getElem? (i := 4) rfl)) (by decide +kernel) hts rfl rfl ⟨Nat.le_of_ble_eq_true rfl, Nat.le_of_ble_eq_true rfl⟩) 0 5 rfl rfl rfl rfl hl.1 rfl (Nat.le_of_ble_eq_true rfl) ⟨Nat.le_of_ble_eq_true rfl, Nat.le_of_ble_eq_true rfl⟩ dX11_set_48 (fun r_30 x9 H locs h_31 hP hD hS => ?_)
        obtain ⟨g_32, rfl⟩ : ∃ z, z = x9 := ⟨_, rfl⟩
        have hP : va_P D vwCl [(h0, .inr (11, [.ref h_tape, .ref h_reader, .ref h_now, .ref h_trial, .ref h_images, .ref h_imageKept, .ref h_slots, .ref h_night, .ref h_otherNight, .ref h_circle, .ref h_words, .ref h_lawSearch, .ref h_placeSearch, .ref h_drawnNight])), (h_slots, .inl (cS, 4, .inr (.inr (.inr (.inr (va_up (va_up (va_up (va_up (fun _ => none) 0 (some h_slots_0)) 1 (some h_slots_1)) 2 (some h_slots_2)) 3 (some h_slots_3))))))), (h_slots_0, .inr (7, [.ref h_slots_0_numbers, .int v_slots_0_width, .int v_slots_0_size, .int v_slots_0_made])), (h_slots_2, .inr (7, [.ref h_slots_2_numbers, .int v_slots_2_width, .int v_slots_2_size, .int v_slots_2_made])), (h_slots_3, .inr (7, [.ref h_slots_3_numbers, .int v_slots_3_width, .int v_slots_3_size, .int v_slots_3_made])), (h_slots_0_numbers, .inl (cJ, 60, .inr (.inl f_slots_0_numbers))), (h_slots_2_numbers, .inl (cJ, 60, .inr (.inl f_slots_2_numbers))), (h_slots_3_numbers, .inl (cJ, 60, .inr (.inl f_slots_3_numbers))), (h_now, .inr (8, [.int v_now_tones, .int v_now_a, .int v_now_b, .int v_now_c, .int v_now_d, .int v_now_odds, .int v_now_lines, .ref h_now_signs, .int v_now_signCount, .ref h_now_posts, .int v_now_postCount, .ref h_now_acts])), (h_now_posts, .inl (cI, 5, .inl f_now_posts)), (h_slots_1, .inr (7, [.ref h_slots_1_numbers, .int v_slots_1_width, .int v_slots_1_size, .int v_slots_1_made])), (h_slots_1_numbers, .inl (cJ, 60, .inr (.inl f_slots_1_numbers))), (h_placeSearch, .inr (5, [.ref h_placeSearch_sentAt, .ref h_placeSearch_tally, .int t_26, .int t_27, .int t_28])), (h_placeSearch_sentAt, .inl (cI, 100, .inl g_29)), (h_placeSearch_tally, .inl (cI, 1099, .inl g_32))] H := hP
        have hD : va_D A [(h0, .inr (11, [.ref h_tape, .ref h_reader, .ref h_now, .ref h_trial, .ref h_images, .ref h_imageKept, .ref h_slots, .ref h_night, .ref h_otherNight, .ref h_circle, .ref h_words, .ref h_lawSearch, .ref h_placeSearch, .ref h_drawnNight])), (h_slots, .inl (cS, 4, .inr (.inr (.inr (.inr (va_up (va_up (va_up (va_up (fun _ => none) 0 (some h_slots_0)) 1 (some h_slots_1)) 2 (some h_slots_2)) 3 (some h_slots_3))))))), (h_slots_0, .inr (7, [.ref h_slots_0_numbers, .int v_slots_0_width, .int v_slots_0_size, .int v_slots_0_made])), (h_slots_2, .inr (7, [.ref h_slots_2_numbers, .int v_slots_2_width, .int v_slots_2_size, .int v_slots_2_made])), (h_slots_3, .inr (7, [.ref h_slots_3_numbers, .int v_slots_3_width, .int v_slots_3_size, .int v_slots_3_made])), (h_slots_0_numbers, .inl (cJ, 60, .inr (.inl f_slots_0_numbers))), (h_slots_2_numbers, .inl (cJ, 60, .inr (.inl f_slots_2_numbers))), (h_slots_3_numbers, .inl (cJ, 60, .inr (.inl f_slots_3_numbers))), (h_now, .inr (8, [.int v_now_tones, .int v_now_a, .int v_now_b, .int v_now_c, .int v_now_d, .int v_now_odds, .int v_now_lines, .ref h_now_signs, .int v_now_signCount, .ref h_now_posts, .int v_now_postCount, .ref h_now_acts])), (h_now_posts, .inl (cI, 5, .inl f_now_posts)), (h_slots_1, .inr (7, [.ref h_slots_1_numbers, .int v_slots_1_width, .int v_slots_1_size, .int v_slots_1_made])), (h_slots_1_numbers, .inl (cJ, 60, .inr (.inl f_slots_1_numbers))), (h_placeSearch, .inr (5, [.ref h_placeSearch_sentAt, .ref h_placeSearch_tally, .int t_26, .int t_27, .int t_28])), (h_placeSearch_sentAt, .inl (cI, 100, .inl g_29)), (h_placeSearch_tally, .inl (cI, 1099, .inl g_32))] := hD
        exact ret _ _ _ _ _ (t_26, t_27, t_28, g_29, g_32) dX11_set_51 trivial (hP.sub [0, 8, 12, 1, 9, 13, 14, 2, 10, 3, 4, 5, 11, 6, 7] rfl) (hD.sub [0, 8, 12, 1, 9, 13, 14, 2, 10, 3, 4, 5, 11, 6, 7] (by decide) rfl) hS
      · have c_23 : v_slots_1_size.toInt = 0 := ci_ne_f c_23
        have b_v_slots_1_size := i32b v_slots_1_size
        refine lv_bipush (v := (-2)) hx hb dX11_set_24 (by decide) ?_
        exact ret _ _ _ _ _ (v_placeSearch_found, v_placeSearch_leastPlace, v_placeSearch_greatestPlace, f_placeSearch_sentAt, f_placeSearch_tally) dX11_set_26 trivial (hP.sub [0, 1, 2, 3, 4, 5, 6, 7, 8, 9, 10, 11, 12, 13, 14] rfl) (hD.sub [0, 1, 2, 3, 4, 5, 6, 7, 8, 9, 10, 11, 12, 13, 14] (by decide) rfl) hS
    · have c_6 : v1.toInt = 2 := by rw [e_5]; decide
      have hl : lv_has ls 3 [(2, .int r_1), (0, .ref h0), (1, .int 2)] := by rw [e_5] at hl; exact hl
      refine lv_aload_n hx hb dX11_set_12 rfl (lv_at hl 1 rfl) ?_
      refine va_get (D := D) (ci := 11) (v := .ref h_slots) (C := RX11) (T := TX11) (N := 14) hx hb hts inlX11 hown hK hP 0 rfl rfl 6 (by decide) (hts _ (inr2 _ (List.mem_of_getElem? (i := 6) rfl))) (fun _ h9 => h9) rfl dX11_set_13 ?_
      refine lv_iload_n hx hb dX11_set_16 rfl (lv_at hl 2 rfl) ?_
      refine va_aldq hx hb hK hP 3 4 rfl rfl (by unfold vp_in; decide) dX11_set_17 ?_
      refine W.eq (g2 := F0 m 18 ls [.ref h_slots_2]) rfl ?_
      refine roi (As := []) (rest := []) ⟨hx, hb, hml, hown, hts⟩ (b_X7_size l G D cB cI cJ cZ cS cT h_slots_2 h_slots_2_numbers v_slots_2_width v_slots_2_size v_slots_2_made (by first | assumption | omega | decide) (by first | assumption | omega | decide)) (cvB (n := 0) (inr52 _ (List.mem_of_getElem? (i := 4) rfl)) (inr52 _ (List.mem_of_getElem? (i := 5) rfl)) (inr52 _ (List.mem_of_getElem? (i := 6) rfl)) (inr2 _ (List.mem_of_getElem? (i := 8) rfl)) (inr52 _ (List.mem_of_getElem? (i := 7) rfl)) (by decide +kernel) hts rfl rfl ⟨Nat.le_of_ble_eq_true rfl, Nat.le_of_ble_eq_true rfl⟩) 0 7 rfl rfl rfl (hP.sub [9] rfl) hK hN (kT.to hT hS hAB) rfl hl.1 rfl (Nat.le_of_ble_eq_true rfl) ⟨Nat.le_of_ble_eq_true rfl, Nat.le_of_ble_eq_true rfl⟩ dX11_set_18 (fun r_33 h_34 => ?_)
      have h_34 : (r_33 = v_slots_2_size) := h_34
      have i_35 := h_34
      obtain rfl := i_35.symm
      refine lv_if_ne (tgt := 27) hx hb dX11_set_21 (by decide) (fun c_36 => ?_) (fun c_36 => ?_)
      · have c_36 : ¬ v_slots_2_size.toInt = 0 := ci_ne_t c_36
        have b_v_slots_2_size := i32b v_slots_2_size
        refine lv_aload_n hx hb dX11_set_27 rfl (lv_at hl 1 rfl) ?_
        refine va_get (D := D) (ci := 11) (v := .ref h_placeSearch) (C := RX11) (T := TX11) (N := 14) hx hb hts inlX11 hown hK hP 0 rfl rfl 12 (by decide) (hts _ (inr3 _ (List.mem_of_getElem? (i := 5) rfl))) (fun _ h9 => h9) rfl dX11_set_28 ?_
        refine lv_aload_n hx hb dX11_set_31 rfl (lv_at hl 1 rfl) ?_
        refine va_get (D := D) (ci := 11) (v := .ref h_now) (C := RX11) (T := TX11) (N := 14) hx hb hts inlX11 hown hK hP 0 rfl rfl 2 (by decide) (hts _ (inr2 _ (List.mem_of_getElem? (i := 0) rfl))) (fun _ h9 => h9) rfl dX11_set_32 ?_
        refine lv_aload_n hx hb dX11_set_35 rfl (lv_at hl 1 rfl) ?_
        refine va_get (D := D) (ci := 11) (v := .ref h_slots) (C := RX11) (T := TX11) (N := 14) hx hb hts inlX11 hown hK hP 0 rfl rfl 6 (by decide) (hts _ (inr2 _ (List.mem_of_getElem? (i := 6) rfl))) (fun _ h9 => h9) rfl dX11_set_36 ?_
        refine lv_iload_n hx hb dX11_set_39 rfl (lv_at hl 2 rfl) ?_
        refine va_aldq hx hb hK hP 3 4 rfl rfl (by unfold vp_in; decide) dX11_set_40 ?_
        refine W.eq (g2 := F0 m 41 ls [.ref h_slots_2, .ref h_now, .ref h_placeSearch]) rfl ?_
        refine wrVv (As := [.ref h_now, .ref h_slots_2]) (rest := []) (wr := [(h0, .inr (11, [.ref h_tape, .ref h_reader, .ref h_now, .ref h_trial, .ref h_images, .ref h_imageKept, .ref h_slots, .ref h_night, .ref h_otherNight, .ref h_circle, .ref h_words, .ref h_lawSearch, .ref h_placeSearch, .ref h_drawnNight])), (h_slots, .inl (cS, 4, .inr (.inr (.inr (.inr (va_up (va_up (va_up (va_up (fun _ => none) 0 (some h_slots_0)) 1 (some h_slots_1)) 2 (some h_slots_2)) 3 (some h_slots_3))))))), (h_placeSearch_tally, .inl (cI, 1099, .inl f_placeSearch_tally)), (h_slots_0, .inr (7, [.ref h_slots_0_numbers, .int v_slots_0_width, .int v_slots_0_size, .int v_slots_0_made])), (h_slots_1, .inr (7, [.ref h_slots_1_numbers, .int v_slots_1_width, .int v_slots_1_size, .int v_slots_1_made])), (h_slots_3, .inr (7, [.ref h_slots_3_numbers, .int v_slots_3_width, .int v_slots_3_size, .int v_slots_3_made])), (h_slots_0_numbers, .inl (cJ, 60, .inr (.inl f_slots_0_numbers))), (h_slots_1_numbers, .inl (cJ, 60, .inr (.inl f_slots_1_numbers))), (h_slots_3_numbers, .inl (cJ, 60, .inr (.inl f_slots_3_numbers)))]) ⟨hx, hb, hml, hown, hts⟩ (b_X5_searchFitting l G D cB cI cJ cZ cS cT s.heap.size h_placeSearch h_placeSearch_sentAt h_placeSearch_tally v_placeSearch_found v_placeSearch_leastPlace v_placeSearch_greatestPlace f_placeSearch_sentAt h_now v_now_tones v_now_a v_now_b v_now_c v_now_d v_now_odds v_now_lines h_now_signs v_now_signCount h_now_posts v_now_postCount h_now_acts f_now_posts h_slots_2 h_slots_2_numbers v_slots_2_width v_slots_2_size v_slots_2_made f_slots_2_numbers (by first | assumption | omega | decide) (by first | assumption | omega | decide) (by first | assumption | omega | decide) (by first | assumption | omega | decide)) hP hD hS hA hK hN hT hAB hG [2, 5, 1, 4, 9, 13] [0, 3, 6, 7, 8, 10, 11, 12, 14] rfl rfl (by decide) (by decide) (by decide) (cvB (n := 2) (inr56 _ (List.mem_of_getElem? (i := 18) rfl)) (inr56 _ (List.mem_of_getElem? (i := 19) rfl)) (inr56 _ (List.mem_of_getElem? (i := 20) rfl)) (inr3 _ (List.mem_of_getElem? (i := 4) rfl)) (inr56 _ (List.mem_of_getElem? (i := 21) rfl)) (by decide +kernel) hts rfl rfl ⟨Nat.le_of_ble_eq_true rfl, Nat.le_of_ble_eq_true rfl⟩) 0 5 rfl rfl rfl rfl hl.1 rfl (Nat.le_of_ble_eq_true rfl) ⟨Nat.le_of_ble_eq_true rfl, Nat.le_of_ble_eq_true rfl⟩ dX11_set_41 (fun x9 H locs h_38 hP hD hS => ?_)
        obtain ⟨t_39, t_40, t_41, g_42⟩ := x9
        have hP : va_P D vwCl [(h0, .inr (11, [.ref h_tape, .ref h_reader, .ref h_now, .ref h_trial, .ref h_images, .ref h_imageKept, .ref h_slots, .ref h_night, .ref h_otherNight, .ref h_circle, .ref h_words, .ref h_lawSearch, .ref h_placeSearch, .ref h_drawnNight])), (h_slots, .inl (cS, 4, .inr (.inr (.inr (.inr (va_up (va_up (va_up (va_up (fun _ => none) 0 (some h_slots_0)) 1 (some h_slots_1)) 2 (some h_slots_2)) 3 (some h_slots_3))))))), (h_placeSearch_tally, .inl (cI, 1099, .inl f_placeSearch_tally)), (h_slots_0, .inr (7, [.ref h_slots_0_numbers, .int v_slots_0_width, .int v_slots_0_size, .int v_slots_0_made])), (h_slots_1, .inr (7, [.ref h_slots_1_numbers, .int v_slots_1_width, .int v_slots_1_size, .int v_slots_1_made])), (h_slots_3, .inr (7, [.ref h_slots_3_numbers, .int v_slots_3_width, .int v_slots_3_size, .int v_slots_3_made])), (h_slots_0_numbers, .inl (cJ, 60, .inr (.inl f_slots_0_numbers))), (h_slots_1_numbers, .inl (cJ, 60, .inr (.inl f_slots_1_numbers))), (h_slots_3_numbers, .inl (cJ, 60, .inr (.inl f_slots_3_numbers))), (h_placeSearch, .inr (5, [.ref h_placeSearch_sentAt, .ref h_placeSearch_tally, .int t_39, .int t_40, .int t_41])), (h_placeSearch_sentAt, .inl (cI, 100, .inl g_42)), (h_now, .inr (8, [.int v_now_tones, .int v_now_a, .int v_now_b, .int v_now_c, .int v_now_d, .int v_now_odds, .int v_now_lines, .ref h_now_signs, .int v_now_signCount, .ref h_now_posts, .int v_now_postCount, .ref h_now_acts])), (h_now_posts, .inl (cI, 5, .inl f_now_posts)), (h_slots_2, .inr (7, [.ref h_slots_2_numbers, .int v_slots_2_width, .int v_slots_2_size, .int v_slots_2_made])), (h_slots_2_numbers, .inl (cJ, 60, .inr (.inl f_slots_2_numbers)))] H := hP
        have hD : va_D A [(h0, .inr (11, [.ref h_tape, .ref h_reader, .ref h_now, .ref h_trial, .ref h_images, .ref h_imageKept, .ref h_slots, .ref h_night, .ref h_otherNight, .ref h_circle, .ref h_words, .ref h_lawSearch, .ref h_placeSearch, .ref h_drawnNight])), (h_slots, .inl (cS, 4, .inr (.inr (.inr (.inr (va_up (va_up (va_up (va_up (fun _ => none) 0 (some h_slots_0)) 1 (some h_slots_1)) 2 (some h_slots_2)) 3 (some h_slots_3))))))), (h_placeSearch_tally, .inl (cI, 1099, .inl f_placeSearch_tally)), (h_slots_0, .inr (7, [.ref h_slots_0_numbers, .int v_slots_0_width, .int v_slots_0_size, .int v_slots_0_made])), (h_slots_1, .inr (7, [.ref h_slots_1_numbers, .int v_slots_1_width, .int v_slots_1_size, .int v_slots_1_made])), (h_slots_3, .inr (7, [.ref h_slots_3_numbers, .int v_slots_3_width, .int v_slots_3_size, .int v_slots_3_made])), (h_slots_0_numbers, .inl (cJ, 60, .inr (.inl f_slots_0_numbers))), (h_slots_1_numbers, .inl (cJ, 60, .inr (.inl f_slots_1_numbers))), (h_slots_3_numbers, .inl (cJ, 60, .inr (.inl f_slots_3_numbers))), (h_placeSearch, .inr (5, [.ref h_placeSearch_sentAt, .ref h_placeSearch_tally, .int t_39, .int t_40, .int t_41])), (h_placeSearch_sentAt, .inl (cI, 100, .inl g_42)), (h_now, .inr (8, [.int v_now_tones, .int v_now_a, .int v_now_b, .int v_now_c, .int v_now_d, .int v_now_odds, .int v_now_lines, .ref h_now_signs, .int v_now_signCount, .ref h_now_posts, .int v_now_postCount, .ref h_now_acts])), (h_now_posts, .inl (cI, 5, .inl f_now_posts)), (h_slots_2, .inr (7, [.ref h_slots_2_numbers, .int v_slots_2_width, .int v_slots_2_size, .int v_slots_2_made])), (h_slots_2_numbers, .inl (cJ, 60, .inr (.inl f_slots_2_numbers)))] := hD
        refine lv_aload_n hx hb dX11_set_44 rfl (lv_at hl 1 rfl) ?_
        refine va_get (D := D) (ci := 11) (v := .ref h_placeSearch) (C := RX11) (T := TX11) (N := 14) hx hb hts inlX11 hown hK hP 0 rfl rfl 12 (by decide) (hts _ (inr3 _ (List.mem_of_getElem? (i := 5) rfl))) (fun _ h9 => h9) rfl dX11_set_45 ?_
        refine wrVi (As := []) (rest := []) (wr := [(h0, .inr (11, [.ref h_tape, .ref h_reader, .ref h_now, .ref h_trial, .ref h_images, .ref h_imageKept, .ref h_slots, .ref h_night, .ref h_otherNight, .ref h_circle, .ref h_words, .ref h_lawSearch, .ref h_placeSearch, .ref h_drawnNight])), (h_slots, .inl (cS, 4, .inr (.inr (.inr (.inr (va_up (va_up (va_up (va_up (fun _ => none) 0 (some h_slots_0)) 1 (some h_slots_1)) 2 (some h_slots_2)) 3 (some h_slots_3))))))), (h_slots_0, .inr (7, [.ref h_slots_0_numbers, .int v_slots_0_width, .int v_slots_0_size, .int v_slots_0_made])), (h_slots_1, .inr (7, [.ref h_slots_1_numbers, .int v_slots_1_width, .int v_slots_1_size, .int v_slots_1_made])), (h_slots_3, .inr (7, [.ref h_slots_3_numbers, .int v_slots_3_width, .int v_slots_3_size, .int v_slots_3_made])), (h_slots_0_numbers, .inl (cJ, 60, .inr (.inl f_slots_0_numbers))), (h_slots_1_numbers, .inl (cJ, 60, .inr (.inl f_slots_1_numbers))), (h_slots_3_numbers, .inl (cJ, 60, .inr (.inl f_slots_3_numbers))), (h_now, .inr (8, [.int v_now_tones, .int v_now_a, .int v_now_b, .int v_now_c, .int v_now_d, .int v_now_odds, .int v_now_lines, .ref h_now_signs, .int v_now_signCount, .ref h_now_posts, .int v_now_postCount, .ref h_now_acts])), (h_now_posts, .inl (cI, 5, .inl f_now_posts)), (h_slots_2, .inr (7, [.ref h_slots_2_numbers, .int v_slots_2_width, .int v_slots_2_size, .int v_slots_2_made])), (h_slots_2_numbers, .inl (cJ, 60, .inr (.inl f_slots_2_numbers)))]) ⟨hx, hb, hml, hown, hts⟩ (b_X5_whereToSet l G D cB cI cJ cZ cS cT H.size h_placeSearch h_placeSearch_sentAt h_placeSearch_tally t_39 t_40 t_41 g_42 f_placeSearch_tally ) hP hD hS hA hK hN hT hAB hG [9, 10, 2] [0, 1, 3, 4, 5, 6, 7, 8, 11, 12, 13, 14] rfl rfl (by decide) (by decide) (by decide) (cvB (n := 0) (inr59 _ (List.mem_of_getElem? (i := 1) rfl)) (inr59 _ (List.mem_of_getElem? (i := 2) rfl)) (inr59 _ (List.mem_of_getElem? (i := 3) rfl)) (inr3 _ (List.mem_of_getElem? (i := 4) rfl)) (inr59 _ (List.mem_of_getElem? (i := 4) rfl)) (by decide +kernel) hts rfl rfl ⟨Nat.le_of_ble_eq_true rfl, Nat.le_of_ble_eq_true rfl⟩) 0 5 rfl rfl rfl rfl hl.1 rfl (Nat.le_of_ble_eq_true rfl) ⟨Nat.le_of_ble_eq_true rfl, Nat.le_of_ble_eq_true rfl⟩ dX11_set_48 (fun r_43 x9 H locs h_44 hP hD hS => ?_)
        obtain ⟨g_45, rfl⟩ : ∃ z, z = x9 := ⟨_, rfl⟩
        have hP : va_P D vwCl [(h0, .inr (11, [.ref h_tape, .ref h_reader, .ref h_now, .ref h_trial, .ref h_images, .ref h_imageKept, .ref h_slots, .ref h_night, .ref h_otherNight, .ref h_circle, .ref h_words, .ref h_lawSearch, .ref h_placeSearch, .ref h_drawnNight])), (h_slots, .inl (cS, 4, .inr (.inr (.inr (.inr (va_up (va_up (va_up (va_up (fun _ => none) 0 (some h_slots_0)) 1 (some h_slots_1)) 2 (some h_slots_2)) 3 (some h_slots_3))))))), (h_slots_0, .inr (7, [.ref h_slots_0_numbers, .int v_slots_0_width, .int v_slots_0_size, .int v_slots_0_made])), (h_slots_1, .inr (7, [.ref h_slots_1_numbers, .int v_slots_1_width, .int v_slots_1_size, .int v_slots_1_made])), (h_slots_3, .inr (7, [.ref h_slots_3_numbers, .int v_slots_3_width, .int v_slots_3_size, .int v_slots_3_made])), (h_slots_0_numbers, .inl (cJ, 60, .inr (.inl f_slots_0_numbers))), (h_slots_1_numbers, .inl (cJ, 60, .inr (.inl f_slots_1_numbers))), (h_slots_3_numbers, .inl (cJ, 60, .inr (.inl f_slots_3_numbers))), (h_now, .inr (8, [.int v_now_tones, .int v_now_a, .int v_now_b, .int v_now_c, .int v_now_d, .int v_now_odds, .int v_now_lines, .ref h_now_signs, .int v_now_signCount, .ref h_now_posts, .int v_now_postCount, .ref h_now_acts])), (h_now_posts, .inl (cI, 5, .inl f_now_posts)), (h_slots_2, .inr (7, [.ref h_slots_2_numbers, .int v_slots_2_width, .int v_slots_2_size, .int v_slots_2_made])), (h_slots_2_numbers, .inl (cJ, 60, .inr (.inl f_slots_2_numbers))), (h_placeSearch, .inr (5, [.ref h_placeSearch_sentAt, .ref h_placeSearch_tally, .int t_39, .int t_40, .int t_41])), (h_placeSearch_sentAt, .inl (cI, 100, .inl g_42)), (h_placeSearch_tally, .inl (cI, 1099, .inl g_45))] H := hP
        have hD : va_D A [(h0, .inr (11, [.ref h_tape, .ref h_reader, .ref h_now, .ref h_trial, .ref h_images, .ref h_imageKept, .ref h_slots, .ref h_night, .ref h_otherNight, .ref h_circle, .ref h_words, .ref h_lawSearch, .ref h_placeSearch, .ref h_drawnNight])), (h_slots, .inl (cS, 4, .inr (.inr (.inr (.inr (va_up (va_up (va_up (va_up (fun _ => none) 0 (some h_slots_0)) 1 (some h_slots_1)) 2 (some h_slots_2)) 3 (some h_slots_3))))))), (h_slots_0, .inr (7, [.ref h_slots_0_numbers, .int v_slots_0_width, .int v_slots_0_size, .int v_slots_0_made])), (h_slots_1, .inr (7, [.ref h_slots_1_numbers, .int v_slots_1_width, .int v_slots_1_size, .int v_slots_1_made])), (h_slots_3, .inr (7, [.ref h_slots_3_numbers, .int v_slots_3_width, .int v_slots_3_size, .int v_slots_3_made])), (h_slots_0_numbers, .inl (cJ, 60, .inr (.inl f_slots_0_numbers))), (h_slots_1_numbers, .inl (cJ, 60, .inr (.inl f_slots_1_numbers))), (h_slots_3_numbers, .inl (cJ, 60, .inr (.inl f_slots_3_numbers))), (h_now, .inr (8, [.int v_now_tones, .int v_now_a, .int v_now_b, .int v_now_c, .int v_now_d, .int v_now_odds, .int v_now_lines, .ref h_now_signs, .int v_now_signCount, .ref h_now_posts, .int v_now_postCount, .ref h_now_acts])), (h_now_posts, .inl (cI, 5, .inl f_now_posts)), (h_slots_2, .inr (7, [.ref h_slots_2_numbers, .int v_slots_2_width, .int v_slots_2_size, .int v_slots_2_made])), (h_slots_2_numbers, .inl (cJ, 60, .inr (.inl f_slots_2_numbers))), (h_placeSearch, .inr (5, [.ref h_placeSearch_sentAt, .ref h_placeSearch_tally, .int t_39, .int t_40, .int t_41])), (h_placeSearch_sentAt, .inl (cI, 100, .inl g_42)), (h_placeSearch_tally, .inl (cI, 1099, .inl g_45))] := hD
        exact ret _ _ _ _ _ (t_39, t_40, t_41, g_42, g_45) dX11_set_51 trivial (hP.sub [0, 8, 12, 1, 9, 13, 14, 2, 3, 10, 4, 5, 6, 11, 7] rfl) (hD.sub [0, 8, 12, 1, 9, 13, 14, 2, 3, 10, 4, 5, 6, 11, 7] (by decide) rfl) hS
      · have c_36 : v_slots_2_size.toInt = 0 := ci_ne_f c_36
        have b_v_slots_2_size := i32b v_slots_2_size
        refine lv_bipush (v := (-2)) hx hb dX11_set_24 (by decide) ?_
        exact ret _ _ _ _ _ (v_placeSearch_found, v_placeSearch_leastPlace, v_placeSearch_greatestPlace, f_placeSearch_sentAt, f_placeSearch_tally) dX11_set_26 trivial (hP.sub [0, 1, 2, 3, 4, 5, 6, 7, 8, 9, 10, 11, 12, 13, 14] rfl) (hD.sub [0, 1, 2, 3, 4, 5, 6, 7, 8, 9, 10, 11, 12, 13, 14] (by decide) rfl) hS
    · have c_6 : v1.toInt = 3 := by rw [e_5]; decide
      have hl : lv_has ls 3 [(2, .int r_1), (0, .ref h0), (1, .int 3)] := by rw [e_5] at hl; exact hl
      refine lv_aload_n hx hb dX11_set_12 rfl (lv_at hl 1 rfl) ?_
      refine va_get (D := D) (ci := 11) (v := .ref h_slots) (C := RX11) (T := TX11) (N := 14) hx hb hts inlX11 hown hK hP 0 rfl rfl 6 (by decide) (hts _ (inr2 _ (List.mem_of_getElem? (i := 6) rfl))) (fun _ h9 => h9) rfl dX11_set_13 ?_
      refine lv_iload_n hx hb dX11_set_16 rfl (lv_at hl 2 rfl) ?_
      refine va_aldq hx hb hK hP 3 4 rfl rfl (by unfold vp_in; decide) dX11_set_17 ?_
      refine W.eq (g2 := F0 m 18 ls [.ref h_slots_3]) rfl ?_
      refine roi (As := []) (rest := []) ⟨hx, hb, hml, hown, hts⟩ (b_X7_size l G D cB cI cJ cZ cS cT h_slots_3 h_slots_3_numbers v_slots_3_width v_slots_3_size v_slots_3_made (by first | assumption | omega | decide) (by first | assumption | omega | decide)) (cvB (n := 0) (inr52 _ (List.mem_of_getElem? (i := 4) rfl)) (inr52 _ (List.mem_of_getElem? (i := 5) rfl)) (inr52 _ (List.mem_of_getElem? (i := 6) rfl)) (inr2 _ (List.mem_of_getElem? (i := 8) rfl)) (inr52 _ (List.mem_of_getElem? (i := 7) rfl)) (by decide +kernel) hts rfl rfl ⟨Nat.le_of_ble_eq_true rfl, Nat.le_of_ble_eq_true rfl⟩) 0 7 rfl rfl rfl (hP.sub [10] rfl) hK hN (kT.to hT hS hAB) rfl hl.1 rfl (Nat.le_of_ble_eq_true rfl) ⟨Nat.le_of_ble_eq_true rfl, Nat.le_of_ble_eq_true rfl⟩ dX11_set_18 (fun r_46 h_47 => ?_)
      have h_47 : (r_46 = v_slots_3_size) := h_47
      have i_48 := h_47
      obtain rfl := i_48.symm
      refine lv_if_ne (tgt := 27) hx hb dX11_set_21 (by decide) (fun c_49 => ?_) (fun c_49 => ?_)
      · have c_49 : ¬ v_slots_3_size.toInt = 0 := ci_ne_t c_49
        have b_v_slots_3_size := i32b v_slots_3_size
        refine lv_aload_n hx hb dX11_set_27 rfl (lv_at hl 1 rfl) ?_
        refine va_get (D := D) (ci := 11) (v := .ref h_placeSearch) (C := RX11) (T := TX11) (N := 14) hx hb hts inlX11 hown hK hP 0 rfl rfl 12 (by decide) (hts _ (inr3 _ (List.mem_of_getElem? (i := 5) rfl))) (fun _ h9 => h9) rfl dX11_set_28 ?_
        refine lv_aload_n hx hb dX11_set_31 rfl (lv_at hl 1 rfl) ?_
        refine va_get (D := D) (ci := 11) (v := .ref h_now) (C := RX11) (T := TX11) (N := 14) hx hb hts inlX11 hown hK hP 0 rfl rfl 2 (by decide) (hts _ (inr2 _ (List.mem_of_getElem? (i := 0) rfl))) (fun _ h9 => h9) rfl dX11_set_32 ?_
        refine lv_aload_n hx hb dX11_set_35 rfl (lv_at hl 1 rfl) ?_
        refine va_get (D := D) (ci := 11) (v := .ref h_slots) (C := RX11) (T := TX11) (N := 14) hx hb hts inlX11 hown hK hP 0 rfl rfl 6 (by decide) (hts _ (inr2 _ (List.mem_of_getElem? (i := 6) rfl))) (fun _ h9 => h9) rfl dX11_set_36 ?_
        refine lv_iload_n hx hb dX11_set_39 rfl (lv_at hl 2 rfl) ?_
        refine va_aldq hx hb hK hP 3 4 rfl rfl (by unfold vp_in; decide) dX11_set_40 ?_
        refine W.eq (g2 := F0 m 41 ls [.ref h_slots_3, .ref h_now, .ref h_placeSearch]) rfl ?_
        refine wrVv (As := [.ref h_now, .ref h_slots_3]) (rest := []) (wr := [(h0, .inr (11, [.ref h_tape, .ref h_reader, .ref h_now, .ref h_trial, .ref h_images, .ref h_imageKept, .ref h_slots, .ref h_night, .ref h_otherNight, .ref h_circle, .ref h_words, .ref h_lawSearch, .ref h_placeSearch, .ref h_drawnNight])), (h_slots, .inl (cS, 4, .inr (.inr (.inr (.inr (va_up (va_up (va_up (va_up (fun _ => none) 0 (some h_slots_0)) 1 (some h_slots_1)) 2 (some h_slots_2)) 3 (some h_slots_3))))))), (h_placeSearch_tally, .inl (cI, 1099, .inl f_placeSearch_tally)), (h_slots_0, .inr (7, [.ref h_slots_0_numbers, .int v_slots_0_width, .int v_slots_0_size, .int v_slots_0_made])), (h_slots_1, .inr (7, [.ref h_slots_1_numbers, .int v_slots_1_width, .int v_slots_1_size, .int v_slots_1_made])), (h_slots_2, .inr (7, [.ref h_slots_2_numbers, .int v_slots_2_width, .int v_slots_2_size, .int v_slots_2_made])), (h_slots_0_numbers, .inl (cJ, 60, .inr (.inl f_slots_0_numbers))), (h_slots_1_numbers, .inl (cJ, 60, .inr (.inl f_slots_1_numbers))), (h_slots_2_numbers, .inl (cJ, 60, .inr (.inl f_slots_2_numbers)))]) ⟨hx, hb, hml, hown, hts⟩ (b_X5_searchFitting l G D cB cI cJ cZ cS cT s.heap.size h_placeSearch h_placeSearch_sentAt h_placeSearch_tally v_placeSearch_found v_placeSearch_leastPlace v_placeSearch_greatestPlace f_placeSearch_sentAt h_now v_now_tones v_now_a v_now_b v_now_c v_now_d v_now_odds v_now_lines h_now_signs v_now_signCount h_now_posts v_now_postCount h_now_acts f_now_posts h_slots_3 h_slots_3_numbers v_slots_3_width v_slots_3_size v_slots_3_made f_slots_3_numbers (by first | assumption | omega | decide) (by first | assumption | omega | decide) (by first | assumption | omega | decide) (by first | assumption | omega | decide)) hP hD hS hA hK hN hT hAB hG [2, 5, 1, 4, 10, 14] [0, 3, 6, 7, 8, 9, 11, 12, 13] rfl rfl (by decide) (by decide) (by decide) (cvB (n := 2) (inr56 _ (List.mem_of_getElem? (i := 18) rfl)) (inr56 _ (List.mem_of_getElem? (i := 19) rfl)) (inr56 _ (List.mem_of_getElem? (i := 20) rfl)) (inr3 _ (List.mem_of_getElem? (i := 4) rfl)) (inr56 _ (List.mem_of_getElem? (i := 21) rfl)) (by decide +kernel) hts rfl rfl ⟨Nat.le_of_ble_eq_true rfl, Nat.le_of_ble_eq_true rfl⟩) 0 5 rfl rfl rfl rfl hl.1 rfl (Nat.le_of_ble_eq_true rfl) ⟨Nat.le_of_ble_eq_true rfl, Nat.le_of_ble_eq_true rfl⟩ dX11_set_41 (fun x9 H locs h_51 hP hD hS => ?_)
        obtain ⟨t_52, t_53, t_54, g_55⟩ := x9
        have hP : va_P D vwCl [(h0, .inr (11, [.ref h_tape, .ref h_reader, .ref h_now, .ref h_trial, .ref h_images, .ref h_imageKept, .ref h_slots, .ref h_night, .ref h_otherNight, .ref h_circle, .ref h_words, .ref h_lawSearch, .ref h_placeSearch, .ref h_drawnNight])), (h_slots, .inl (cS, 4, .inr (.inr (.inr (.inr (va_up (va_up (va_up (va_up (fun _ => none) 0 (some h_slots_0)) 1 (some h_slots_1)) 2 (some h_slots_2)) 3 (some h_slots_3))))))), (h_placeSearch_tally, .inl (cI, 1099, .inl f_placeSearch_tally)), (h_slots_0, .inr (7, [.ref h_slots_0_numbers, .int v_slots_0_width, .int v_slots_0_size, .int v_slots_0_made])), (h_slots_1, .inr (7, [.ref h_slots_1_numbers, .int v_slots_1_width, .int v_slots_1_size, .int v_slots_1_made])), (h_slots_2, .inr (7, [.ref h_slots_2_numbers, .int v_slots_2_width, .int v_slots_2_size, .int v_slots_2_made])), (h_slots_0_numbers, .inl (cJ, 60, .inr (.inl f_slots_0_numbers))), (h_slots_1_numbers, .inl (cJ, 60, .inr (.inl f_slots_1_numbers))), (h_slots_2_numbers, .inl (cJ, 60, .inr (.inl f_slots_2_numbers))), (h_placeSearch, .inr (5, [.ref h_placeSearch_sentAt, .ref h_placeSearch_tally, .int t_52, .int t_53, .int t_54])), (h_placeSearch_sentAt, .inl (cI, 100, .inl g_55)), (h_now, .inr (8, [.int v_now_tones, .int v_now_a, .int v_now_b, .int v_now_c, .int v_now_d, .int v_now_odds, .int v_now_lines, .ref h_now_signs, .int v_now_signCount, .ref h_now_posts, .int v_now_postCount, .ref h_now_acts])), (h_now_posts, .inl (cI, 5, .inl f_now_posts)), (h_slots_3, .inr (7, [.ref h_slots_3_numbers, .int v_slots_3_width, .int v_slots_3_size, .int v_slots_3_made])), (h_slots_3_numbers, .inl (cJ, 60, .inr (.inl f_slots_3_numbers)))] H := hP
        have hD : va_D A [(h0, .inr (11, [.ref h_tape, .ref h_reader, .ref h_now, .ref h_trial, .ref h_images, .ref h_imageKept, .ref h_slots, .ref h_night, .ref h_otherNight, .ref h_circle, .ref h_words, .ref h_lawSearch, .ref h_placeSearch, .ref h_drawnNight])), (h_slots, .inl (cS, 4, .inr (.inr (.inr (.inr (va_up (va_up (va_up (va_up (fun _ => none) 0 (some h_slots_0)) 1 (some h_slots_1)) 2 (some h_slots_2)) 3 (some h_slots_3))))))), (h_placeSearch_tally, .inl (cI, 1099, .inl f_placeSearch_tally)), (h_slots_0, .inr (7, [.ref h_slots_0_numbers, .int v_slots_0_width, .int v_slots_0_size, .int v_slots_0_made])), (h_slots_1, .inr (7, [.ref h_slots_1_numbers, .int v_slots_1_width, .int v_slots_1_size, .int v_slots_1_made])), (h_slots_2, .inr (7, [.ref h_slots_2_numbers, .int v_slots_2_width, .int v_slots_2_size, .int v_slots_2_made])), (h_slots_0_numbers, .inl (cJ, 60, .inr (.inl f_slots_0_numbers))), (h_slots_1_numbers, .inl (cJ, 60, .inr (.inl f_slots_1_numbers))), (h_slots_2_numbers, .inl (cJ, 60, .inr (.inl f_slots_2_numbers))), (h_placeSearch, .inr (5, [.ref h_placeSearch_sentAt, .ref h_placeSearch_tally, .int t_52, .int t_53, .int t_54])), (h_placeSearch_sentAt, .inl (cI, 100, .inl g_55)), (h_now, .inr (8, [.int v_now_tones, .int v_now_a, .int v_now_b, .int v_now_c, .int v_now_d, .int v_now_odds, .int v_now_lines, .ref h_now_signs, .int v_now_signCount, .ref h_now_posts, .int v_now_postCount, .ref h_now_acts])), (h_now_posts, .inl (cI, 5, .inl f_now_posts)), (h_slots_3, .inr (7, [.ref h_slots_3_numbers, .int v_slots_3_width, .int v_slots_3_size, .int v_slots_3_made])), (h_slots_3_numbers, .inl (cJ, 60, .inr (.inl f_slots_3_numbers)))] := hD
        refine lv_aload_n hx hb dX11_set_44 rfl (lv_at hl 1 rfl) ?_
        refine va_get (D := D) (ci := 11) (v := .ref h_placeSearch) (C := RX11) (T := TX11) (N := 14) hx hb hts inlX11 hown hK hP 0 rfl rfl 12 (by decide) (hts _ (inr3 _ (List.mem_of_getElem? (i := 5) rfl))) (fun _ h9 => h9) rfl dX11_set_45 ?_
        refine wrVi (As := []) (rest := []) (wr := [(h0, .inr (11, [.ref h_tape, .ref h_reader, .ref h_now, .ref h_trial, .ref h_images, .ref h_imageKept, .ref h_slots, .ref h_night, .ref h_otherNight, .ref h_circle, .ref h_words, .ref h_lawSearch, .ref h_placeSearch, .ref h_drawnNight])), (h_slots, .inl (cS, 4, .inr (.inr (.inr (.inr (va_up (va_up (va_up (va_up (fun _ => none) 0 (some h_slots_0)) 1 (some h_slots_1)) 2 (some h_slots_2)) 3 (some h_slots_3))))))), (h_slots_0, .inr (7, [.ref h_slots_0_numbers, .int v_slots_0_width, .int v_slots_0_size, .int v_slots_0_made])), (h_slots_1, .inr (7, [.ref h_slots_1_numbers, .int v_slots_1_width, .int v_slots_1_size, .int v_slots_1_made])), (h_slots_2, .inr (7, [.ref h_slots_2_numbers, .int v_slots_2_width, .int v_slots_2_size, .int v_slots_2_made])), (h_slots_0_numbers, .inl (cJ, 60, .inr (.inl f_slots_0_numbers))), (h_slots_1_numbers, .inl (cJ, 60, .inr (.inl f_slots_1_numbers))), (h_slots_2_numbers, .inl (cJ, 60, .inr (.inl f_slots_2_numbers))), (h_now, .inr (8, [.int v_now_tones, .int v_now_a, .int v_now_b, .int v_now_c, .int v_now_d, .int v_now_odds, .int v_now_lines, .ref h_now_signs, .int v_now_signCount, .ref h_now_posts, .int v_now_postCount, .ref h_now_acts])), (h_now_posts, .inl (cI, 5, .inl f_now_posts)), (h_slots_3, .inr (7, [.ref h_slots_3_numbers, .int v_slots_3_width, .int v_slots_3_size, .int v_slots_3_made])), (h_slots_3_numbers, .inl (cJ, 60, .inr (.inl f_slots_3_numbers)))]) ⟨hx, hb, hml, hown, hts⟩ (b_X5_whereToSet l G D cB cI cJ cZ cS cT H.size h_placeSearch h_placeSearch_sentAt h_placeSearch_tally t_52 t_53 t_54 g_55 f_placeSearch_tally ) hP hD hS hA hK hN hT hAB hG [9, 10, 2] [0, 1, 3, 4, 5, 6, 7, 8, 11, 12, 13, 14] rfl rfl (by decide) (by decide) (by decide) (cvB (n := 0) (inr59 _ (List.mem_of_getElem? (i := 1) rfl)) (inr59 _ (List.mem_of_getElem? (i := 2) rfl)) (inr59 _ (List.mem_of_getElem? (i := 3) rfl)) (inr3 _ (List.mem_of_getElem? (i := 4) rfl)) (inr59 _ (List.mem_of_getElem? (i := 4) rfl)) (by decide +kernel) hts rfl rfl ⟨Nat.le_of_ble_eq_true rfl, Nat.le_of_ble_eq_true rfl⟩) 0 5 rfl rfl rfl rfl hl.1 rfl (Nat.le_of_ble_eq_true rfl) ⟨Nat.le_of_ble_eq_true rfl, Nat.le_of_ble_eq_true rfl⟩ dX11_set_48 (fun r_56 x9 H locs h_57 hP hD hS => ?_)
        obtain ⟨g_58, rfl⟩ : ∃ z, z = x9 := ⟨_, rfl⟩
        have hP : va_P D vwCl [(h0, .inr (11, [.ref h_tape, .ref h_reader, .ref h_now, .ref h_trial, .ref h_images, .ref h_imageKept, .ref h_slots, .ref h_night, .ref h_otherNight, .ref h_circle, .ref h_words, .ref h_lawSearch, .ref h_placeSearch, .ref h_drawnNight])), (h_slots, .inl (cS, 4, .inr (.inr (.inr (.inr (va_up (va_up (va_up (va_up (fun _ => none) 0 (some h_slots_0)) 1 (some h_slots_1)) 2 (some h_slots_2)) 3 (some h_slots_3))))))), (h_slots_0, .inr (7, [.ref h_slots_0_numbers, .int v_slots_0_width, .int v_slots_0_size, .int v_slots_0_made])), (h_slots_1, .inr (7, [.ref h_slots_1_numbers, .int v_slots_1_width, .int v_slots_1_size, .int v_slots_1_made])), (h_slots_2, .inr (7, [.ref h_slots_2_numbers, .int v_slots_2_width, .int v_slots_2_size, .int v_slots_2_made])), (h_slots_0_numbers, .inl (cJ, 60, .inr (.inl f_slots_0_numbers))), (h_slots_1_numbers, .inl (cJ, 60, .inr (.inl f_slots_1_numbers))), (h_slots_2_numbers, .inl (cJ, 60, .inr (.inl f_slots_2_numbers))), (h_now, .inr (8, [.int v_now_tones, .int v_now_a, .int v_now_b, .int v_now_c, .int v_now_d, .int v_now_odds, .int v_now_lines, .ref h_now_signs, .int v_now_signCount, .ref h_now_posts, .int v_now_postCount, .ref h_now_acts])), (h_now_posts, .inl (cI, 5, .inl f_now_posts)), (h_slots_3, .inr (7, [.ref h_slots_3_numbers, .int v_slots_3_width, .int v_slots_3_size, .int v_slots_3_made])), (h_slots_3_numbers, .inl (cJ, 60, .inr (.inl f_slots_3_numbers))), (h_placeSearch, .inr (5, [.ref h_placeSearch_sentAt, .ref h_placeSearch_tally, .int t_52, .int t_53, .int t_54])), (h_placeSearch_sentAt, .inl (cI, 100, .inl g_55)), (h_placeSearch_tally, .inl (cI, 1099, .inl g_58))] H := hP
        have hD : va_D A [(h0, .inr (11, [.ref h_tape, .ref h_reader, .ref h_now, .ref h_trial, .ref h_images, .ref h_imageKept, .ref h_slots, .ref h_night, .ref h_otherNight, .ref h_circle, .ref h_words, .ref h_lawSearch, .ref h_placeSearch, .ref h_drawnNight])), (h_slots, .inl (cS, 4, .inr (.inr (.inr (.inr (va_up (va_up (va_up (va_up (fun _ => none) 0 (some h_slots_0)) 1 (some h_slots_1)) 2 (some h_slots_2)) 3 (some h_slots_3))))))), (h_slots_0, .inr (7, [.ref h_slots_0_numbers, .int v_slots_0_width, .int v_slots_0_size, .int v_slots_0_made])), (h_slots_1, .inr (7, [.ref h_slots_1_numbers, .int v_slots_1_width, .int v_slots_1_size, .int v_slots_1_made])), (h_slots_2, .inr (7, [.ref h_slots_2_numbers, .int v_slots_2_width, .int v_slots_2_size, .int v_slots_2_made])), (h_slots_0_numbers, .inl (cJ, 60, .inr (.inl f_slots_0_numbers))), (h_slots_1_numbers, .inl (cJ, 60, .inr (.inl f_slots_1_numbers))), (h_slots_2_numbers, .inl (cJ, 60, .inr (.inl f_slots_2_numbers))), (h_now, .inr (8, [.int v_now_tones, .int v_now_a, .int v_now_b, .int v_now_c, .int v_now_d, .int v_now_odds, .int v_now_lines, .ref h_now_signs, .int v_now_signCount, .ref h_now_posts, .int v_now_postCount, .ref h_now_acts])), (h_now_posts, .inl (cI, 5, .inl f_now_posts)), (h_slots_3, .inr (7, [.ref h_slots_3_numbers, .int v_slots_3_width, .int v_slots_3_size, .int v_slots_3_made])), (h_slots_3_numbers, .inl (cJ, 60, .inr (.inl f_slots_3_numbers))), (h_placeSearch, .inr (5, [.ref h_placeSearch_sentAt, .ref h_placeSearch_tally, .int t_52, .int t_53, .int t_54])), (h_placeSearch_sentAt, .inl (cI, 100, .inl g_55)), (h_placeSearch_tally, .inl (cI, 1099, .inl g_58))] := hD
        exact ret _ _ _ _ _ (t_52, t_53, t_54, g_55, g_58) dX11_set_51 trivial (hP.sub [0, 8, 12, 1, 9, 13, 14, 2, 3, 4, 10, 5, 6, 7, 11] rfl) (hD.sub [0, 8, 12, 1, 9, 13, 14, 2, 3, 4, 10, 5, 6, 7, 11] (by decide) rfl) hS
      · have c_49 : v_slots_3_size.toInt = 0 := ci_ne_f c_49
        have b_v_slots_3_size := i32b v_slots_3_size
        refine lv_bipush (v := (-2)) hx hb dX11_set_24 (by decide) ?_
        exact ret _ _ _ _ _ (v_placeSearch_found, v_placeSearch_leastPlace, v_placeSearch_greatestPlace, f_placeSearch_sentAt, f_placeSearch_tally) dX11_set_26 trivial (hP.sub [0, 1, 2, 3, 4, 5, 6, 7, 8, 9, 10, 11, 12, 13, 14] rfl) (hD.sub [0, 1, 2, 3, 4, 5, 6, 7, 8, 9, 10, 11, 12, 13, 14] (by decide) rfl) hS
  · have c_4 : ¬ r_1.toInt = 0 := ci_eq_f c_4
    have b_r_1 := i32b r_1
    refine lv_iload_n hx hb dX11_set_10 rfl (lv_at hl 0 rfl) ?_
    exact ret _ _ _ _ _ (v_placeSearch_found, v_placeSearch_leastPlace, v_placeSearch_greatestPlace, f_placeSearch_sentAt, f_placeSearch_tally) dX11_set_11 trivial (hP.sub [0, 1, 2, 3, 4, 5, 6, 7, 8, 9, 10, 11, 12, 13, 14] rfl) (hD.sub [0, 1, 2, 3, 4, 5, 6, 7, 8, 9, 10, 11, 12, 13, 14] (by decide) rfl) hS

set_option maxHeartbeats 4000000 in
set_option maxRecDepth 100000 in
theorem b_X11_parents_l31 {p : Program} {l : Launch} {e : Env} {s : State} {m : MethodId} {args : Array Value} {below : List Frame} {meth : Method} {c : Code} {Q : State → Prop} {G : Gho} {D : va_G} {cB cI cJ cZ cS cT : ClassId} (h0 : Nat) (h_tape : Nat) (h_reader : Nat) (h_now : Nat) (h_trial : Nat) (h_images : Nat) (h_imageKept : Nat) (h_slots : Nat) (h_night : Nat) (h_otherNight : Nat) (h_circle : Nat) (h_words : Nat) (h_lawSearch : Nat) (h_placeSearch : Nat) (h_drawnNight : Nat) (v_now_tones : Int32) (v_now_a : Int32) (v_now_b : Int32) (v_now_c : Int32) (v_now_d : Int32) (v_now_odds : Int32) (v_now_lines : Int32) (h_now_signs : Nat) (v_now_signCount : Int32) (h_now_posts : Nat) (v_now_postCount : Int32) (h_now_acts : Nat) (f_now_signs : Nat → Int32) (v1 : Int32) (l15_3 : Int32) (l15_2 : Int32) (N_15 : Nat) (iv_now_signCount : 0 ≤ v_now_signCount.toInt ∧ v_now_signCount.toInt ≤ 8) (iv_now_postCount : 0 ≤ v_now_postCount.toInt ∧ v_now_postCount.toInt ≤ 5) (zl15_3 : 0 ≤ l15_3.toInt ∧ l15_3.toInt ≤ 7) (kl15_3 : 0 ≤ l15_3.toInt) (c_8 : l15_3.toInt < v_now_signCount.toInt) (ih_15 : ∀ (l15_3 : Int32) (l15_2 : Int32) (ls : Array Slot), 0 ≤ l15_3.toInt → (v_now_signCount.toInt - l15_3.toInt).toNat < N_15 → lv_has ls 5 [(3, .int l15_3), (2, .int l15_2), (0, .ref h0), (1, .int v1)] → W p l e ({ frames := 3, cells := 0, slots := 0, locals := 61 }) s m args below meth c s.heap [] 0 0 Q (F0 m 15 ls [])) (hM_15 : (v_now_signCount.toInt - l15_3.toInt).toNat < N_15 + 1) (C : Cx p s m args c RX11 cX11_parents 5 G D (tyL cB cI cJ cZ cS cT)) (hP : va_P D vwCl [(h0, .inr (11, [.ref h_tape, .ref h_reader, .ref h_now, .ref h_trial, .ref h_images, .ref h_imageKept, .ref h_slots, .ref h_night, .ref h_otherNight, .ref h_circle, .ref h_words, .ref h_lawSearch, .ref h_placeSearch, .ref h_drawnNight])), (h_now, .inr (8, [.int v_now_tones, .int v_now_a, .int v_now_b, .int v_now_c, .int v_now_d, .int v_now_odds, .int v_now_lines, .ref h_now_signs, .int v_now_signCount, .ref h_now_posts, .int v_now_postCount, .ref h_now_acts])), (h_now_signs, .inl (cI, 8, .inl f_now_signs))] s.heap) (ret : RroI p l e ({ frames := 3, cells := 0, slots := 0, locals := 61 }) s m args below meth c cX11_parents (fun r : Int32 => True) Q) :
    ∀ (N : Nat) (l31_4 : Int32) (l31_2 : Int32) (ls : Array Slot), 1 ≤ l31_4.toInt → (v_now_signCount.toInt - l31_4.toInt).toNat < N → lv_has ls 5 [(4, .int l31_4), (3, .int l15_3), (2, .int l31_2), (0, .ref h0), (1, .int v1)] → W p l e ({ frames := 3, cells := 0, slots := 0, locals := 61 }) s m args below meth c s.heap [] 0 0 Q (F0 m 31 ls []) := by
  obtain ⟨hx, hb, hml, hown, hts, hK, hN, hT⟩ := id C
  intro N
  induction N with
  | zero =>
    intro l31_4 l31_2 ls kl31_4 hM_31 hl
    omega
  | succ N_31 ih_31 =>
    intro l31_4 l31_2 ls kl31_4 hM_31 hl
    have b_l31_4 := i32b l31_4
    refine lv_iload hx hb dX11_parents_31 (lv_at hl 0 rfl) ?_
    refine lv_aload_n hx hb dX11_parents_33 rfl (lv_at hl 3 rfl) ?_
    refine va_get (D := D) (ci := 11) (v := .ref h_now) (C := RX11) (T := TX11) (N := 14) hx hb hts inlX11 hown hK hP 0 rfl rfl 2 (by decide) (hts _ (inr2 _ (List.mem_of_getElem? (i := 0) rfl))) (fun _ h9 => h9) rfl dX11_parents_34 ?_
    refine roi (As := []) (rest := [.int l31_4]) ⟨hx, hb, hml, hown, hts⟩ (b_X8_signCount l G D cB cI cJ cZ cS cT h_now v_now_tones v_now_a v_now_b v_now_c v_now_d v_now_odds v_now_lines h_now_signs v_now_signCount h_now_posts v_now_postCount h_now_acts (by first | assumption | omega | decide) (by first | assumption | omega | decide)) (cvB (n := 0) (inr21 _ (List.mem_of_getElem? (i := 4) rfl)) (inr15 _ (List.mem_of_getElem? (i := 10) rfl)) (inr15 _ (List.mem_of_getElem? (i := 11) rfl)) (inr1 _ (List.mem_of_getElem? (i := 23) rfl)) (inr15 _ (List.mem_of_getElem? (i := 12) rfl)) (by decide +kernel) hts rfl rfl ⟨Nat.le_of_ble_eq_true rfl, Nat.le_of_ble_eq_true rfl⟩) 0 8 rfl rfl rfl (hP.sub [1] rfl) hK hN hT rfl hl.1 rfl (Nat.le_of_ble_eq_true rfl) ⟨Nat.le_of_ble_eq_true rfl, Nat.le_of_ble_eq_true rfl⟩ dX11_parents_37 (fun r_10 h_11 => ?_)
    have h_11 : (r_10 = v_now_signCount) := h_11
    have i_12 := h_11
    obtain rfl := i_12.symm
    refine lv_icmp_ge (tgt := 66) hx hb dX11_parents_40 (by decide) (fun c_13 => ?_) (fun c_13 => ?_)
    · have c_13 : v_now_signCount.toInt ≤ l31_4.toInt := ci_ge_t c_13
      have b_v_now_signCount := i32b v_now_signCount
      obtain ⟨t_14, et_14⟩ : ∃ v9 : Int32, l15_3 + 1 = v9 := ⟨_, rfl⟩
      have b_l15_3 := i32b l15_3
      have ft_14 : t_14.toInt = l15_3.toInt + 1 := addT (a := l15_3.toInt) (b := 1) rfl (by decide) et_14 (by omega) (by omega)
      refine lv_iinc (v := t_14) (lv' := [(3, .int t_14), (4, .int l31_4), (2, .int l31_2), (0, .ref h0), (1, .int v1)]) hx hb dX11_parents_66 hl (k := 1) rfl (by rw [← et_14]; rfl) (by decide) rfl (fun ls hl => ?_)
      refine lv_goto (tgt := 15) hx hb dX11_parents_69 (by decide) ?_
      exact ih_15 (t_14) (l31_2) _ (by first | assumption | omega | decide) (by omega) (lv_sub hl [0, 2, 3, 4] rfl)
    · have c_13 : l31_4.toInt < v_now_signCount.toInt := ci_ge_f c_13
      have b_v_now_signCount := i32b v_now_signCount
      refine lv_aload_n hx hb dX11_parents_43 rfl (lv_at hl 3 rfl) ?_
      refine va_get (D := D) (ci := 11) (v := .ref h_now) (C := RX11) (T := TX11) (N := 14) hx hb hts inlX11 hown hK hP 0 rfl rfl 2 (by decide) (hts _ (inr2 _ (List.mem_of_getElem? (i := 0) rfl))) (fun _ h9 => h9) rfl dX11_parents_44 ?_
      refine lv_iload_n hx hb dX11_parents_47 rfl (lv_at hl 1 rfl) ?_
      refine lv_iload hx hb dX11_parents_48 (lv_at hl 0 rfl) ?_
      refine lv_iload_n hx hb dX11_parents_50 rfl (lv_at hl 4 rfl) ?_
      refine roi (As := [.int l15_3, .int l31_4, .int v1]) (rest := []) ⟨hx, hb, hml, hown, hts⟩ (b_X8_areParents l G D cB cI cJ cZ cS cT h_now v_now_tones v_now_a v_now_b v_now_c v_now_d v_now_odds v_now_lines h_now_signs v_now_signCount h_now_posts v_now_postCount h_now_acts f_now_signs l15_3 l31_4 v1 (by first | assumption | omega | decide) (by first | assumption | omega | decide)) (cvB (n := 3) (inr60 _ (List.mem_of_getElem? (i := 4) rfl)) (inr60 _ (List.mem_of_getElem? (i := 5) rfl)) (inr60 _ (List.mem_of_getElem? (i := 6) rfl)) (inr1 _ (List.mem_of_getElem? (i := 23) rfl)) (inr60 _ (List.mem_of_getElem? (i := 7) rfl)) (by decide +kernel) hts rfl rfl ⟨Nat.le_of_ble_eq_true rfl, Nat.le_of_ble_eq_true rfl⟩) 0 8 rfl rfl rfl (hP.sub [1, 2] rfl) hK hN hT rfl hl.1 rfl (Nat.le_of_ble_eq_true rfl) ⟨Nat.le_of_ble_eq_true rfl, Nat.le_of_ble_eq_true rfl⟩ dX11_parents_51 (fun r_15 h_16 => ?_)
      have h_16 : (r_15 = 0 ∨ r_15 = 1) := h_16
      have i_17 := h_16
      have ar_15 : 0 ≤ r_15.toInt ∧ r_15.toInt ≤ 1 := by rcases i_17 with h | h <;> rw [h] <;> decide
      refine lv_if_eq (tgt := 60) hx hb dX11_parents_54 (by decide) (fun c_18 => ?_) (fun c_18 => ?_)
      · have c_18 : r_15.toInt = 0 := ci_eq_t c_18
        have b_r_15 := i32b r_15
        obtain ⟨t_19, et_19⟩ : ∃ v9 : Int32, l31_4 + 1 = v9 := ⟨_, rfl⟩
        have ft_19 : t_19.toInt = l31_4.toInt + 1 := addT (a := l31_4.toInt) (b := 1) rfl (by decide) et_19 (by omega) (by omega)
        refine lv_iinc (v := t_19) (lv' := [(4, .int t_19), (3, .int l15_3), (2, .int l31_2), (0, .ref h0), (1, .int v1)]) hx hb dX11_parents_60 hl (k := 0) rfl (by rw [← et_19]; rfl) (by decide) rfl (fun ls hl => ?_)
        refine lv_goto (tgt := 31) hx hb dX11_parents_63 (by decide) ?_
        exact ih_31 (t_19) (l31_2) _ (by first | assumption | omega | decide) (by omega) (lv_sub hl [0, 1, 2, 3, 4] rfl)
      · have c_18 : ¬ r_15.toInt = 0 := ci_eq_f c_18
        have b_r_15 := i32b r_15
        obtain ⟨t_20, et_20⟩ : ∃ v9 : Int32, l31_2 + 1 = v9 := ⟨_, rfl⟩
        refine lv_iinc (v := t_20) (lv' := [(2, .int t_20), (4, .int l31_4), (3, .int l15_3), (0, .ref h0), (1, .int v1)]) hx hb dX11_parents_57 hl (k := 2) rfl (by rw [← et_20]; rfl) (by decide) rfl (fun ls hl => ?_)
        obtain ⟨t_21, et_21⟩ : ∃ v9 : Int32, l31_4 + 1 = v9 := ⟨_, rfl⟩
        have ft_21 : t_21.toInt = l31_4.toInt + 1 := addT (a := l31_4.toInt) (b := 1) rfl (by decide) et_21 (by omega) (by omega)
        refine lv_iinc (v := t_21) (lv' := [(4, .int t_21), (2, .int t_20), (3, .int l15_3), (0, .ref h0), (1, .int v1)]) hx hb dX11_parents_60 hl (k := 1) rfl (by rw [← et_21]; rfl) (by decide) rfl (fun ls hl => ?_)
        refine lv_goto (tgt := 31) hx hb dX11_parents_63 (by decide) ?_
        exact ih_31 (t_21) (t_20) _ (by first | assumption | omega | decide) (by omega) (lv_sub hl [0, 2, 1, 3, 4] rfl)

set_option maxHeartbeats 4000000 in
set_option maxRecDepth 100000 in
theorem b_X11_parents_l15 {p : Program} {l : Launch} {e : Env} {s : State} {m : MethodId} {args : Array Value} {below : List Frame} {meth : Method} {c : Code} {Q : State → Prop} {G : Gho} {D : va_G} {cB cI cJ cZ cS cT : ClassId} (h0 : Nat) (h_tape : Nat) (h_reader : Nat) (h_now : Nat) (h_trial : Nat) (h_images : Nat) (h_imageKept : Nat) (h_slots : Nat) (h_night : Nat) (h_otherNight : Nat) (h_circle : Nat) (h_words : Nat) (h_lawSearch : Nat) (h_placeSearch : Nat) (h_drawnNight : Nat) (v_now_tones : Int32) (v_now_a : Int32) (v_now_b : Int32) (v_now_c : Int32) (v_now_d : Int32) (v_now_odds : Int32) (v_now_lines : Int32) (h_now_signs : Nat) (v_now_signCount : Int32) (h_now_posts : Nat) (v_now_postCount : Int32) (h_now_acts : Nat) (f_now_signs : Nat → Int32) (v1 : Int32) (iv_now_signCount : 0 ≤ v_now_signCount.toInt ∧ v_now_signCount.toInt ≤ 8) (iv_now_postCount : 0 ≤ v_now_postCount.toInt ∧ v_now_postCount.toInt ≤ 5) (C : Cx p s m args c RX11 cX11_parents 5 G D (tyL cB cI cJ cZ cS cT)) (hP : va_P D vwCl [(h0, .inr (11, [.ref h_tape, .ref h_reader, .ref h_now, .ref h_trial, .ref h_images, .ref h_imageKept, .ref h_slots, .ref h_night, .ref h_otherNight, .ref h_circle, .ref h_words, .ref h_lawSearch, .ref h_placeSearch, .ref h_drawnNight])), (h_now, .inr (8, [.int v_now_tones, .int v_now_a, .int v_now_b, .int v_now_c, .int v_now_d, .int v_now_odds, .int v_now_lines, .ref h_now_signs, .int v_now_signCount, .ref h_now_posts, .int v_now_postCount, .ref h_now_acts])), (h_now_signs, .inl (cI, 8, .inl f_now_signs))] s.heap) (ret : RroI p l e ({ frames := 3, cells := 0, slots := 0, locals := 61 }) s m args below meth c cX11_parents (fun r : Int32 => True) Q) :
    ∀ (N : Nat) (l15_3 : Int32) (l15_2 : Int32) (ls : Array Slot), 0 ≤ l15_3.toInt → (v_now_signCount.toInt - l15_3.toInt).toNat < N → lv_has ls 5 [(3, .int l15_3), (2, .int l15_2), (0, .ref h0), (1, .int v1)] → W p l e ({ frames := 3, cells := 0, slots := 0, locals := 61 }) s m args below meth c s.heap [] 0 0 Q (F0 m 15 ls []) := by
  obtain ⟨hx, hb, hml, hown, hts, hK, hN, hT⟩ := id C
  intro N
  induction N with
  | zero =>
    intro l15_3 l15_2 ls kl15_3 hM_15 hl
    omega
  | succ N_15 ih_15 =>
    intro l15_3 l15_2 ls kl15_3 hM_15 hl
    have b_l15_3 := i32b l15_3
    refine lv_iload_n hx hb dX11_parents_15 rfl (lv_at hl 0 rfl) ?_
    refine lv_aload_n hx hb dX11_parents_16 rfl (lv_at hl 2 rfl) ?_
    refine va_get (D := D) (ci := 11) (v := .ref h_now) (C := RX11) (T := TX11) (N := 14) hx hb hts inlX11 hown hK hP 0 rfl rfl 2 (by decide) (hts _ (inr2 _ (List.mem_of_getElem? (i := 0) rfl))) (fun _ h9 => h9) rfl dX11_parents_17 ?_
    refine roi (As := []) (rest := [.int l15_3]) ⟨hx, hb, hml, hown, hts⟩ (b_X8_signCount l G D cB cI cJ cZ cS cT h_now v_now_tones v_now_a v_now_b v_now_c v_now_d v_now_odds v_now_lines h_now_signs v_now_signCount h_now_posts v_now_postCount h_now_acts (by first | assumption | omega | decide) (by first | assumption | omega | decide)) (cvB (n := 0) (inr21 _ (List.mem_of_getElem? (i := 4) rfl)) (inr15 _ (List.mem_of_getElem? (i := 10) rfl)) (inr15 _ (List.mem_of_getElem? (i := 11) rfl)) (inr1 _ (List.mem_of_getElem? (i := 23) rfl)) (inr15 _ (List.mem_of_getElem? (i := 12) rfl)) (by decide +kernel) hts rfl rfl ⟨Nat.le_of_ble_eq_true rfl, Nat.le_of_ble_eq_true rfl⟩) 0 8 rfl rfl rfl (hP.sub [1] rfl) hK hN hT rfl hl.1 rfl (Nat.le_of_ble_eq_true rfl) ⟨Nat.le_of_ble_eq_true rfl, Nat.le_of_ble_eq_true rfl⟩ dX11_parents_20 (fun r_5 h_6 => ?_)
    have h_6 : (r_5 = v_now_signCount) := h_6
    have i_7 := h_6
    obtain rfl := i_7.symm
    refine lv_icmp_ge (tgt := 72) hx hb dX11_parents_23 (by decide) (fun c_8 => ?_) (fun c_8 => ?_)
    · have c_8 : v_now_signCount.toInt ≤ l15_3.toInt := ci_ge_t c_8
      have b_v_now_signCount := i32b v_now_signCount
      refine lv_iload_n hx hb dX11_parents_72 rfl (lv_at hl 1 rfl) ?_
      exact ret _ _ _ dX11_parents_73 trivial
    · have c_8 : l15_3.toInt < v_now_signCount.toInt := ci_ge_f c_8
      have b_v_now_signCount := i32b v_now_signCount
      refine lv_iload_n hx hb dX11_parents_26 rfl (lv_at hl 0 rfl) ?_
      refine lv_iconst (v := 1) hx hb dX11_parents_27 (by decide) ?_
      obtain ⟨t_9, et_9⟩ : ∃ v9 : Int32, l15_3 + 1 = v9 := ⟨_, rfl⟩
      refine z_iadd (v := t_9) hx hb dX11_parents_28 et_9 ?_
      have ft_9 : t_9.toInt = l15_3.toInt + 1 := addT (a := l15_3.toInt) (b := 1) rfl (by decide) et_9 (by omega) (by omega)
      refine lv_istore (lv' := [(4, .int t_9), (3, .int l15_3), (2, .int l15_2), (0, .ref h0), (1, .int v1)]) hx hb dX11_parents_29 hl (by decide) rfl (fun ls hl => ?_)
      exact b_X11_parents_l31 h0 h_tape h_reader h_now h_trial h_images h_imageKept h_slots h_night h_otherNight h_circle h_words h_lawSearch h_placeSearch h_drawnNight v_now_tones v_now_a v_now_b v_now_c v_now_d v_now_odds v_now_lines h_now_signs v_now_signCount h_now_posts v_now_postCount h_now_acts f_now_signs v1 l15_3 l15_2 N_15 (by first | assumption | omega | decide) (by first | assumption | omega | decide) (by first | assumption | omega | decide) (by first | assumption | omega | decide) (by first | assumption | omega | decide) (by first | assumption | omega | decide) (by first | assumption | omega | decide) C (hP.sub [0, 1, 2] rfl) ret _ (t_9) (l15_2) _ (by first | assumption | omega | decide) (Nat.lt_succ_self _) (lv_sub hl [0, 1, 2, 3, 4] rfl)

set_option maxHeartbeats 4000000 in
set_option maxRecDepth 100000 in
theorem b_X11_parents (l : Launch) (G : Gho) (D : va_G) (cB cI cJ cZ cS cT : ClassId) (h0 : Nat) (h_tape : Nat) (h_reader : Nat) (h_now : Nat) (h_trial : Nat) (h_images : Nat) (h_imageKept : Nat) (h_slots : Nat) (h_night : Nat) (h_otherNight : Nat) (h_circle : Nat) (h_words : Nat) (h_lawSearch : Nat) (h_placeSearch : Nat) (h_drawnNight : Nat) (v_now_tones : Int32) (v_now_a : Int32) (v_now_b : Int32) (v_now_c : Int32) (v_now_d : Int32) (v_now_odds : Int32) (v_now_lines : Int32) (h_now_signs : Nat) (v_now_signCount : Int32) (h_now_posts : Nat) (v_now_postCount : Int32) (h_now_acts : Nat) (f_now_signs : Nat → Int32) (v1 : Int32) (iv_now_signCount : 0 ≤ v_now_signCount.toInt ∧ v_now_signCount.toInt ≤ 8) (iv_now_postCount : 0 ≤ v_now_postCount.toInt ∧ v_now_postCount.toInt ≤ 5) : Met l yX11_parents (Cond.code yX11_parents cX11_parents 5 (some .int) :: wsL_law) ({ frames := 3, cells := 0, slots := 0, locals := 61 }) (roP G D (tyL cB cI cJ cZ cS cT) [(h0, .inr (11, [.ref h_tape, .ref h_reader, .ref h_now, .ref h_trial, .ref h_images, .ref h_imageKept, .ref h_slots, .ref h_night, .ref h_otherNight, .ref h_circle, .ref h_words, .ref h_lawSearch, .ref h_placeSearch, .ref h_drawnNight])), (h_now, .inr (8, [.int v_now_tones, .int v_now_a, .int v_now_b, .int v_now_c, .int v_now_d, .int v_now_odds, .int v_now_lines, .ref h_now_signs, .int v_now_signCount, .ref h_now_posts, .int v_now_postCount, .ref h_now_acts])), (h_now_signs, .inl (cI, 8, .inl f_now_signs))] [.ref h0, .int v1]) (vp_Si (fun r : Int32 => True)) 0 0 (fun _ => False) := by
  refine metRO (own := RX11) (by decide) rfl ?_
  intro p e s m below meth c Q C hP ret
  obtain ⟨hx, hb, hml, hown, hts, hK, hN, hT⟩ := id C
  have hl := lv_entry ([.ref h0, .int v1]) (n := 5) (Nat.le_of_ble_eq_true rfl)
  rw [lg_entry_eq]
  generalize (lg_sl ([.ref h0, .int v1]) ++ List.replicate (5 - (lg_sl ([.ref h0, .int v1])).length) Slot.unset).toArray = ls at hl ⊢
  have hl : lv_has ls 5 [(0, .ref h0), (1, .int v1)] := hl
  have hP : va_P D vwCl [(h0, .inr (11, [.ref h_tape, .ref h_reader, .ref h_now, .ref h_trial, .ref h_images, .ref h_imageKept, .ref h_slots, .ref h_night, .ref h_otherNight, .ref h_circle, .ref h_words, .ref h_lawSearch, .ref h_placeSearch, .ref h_drawnNight])), (h_now, .inr (8, [.int v_now_tones, .int v_now_a, .int v_now_b, .int v_now_c, .int v_now_d, .int v_now_odds, .int v_now_lines, .ref h_now_signs, .int v_now_signCount, .ref h_now_posts, .int v_now_postCount, .ref h_now_acts])), (h_now_signs, .inl (cI, 8, .inl f_now_signs))] s.heap := hP
  refine lv_aload_n hx hb dX11_parents_0 rfl (lv_at hl 0 rfl) ?_
  refine lv_iload_n hx hb dX11_parents_1 rfl (lv_at hl 1 rfl) ?_
  refine roi (As := [.int v1]) (rest := []) ⟨hx, hb, hml, hown, hts⟩ (b_X11_noTone l G D cB cI cJ cZ cS cT h0 h_tape h_reader h_now h_trial h_images h_imageKept h_slots h_night h_otherNight h_circle h_words h_lawSearch h_placeSearch h_drawnNight v_now_tones v_now_a v_now_b v_now_c v_now_d v_now_odds v_now_lines h_now_signs v_now_signCount h_now_posts v_now_postCount h_now_acts v1 (by first | assumption | omega | decide) (by first | assumption | omega | decide)) (cvB (n := 1) (inr29 _ (List.mem_of_getElem? (i := 11) rfl)) (inr29 _ (List.mem_of_getElem? (i := 12) rfl)) (inr29 _ (List.mem_of_getElem? (i := 13) rfl)) (inr1 _ (List.mem_of_getElem? (i := 2) rfl)) (inr29 _ (List.mem_of_getElem? (i := 14) rfl)) (by decide +kernel) hts rfl rfl ⟨Nat.le_of_ble_eq_true rfl, Nat.le_of_ble_eq_true rfl⟩) 0 11 rfl rfl rfl (hP.sub [0, 1] rfl) hK hN hT rfl hl.1 rfl (Nat.le_of_ble_eq_true rfl) ⟨Nat.le_of_ble_eq_true rfl, Nat.le_of_ble_eq_true rfl⟩ dX11_parents_2 (fun r_1 h_2 => ?_)
  have h_2 : (r_1 = 0 ∨ r_1 = 1) := h_2
  have i_3 := h_2
  have ar_1 : 0 ≤ r_1.toInt ∧ r_1.toInt ≤ 1 := by rcases i_3 with h | h <;> rw [h] <;> decide
  refine lv_if_eq (tgt := 11) hx hb dX11_parents_5 (by decide) (fun c_4 => ?_) (fun c_4 => ?_)
  · have c_4 : r_1.toInt = 0 := ci_eq_t c_4
    have b_r_1 := i32b r_1
    refine lv_iconst (v := 0) hx hb dX11_parents_11 (by decide) ?_
    refine lv_istore_n (lv' := [(2, .int 0), (0, .ref h0), (1, .int v1)]) hx hb dX11_parents_12 rfl hl (by decide) rfl (fun ls hl => ?_)
    refine lv_iconst (v := 0) hx hb dX11_parents_13 (by decide) ?_
    refine lv_istore_n (lv' := [(3, .int 0), (2, .int 0), (0, .ref h0), (1, .int v1)]) hx hb dX11_parents_14 rfl hl (by decide) rfl (fun ls hl => ?_)
    exact b_X11_parents_l15 h0 h_tape h_reader h_now h_trial h_images h_imageKept h_slots h_night h_otherNight h_circle h_words h_lawSearch h_placeSearch h_drawnNight v_now_tones v_now_a v_now_b v_now_c v_now_d v_now_odds v_now_lines h_now_signs v_now_signCount h_now_posts v_now_postCount h_now_acts f_now_signs v1 (by first | assumption | omega | decide) (by first | assumption | omega | decide) C (hP.sub [0, 1, 2] rfl) ret _ (0) (0) _ (by first | assumption | omega | decide) (Nat.lt_succ_self _) (lv_sub hl [0, 1, 2, 3] rfl)
  · have c_4 : ¬ r_1.toInt = 0 := ci_eq_f c_4
    have b_r_1 := i32b r_1
    refine lv_bipush (v := (-2)) hx hb dX11_parents_8 (by decide) ?_
    exact ret _ _ _ dX11_parents_10 trivial

set_option maxHeartbeats 4000000 in
set_option maxRecDepth 100000 in
theorem b_X11_parent_l28 {p : Program} {l : Launch} {e : Env} {s : State} {m : MethodId} {args : Array Value} {below : List Frame} {meth : Method} {c : Code} {Q : State → Prop} {G : Gho} {D : va_G} {cB cI cJ cZ cS cT : ClassId} (h0 : Nat) (h_tape : Nat) (h_reader : Nat) (h_now : Nat) (h_trial : Nat) (h_images : Nat) (h_imageKept : Nat) (h_slots : Nat) (h_night : Nat) (h_otherNight : Nat) (h_circle : Nat) (h_words : Nat) (h_lawSearch : Nat) (h_placeSearch : Nat) (h_drawnNight : Nat) (v_now_tones : Int32) (v_now_a : Int32) (v_now_b : Int32) (v_now_c : Int32) (v_now_d : Int32) (v_now_odds : Int32) (v_now_lines : Int32) (h_now_signs : Nat) (v_now_signCount : Int32) (h_now_posts : Nat) (v_now_postCount : Int32) (h_now_acts : Nat) (f_now_signs : Nat → Int32) (v1 : Int32) (l13_2 : Int32) (N_13 : Nat) (iv_now_signCount : 0 ≤ v_now_signCount.toInt ∧ v_now_signCount.toInt ≤ 8) (iv_now_postCount : 0 ≤ v_now_postCount.toInt ∧ v_now_postCount.toInt ≤ 5) (zl13_2 : 0 ≤ l13_2.toInt ∧ l13_2.toInt ≤ 7) (kl13_2 : 0 ≤ l13_2.toInt) (c_8 : l13_2.toInt < v_now_signCount.toInt) (ih_13 : ∀ (l13_2 : Int32) (ls : Array Slot), 0 ≤ l13_2.toInt → (v_now_signCount.toInt - l13_2.toInt).toNat < N_13 → lv_has ls 4 [(2, .int l13_2), (0, .ref h0), (1, .int v1)] → W p l e ({ frames := 3, cells := 0, slots := 0, locals := 61 }) s m args below meth c s.heap [] 0 0 Q (F0 m 13 ls [])) (hM_13 : (v_now_signCount.toInt - l13_2.toInt).toNat < N_13 + 1) (C : Cx p s m args c RX11 cX11_parent 4 G D (tyL cB cI cJ cZ cS cT)) (hP : va_P D vwCl [(h0, .inr (11, [.ref h_tape, .ref h_reader, .ref h_now, .ref h_trial, .ref h_images, .ref h_imageKept, .ref h_slots, .ref h_night, .ref h_otherNight, .ref h_circle, .ref h_words, .ref h_lawSearch, .ref h_placeSearch, .ref h_drawnNight])), (h_now, .inr (8, [.int v_now_tones, .int v_now_a, .int v_now_b, .int v_now_c, .int v_now_d, .int v_now_odds, .int v_now_lines, .ref h_now_signs, .int v_now_signCount, .ref h_now_posts, .int v_now_postCount, .ref h_now_acts])), (h_now_signs, .inl (cI, 8, .inl f_now_signs))] s.heap) (ret : RroI p l e ({ frames := 3, cells := 0, slots := 0, locals := 61 }) s m args below meth c cX11_parent (fun r : Int32 => True) Q) :
    ∀ (N : Nat) (l28_3 : Int32) (ls : Array Slot), 1 ≤ l28_3.toInt → (v_now_signCount.toInt - l28_3.toInt).toNat < N → lv_has ls 4 [(3, .int l28_3), (2, .int l13_2), (0, .ref h0), (1, .int v1)] → W p l e ({ frames := 3, cells := 0, slots := 0, locals := 61 }) s m args below meth c s.heap [] 0 0 Q (F0 m 28 ls []) := by
  obtain ⟨hx, hb, hml, hown, hts, hK, hN, hT⟩ := id C
  intro N
  induction N with
  | zero =>
    intro l28_3 ls kl28_3 hM_28 hl
    omega
  | succ N_28 ih_28 =>
    intro l28_3 ls kl28_3 hM_28 hl
    have b_l28_3 := i32b l28_3
    refine lv_iload_n hx hb dX11_parent_28 rfl (lv_at hl 0 rfl) ?_
    refine lv_aload_n hx hb dX11_parent_29 rfl (lv_at hl 2 rfl) ?_
    refine va_get (D := D) (ci := 11) (v := .ref h_now) (C := RX11) (T := TX11) (N := 14) hx hb hts inlX11 hown hK hP 0 rfl rfl 2 (by decide) (hts _ (inr2 _ (List.mem_of_getElem? (i := 0) rfl))) (fun _ h9 => h9) rfl dX11_parent_30 ?_
    refine roi (As := []) (rest := [.int l28_3]) ⟨hx, hb, hml, hown, hts⟩ (b_X8_signCount l G D cB cI cJ cZ cS cT h_now v_now_tones v_now_a v_now_b v_now_c v_now_d v_now_odds v_now_lines h_now_signs v_now_signCount h_now_posts v_now_postCount h_now_acts (by first | assumption | omega | decide) (by first | assumption | omega | decide)) (cvB (n := 0) (inr21 _ (List.mem_of_getElem? (i := 4) rfl)) (inr15 _ (List.mem_of_getElem? (i := 10) rfl)) (inr15 _ (List.mem_of_getElem? (i := 11) rfl)) (inr1 _ (List.mem_of_getElem? (i := 23) rfl)) (inr15 _ (List.mem_of_getElem? (i := 12) rfl)) (by decide +kernel) hts rfl rfl ⟨Nat.le_of_ble_eq_true rfl, Nat.le_of_ble_eq_true rfl⟩) 0 8 rfl rfl rfl (hP.sub [1] rfl) hK hN hT rfl hl.1 rfl (Nat.le_of_ble_eq_true rfl) ⟨Nat.le_of_ble_eq_true rfl, Nat.le_of_ble_eq_true rfl⟩ dX11_parent_33 (fun r_10 h_11 => ?_)
    have h_11 : (r_10 = v_now_signCount) := h_11
    have i_12 := h_11
    obtain rfl := i_12.symm
    refine lv_icmp_ge (tgt := 65) hx hb dX11_parent_36 (by decide) (fun c_13 => ?_) (fun c_13 => ?_)
    · have c_13 : v_now_signCount.toInt ≤ l28_3.toInt := ci_ge_t c_13
      have b_v_now_signCount := i32b v_now_signCount
      obtain ⟨t_14, et_14⟩ : ∃ v9 : Int32, l13_2 + 1 = v9 := ⟨_, rfl⟩
      have b_l13_2 := i32b l13_2
      have ft_14 : t_14.toInt = l13_2.toInt + 1 := addT (a := l13_2.toInt) (b := 1) rfl (by decide) et_14 (by omega) (by omega)
      refine lv_iinc (v := t_14) (lv' := [(2, .int t_14), (3, .int l28_3), (0, .ref h0), (1, .int v1)]) hx hb dX11_parent_65 hl (k := 1) rfl (by rw [← et_14]; rfl) (by decide) rfl (fun ls hl => ?_)
      refine lv_goto (tgt := 13) hx hb dX11_parent_68 (by decide) ?_
      exact ih_13 (t_14) _ (by first | assumption | omega | decide) (by omega) (lv_sub hl [0, 2, 3] rfl)
    · have c_13 : l28_3.toInt < v_now_signCount.toInt := ci_ge_f c_13
      have b_v_now_signCount := i32b v_now_signCount
      refine lv_aload_n hx hb dX11_parent_39 rfl (lv_at hl 2 rfl) ?_
      refine va_get (D := D) (ci := 11) (v := .ref h_now) (C := RX11) (T := TX11) (N := 14) hx hb hts inlX11 hown hK hP 0 rfl rfl 2 (by decide) (hts _ (inr2 _ (List.mem_of_getElem? (i := 0) rfl))) (fun _ h9 => h9) rfl dX11_parent_40 ?_
      refine lv_iload_n hx hb dX11_parent_43 rfl (lv_at hl 1 rfl) ?_
      refine lv_iload_n hx hb dX11_parent_44 rfl (lv_at hl 0 rfl) ?_
      refine lv_iload_n hx hb dX11_parent_45 rfl (lv_at hl 3 rfl) ?_
      refine roi (As := [.int l13_2, .int l28_3, .int v1]) (rest := []) ⟨hx, hb, hml, hown, hts⟩ (b_X8_areParents l G D cB cI cJ cZ cS cT h_now v_now_tones v_now_a v_now_b v_now_c v_now_d v_now_odds v_now_lines h_now_signs v_now_signCount h_now_posts v_now_postCount h_now_acts f_now_signs l13_2 l28_3 v1 (by first | assumption | omega | decide) (by first | assumption | omega | decide)) (cvB (n := 3) (inr60 _ (List.mem_of_getElem? (i := 4) rfl)) (inr60 _ (List.mem_of_getElem? (i := 5) rfl)) (inr60 _ (List.mem_of_getElem? (i := 6) rfl)) (inr1 _ (List.mem_of_getElem? (i := 23) rfl)) (inr60 _ (List.mem_of_getElem? (i := 7) rfl)) (by decide +kernel) hts rfl rfl ⟨Nat.le_of_ble_eq_true rfl, Nat.le_of_ble_eq_true rfl⟩) 0 8 rfl rfl rfl (hP.sub [1, 2] rfl) hK hN hT rfl hl.1 rfl (Nat.le_of_ble_eq_true rfl) ⟨Nat.le_of_ble_eq_true rfl, Nat.le_of_ble_eq_true rfl⟩ dX11_parent_46 (fun r_15 h_16 => ?_)
      have h_16 : (r_15 = 0 ∨ r_15 = 1) := h_16
      have i_17 := h_16
      have ar_15 : 0 ≤ r_15.toInt ∧ r_15.toInt ≤ 1 := by rcases i_17 with h | h <;> rw [h] <;> decide
      refine lv_if_eq (tgt := 59) hx hb dX11_parent_49 (by decide) (fun c_18 => ?_) (fun c_18 => ?_)
      · have c_18 : r_15.toInt = 0 := ci_eq_t c_18
        have b_r_15 := i32b r_15
        obtain ⟨t_19, et_19⟩ : ∃ v9 : Int32, l28_3 + 1 = v9 := ⟨_, rfl⟩
        have ft_19 : t_19.toInt = l28_3.toInt + 1 := addT (a := l28_3.toInt) (b := 1) rfl (by decide) et_19 (by omega) (by omega)
        refine lv_iinc (v := t_19) (lv' := [(3, .int t_19), (2, .int l13_2), (0, .ref h0), (1, .int v1)]) hx hb dX11_parent_59 hl (k := 0) rfl (by rw [← et_19]; rfl) (by decide) rfl (fun ls hl => ?_)
        refine lv_goto (tgt := 28) hx hb dX11_parent_62 (by decide) ?_
        exact ih_28 (t_19) _ (by first | assumption | omega | decide) (by omega) (lv_sub hl [0, 1, 2, 3] rfl)
      · have c_18 : ¬ r_15.toInt = 0 := ci_eq_f c_18
        have b_r_15 := i32b r_15
        refine lv_bipush (v := 10) hx hb dX11_parent_52 (by decide) ?_
        refine lv_iload_n hx hb dX11_parent_54 rfl (lv_at hl 1 rfl) ?_
        obtain ⟨t_20, et_20⟩ : ∃ v9 : Int32, 10 * l13_2 = v9 := ⟨_, rfl⟩
        refine z_imul (v := t_20) hx hb dX11_parent_55 et_20 ?_
        have b_l13_2 := i32b l13_2
        have ft_20 : t_20.toInt = 10 * l13_2.toInt := mulT (a := 10) (b := l13_2.toInt) (by decide) rfl et_20 (by omega) (by omega)
        refine lv_iload_n hx hb dX11_parent_56 rfl (lv_at hl 0 rfl) ?_
        obtain ⟨t_21, et_21⟩ : ∃ v9 : Int32, t_20 + l28_3 = v9 := ⟨_, rfl⟩
        refine z_iadd (v := t_21) hx hb dX11_parent_57 et_21 ?_
        have b_t_20 := i32b t_20
        have ft_21 : t_21.toInt = t_20.toInt + l28_3.toInt := addT (a := t_20.toInt) (b := l28_3.toInt) rfl rfl et_21 (by omega) (by omega)
        exact ret _ _ _ dX11_parent_58 trivial

set_option maxHeartbeats 4000000 in
set_option maxRecDepth 100000 in
theorem b_X11_parent_l13 {p : Program} {l : Launch} {e : Env} {s : State} {m : MethodId} {args : Array Value} {below : List Frame} {meth : Method} {c : Code} {Q : State → Prop} {G : Gho} {D : va_G} {cB cI cJ cZ cS cT : ClassId} (h0 : Nat) (h_tape : Nat) (h_reader : Nat) (h_now : Nat) (h_trial : Nat) (h_images : Nat) (h_imageKept : Nat) (h_slots : Nat) (h_night : Nat) (h_otherNight : Nat) (h_circle : Nat) (h_words : Nat) (h_lawSearch : Nat) (h_placeSearch : Nat) (h_drawnNight : Nat) (v_now_tones : Int32) (v_now_a : Int32) (v_now_b : Int32) (v_now_c : Int32) (v_now_d : Int32) (v_now_odds : Int32) (v_now_lines : Int32) (h_now_signs : Nat) (v_now_signCount : Int32) (h_now_posts : Nat) (v_now_postCount : Int32) (h_now_acts : Nat) (f_now_signs : Nat → Int32) (v1 : Int32) (iv_now_signCount : 0 ≤ v_now_signCount.toInt ∧ v_now_signCount.toInt ≤ 8) (iv_now_postCount : 0 ≤ v_now_postCount.toInt ∧ v_now_postCount.toInt ≤ 5) (C : Cx p s m args c RX11 cX11_parent 4 G D (tyL cB cI cJ cZ cS cT)) (hP : va_P D vwCl [(h0, .inr (11, [.ref h_tape, .ref h_reader, .ref h_now, .ref h_trial, .ref h_images, .ref h_imageKept, .ref h_slots, .ref h_night, .ref h_otherNight, .ref h_circle, .ref h_words, .ref h_lawSearch, .ref h_placeSearch, .ref h_drawnNight])), (h_now, .inr (8, [.int v_now_tones, .int v_now_a, .int v_now_b, .int v_now_c, .int v_now_d, .int v_now_odds, .int v_now_lines, .ref h_now_signs, .int v_now_signCount, .ref h_now_posts, .int v_now_postCount, .ref h_now_acts])), (h_now_signs, .inl (cI, 8, .inl f_now_signs))] s.heap) (ret : RroI p l e ({ frames := 3, cells := 0, slots := 0, locals := 61 }) s m args below meth c cX11_parent (fun r : Int32 => True) Q) :
    ∀ (N : Nat) (l13_2 : Int32) (ls : Array Slot), 0 ≤ l13_2.toInt → (v_now_signCount.toInt - l13_2.toInt).toNat < N → lv_has ls 4 [(2, .int l13_2), (0, .ref h0), (1, .int v1)] → W p l e ({ frames := 3, cells := 0, slots := 0, locals := 61 }) s m args below meth c s.heap [] 0 0 Q (F0 m 13 ls []) := by
  obtain ⟨hx, hb, hml, hown, hts, hK, hN, hT⟩ := id C
  intro N
  induction N with
  | zero =>
    intro l13_2 ls kl13_2 hM_13 hl
    omega
  | succ N_13 ih_13 =>
    intro l13_2 ls kl13_2 hM_13 hl
    have b_l13_2 := i32b l13_2
    refine lv_iload_n hx hb dX11_parent_13 rfl (lv_at hl 0 rfl) ?_
    refine lv_aload_n hx hb dX11_parent_14 rfl (lv_at hl 1 rfl) ?_
    refine va_get (D := D) (ci := 11) (v := .ref h_now) (C := RX11) (T := TX11) (N := 14) hx hb hts inlX11 hown hK hP 0 rfl rfl 2 (by decide) (hts _ (inr2 _ (List.mem_of_getElem? (i := 0) rfl))) (fun _ h9 => h9) rfl dX11_parent_15 ?_
    refine roi (As := []) (rest := [.int l13_2]) ⟨hx, hb, hml, hown, hts⟩ (b_X8_signCount l G D cB cI cJ cZ cS cT h_now v_now_tones v_now_a v_now_b v_now_c v_now_d v_now_odds v_now_lines h_now_signs v_now_signCount h_now_posts v_now_postCount h_now_acts (by first | assumption | omega | decide) (by first | assumption | omega | decide)) (cvB (n := 0) (inr21 _ (List.mem_of_getElem? (i := 4) rfl)) (inr15 _ (List.mem_of_getElem? (i := 10) rfl)) (inr15 _ (List.mem_of_getElem? (i := 11) rfl)) (inr1 _ (List.mem_of_getElem? (i := 23) rfl)) (inr15 _ (List.mem_of_getElem? (i := 12) rfl)) (by decide +kernel) hts rfl rfl ⟨Nat.le_of_ble_eq_true rfl, Nat.le_of_ble_eq_true rfl⟩) 0 8 rfl rfl rfl (hP.sub [1] rfl) hK hN hT rfl hl.1 rfl (Nat.le_of_ble_eq_true rfl) ⟨Nat.le_of_ble_eq_true rfl, Nat.le_of_ble_eq_true rfl⟩ dX11_parent_18 (fun r_5 h_6 => ?_)
    have h_6 : (r_5 = v_now_signCount) := h_6
    have i_7 := h_6
    obtain rfl := i_7.symm
    refine lv_icmp_ge (tgt := 71) hx hb dX11_parent_21 (by decide) (fun c_8 => ?_) (fun c_8 => ?_)
    · have c_8 : v_now_signCount.toInt ≤ l13_2.toInt := ci_ge_t c_8
      have b_v_now_signCount := i32b v_now_signCount
      refine lv_iconst (v := (-1)) hx hb dX11_parent_71 (by decide) ?_
      exact ret _ _ _ dX11_parent_72 trivial
    · have c_8 : l13_2.toInt < v_now_signCount.toInt := ci_ge_f c_8
      have b_v_now_signCount := i32b v_now_signCount
      refine lv_iload_n hx hb dX11_parent_24 rfl (lv_at hl 0 rfl) ?_
      refine lv_iconst (v := 1) hx hb dX11_parent_25 (by decide) ?_
      obtain ⟨t_9, et_9⟩ : ∃ v9 : Int32, l13_2 + 1 = v9 := ⟨_, rfl⟩
      refine z_iadd (v := t_9) hx hb dX11_parent_26 et_9 ?_
      have ft_9 : t_9.toInt = l13_2.toInt + 1 := addT (a := l13_2.toInt) (b := 1) rfl (by decide) et_9 (by omega) (by omega)
      refine lv_istore_n (lv' := [(3, .int t_9), (2, .int l13_2), (0, .ref h0), (1, .int v1)]) hx hb dX11_parent_27 rfl hl (by decide) rfl (fun ls hl => ?_)
      exact b_X11_parent_l28 h0 h_tape h_reader h_now h_trial h_images h_imageKept h_slots h_night h_otherNight h_circle h_words h_lawSearch h_placeSearch h_drawnNight v_now_tones v_now_a v_now_b v_now_c v_now_d v_now_odds v_now_lines h_now_signs v_now_signCount h_now_posts v_now_postCount h_now_acts f_now_signs v1 l13_2 N_13 (by first | assumption | omega | decide) (by first | assumption | omega | decide) (by first | assumption | omega | decide) (by first | assumption | omega | decide) (by first | assumption | omega | decide) (by first | assumption | omega | decide) (by first | assumption | omega | decide) C (hP.sub [0, 1, 2] rfl) ret _ (t_9) _ (by first | assumption | omega | decide) (Nat.lt_succ_self _) (lv_sub hl [0, 1, 2, 3] rfl)

set_option maxHeartbeats 4000000 in
set_option maxRecDepth 100000 in
theorem b_X11_parent (l : Launch) (G : Gho) (D : va_G) (cB cI cJ cZ cS cT : ClassId) (h0 : Nat) (h_tape : Nat) (h_reader : Nat) (h_now : Nat) (h_trial : Nat) (h_images : Nat) (h_imageKept : Nat) (h_slots : Nat) (h_night : Nat) (h_otherNight : Nat) (h_circle : Nat) (h_words : Nat) (h_lawSearch : Nat) (h_placeSearch : Nat) (h_drawnNight : Nat) (v_now_tones : Int32) (v_now_a : Int32) (v_now_b : Int32) (v_now_c : Int32) (v_now_d : Int32) (v_now_odds : Int32) (v_now_lines : Int32) (h_now_signs : Nat) (v_now_signCount : Int32) (h_now_posts : Nat) (v_now_postCount : Int32) (h_now_acts : Nat) (f_now_signs : Nat → Int32) (v1 : Int32) (iv_now_signCount : 0 ≤ v_now_signCount.toInt ∧ v_now_signCount.toInt ≤ 8) (iv_now_postCount : 0 ≤ v_now_postCount.toInt ∧ v_now_postCount.toInt ≤ 5) : Met l yX11_parent (Cond.code yX11_parent cX11_parent 4 (some .int) :: wsL_law) ({ frames := 3, cells := 0, slots := 0, locals := 61 }) (roP G D (tyL cB cI cJ cZ cS cT) [(h0, .inr (11, [.ref h_tape, .ref h_reader, .ref h_now, .ref h_trial, .ref h_images, .ref h_imageKept, .ref h_slots, .ref h_night, .ref h_otherNight, .ref h_circle, .ref h_words, .ref h_lawSearch, .ref h_placeSearch, .ref h_drawnNight])), (h_now, .inr (8, [.int v_now_tones, .int v_now_a, .int v_now_b, .int v_now_c, .int v_now_d, .int v_now_odds, .int v_now_lines, .ref h_now_signs, .int v_now_signCount, .ref h_now_posts, .int v_now_postCount, .ref h_now_acts])), (h_now_signs, .inl (cI, 8, .inl f_now_signs))] [.ref h0, .int v1]) (vp_Si (fun r : Int32 => True)) 0 0 (fun _ => False) := by
  refine metRO (own := RX11) (by decide) rfl ?_
  intro p e s m below meth c Q C hP ret
  obtain ⟨hx, hb, hml, hown, hts, hK, hN, hT⟩ := id C
  have hl := lv_entry ([.ref h0, .int v1]) (n := 4) (Nat.le_of_ble_eq_true rfl)
  rw [lg_entry_eq]
  generalize (lg_sl ([.ref h0, .int v1]) ++ List.replicate (4 - (lg_sl ([.ref h0, .int v1])).length) Slot.unset).toArray = ls at hl ⊢
  have hl : lv_has ls 4 [(0, .ref h0), (1, .int v1)] := hl
  have hP : va_P D vwCl [(h0, .inr (11, [.ref h_tape, .ref h_reader, .ref h_now, .ref h_trial, .ref h_images, .ref h_imageKept, .ref h_slots, .ref h_night, .ref h_otherNight, .ref h_circle, .ref h_words, .ref h_lawSearch, .ref h_placeSearch, .ref h_drawnNight])), (h_now, .inr (8, [.int v_now_tones, .int v_now_a, .int v_now_b, .int v_now_c, .int v_now_d, .int v_now_odds, .int v_now_lines, .ref h_now_signs, .int v_now_signCount, .ref h_now_posts, .int v_now_postCount, .ref h_now_acts])), (h_now_signs, .inl (cI, 8, .inl f_now_signs))] s.heap := hP
  refine lv_aload_n hx hb dX11_parent_0 rfl (lv_at hl 0 rfl) ?_
  refine lv_iload_n hx hb dX11_parent_1 rfl (lv_at hl 1 rfl) ?_
  refine roi (As := [.int v1]) (rest := []) ⟨hx, hb, hml, hown, hts⟩ (b_X11_noTone l G D cB cI cJ cZ cS cT h0 h_tape h_reader h_now h_trial h_images h_imageKept h_slots h_night h_otherNight h_circle h_words h_lawSearch h_placeSearch h_drawnNight v_now_tones v_now_a v_now_b v_now_c v_now_d v_now_odds v_now_lines h_now_signs v_now_signCount h_now_posts v_now_postCount h_now_acts v1 (by first | assumption | omega | decide) (by first | assumption | omega | decide)) (cvB (n := 1) (inr29 _ (List.mem_of_getElem? (i := 11) rfl)) (inr29 _ (List.mem_of_getElem? (i := 12) rfl)) (inr29 _ (List.mem_of_getElem? (i := 13) rfl)) (inr1 _ (List.mem_of_getElem? (i := 2) rfl)) (inr29 _ (List.mem_of_getElem? (i := 14) rfl)) (by decide +kernel) hts rfl rfl ⟨Nat.le_of_ble_eq_true rfl, Nat.le_of_ble_eq_true rfl⟩) 0 11 rfl rfl rfl (hP.sub [0, 1] rfl) hK hN hT rfl hl.1 rfl (Nat.le_of_ble_eq_true rfl) ⟨Nat.le_of_ble_eq_true rfl, Nat.le_of_ble_eq_true rfl⟩ dX11_parent_2 (fun r_1 h_2 => ?_)
  have h_2 : (r_1 = 0 ∨ r_1 = 1) := h_2
  have i_3 := h_2
  have ar_1 : 0 ≤ r_1.toInt ∧ r_1.toInt ≤ 1 := by rcases i_3 with h | h <;> rw [h] <;> decide
  refine lv_if_eq (tgt := 11) hx hb dX11_parent_5 (by decide) (fun c_4 => ?_) (fun c_4 => ?_)
  · have c_4 : r_1.toInt = 0 := ci_eq_t c_4
    have b_r_1 := i32b r_1
    refine lv_iconst (v := 0) hx hb dX11_parent_11 (by decide) ?_
    refine lv_istore_n (lv' := [(2, .int 0), (0, .ref h0), (1, .int v1)]) hx hb dX11_parent_12 rfl hl (by decide) rfl (fun ls hl => ?_)
    exact b_X11_parent_l13 h0 h_tape h_reader h_now h_trial h_images h_imageKept h_slots h_night h_otherNight h_circle h_words h_lawSearch h_placeSearch h_drawnNight v_now_tones v_now_a v_now_b v_now_c v_now_d v_now_odds v_now_lines h_now_signs v_now_signCount h_now_posts v_now_postCount h_now_acts f_now_signs v1 (by first | assumption | omega | decide) (by first | assumption | omega | decide) C (hP.sub [0, 1, 2] rfl) ret _ (0) _ (by first | assumption | omega | decide) (Nat.lt_succ_self _) (lv_sub hl [0, 1, 2] rfl)
  · have c_4 : ¬ r_1.toInt = 0 := ci_eq_f c_4
    have b_r_1 := i32b r_1
    refine lv_bipush (v := (-2)) hx hb dX11_parent_8 (by decide) ?_
    exact ret _ _ _ dX11_parent_10 trivial

set_option maxHeartbeats 4000000 in
set_option maxRecDepth 100000 in
theorem b_X11_reward (l : Launch) (G : Gho) (D : va_G) (cB cI cJ cZ cS cT : ClassId) (v0 : Int32) (v1 : Int32)  : Met l yX11_reward (Cond.code yX11_reward cX11_reward 3 (some .int) :: wsL_law) ({ frames := 0, cells := 0, slots := 0, locals := 0 }) (roP G D (tyL cB cI cJ cZ cS cT) [] [.int v0, .int v1]) (vp_Si (fun r : Int32 => (r = rw_ v0 v1))) 0 0 (fun _ => False) := by
  refine metRO (own := RX11) (by decide) rfl ?_
  intro p e s m below meth c Q C hP ret
  obtain ⟨hx, hb, hml, hown, hts, hK, hN, hT⟩ := id C
  have hl := lv_entry ([.int v0, .int v1]) (n := 3) (Nat.le_of_ble_eq_true rfl)
  rw [lg_entry_eq]
  generalize (lg_sl ([.int v0, .int v1]) ++ List.replicate (3 - (lg_sl ([.int v0, .int v1])).length) Slot.unset).toArray = ls at hl ⊢
  have hl : lv_has ls 3 [(0, .int v0), (1, .int v1)] := hl
  have hP : va_P D vwCl [] s.heap := hP
  refine lv_iload_n hx hb dX11_reward_0 rfl (lv_at hl 0 rfl) ?_
  refine lv_iload_n hx hb dX11_reward_1 rfl (lv_at hl 1 rfl) ?_
  refine lv_icmp_le (tgt := 10) hx hb dX11_reward_2 (by decide) (fun c_1 => ?_) (fun c_1 => ?_)
  · have c_1 : v0.toInt ≤ v1.toInt := ci_le_t c_1
    have b_v0 := i32b v0
    have b_v1 := i32b v1
    refine lv_iload_n hx hb dX11_reward_10 rfl (lv_at hl 0 rfl) ?_
    refine lv_iload_n hx hb dX11_reward_11 rfl (lv_at hl 1 rfl) ?_
    refine lv_icmp_ne (tgt := 19) hx hb dX11_reward_12 (by decide) (fun c_2 => ?_) (fun c_2 => ?_)
    · have c_2 : ¬ v0.toInt = v1.toInt := ci_ne_t c_2
      refine lv_iconst (v := 0) hx hb dX11_reward_19 (by decide) ?_
      refine lv_istore_n (lv' := [(2, .int 0), (0, .int v0), (1, .int v1)]) hx hb dX11_reward_20 rfl hl (by decide) rfl (fun ls hl => ?_)
      refine lv_iload_n hx hb dX11_reward_21 rfl (lv_at hl 0 rfl) ?_
      refine lv_iload_n hx hb dX11_reward_22 rfl (lv_at hl 1 rfl) ?_
      refine lv_iload_n hx hb dX11_reward_23 rfl (lv_at hl 1 rfl) ?_
      obtain ⟨t_3, et_3⟩ : ∃ v9 : Int32, v0 * v0 = v9 := ⟨_, rfl⟩
      refine z_imul (v := t_3) hx hb dX11_reward_24 et_3 ?_
      obtain ⟨t_4, et_4⟩ : ∃ v9 : Int32, 0 - t_3 = v9 := ⟨_, rfl⟩
      refine z_isub (v := t_4) hx hb dX11_reward_25 et_4 ?_
      exact ret _ _ _ dX11_reward_26 (show (t_4 = rw_ v0 v1) from (by subst_vars; unfold rw_; simp only [Int32.lt_iff_toInt_lt, ← Int32.toInt_inj]; repeat' split <;> first | rfl | (exfalso; omega)))
    · have c_2 : v0.toInt = v1.toInt := ci_ne_f c_2
      refine lv_iconst (v := 4) hx hb dX11_reward_15 (by decide) ?_
      refine lv_goto (tgt := 20) hx hb dX11_reward_16 (by decide) ?_
      refine lv_istore_n (lv' := [(2, .int 4), (0, .int v0), (1, .int v1)]) hx hb dX11_reward_20 rfl hl (by decide) rfl (fun ls hl => ?_)
      refine lv_iload_n hx hb dX11_reward_21 rfl (lv_at hl 0 rfl) ?_
      refine lv_iload_n hx hb dX11_reward_22 rfl (lv_at hl 1 rfl) ?_
      refine lv_iload_n hx hb dX11_reward_23 rfl (lv_at hl 1 rfl) ?_
      obtain ⟨t_5, et_5⟩ : ∃ v9 : Int32, v0 * v0 = v9 := ⟨_, rfl⟩
      refine z_imul (v := t_5) hx hb dX11_reward_24 et_5 ?_
      obtain ⟨t_6, et_6⟩ : ∃ v9 : Int32, 4 - t_5 = v9 := ⟨_, rfl⟩
      refine z_isub (v := t_6) hx hb dX11_reward_25 et_6 ?_
      exact ret _ _ _ dX11_reward_26 (show (t_6 = rw_ v0 v1) from (by subst_vars; unfold rw_; simp only [Int32.lt_iff_toInt_lt, ← Int32.toInt_inj]; repeat' split <;> first | rfl | (exfalso; omega)))
  · have c_1 : v1.toInt < v0.toInt := ci_le_f c_1
    have b_v0 := i32b v0
    have b_v1 := i32b v1
    refine lv_bipush (v := 10) hx hb dX11_reward_5 (by decide) ?_
    refine lv_goto (tgt := 20) hx hb dX11_reward_7 (by decide) ?_
    refine lv_istore_n (lv' := [(2, .int 10), (0, .int v0), (1, .int v1)]) hx hb dX11_reward_20 rfl hl (by decide) rfl (fun ls hl => ?_)
    refine lv_iload_n hx hb dX11_reward_21 rfl (lv_at hl 0 rfl) ?_
    refine lv_iload_n hx hb dX11_reward_22 rfl (lv_at hl 1 rfl) ?_
    refine lv_iload_n hx hb dX11_reward_23 rfl (lv_at hl 1 rfl) ?_
    obtain ⟨t_7, et_7⟩ : ∃ v9 : Int32, v0 * v0 = v9 := ⟨_, rfl⟩
    refine z_imul (v := t_7) hx hb dX11_reward_24 et_7 ?_
    obtain ⟨t_8, et_8⟩ : ∃ v9 : Int32, 10 - t_7 = v9 := ⟨_, rfl⟩
    refine z_isub (v := t_8) hx hb dX11_reward_25 et_8 ?_
    exact ret _ _ _ dX11_reward_26 (show (t_8 = rw_ v0 v1) from (by subst_vars; unfold rw_; simp only [Int32.lt_iff_toInt_lt, ← Int32.toInt_inj]; repeat' split <;> first | rfl | (exfalso; omega)))

set_option maxHeartbeats 4000000 in
set_option maxRecDepth 100000 in
theorem b_X11_noneBetter (l : Launch) (G : Gho) (D : va_G) (cB cI cJ cZ cS cT : ClassId) (v0 : Int32) (v1 : Int32)  : Met l yX11_noneBetter (Cond.code yX11_noneBetter cX11_noneBetter 3 (some .boolean) :: wsL_law) ({ frames := 1, cells := 0, slots := 0, locals := 22 }) (roP G D (tyL cB cI cJ cZ cS cT) [] [.int v0, .int v1]) (vp_Si (fun r : Int32 => (r = nb_ v0 v1))) 0 0 (fun _ => False) := by
  refine metROZ (own := RX11) (by decide) rfl (fun r h => by rw [h]; unfold nb_; split; exact Or.inl rfl; exact Or.inr rfl) ?_
  intro p e s m below meth c Q C hP ret
  obtain ⟨hx, hb, hml, hown, hts, hK, hN, hT⟩ := id C
  have hl := lv_entry ([.int v0, .int v1]) (n := 3) (Nat.le_of_ble_eq_true rfl)
  rw [lg_entry_eq]
  generalize (lg_sl ([.int v0, .int v1]) ++ List.replicate (3 - (lg_sl ([.int v0, .int v1])).length) Slot.unset).toArray = ls at hl ⊢
  have hl : lv_has ls 3 [(0, .int v0), (1, .int v1)] := hl
  have hP : va_P D vwCl [] s.heap := hP
  refine lv_iconst (v := 0) hx hb dX11_noneBetter_0 (by decide) ?_
  refine lv_istore_n (lv' := [(2, .int 0), (0, .int v0), (1, .int v1)]) hx hb dX11_noneBetter_1 rfl hl (by decide) rfl (fun ls hl => ?_)
  refine lv_iload_n hx hb dX11_noneBetter_2 rfl (lv_at hl 0 rfl) ?_
  refine lv_iconst (v := 3) hx hb dX11_noneBetter_3 (by decide) ?_
  refine lv_icmp_gt (tgt := 28) hx hb dX11_noneBetter_4 (by decide) (fun c0 => absurd c0 (by decide)) (fun _ => ?_)
  refine lv_iload_n hx hb dX11_noneBetter_7 rfl (lv_at hl 0 rfl) ?_
  refine lv_iload_n hx hb dX11_noneBetter_8 rfl (lv_at hl 2 rfl) ?_
  refine rosi (As := [.int 0, .int v1]) (rest := []) ⟨hx, hb, hml, hown, hts⟩ (b_X11_reward l G D cB cI cJ cZ cS cT 0 v1 ) (csB (n := 2) (inr62 _ (List.mem_of_getElem? (i := 16) rfl)) (inr62 _ (List.mem_of_getElem? (i := 17) rfl)) (inr1 _ (List.mem_of_getElem? (i := 2) rfl)) (inr62 _ (List.mem_of_getElem? (i := 18) rfl)) (by decide +kernel) hts rfl rfl ⟨Nat.le_of_ble_eq_true rfl, Nat.le_of_ble_eq_true rfl⟩) (hP.sub [] rfl) hK hN hT rfl hl.1 rfl (Nat.le_of_ble_eq_true rfl) ⟨Nat.le_of_ble_eq_true rfl, Nat.le_of_ble_eq_true rfl⟩ dX11_noneBetter_9 (fun r_1 h_2 => ?_)
  have h_2 : (r_1 = rw_ 0 v1) := h_2
  have i_3 := h_2
  refine lv_iload_n hx hb dX11_noneBetter_12 rfl (lv_at hl 1 rfl) ?_
  refine lv_iload_n hx hb dX11_noneBetter_13 rfl (lv_at hl 2 rfl) ?_
  refine rosi (As := [.int v0, .int v1]) (rest := [.int r_1]) ⟨hx, hb, hml, hown, hts⟩ (b_X11_reward l G D cB cI cJ cZ cS cT v0 v1 ) (csB (n := 2) (inr62 _ (List.mem_of_getElem? (i := 16) rfl)) (inr62 _ (List.mem_of_getElem? (i := 17) rfl)) (inr1 _ (List.mem_of_getElem? (i := 2) rfl)) (inr62 _ (List.mem_of_getElem? (i := 18) rfl)) (by decide +kernel) hts rfl rfl ⟨Nat.le_of_ble_eq_true rfl, Nat.le_of_ble_eq_true rfl⟩) (hP.sub [] rfl) hK hN hT rfl hl.1 rfl (Nat.le_of_ble_eq_true rfl) ⟨Nat.le_of_ble_eq_true rfl, Nat.le_of_ble_eq_true rfl⟩ dX11_noneBetter_14 (fun r_4 h_5 => ?_)
  have h_5 : (r_4 = rw_ v0 v1) := h_5
  have i_6 := h_5
  refine lv_icmp_le (tgt := 22) hx hb dX11_noneBetter_17 (by decide) (fun c_7 => ?_) (fun c_7 => ?_)
  · have c_7 : r_1.toInt ≤ r_4.toInt := ci_le_t c_7
    have b_r_1 := i32b r_1
    have b_r_4 := i32b r_4
    refine lv_iinc (v := 1) (lv' := [(2, .int 1), (0, .int v0), (1, .int v1)]) hx hb dX11_noneBetter_22 hl (k := 0) rfl (by decide) (by decide) rfl (fun ls hl => ?_)
    refine lv_goto (tgt := 2) hx hb dX11_noneBetter_25 (by decide) ?_
    refine lv_iload_n hx hb dX11_noneBetter_2 rfl (lv_at hl 0 rfl) ?_
    refine lv_iconst (v := 3) hx hb dX11_noneBetter_3 (by decide) ?_
    refine lv_icmp_gt (tgt := 28) hx hb dX11_noneBetter_4 (by decide) (fun c0 => absurd c0 (by decide)) (fun _ => ?_)
    refine lv_iload_n hx hb dX11_noneBetter_7 rfl (lv_at hl 0 rfl) ?_
    refine lv_iload_n hx hb dX11_noneBetter_8 rfl (lv_at hl 2 rfl) ?_
    refine rosi (As := [.int 1, .int v1]) (rest := []) ⟨hx, hb, hml, hown, hts⟩ (b_X11_reward l G D cB cI cJ cZ cS cT 1 v1 ) (csB (n := 2) (inr62 _ (List.mem_of_getElem? (i := 16) rfl)) (inr62 _ (List.mem_of_getElem? (i := 17) rfl)) (inr1 _ (List.mem_of_getElem? (i := 2) rfl)) (inr62 _ (List.mem_of_getElem? (i := 18) rfl)) (by decide +kernel) hts rfl rfl ⟨Nat.le_of_ble_eq_true rfl, Nat.le_of_ble_eq_true rfl⟩) (hP.sub [] rfl) hK hN hT rfl hl.1 rfl (Nat.le_of_ble_eq_true rfl) ⟨Nat.le_of_ble_eq_true rfl, Nat.le_of_ble_eq_true rfl⟩ dX11_noneBetter_9 (fun r_8 h_9 => ?_)
    have h_9 : (r_8 = rw_ 1 v1) := h_9
    have i_10 := h_9
    refine lv_iload_n hx hb dX11_noneBetter_12 rfl (lv_at hl 1 rfl) ?_
    refine lv_iload_n hx hb dX11_noneBetter_13 rfl (lv_at hl 2 rfl) ?_
    refine rosi (As := [.int v0, .int v1]) (rest := [.int r_8]) ⟨hx, hb, hml, hown, hts⟩ (b_X11_reward l G D cB cI cJ cZ cS cT v0 v1 ) (csB (n := 2) (inr62 _ (List.mem_of_getElem? (i := 16) rfl)) (inr62 _ (List.mem_of_getElem? (i := 17) rfl)) (inr1 _ (List.mem_of_getElem? (i := 2) rfl)) (inr62 _ (List.mem_of_getElem? (i := 18) rfl)) (by decide +kernel) hts rfl rfl ⟨Nat.le_of_ble_eq_true rfl, Nat.le_of_ble_eq_true rfl⟩) (hP.sub [] rfl) hK hN hT rfl hl.1 rfl (Nat.le_of_ble_eq_true rfl) ⟨Nat.le_of_ble_eq_true rfl, Nat.le_of_ble_eq_true rfl⟩ dX11_noneBetter_14 (fun r_11 h_12 => ?_)
    have h_12 : (r_11 = rw_ v0 v1) := h_12
    have i_13 := h_12
    refine lv_icmp_le (tgt := 22) hx hb dX11_noneBetter_17 (by decide) (fun c_14 => ?_) (fun c_14 => ?_)
    · have c_14 : r_8.toInt ≤ r_11.toInt := ci_le_t c_14
      have b_r_8 := i32b r_8
      have b_r_11 := i32b r_11
      refine lv_iinc (v := 2) (lv' := [(2, .int 2), (0, .int v0), (1, .int v1)]) hx hb dX11_noneBetter_22 hl (k := 0) rfl (by decide) (by decide) rfl (fun ls hl => ?_)
      refine lv_goto (tgt := 2) hx hb dX11_noneBetter_25 (by decide) ?_
      refine lv_iload_n hx hb dX11_noneBetter_2 rfl (lv_at hl 0 rfl) ?_
      refine lv_iconst (v := 3) hx hb dX11_noneBetter_3 (by decide) ?_
      refine lv_icmp_gt (tgt := 28) hx hb dX11_noneBetter_4 (by decide) (fun c0 => absurd c0 (by decide)) (fun _ => ?_)
      refine lv_iload_n hx hb dX11_noneBetter_7 rfl (lv_at hl 0 rfl) ?_
      refine lv_iload_n hx hb dX11_noneBetter_8 rfl (lv_at hl 2 rfl) ?_
      refine rosi (As := [.int 2, .int v1]) (rest := []) ⟨hx, hb, hml, hown, hts⟩ (b_X11_reward l G D cB cI cJ cZ cS cT 2 v1 ) (csB (n := 2) (inr62 _ (List.mem_of_getElem? (i := 16) rfl)) (inr62 _ (List.mem_of_getElem? (i := 17) rfl)) (inr1 _ (List.mem_of_getElem? (i := 2) rfl)) (inr62 _ (List.mem_of_getElem? (i := 18) rfl)) (by decide +kernel) hts rfl rfl ⟨Nat.le_of_ble_eq_true rfl, Nat.le_of_ble_eq_true rfl⟩) (hP.sub [] rfl) hK hN hT rfl hl.1 rfl (Nat.le_of_ble_eq_true rfl) ⟨Nat.le_of_ble_eq_true rfl, Nat.le_of_ble_eq_true rfl⟩ dX11_noneBetter_9 (fun r_15 h_16 => ?_)
      have h_16 : (r_15 = rw_ 2 v1) := h_16
      have i_17 := h_16
      refine lv_iload_n hx hb dX11_noneBetter_12 rfl (lv_at hl 1 rfl) ?_
      refine lv_iload_n hx hb dX11_noneBetter_13 rfl (lv_at hl 2 rfl) ?_
      refine rosi (As := [.int v0, .int v1]) (rest := [.int r_15]) ⟨hx, hb, hml, hown, hts⟩ (b_X11_reward l G D cB cI cJ cZ cS cT v0 v1 ) (csB (n := 2) (inr62 _ (List.mem_of_getElem? (i := 16) rfl)) (inr62 _ (List.mem_of_getElem? (i := 17) rfl)) (inr1 _ (List.mem_of_getElem? (i := 2) rfl)) (inr62 _ (List.mem_of_getElem? (i := 18) rfl)) (by decide +kernel) hts rfl rfl ⟨Nat.le_of_ble_eq_true rfl, Nat.le_of_ble_eq_true rfl⟩) (hP.sub [] rfl) hK hN hT rfl hl.1 rfl (Nat.le_of_ble_eq_true rfl) ⟨Nat.le_of_ble_eq_true rfl, Nat.le_of_ble_eq_true rfl⟩ dX11_noneBetter_14 (fun r_18 h_19 => ?_)
      have h_19 : (r_18 = rw_ v0 v1) := h_19
      have i_20 := h_19
      refine lv_icmp_le (tgt := 22) hx hb dX11_noneBetter_17 (by decide) (fun c_21 => ?_) (fun c_21 => ?_)
      · have c_21 : r_15.toInt ≤ r_18.toInt := ci_le_t c_21
        have b_r_15 := i32b r_15
        have b_r_18 := i32b r_18
        refine lv_iinc (v := 3) (lv' := [(2, .int 3), (0, .int v0), (1, .int v1)]) hx hb dX11_noneBetter_22 hl (k := 0) rfl (by decide) (by decide) rfl (fun ls hl => ?_)
        refine lv_goto (tgt := 2) hx hb dX11_noneBetter_25 (by decide) ?_
        refine lv_iload_n hx hb dX11_noneBetter_2 rfl (lv_at hl 0 rfl) ?_
        refine lv_iconst (v := 3) hx hb dX11_noneBetter_3 (by decide) ?_
        refine lv_icmp_gt (tgt := 28) hx hb dX11_noneBetter_4 (by decide) (fun c0 => absurd c0 (by decide)) (fun _ => ?_)
        refine lv_iload_n hx hb dX11_noneBetter_7 rfl (lv_at hl 0 rfl) ?_
        refine lv_iload_n hx hb dX11_noneBetter_8 rfl (lv_at hl 2 rfl) ?_
        refine rosi (As := [.int 3, .int v1]) (rest := []) ⟨hx, hb, hml, hown, hts⟩ (b_X11_reward l G D cB cI cJ cZ cS cT 3 v1 ) (csB (n := 2) (inr62 _ (List.mem_of_getElem? (i := 16) rfl)) (inr62 _ (List.mem_of_getElem? (i := 17) rfl)) (inr1 _ (List.mem_of_getElem? (i := 2) rfl)) (inr62 _ (List.mem_of_getElem? (i := 18) rfl)) (by decide +kernel) hts rfl rfl ⟨Nat.le_of_ble_eq_true rfl, Nat.le_of_ble_eq_true rfl⟩) (hP.sub [] rfl) hK hN hT rfl hl.1 rfl (Nat.le_of_ble_eq_true rfl) ⟨Nat.le_of_ble_eq_true rfl, Nat.le_of_ble_eq_true rfl⟩ dX11_noneBetter_9 (fun r_22 h_23 => ?_)
        have h_23 : (r_22 = rw_ 3 v1) := h_23
        have i_24 := h_23
        refine lv_iload_n hx hb dX11_noneBetter_12 rfl (lv_at hl 1 rfl) ?_
        refine lv_iload_n hx hb dX11_noneBetter_13 rfl (lv_at hl 2 rfl) ?_
        refine rosi (As := [.int v0, .int v1]) (rest := [.int r_22]) ⟨hx, hb, hml, hown, hts⟩ (b_X11_reward l G D cB cI cJ cZ cS cT v0 v1 ) (csB (n := 2) (inr62 _ (List.mem_of_getElem? (i := 16) rfl)) (inr62 _ (List.mem_of_getElem? (i := 17) rfl)) (inr1 _ (List.mem_of_getElem? (i := 2) rfl)) (inr62 _ (List.mem_of_getElem? (i := 18) rfl)) (by decide +kernel) hts rfl rfl ⟨Nat.le_of_ble_eq_true rfl, Nat.le_of_ble_eq_true rfl⟩) (hP.sub [] rfl) hK hN hT rfl hl.1 rfl (Nat.le_of_ble_eq_true rfl) ⟨Nat.le_of_ble_eq_true rfl, Nat.le_of_ble_eq_true rfl⟩ dX11_noneBetter_14 (fun r_25 h_26 => ?_)
        have h_26 : (r_25 = rw_ v0 v1) := h_26
        have i_27 := h_26
        refine lv_icmp_le (tgt := 22) hx hb dX11_noneBetter_17 (by decide) (fun c_28 => ?_) (fun c_28 => ?_)
        · have c_28 : r_22.toInt ≤ r_25.toInt := ci_le_t c_28
          have b_r_22 := i32b r_22
          have b_r_25 := i32b r_25
          refine lv_iinc (v := 4) (lv' := [(2, .int 4), (0, .int v0), (1, .int v1)]) hx hb dX11_noneBetter_22 hl (k := 0) rfl (by decide) (by decide) rfl (fun ls hl => ?_)
          refine lv_goto (tgt := 2) hx hb dX11_noneBetter_25 (by decide) ?_
          refine lv_iload_n hx hb dX11_noneBetter_2 rfl (lv_at hl 0 rfl) ?_
          refine lv_iconst (v := 3) hx hb dX11_noneBetter_3 (by decide) ?_
          refine lv_icmp_gt (tgt := 28) hx hb dX11_noneBetter_4 (by decide) (fun _ => ?_) (fun c0 => absurd c0 (by decide))
          refine lv_iconst (v := 1) hx hb dX11_noneBetter_28 (by decide) ?_
          have hr9 : (1 : Int32).toInt = 1 := by decide
          exact ret _ _ _ dX11_noneBetter_29 (show ((1 : Int32) = nb_ v0 v1) from (by subst_vars; unfold nb_; simp only [Int32.lt_iff_toInt_lt]; split <;> first | rfl | (exfalso; omega)))
        · have c_28 : r_25.toInt < r_22.toInt := ci_le_f c_28
          have b_r_22 := i32b r_22
          have b_r_25 := i32b r_25
          refine lv_iconst (v := 0) hx hb dX11_noneBetter_20 (by decide) ?_
          have hr9 : (0 : Int32).toInt = 0 := by decide
          exact ret _ _ _ dX11_noneBetter_21 (show ((0 : Int32) = nb_ v0 v1) from (by subst_vars; unfold nb_; simp only [Int32.lt_iff_toInt_lt]; split <;> first | rfl | (exfalso; omega)))
      · have c_21 : r_18.toInt < r_15.toInt := ci_le_f c_21
        have b_r_15 := i32b r_15
        have b_r_18 := i32b r_18
        refine lv_iconst (v := 0) hx hb dX11_noneBetter_20 (by decide) ?_
        have hr9 : (0 : Int32).toInt = 0 := by decide
        exact ret _ _ _ dX11_noneBetter_21 (show ((0 : Int32) = nb_ v0 v1) from (by subst_vars; unfold nb_; simp only [Int32.lt_iff_toInt_lt]; split <;> first | rfl | (exfalso; omega)))
    · have c_14 : r_11.toInt < r_8.toInt := ci_le_f c_14
      have b_r_8 := i32b r_8
      have b_r_11 := i32b r_11
      refine lv_iconst (v := 0) hx hb dX11_noneBetter_20 (by decide) ?_
      have hr9 : (0 : Int32).toInt = 0 := by decide
      exact ret _ _ _ dX11_noneBetter_21 (show ((0 : Int32) = nb_ v0 v1) from (by subst_vars; unfold nb_; simp only [Int32.lt_iff_toInt_lt]; split <;> first | rfl | (exfalso; omega)))
  · have c_7 : r_4.toInt < r_1.toInt := ci_le_f c_7
    have b_r_1 := i32b r_1
    have b_r_4 := i32b r_4
    refine lv_iconst (v := 0) hx hb dX11_noneBetter_20 (by decide) ?_
    have hr9 : (0 : Int32).toInt = 0 := by decide
    exact ret _ _ _ dX11_noneBetter_21 (show ((0 : Int32) = nb_ v0 v1) from (by subst_vars; unfold nb_; simp only [Int32.lt_iff_toInt_lt]; split <;> first | rfl | (exfalso; omega)))

set_option maxHeartbeats 4000000 in
set_option maxRecDepth 100000 in
theorem b_X11_rests (l : Launch) (G : Gho) (D : va_G) (cB cI cJ cZ cS cT : ClassId) (h0 : Nat)  : Met l yX11_rests (Cond.code yX11_rests cX11_rests 4 (some .int) :: wsL_law) ({ frames := 2, cells := 0, slots := 0, locals := 44 }) (roP G D (tyL cB cI cJ cZ cS cT) [] [.ref h0]) (vp_Si (fun r : Int32 => (r = 0))) 0 0 (fun _ => False) := by
  refine metRO (own := RX11) (by decide) rfl ?_
  intro p e s m below meth c Q C hP ret
  obtain ⟨hx, hb, hml, hown, hts, hK, hN, hT⟩ := id C
  have hl := lv_entry ([.ref h0]) (n := 4) (Nat.le_of_ble_eq_true rfl)
  rw [lg_entry_eq]
  generalize (lg_sl ([.ref h0]) ++ List.replicate (4 - (lg_sl ([.ref h0])).length) Slot.unset).toArray = ls at hl ⊢
  have hl : lv_has ls 4 [(0, .ref h0)] := hl
  have hP : va_P D vwCl [] s.heap := hP
  refine lv_iconst (v := 0) hx hb dX11_rests_0 (by decide) ?_
  refine lv_istore_n (lv' := [(1, .int 0), (0, .ref h0)]) hx hb dX11_rests_1 rfl hl (by decide) rfl (fun ls hl => ?_)
  refine lv_iconst (v := 0) hx hb dX11_rests_2 (by decide) ?_
  refine lv_istore_n (lv' := [(2, .int 0), (1, .int 0), (0, .ref h0)]) hx hb dX11_rests_3 rfl hl (by decide) rfl (fun ls hl => ?_)
  refine lv_iload_n hx hb dX11_rests_4 rfl (lv_at hl 0 rfl) ?_
  refine lv_iconst (v := 3) hx hb dX11_rests_5 (by decide) ?_
  refine lv_icmp_gt (tgt := 47) hx hb dX11_rests_6 (by decide) (fun c0 => absurd c0 (by decide)) (fun _ => ?_)
  refine lv_iconst (v := 0) hx hb dX11_rests_9 (by decide) ?_
  refine lv_istore_n (lv' := [(3, .int 0), (2, .int 0), (1, .int 0), (0, .ref h0)]) hx hb dX11_rests_10 rfl hl (by decide) rfl (fun ls hl => ?_)
  refine lv_iload_n hx hb dX11_rests_11 rfl (lv_at hl 0 rfl) ?_
  refine lv_iconst (v := 3) hx hb dX11_rests_12 (by decide) ?_
  refine lv_icmp_gt (tgt := 41) hx hb dX11_rests_13 (by decide) (fun c0 => absurd c0 (by decide)) (fun _ => ?_)
  refine lv_iload_n hx hb dX11_rests_16 rfl (lv_at hl 1 rfl) ?_
  refine lv_iload_n hx hb dX11_rests_17 rfl (lv_at hl 0 rfl) ?_
  refine rosi (As := [.int 0, .int 0]) (rest := []) ⟨hx, hb, hml, hown, hts⟩ (b_X11_noneBetter l G D cB cI cJ cZ cS cT 0 0 ) (csB (n := 2) (inr62 _ (List.mem_of_getElem? (i := 13) rfl)) (inr62 _ (List.mem_of_getElem? (i := 14) rfl)) (inr1 _ (List.mem_of_getElem? (i := 2) rfl)) (inr62 _ (List.mem_of_getElem? (i := 15) rfl)) (by decide +kernel) hts rfl rfl ⟨Nat.le_of_ble_eq_true rfl, Nat.le_of_ble_eq_true rfl⟩) (hP.sub [] rfl) hK hN hT rfl hl.1 rfl (Nat.le_of_ble_eq_true rfl) ⟨Nat.le_of_ble_eq_true rfl, Nat.le_of_ble_eq_true rfl⟩ dX11_rests_18 (fun r_1 h_2 => ?_)
  have h_2 : (r_1 = nb_ 0 0) := h_2
  have i_3 := h_2
  obtain rfl : r_1 = 0 := i_3.trans (by decide)
  refine lv_if_eq (tgt := 35) hx hb dX11_rests_21 (by decide) (fun _ => ?_) (fun c0 => absurd c0 (by decide))
  refine lv_iinc (v := 1) (lv' := [(3, .int 1), (2, .int 0), (1, .int 0), (0, .ref h0)]) hx hb dX11_rests_35 hl (k := 0) rfl (by decide) (by decide) rfl (fun ls hl => ?_)
  refine lv_goto (tgt := 11) hx hb dX11_rests_38 (by decide) ?_
  refine lv_iload_n hx hb dX11_rests_11 rfl (lv_at hl 0 rfl) ?_
  refine lv_iconst (v := 3) hx hb dX11_rests_12 (by decide) ?_
  refine lv_icmp_gt (tgt := 41) hx hb dX11_rests_13 (by decide) (fun c0 => absurd c0 (by decide)) (fun _ => ?_)
  refine lv_iload_n hx hb dX11_rests_16 rfl (lv_at hl 1 rfl) ?_
  refine lv_iload_n hx hb dX11_rests_17 rfl (lv_at hl 0 rfl) ?_
  refine rosi (As := [.int 0, .int 1]) (rest := []) ⟨hx, hb, hml, hown, hts⟩ (b_X11_noneBetter l G D cB cI cJ cZ cS cT 0 1 ) (csB (n := 2) (inr62 _ (List.mem_of_getElem? (i := 13) rfl)) (inr62 _ (List.mem_of_getElem? (i := 14) rfl)) (inr1 _ (List.mem_of_getElem? (i := 2) rfl)) (inr62 _ (List.mem_of_getElem? (i := 15) rfl)) (by decide +kernel) hts rfl rfl ⟨Nat.le_of_ble_eq_true rfl, Nat.le_of_ble_eq_true rfl⟩) (hP.sub [] rfl) hK hN hT rfl hl.1 rfl (Nat.le_of_ble_eq_true rfl) ⟨Nat.le_of_ble_eq_true rfl, Nat.le_of_ble_eq_true rfl⟩ dX11_rests_18 (fun r_4 h_5 => ?_)
  have h_5 : (r_4 = nb_ 0 1) := h_5
  have i_6 := h_5
  obtain rfl : r_4 = 0 := i_6.trans (by decide)
  refine lv_if_eq (tgt := 35) hx hb dX11_rests_21 (by decide) (fun _ => ?_) (fun c0 => absurd c0 (by decide))
  refine lv_iinc (v := 2) (lv' := [(3, .int 2), (2, .int 0), (1, .int 0), (0, .ref h0)]) hx hb dX11_rests_35 hl (k := 0) rfl (by decide) (by decide) rfl (fun ls hl => ?_)
  refine lv_goto (tgt := 11) hx hb dX11_rests_38 (by decide) ?_
  refine lv_iload_n hx hb dX11_rests_11 rfl (lv_at hl 0 rfl) ?_
  refine lv_iconst (v := 3) hx hb dX11_rests_12 (by decide) ?_
  refine lv_icmp_gt (tgt := 41) hx hb dX11_rests_13 (by decide) (fun c0 => absurd c0 (by decide)) (fun _ => ?_)
  refine lv_iload_n hx hb dX11_rests_16 rfl (lv_at hl 1 rfl) ?_
  refine lv_iload_n hx hb dX11_rests_17 rfl (lv_at hl 0 rfl) ?_
  refine rosi (As := [.int 0, .int 2]) (rest := []) ⟨hx, hb, hml, hown, hts⟩ (b_X11_noneBetter l G D cB cI cJ cZ cS cT 0 2 ) (csB (n := 2) (inr62 _ (List.mem_of_getElem? (i := 13) rfl)) (inr62 _ (List.mem_of_getElem? (i := 14) rfl)) (inr1 _ (List.mem_of_getElem? (i := 2) rfl)) (inr62 _ (List.mem_of_getElem? (i := 15) rfl)) (by decide +kernel) hts rfl rfl ⟨Nat.le_of_ble_eq_true rfl, Nat.le_of_ble_eq_true rfl⟩) (hP.sub [] rfl) hK hN hT rfl hl.1 rfl (Nat.le_of_ble_eq_true rfl) ⟨Nat.le_of_ble_eq_true rfl, Nat.le_of_ble_eq_true rfl⟩ dX11_rests_18 (fun r_7 h_8 => ?_)
  have h_8 : (r_7 = nb_ 0 2) := h_8
  have i_9 := h_8
  obtain rfl : r_7 = 0 := i_9.trans (by decide)
  refine lv_if_eq (tgt := 35) hx hb dX11_rests_21 (by decide) (fun _ => ?_) (fun c0 => absurd c0 (by decide))
  refine lv_iinc (v := 3) (lv' := [(3, .int 3), (2, .int 0), (1, .int 0), (0, .ref h0)]) hx hb dX11_rests_35 hl (k := 0) rfl (by decide) (by decide) rfl (fun ls hl => ?_)
  refine lv_goto (tgt := 11) hx hb dX11_rests_38 (by decide) ?_
  refine lv_iload_n hx hb dX11_rests_11 rfl (lv_at hl 0 rfl) ?_
  refine lv_iconst (v := 3) hx hb dX11_rests_12 (by decide) ?_
  refine lv_icmp_gt (tgt := 41) hx hb dX11_rests_13 (by decide) (fun c0 => absurd c0 (by decide)) (fun _ => ?_)
  refine lv_iload_n hx hb dX11_rests_16 rfl (lv_at hl 1 rfl) ?_
  refine lv_iload_n hx hb dX11_rests_17 rfl (lv_at hl 0 rfl) ?_
  refine rosi (As := [.int 0, .int 3]) (rest := []) ⟨hx, hb, hml, hown, hts⟩ (b_X11_noneBetter l G D cB cI cJ cZ cS cT 0 3 ) (csB (n := 2) (inr62 _ (List.mem_of_getElem? (i := 13) rfl)) (inr62 _ (List.mem_of_getElem? (i := 14) rfl)) (inr1 _ (List.mem_of_getElem? (i := 2) rfl)) (inr62 _ (List.mem_of_getElem? (i := 15) rfl)) (by decide +kernel) hts rfl rfl ⟨Nat.le_of_ble_eq_true rfl, Nat.le_of_ble_eq_true rfl⟩) (hP.sub [] rfl) hK hN hT rfl hl.1 rfl (Nat.le_of_ble_eq_true rfl) ⟨Nat.le_of_ble_eq_true rfl, Nat.le_of_ble_eq_true rfl⟩ dX11_rests_18 (fun r_10 h_11 => ?_)
  have h_11 : (r_10 = nb_ 0 3) := h_11
  have i_12 := h_11
  obtain rfl : r_10 = 1 := i_12.trans (by decide)
  refine lv_if_eq (tgt := 35) hx hb dX11_rests_21 (by decide) (fun c0 => absurd c0 (by decide)) (fun _ => ?_)
  refine lv_iload_n hx hb dX11_rests_24 rfl (lv_at hl 0 rfl) ?_
  refine lv_iload_n hx hb dX11_rests_25 rfl (lv_at hl 1 rfl) ?_
  refine rosi (As := [.int 3, .int 0]) (rest := []) ⟨hx, hb, hml, hown, hts⟩ (b_X11_noneBetter l G D cB cI cJ cZ cS cT 3 0 ) (csB (n := 2) (inr62 _ (List.mem_of_getElem? (i := 13) rfl)) (inr62 _ (List.mem_of_getElem? (i := 14) rfl)) (inr1 _ (List.mem_of_getElem? (i := 2) rfl)) (inr62 _ (List.mem_of_getElem? (i := 15) rfl)) (by decide +kernel) hts rfl rfl ⟨Nat.le_of_ble_eq_true rfl, Nat.le_of_ble_eq_true rfl⟩) (hP.sub [] rfl) hK hN hT rfl hl.1 rfl (Nat.le_of_ble_eq_true rfl) ⟨Nat.le_of_ble_eq_true rfl, Nat.le_of_ble_eq_true rfl⟩ dX11_rests_26 (fun r_13 h_14 => ?_)
  have h_14 : (r_13 = nb_ 3 0) := h_14
  have i_15 := h_14
  obtain rfl : r_13 = 0 := i_15.trans (by decide)
  refine lv_if_eq (tgt := 35) hx hb dX11_rests_29 (by decide) (fun _ => ?_) (fun c0 => absurd c0 (by decide))
  refine lv_iinc (v := 4) (lv' := [(3, .int 4), (2, .int 0), (1, .int 0), (0, .ref h0)]) hx hb dX11_rests_35 hl (k := 0) rfl (by decide) (by decide) rfl (fun ls hl => ?_)
  refine lv_goto (tgt := 11) hx hb dX11_rests_38 (by decide) ?_
  refine lv_iload_n hx hb dX11_rests_11 rfl (lv_at hl 0 rfl) ?_
  refine lv_iconst (v := 3) hx hb dX11_rests_12 (by decide) ?_
  refine lv_icmp_gt (tgt := 41) hx hb dX11_rests_13 (by decide) (fun _ => ?_) (fun c0 => absurd c0 (by decide))
  refine lv_iinc (v := 1) (lv' := [(2, .int 1), (3, .int 4), (1, .int 0), (0, .ref h0)]) hx hb dX11_rests_41 hl (k := 1) rfl (by decide) (by decide) rfl (fun ls hl => ?_)
  refine lv_goto (tgt := 4) hx hb dX11_rests_44 (by decide) ?_
  refine lv_iload_n hx hb dX11_rests_4 rfl (lv_at hl 0 rfl) ?_
  refine lv_iconst (v := 3) hx hb dX11_rests_5 (by decide) ?_
  refine lv_icmp_gt (tgt := 47) hx hb dX11_rests_6 (by decide) (fun c0 => absurd c0 (by decide)) (fun _ => ?_)
  refine lv_iconst (v := 0) hx hb dX11_rests_9 (by decide) ?_
  refine lv_istore_n (lv' := [(3, .int 0), (2, .int 1), (1, .int 0), (0, .ref h0)]) hx hb dX11_rests_10 rfl hl (by decide) rfl (fun ls hl => ?_)
  refine lv_iload_n hx hb dX11_rests_11 rfl (lv_at hl 0 rfl) ?_
  refine lv_iconst (v := 3) hx hb dX11_rests_12 (by decide) ?_
  refine lv_icmp_gt (tgt := 41) hx hb dX11_rests_13 (by decide) (fun c0 => absurd c0 (by decide)) (fun _ => ?_)
  refine lv_iload_n hx hb dX11_rests_16 rfl (lv_at hl 1 rfl) ?_
  refine lv_iload_n hx hb dX11_rests_17 rfl (lv_at hl 0 rfl) ?_
  refine rosi (As := [.int 1, .int 0]) (rest := []) ⟨hx, hb, hml, hown, hts⟩ (b_X11_noneBetter l G D cB cI cJ cZ cS cT 1 0 ) (csB (n := 2) (inr62 _ (List.mem_of_getElem? (i := 13) rfl)) (inr62 _ (List.mem_of_getElem? (i := 14) rfl)) (inr1 _ (List.mem_of_getElem? (i := 2) rfl)) (inr62 _ (List.mem_of_getElem? (i := 15) rfl)) (by decide +kernel) hts rfl rfl ⟨Nat.le_of_ble_eq_true rfl, Nat.le_of_ble_eq_true rfl⟩) (hP.sub [] rfl) hK hN hT rfl hl.1 rfl (Nat.le_of_ble_eq_true rfl) ⟨Nat.le_of_ble_eq_true rfl, Nat.le_of_ble_eq_true rfl⟩ dX11_rests_18 (fun r_16 h_17 => ?_)
  have h_17 : (r_16 = nb_ 1 0) := h_17
  have i_18 := h_17
  obtain rfl : r_16 = 1 := i_18.trans (by decide)
  refine lv_if_eq (tgt := 35) hx hb dX11_rests_21 (by decide) (fun c0 => absurd c0 (by decide)) (fun _ => ?_)
  refine lv_iload_n hx hb dX11_rests_24 rfl (lv_at hl 0 rfl) ?_
  refine lv_iload_n hx hb dX11_rests_25 rfl (lv_at hl 1 rfl) ?_
  refine rosi (As := [.int 0, .int 1]) (rest := []) ⟨hx, hb, hml, hown, hts⟩ (b_X11_noneBetter l G D cB cI cJ cZ cS cT 0 1 ) (csB (n := 2) (inr62 _ (List.mem_of_getElem? (i := 13) rfl)) (inr62 _ (List.mem_of_getElem? (i := 14) rfl)) (inr1 _ (List.mem_of_getElem? (i := 2) rfl)) (inr62 _ (List.mem_of_getElem? (i := 15) rfl)) (by decide +kernel) hts rfl rfl ⟨Nat.le_of_ble_eq_true rfl, Nat.le_of_ble_eq_true rfl⟩) (hP.sub [] rfl) hK hN hT rfl hl.1 rfl (Nat.le_of_ble_eq_true rfl) ⟨Nat.le_of_ble_eq_true rfl, Nat.le_of_ble_eq_true rfl⟩ dX11_rests_26 (fun r_19 h_20 => ?_)
  have h_20 : (r_19 = nb_ 0 1) := h_20
  have i_21 := h_20
  obtain rfl : r_19 = 0 := i_21.trans (by decide)
  refine lv_if_eq (tgt := 35) hx hb dX11_rests_29 (by decide) (fun _ => ?_) (fun c0 => absurd c0 (by decide))
  refine lv_iinc (v := 1) (lv' := [(3, .int 1), (2, .int 1), (1, .int 0), (0, .ref h0)]) hx hb dX11_rests_35 hl (k := 0) rfl (by decide) (by decide) rfl (fun ls hl => ?_)
  refine lv_goto (tgt := 11) hx hb dX11_rests_38 (by decide) ?_
  refine lv_iload_n hx hb dX11_rests_11 rfl (lv_at hl 0 rfl) ?_
  refine lv_iconst (v := 3) hx hb dX11_rests_12 (by decide) ?_
  refine lv_icmp_gt (tgt := 41) hx hb dX11_rests_13 (by decide) (fun c0 => absurd c0 (by decide)) (fun _ => ?_)
  refine lv_iload_n hx hb dX11_rests_16 rfl (lv_at hl 1 rfl) ?_
  refine lv_iload_n hx hb dX11_rests_17 rfl (lv_at hl 0 rfl) ?_
  refine rosi (As := [.int 1, .int 1]) (rest := []) ⟨hx, hb, hml, hown, hts⟩ (b_X11_noneBetter l G D cB cI cJ cZ cS cT 1 1 ) (csB (n := 2) (inr62 _ (List.mem_of_getElem? (i := 13) rfl)) (inr62 _ (List.mem_of_getElem? (i := 14) rfl)) (inr1 _ (List.mem_of_getElem? (i := 2) rfl)) (inr62 _ (List.mem_of_getElem? (i := 15) rfl)) (by decide +kernel) hts rfl rfl ⟨Nat.le_of_ble_eq_true rfl, Nat.le_of_ble_eq_true rfl⟩) (hP.sub [] rfl) hK hN hT rfl hl.1 rfl (Nat.le_of_ble_eq_true rfl) ⟨Nat.le_of_ble_eq_true rfl, Nat.le_of_ble_eq_true rfl⟩ dX11_rests_18 (fun r_22 h_23 => ?_)
  have h_23 : (r_22 = nb_ 1 1) := h_23
  have i_24 := h_23
  obtain rfl : r_22 = 0 := i_24.trans (by decide)
  refine lv_if_eq (tgt := 35) hx hb dX11_rests_21 (by decide) (fun _ => ?_) (fun c0 => absurd c0 (by decide))
  refine lv_iinc (v := 2) (lv' := [(3, .int 2), (2, .int 1), (1, .int 0), (0, .ref h0)]) hx hb dX11_rests_35 hl (k := 0) rfl (by decide) (by decide) rfl (fun ls hl => ?_)
  refine lv_goto (tgt := 11) hx hb dX11_rests_38 (by decide) ?_
  refine lv_iload_n hx hb dX11_rests_11 rfl (lv_at hl 0 rfl) ?_
  refine lv_iconst (v := 3) hx hb dX11_rests_12 (by decide) ?_
  refine lv_icmp_gt (tgt := 41) hx hb dX11_rests_13 (by decide) (fun c0 => absurd c0 (by decide)) (fun _ => ?_)
  refine lv_iload_n hx hb dX11_rests_16 rfl (lv_at hl 1 rfl) ?_
  refine lv_iload_n hx hb dX11_rests_17 rfl (lv_at hl 0 rfl) ?_
  refine rosi (As := [.int 1, .int 2]) (rest := []) ⟨hx, hb, hml, hown, hts⟩ (b_X11_noneBetter l G D cB cI cJ cZ cS cT 1 2 ) (csB (n := 2) (inr62 _ (List.mem_of_getElem? (i := 13) rfl)) (inr62 _ (List.mem_of_getElem? (i := 14) rfl)) (inr1 _ (List.mem_of_getElem? (i := 2) rfl)) (inr62 _ (List.mem_of_getElem? (i := 15) rfl)) (by decide +kernel) hts rfl rfl ⟨Nat.le_of_ble_eq_true rfl, Nat.le_of_ble_eq_true rfl⟩) (hP.sub [] rfl) hK hN hT rfl hl.1 rfl (Nat.le_of_ble_eq_true rfl) ⟨Nat.le_of_ble_eq_true rfl, Nat.le_of_ble_eq_true rfl⟩ dX11_rests_18 (fun r_25 h_26 => ?_)
  have h_26 : (r_25 = nb_ 1 2) := h_26
  have i_27 := h_26
  obtain rfl : r_25 = 0 := i_27.trans (by decide)
  refine lv_if_eq (tgt := 35) hx hb dX11_rests_21 (by decide) (fun _ => ?_) (fun c0 => absurd c0 (by decide))
  refine lv_iinc (v := 3) (lv' := [(3, .int 3), (2, .int 1), (1, .int 0), (0, .ref h0)]) hx hb dX11_rests_35 hl (k := 0) rfl (by decide) (by decide) rfl (fun ls hl => ?_)
  refine lv_goto (tgt := 11) hx hb dX11_rests_38 (by decide) ?_
  refine lv_iload_n hx hb dX11_rests_11 rfl (lv_at hl 0 rfl) ?_
  refine lv_iconst (v := 3) hx hb dX11_rests_12 (by decide) ?_
  refine lv_icmp_gt (tgt := 41) hx hb dX11_rests_13 (by decide) (fun c0 => absurd c0 (by decide)) (fun _ => ?_)
  refine lv_iload_n hx hb dX11_rests_16 rfl (lv_at hl 1 rfl) ?_
  refine lv_iload_n hx hb dX11_rests_17 rfl (lv_at hl 0 rfl) ?_
  refine rosi (As := [.int 1, .int 3]) (rest := []) ⟨hx, hb, hml, hown, hts⟩ (b_X11_noneBetter l G D cB cI cJ cZ cS cT 1 3 ) (csB (n := 2) (inr62 _ (List.mem_of_getElem? (i := 13) rfl)) (inr62 _ (List.mem_of_getElem? (i := 14) rfl)) (inr1 _ (List.mem_of_getElem? (i := 2) rfl)) (inr62 _ (List.mem_of_getElem? (i := 15) rfl)) (by decide +kernel) hts rfl rfl ⟨Nat.le_of_ble_eq_true rfl, Nat.le_of_ble_eq_true rfl⟩) (hP.sub [] rfl) hK hN hT rfl hl.1 rfl (Nat.le_of_ble_eq_true rfl) ⟨Nat.le_of_ble_eq_true rfl, Nat.le_of_ble_eq_true rfl⟩ dX11_rests_18 (fun r_28 h_29 => ?_)
  have h_29 : (r_28 = nb_ 1 3) := h_29
  have i_30 := h_29
  obtain rfl : r_28 = 0 := i_30.trans (by decide)
  refine lv_if_eq (tgt := 35) hx hb dX11_rests_21 (by decide) (fun _ => ?_) (fun c0 => absurd c0 (by decide))
  refine lv_iinc (v := 4) (lv' := [(3, .int 4), (2, .int 1), (1, .int 0), (0, .ref h0)]) hx hb dX11_rests_35 hl (k := 0) rfl (by decide) (by decide) rfl (fun ls hl => ?_)
  refine lv_goto (tgt := 11) hx hb dX11_rests_38 (by decide) ?_
  refine lv_iload_n hx hb dX11_rests_11 rfl (lv_at hl 0 rfl) ?_
  refine lv_iconst (v := 3) hx hb dX11_rests_12 (by decide) ?_
  refine lv_icmp_gt (tgt := 41) hx hb dX11_rests_13 (by decide) (fun _ => ?_) (fun c0 => absurd c0 (by decide))
  refine lv_iinc (v := 2) (lv' := [(2, .int 2), (3, .int 4), (1, .int 0), (0, .ref h0)]) hx hb dX11_rests_41 hl (k := 1) rfl (by decide) (by decide) rfl (fun ls hl => ?_)
  refine lv_goto (tgt := 4) hx hb dX11_rests_44 (by decide) ?_
  refine lv_iload_n hx hb dX11_rests_4 rfl (lv_at hl 0 rfl) ?_
  refine lv_iconst (v := 3) hx hb dX11_rests_5 (by decide) ?_
  refine lv_icmp_gt (tgt := 47) hx hb dX11_rests_6 (by decide) (fun c0 => absurd c0 (by decide)) (fun _ => ?_)
  refine lv_iconst (v := 0) hx hb dX11_rests_9 (by decide) ?_
  refine lv_istore_n (lv' := [(3, .int 0), (2, .int 2), (1, .int 0), (0, .ref h0)]) hx hb dX11_rests_10 rfl hl (by decide) rfl (fun ls hl => ?_)
  refine lv_iload_n hx hb dX11_rests_11 rfl (lv_at hl 0 rfl) ?_
  refine lv_iconst (v := 3) hx hb dX11_rests_12 (by decide) ?_
  refine lv_icmp_gt (tgt := 41) hx hb dX11_rests_13 (by decide) (fun c0 => absurd c0 (by decide)) (fun _ => ?_)
  refine lv_iload_n hx hb dX11_rests_16 rfl (lv_at hl 1 rfl) ?_
  refine lv_iload_n hx hb dX11_rests_17 rfl (lv_at hl 0 rfl) ?_
  refine rosi (As := [.int 2, .int 0]) (rest := []) ⟨hx, hb, hml, hown, hts⟩ (b_X11_noneBetter l G D cB cI cJ cZ cS cT 2 0 ) (csB (n := 2) (inr62 _ (List.mem_of_getElem? (i := 13) rfl)) (inr62 _ (List.mem_of_getElem? (i := 14) rfl)) (inr1 _ (List.mem_of_getElem? (i := 2) rfl)) (inr62 _ (List.mem_of_getElem? (i := 15) rfl)) (by decide +kernel) hts rfl rfl ⟨Nat.le_of_ble_eq_true rfl, Nat.le_of_ble_eq_true rfl⟩) (hP.sub [] rfl) hK hN hT rfl hl.1 rfl (Nat.le_of_ble_eq_true rfl) ⟨Nat.le_of_ble_eq_true rfl, Nat.le_of_ble_eq_true rfl⟩ dX11_rests_18 (fun r_31 h_32 => ?_)
  have h_32 : (r_31 = nb_ 2 0) := h_32
  have i_33 := h_32
  obtain rfl : r_31 = 0 := i_33.trans (by decide)
  refine lv_if_eq (tgt := 35) hx hb dX11_rests_21 (by decide) (fun _ => ?_) (fun c0 => absurd c0 (by decide))
  refine lv_iinc (v := 1) (lv' := [(3, .int 1), (2, .int 2), (1, .int 0), (0, .ref h0)]) hx hb dX11_rests_35 hl (k := 0) rfl (by decide) (by decide) rfl (fun ls hl => ?_)
  refine lv_goto (tgt := 11) hx hb dX11_rests_38 (by decide) ?_
  refine lv_iload_n hx hb dX11_rests_11 rfl (lv_at hl 0 rfl) ?_
  refine lv_iconst (v := 3) hx hb dX11_rests_12 (by decide) ?_
  refine lv_icmp_gt (tgt := 41) hx hb dX11_rests_13 (by decide) (fun c0 => absurd c0 (by decide)) (fun _ => ?_)
  refine lv_iload_n hx hb dX11_rests_16 rfl (lv_at hl 1 rfl) ?_
  refine lv_iload_n hx hb dX11_rests_17 rfl (lv_at hl 0 rfl) ?_
  refine rosi (As := [.int 2, .int 1]) (rest := []) ⟨hx, hb, hml, hown, hts⟩ (b_X11_noneBetter l G D cB cI cJ cZ cS cT 2 1 ) (csB (n := 2) (inr62 _ (List.mem_of_getElem? (i := 13) rfl)) (inr62 _ (List.mem_of_getElem? (i := 14) rfl)) (inr1 _ (List.mem_of_getElem? (i := 2) rfl)) (inr62 _ (List.mem_of_getElem? (i := 15) rfl)) (by decide +kernel) hts rfl rfl ⟨Nat.le_of_ble_eq_true rfl, Nat.le_of_ble_eq_true rfl⟩) (hP.sub [] rfl) hK hN hT rfl hl.1 rfl (Nat.le_of_ble_eq_true rfl) ⟨Nat.le_of_ble_eq_true rfl, Nat.le_of_ble_eq_true rfl⟩ dX11_rests_18 (fun r_34 h_35 => ?_)
  have h_35 : (r_34 = nb_ 2 1) := h_35
  have i_36 := h_35
  obtain rfl : r_34 = 1 := i_36.trans (by decide)
  refine lv_if_eq (tgt := 35) hx hb dX11_rests_21 (by decide) (fun c0 => absurd c0 (by decide)) (fun _ => ?_)
  refine lv_iload_n hx hb dX11_rests_24 rfl (lv_at hl 0 rfl) ?_
  refine lv_iload_n hx hb dX11_rests_25 rfl (lv_at hl 1 rfl) ?_
  refine rosi (As := [.int 1, .int 2]) (rest := []) ⟨hx, hb, hml, hown, hts⟩ (b_X11_noneBetter l G D cB cI cJ cZ cS cT 1 2 ) (csB (n := 2) (inr62 _ (List.mem_of_getElem? (i := 13) rfl)) (inr62 _ (List.mem_of_getElem? (i := 14) rfl)) (inr1 _ (List.mem_of_getElem? (i := 2) rfl)) (inr62 _ (List.mem_of_getElem? (i := 15) rfl)) (by decide +kernel) hts rfl rfl ⟨Nat.le_of_ble_eq_true rfl, Nat.le_of_ble_eq_true rfl⟩) (hP.sub [] rfl) hK hN hT rfl hl.1 rfl (Nat.le_of_ble_eq_true rfl) ⟨Nat.le_of_ble_eq_true rfl, Nat.le_of_ble_eq_true rfl⟩ dX11_rests_26 (fun r_37 h_38 => ?_)
  have h_38 : (r_37 = nb_ 1 2) := h_38
  have i_39 := h_38
  obtain rfl : r_37 = 0 := i_39.trans (by decide)
  refine lv_if_eq (tgt := 35) hx hb dX11_rests_29 (by decide) (fun _ => ?_) (fun c0 => absurd c0 (by decide))
  refine lv_iinc (v := 2) (lv' := [(3, .int 2), (2, .int 2), (1, .int 0), (0, .ref h0)]) hx hb dX11_rests_35 hl (k := 0) rfl (by decide) (by decide) rfl (fun ls hl => ?_)
  refine lv_goto (tgt := 11) hx hb dX11_rests_38 (by decide) ?_
  refine lv_iload_n hx hb dX11_rests_11 rfl (lv_at hl 0 rfl) ?_
  refine lv_iconst (v := 3) hx hb dX11_rests_12 (by decide) ?_
  refine lv_icmp_gt (tgt := 41) hx hb dX11_rests_13 (by decide) (fun c0 => absurd c0 (by decide)) (fun _ => ?_)
  refine lv_iload_n hx hb dX11_rests_16 rfl (lv_at hl 1 rfl) ?_
  refine lv_iload_n hx hb dX11_rests_17 rfl (lv_at hl 0 rfl) ?_
  refine rosi (As := [.int 2, .int 2]) (rest := []) ⟨hx, hb, hml, hown, hts⟩ (b_X11_noneBetter l G D cB cI cJ cZ cS cT 2 2 ) (csB (n := 2) (inr62 _ (List.mem_of_getElem? (i := 13) rfl)) (inr62 _ (List.mem_of_getElem? (i := 14) rfl)) (inr1 _ (List.mem_of_getElem? (i := 2) rfl)) (inr62 _ (List.mem_of_getElem? (i := 15) rfl)) (by decide +kernel) hts rfl rfl ⟨Nat.le_of_ble_eq_true rfl, Nat.le_of_ble_eq_true rfl⟩) (hP.sub [] rfl) hK hN hT rfl hl.1 rfl (Nat.le_of_ble_eq_true rfl) ⟨Nat.le_of_ble_eq_true rfl, Nat.le_of_ble_eq_true rfl⟩ dX11_rests_18 (fun r_40 h_41 => ?_)
  have h_41 : (r_40 = nb_ 2 2) := h_41
  have i_42 := h_41
  obtain rfl : r_40 = 0 := i_42.trans (by decide)
  refine lv_if_eq (tgt := 35) hx hb dX11_rests_21 (by decide) (fun _ => ?_) (fun c0 => absurd c0 (by decide))
  refine lv_iinc (v := 3) (lv' := [(3, .int 3), (2, .int 2), (1, .int 0), (0, .ref h0)]) hx hb dX11_rests_35 hl (k := 0) rfl (by decide) (by decide) rfl (fun ls hl => ?_)
  refine lv_goto (tgt := 11) hx hb dX11_rests_38 (by decide) ?_
  refine lv_iload_n hx hb dX11_rests_11 rfl (lv_at hl 0 rfl) ?_
  refine lv_iconst (v := 3) hx hb dX11_rests_12 (by decide) ?_
  refine lv_icmp_gt (tgt := 41) hx hb dX11_rests_13 (by decide) (fun c0 => absurd c0 (by decide)) (fun _ => ?_)
  refine lv_iload_n hx hb dX11_rests_16 rfl (lv_at hl 1 rfl) ?_
  refine lv_iload_n hx hb dX11_rests_17 rfl (lv_at hl 0 rfl) ?_
  refine rosi (As := [.int 2, .int 3]) (rest := []) ⟨hx, hb, hml, hown, hts⟩ (b_X11_noneBetter l G D cB cI cJ cZ cS cT 2 3 ) (csB (n := 2) (inr62 _ (List.mem_of_getElem? (i := 13) rfl)) (inr62 _ (List.mem_of_getElem? (i := 14) rfl)) (inr1 _ (List.mem_of_getElem? (i := 2) rfl)) (inr62 _ (List.mem_of_getElem? (i := 15) rfl)) (by decide +kernel) hts rfl rfl ⟨Nat.le_of_ble_eq_true rfl, Nat.le_of_ble_eq_true rfl⟩) (hP.sub [] rfl) hK hN hT rfl hl.1 rfl (Nat.le_of_ble_eq_true rfl) ⟨Nat.le_of_ble_eq_true rfl, Nat.le_of_ble_eq_true rfl⟩ dX11_rests_18 (fun r_43 h_44 => ?_)
  have h_44 : (r_43 = nb_ 2 3) := h_44
  have i_45 := h_44
  obtain rfl : r_43 = 0 := i_45.trans (by decide)
  refine lv_if_eq (tgt := 35) hx hb dX11_rests_21 (by decide) (fun _ => ?_) (fun c0 => absurd c0 (by decide))
  refine lv_iinc (v := 4) (lv' := [(3, .int 4), (2, .int 2), (1, .int 0), (0, .ref h0)]) hx hb dX11_rests_35 hl (k := 0) rfl (by decide) (by decide) rfl (fun ls hl => ?_)
  refine lv_goto (tgt := 11) hx hb dX11_rests_38 (by decide) ?_
  refine lv_iload_n hx hb dX11_rests_11 rfl (lv_at hl 0 rfl) ?_
  refine lv_iconst (v := 3) hx hb dX11_rests_12 (by decide) ?_
  refine lv_icmp_gt (tgt := 41) hx hb dX11_rests_13 (by decide) (fun _ => ?_) (fun c0 => absurd c0 (by decide))
  refine lv_iinc (v := 3) (lv' := [(2, .int 3), (3, .int 4), (1, .int 0), (0, .ref h0)]) hx hb dX11_rests_41 hl (k := 1) rfl (by decide) (by decide) rfl (fun ls hl => ?_)
  refine lv_goto (tgt := 4) hx hb dX11_rests_44 (by decide) ?_
  refine lv_iload_n hx hb dX11_rests_4 rfl (lv_at hl 0 rfl) ?_
  refine lv_iconst (v := 3) hx hb dX11_rests_5 (by decide) ?_
  refine lv_icmp_gt (tgt := 47) hx hb dX11_rests_6 (by decide) (fun c0 => absurd c0 (by decide)) (fun _ => ?_)
  refine lv_iconst (v := 0) hx hb dX11_rests_9 (by decide) ?_
  refine lv_istore_n (lv' := [(3, .int 0), (2, .int 3), (1, .int 0), (0, .ref h0)]) hx hb dX11_rests_10 rfl hl (by decide) rfl (fun ls hl => ?_)
  refine lv_iload_n hx hb dX11_rests_11 rfl (lv_at hl 0 rfl) ?_
  refine lv_iconst (v := 3) hx hb dX11_rests_12 (by decide) ?_
  refine lv_icmp_gt (tgt := 41) hx hb dX11_rests_13 (by decide) (fun c0 => absurd c0 (by decide)) (fun _ => ?_)
  refine lv_iload_n hx hb dX11_rests_16 rfl (lv_at hl 1 rfl) ?_
  refine lv_iload_n hx hb dX11_rests_17 rfl (lv_at hl 0 rfl) ?_
  refine rosi (As := [.int 3, .int 0]) (rest := []) ⟨hx, hb, hml, hown, hts⟩ (b_X11_noneBetter l G D cB cI cJ cZ cS cT 3 0 ) (csB (n := 2) (inr62 _ (List.mem_of_getElem? (i := 13) rfl)) (inr62 _ (List.mem_of_getElem? (i := 14) rfl)) (inr1 _ (List.mem_of_getElem? (i := 2) rfl)) (inr62 _ (List.mem_of_getElem? (i := 15) rfl)) (by decide +kernel) hts rfl rfl ⟨Nat.le_of_ble_eq_true rfl, Nat.le_of_ble_eq_true rfl⟩) (hP.sub [] rfl) hK hN hT rfl hl.1 rfl (Nat.le_of_ble_eq_true rfl) ⟨Nat.le_of_ble_eq_true rfl, Nat.le_of_ble_eq_true rfl⟩ dX11_rests_18 (fun r_46 h_47 => ?_)
  have h_47 : (r_46 = nb_ 3 0) := h_47
  have i_48 := h_47
  obtain rfl : r_46 = 0 := i_48.trans (by decide)
  refine lv_if_eq (tgt := 35) hx hb dX11_rests_21 (by decide) (fun _ => ?_) (fun c0 => absurd c0 (by decide))
  refine lv_iinc (v := 1) (lv' := [(3, .int 1), (2, .int 3), (1, .int 0), (0, .ref h0)]) hx hb dX11_rests_35 hl (k := 0) rfl (by decide) (by decide) rfl (fun ls hl => ?_)
  refine lv_goto (tgt := 11) hx hb dX11_rests_38 (by decide) ?_
  refine lv_iload_n hx hb dX11_rests_11 rfl (lv_at hl 0 rfl) ?_
  refine lv_iconst (v := 3) hx hb dX11_rests_12 (by decide) ?_
  refine lv_icmp_gt (tgt := 41) hx hb dX11_rests_13 (by decide) (fun c0 => absurd c0 (by decide)) (fun _ => ?_)
  refine lv_iload_n hx hb dX11_rests_16 rfl (lv_at hl 1 rfl) ?_
  refine lv_iload_n hx hb dX11_rests_17 rfl (lv_at hl 0 rfl) ?_
  refine rosi (As := [.int 3, .int 1]) (rest := []) ⟨hx, hb, hml, hown, hts⟩ (b_X11_noneBetter l G D cB cI cJ cZ cS cT 3 1 ) (csB (n := 2) (inr62 _ (List.mem_of_getElem? (i := 13) rfl)) (inr62 _ (List.mem_of_getElem? (i := 14) rfl)) (inr1 _ (List.mem_of_getElem? (i := 2) rfl)) (inr62 _ (List.mem_of_getElem? (i := 15) rfl)) (by decide +kernel) hts rfl rfl ⟨Nat.le_of_ble_eq_true rfl, Nat.le_of_ble_eq_true rfl⟩) (hP.sub [] rfl) hK hN hT rfl hl.1 rfl (Nat.le_of_ble_eq_true rfl) ⟨Nat.le_of_ble_eq_true rfl, Nat.le_of_ble_eq_true rfl⟩ dX11_rests_18 (fun r_49 h_50 => ?_)
  have h_50 : (r_49 = nb_ 3 1) := h_50
  have i_51 := h_50
  obtain rfl : r_49 = 0 := i_51.trans (by decide)
  refine lv_if_eq (tgt := 35) hx hb dX11_rests_21 (by decide) (fun _ => ?_) (fun c0 => absurd c0 (by decide))
  refine lv_iinc (v := 2) (lv' := [(3, .int 2), (2, .int 3), (1, .int 0), (0, .ref h0)]) hx hb dX11_rests_35 hl (k := 0) rfl (by decide) (by decide) rfl (fun ls hl => ?_)
  refine lv_goto (tgt := 11) hx hb dX11_rests_38 (by decide) ?_
  refine lv_iload_n hx hb dX11_rests_11 rfl (lv_at hl 0 rfl) ?_
  refine lv_iconst (v := 3) hx hb dX11_rests_12 (by decide) ?_
  refine lv_icmp_gt (tgt := 41) hx hb dX11_rests_13 (by decide) (fun c0 => absurd c0 (by decide)) (fun _ => ?_)
  refine lv_iload_n hx hb dX11_rests_16 rfl (lv_at hl 1 rfl) ?_
  refine lv_iload_n hx hb dX11_rests_17 rfl (lv_at hl 0 rfl) ?_
  refine rosi (As := [.int 3, .int 2]) (rest := []) ⟨hx, hb, hml, hown, hts⟩ (b_X11_noneBetter l G D cB cI cJ cZ cS cT 3 2 ) (csB (n := 2) (inr62 _ (List.mem_of_getElem? (i := 13) rfl)) (inr62 _ (List.mem_of_getElem? (i := 14) rfl)) (inr1 _ (List.mem_of_getElem? (i := 2) rfl)) (inr62 _ (List.mem_of_getElem? (i := 15) rfl)) (by decide +kernel) hts rfl rfl ⟨Nat.le_of_ble_eq_true rfl, Nat.le_of_ble_eq_true rfl⟩) (hP.sub [] rfl) hK hN hT rfl hl.1 rfl (Nat.le_of_ble_eq_true rfl) ⟨Nat.le_of_ble_eq_true rfl, Nat.le_of_ble_eq_true rfl⟩ dX11_rests_18 (fun r_52 h_53 => ?_)
  have h_53 : (r_52 = nb_ 3 2) := h_53
  have i_54 := h_53
  obtain rfl : r_52 = 1 := i_54.trans (by decide)
  refine lv_if_eq (tgt := 35) hx hb dX11_rests_21 (by decide) (fun c0 => absurd c0 (by decide)) (fun _ => ?_)
  refine lv_iload_n hx hb dX11_rests_24 rfl (lv_at hl 0 rfl) ?_
  refine lv_iload_n hx hb dX11_rests_25 rfl (lv_at hl 1 rfl) ?_
  refine rosi (As := [.int 2, .int 3]) (rest := []) ⟨hx, hb, hml, hown, hts⟩ (b_X11_noneBetter l G D cB cI cJ cZ cS cT 2 3 ) (csB (n := 2) (inr62 _ (List.mem_of_getElem? (i := 13) rfl)) (inr62 _ (List.mem_of_getElem? (i := 14) rfl)) (inr1 _ (List.mem_of_getElem? (i := 2) rfl)) (inr62 _ (List.mem_of_getElem? (i := 15) rfl)) (by decide +kernel) hts rfl rfl ⟨Nat.le_of_ble_eq_true rfl, Nat.le_of_ble_eq_true rfl⟩) (hP.sub [] rfl) hK hN hT rfl hl.1 rfl (Nat.le_of_ble_eq_true rfl) ⟨Nat.le_of_ble_eq_true rfl, Nat.le_of_ble_eq_true rfl⟩ dX11_rests_26 (fun r_55 h_56 => ?_)
  have h_56 : (r_55 = nb_ 2 3) := h_56
  have i_57 := h_56
  obtain rfl : r_55 = 0 := i_57.trans (by decide)
  refine lv_if_eq (tgt := 35) hx hb dX11_rests_29 (by decide) (fun _ => ?_) (fun c0 => absurd c0 (by decide))
  refine lv_iinc (v := 3) (lv' := [(3, .int 3), (2, .int 3), (1, .int 0), (0, .ref h0)]) hx hb dX11_rests_35 hl (k := 0) rfl (by decide) (by decide) rfl (fun ls hl => ?_)
  refine lv_goto (tgt := 11) hx hb dX11_rests_38 (by decide) ?_
  refine lv_iload_n hx hb dX11_rests_11 rfl (lv_at hl 0 rfl) ?_
  refine lv_iconst (v := 3) hx hb dX11_rests_12 (by decide) ?_
  refine lv_icmp_gt (tgt := 41) hx hb dX11_rests_13 (by decide) (fun c0 => absurd c0 (by decide)) (fun _ => ?_)
  refine lv_iload_n hx hb dX11_rests_16 rfl (lv_at hl 1 rfl) ?_
  refine lv_iload_n hx hb dX11_rests_17 rfl (lv_at hl 0 rfl) ?_
  refine rosi (As := [.int 3, .int 3]) (rest := []) ⟨hx, hb, hml, hown, hts⟩ (b_X11_noneBetter l G D cB cI cJ cZ cS cT 3 3 ) (csB (n := 2) (inr62 _ (List.mem_of_getElem? (i := 13) rfl)) (inr62 _ (List.mem_of_getElem? (i := 14) rfl)) (inr1 _ (List.mem_of_getElem? (i := 2) rfl)) (inr62 _ (List.mem_of_getElem? (i := 15) rfl)) (by decide +kernel) hts rfl rfl ⟨Nat.le_of_ble_eq_true rfl, Nat.le_of_ble_eq_true rfl⟩) (hP.sub [] rfl) hK hN hT rfl hl.1 rfl (Nat.le_of_ble_eq_true rfl) ⟨Nat.le_of_ble_eq_true rfl, Nat.le_of_ble_eq_true rfl⟩ dX11_rests_18 (fun r_58 h_59 => ?_)
  have h_59 : (r_58 = nb_ 3 3) := h_59
  have i_60 := h_59
  obtain rfl : r_58 = 0 := i_60.trans (by decide)
  refine lv_if_eq (tgt := 35) hx hb dX11_rests_21 (by decide) (fun _ => ?_) (fun c0 => absurd c0 (by decide))
  refine lv_iinc (v := 4) (lv' := [(3, .int 4), (2, .int 3), (1, .int 0), (0, .ref h0)]) hx hb dX11_rests_35 hl (k := 0) rfl (by decide) (by decide) rfl (fun ls hl => ?_)
  refine lv_goto (tgt := 11) hx hb dX11_rests_38 (by decide) ?_
  refine lv_iload_n hx hb dX11_rests_11 rfl (lv_at hl 0 rfl) ?_
  refine lv_iconst (v := 3) hx hb dX11_rests_12 (by decide) ?_
  refine lv_icmp_gt (tgt := 41) hx hb dX11_rests_13 (by decide) (fun _ => ?_) (fun c0 => absurd c0 (by decide))
  refine lv_iinc (v := 4) (lv' := [(2, .int 4), (3, .int 4), (1, .int 0), (0, .ref h0)]) hx hb dX11_rests_41 hl (k := 1) rfl (by decide) (by decide) rfl (fun ls hl => ?_)
  refine lv_goto (tgt := 4) hx hb dX11_rests_44 (by decide) ?_
  refine lv_iload_n hx hb dX11_rests_4 rfl (lv_at hl 0 rfl) ?_
  refine lv_iconst (v := 3) hx hb dX11_rests_5 (by decide) ?_
  refine lv_icmp_gt (tgt := 47) hx hb dX11_rests_6 (by decide) (fun _ => ?_) (fun c0 => absurd c0 (by decide))
  refine lv_iload_n hx hb dX11_rests_47 rfl (lv_at hl 2 rfl) ?_
  have hr9 : (0 : Int32).toInt = 0 := by decide
  exact ret _ _ _ dX11_rests_48 (show ((0 : Int32) = 0) from rfl)

set_option maxHeartbeats 4000000 in
set_option maxRecDepth 100000 in
theorem b_X11_sounds (l : Launch) (G : Gho) (D : va_G) (cB cI cJ cZ cS cT : ClassId) (h0 : Nat) (v1 : Int32) (v2 : Int32)  : Met l yX11_sounds (Cond.code yX11_sounds cX11_sounds 3 (some .int) :: wsL_law) ({ frames := 1, cells := 0, slots := 0, locals := 25 }) (roP G D (tyL cB cI cJ cZ cS cT) [] [.ref h0, .int v1, .int v2]) (vp_Si (fun r : Int32 => (r = S_sounds v1 v2))) 0 0 (fun _ => False) := by
  refine metRO (own := RX11) (by decide) rfl ?_
  intro p e s m below meth c Q C hP ret
  obtain ⟨hx, hb, hml, hown, hts, hK, hN, hT⟩ := id C
  have hl := lv_entry ([.ref h0, .int v1, .int v2]) (n := 3) (Nat.le_of_ble_eq_true rfl)
  rw [lg_entry_eq]
  generalize (lg_sl ([.ref h0, .int v1, .int v2]) ++ List.replicate (3 - (lg_sl ([.ref h0, .int v1, .int v2])).length) Slot.unset).toArray = ls at hl ⊢
  have hl : lv_has ls 3 [(0, .ref h0), (1, .int v1), (2, .int v2)] := hl
  have hP : va_P D vwCl [] s.heap := hP
  refine lv_iload_n hx hb dX11_sounds_0 rfl (lv_at hl 1 rfl) ?_
  have b_v1 := i32b v1
  obtain ⟨t_1, et_1⟩ : ∃ v9 : Int64, (v1 : Int32).toInt64 = v9 := ⟨_, rfl⟩
  refine lv_i2l (v := t_1) hx hb dX11_sounds_1 et_1 ?_
  have ft_1 : t_1.toInt = v1.toInt := by rw [← et_1]; exact Int32.toInt_toInt64 _
  refine lv_lconst (v := 0) hx hb dX11_sounds_2 (by decide) ?_
  refine lv_ldc2 hx hb hown (hts _ (inr51 _ (List.mem_of_getElem? (i := 22) rfl))) dX11_sounds_3 ?_
  refine rosi (As := [.long t_1, .long 0, .long 3]) (rest := []) ⟨hx, hb, hml, hown, hts⟩ (b_X11_outside l G D cB cI cJ cZ cS cT t_1 0 3 ) (csB (n := 3) (inr8 _ (List.mem_of_getElem? (i := 16) rfl)) (inr8 _ (List.mem_of_getElem? (i := 17) rfl)) (inr1 _ (List.mem_of_getElem? (i := 2) rfl)) (inr8 _ (List.mem_of_getElem? (i := 18) rfl)) (by decide +kernel) hts rfl rfl ⟨Nat.le_of_ble_eq_true rfl, Nat.le_of_ble_eq_true rfl⟩) (hP.sub [] rfl) hK hN hT rfl hl.1 rfl (Nat.le_of_ble_eq_true rfl) ⟨Nat.le_of_ble_eq_true rfl, Nat.le_of_ble_eq_true rfl⟩ dX11_sounds_6 (fun r_2 h_3 => ?_)
  have h_3 : ((r_2.toInt = 0 ∧ 0 ≤ t_1.toInt ∧ t_1.toInt ≤ 3) ∨ (r_2.toInt = 1 ∧ (t_1.toInt < 0 ∨ 3 < t_1.toInt))) := h_3
  have i_4 := h_3
  refine lv_if_ne (tgt := 24) hx hb dX11_sounds_9 (by decide) (fun c_5 => ?_) (fun c_5 => ?_)
  · have c_5 : ¬ r_2.toInt = 0 := ci_ne_t c_5
    have b_r_2 := i32b r_2
    refine lv_sipush (v := (-1000)) hx hb dX11_sounds_24 (by decide) ?_
    refine lv_goto (tgt := 35) hx hb dX11_sounds_27 (by decide) ?_
    have hr9 : ((-1000) : Int32).toInt = (-1000) := by decide
    exact ret _ _ _ dX11_sounds_35 (show (((-1000) : Int32) = S_sounds v1 v2) from (by subst_vars; unfold S_sounds; split <;> first | rfl | (exfalso; omega)))
  · have c_5 : r_2.toInt = 0 := ci_ne_f c_5
    have b_r_2 := i32b r_2
    refine lv_iload_n hx hb dX11_sounds_12 rfl (lv_at hl 2 rfl) ?_
    have b_v2 := i32b v2
    obtain ⟨t_6, et_6⟩ : ∃ v9 : Int64, (v2 : Int32).toInt64 = v9 := ⟨_, rfl⟩
    refine lv_i2l (v := t_6) hx hb dX11_sounds_13 et_6 ?_
    have ft_6 : t_6.toInt = v2.toInt := by rw [← et_6]; exact Int32.toInt_toInt64 _
    refine lv_lconst (v := 0) hx hb dX11_sounds_14 (by decide) ?_
    refine lv_ldc2 hx hb hown (hts _ (inr51 _ (List.mem_of_getElem? (i := 22) rfl))) dX11_sounds_15 ?_
    refine rosi (As := [.long t_6, .long 0, .long 3]) (rest := []) ⟨hx, hb, hml, hown, hts⟩ (b_X11_outside l G D cB cI cJ cZ cS cT t_6 0 3 ) (csB (n := 3) (inr8 _ (List.mem_of_getElem? (i := 16) rfl)) (inr8 _ (List.mem_of_getElem? (i := 17) rfl)) (inr1 _ (List.mem_of_getElem? (i := 2) rfl)) (inr8 _ (List.mem_of_getElem? (i := 18) rfl)) (by decide +kernel) hts rfl rfl ⟨Nat.le_of_ble_eq_true rfl, Nat.le_of_ble_eq_true rfl⟩) (hP.sub [] rfl) hK hN hT rfl hl.1 rfl (Nat.le_of_ble_eq_true rfl) ⟨Nat.le_of_ble_eq_true rfl, Nat.le_of_ble_eq_true rfl⟩ dX11_sounds_18 (fun r_7 h_8 => ?_)
    have h_8 : ((r_7.toInt = 0 ∧ 0 ≤ t_6.toInt ∧ t_6.toInt ≤ 3) ∨ (r_7.toInt = 1 ∧ (t_6.toInt < 0 ∨ 3 < t_6.toInt))) := h_8
    have i_9 := h_8
    refine lv_if_eq (tgt := 30) hx hb dX11_sounds_21 (by decide) (fun c_10 => ?_) (fun c_10 => ?_)
    · have c_10 : r_7.toInt = 0 := ci_eq_t c_10
      have b_r_7 := i32b r_7
      refine lv_iload_n hx hb dX11_sounds_30 rfl (lv_at hl 1 rfl) ?_
      refine lv_iload_n hx hb dX11_sounds_31 rfl (lv_at hl 2 rfl) ?_
      refine rosi (As := [.int v1, .int v2]) (rest := []) ⟨hx, hb, hml, hown, hts⟩ (b_X11_reward l G D cB cI cJ cZ cS cT v1 v2 ) (csB (n := 2) (inr62 _ (List.mem_of_getElem? (i := 16) rfl)) (inr62 _ (List.mem_of_getElem? (i := 17) rfl)) (inr1 _ (List.mem_of_getElem? (i := 2) rfl)) (inr62 _ (List.mem_of_getElem? (i := 18) rfl)) (by decide +kernel) hts rfl rfl ⟨Nat.le_of_ble_eq_true rfl, Nat.le_of_ble_eq_true rfl⟩) (hP.sub [] rfl) hK hN hT rfl hl.1 rfl (Nat.le_of_ble_eq_true rfl) ⟨Nat.le_of_ble_eq_true rfl, Nat.le_of_ble_eq_true rfl⟩ dX11_sounds_32 (fun r_11 h_12 => ?_)
      have h_12 : (r_11 = rw_ v1 v2) := h_12
      have i_13 := h_12
      exact ret _ _ _ dX11_sounds_35 (show (r_11 = S_sounds v1 v2) from (by subst_vars; unfold S_sounds; split <;> first | rfl | (exfalso; omega)))
    · have c_10 : ¬ r_7.toInt = 0 := ci_eq_f c_10
      have b_r_7 := i32b r_7
      refine lv_sipush (v := (-1000)) hx hb dX11_sounds_24 (by decide) ?_
      refine lv_goto (tgt := 35) hx hb dX11_sounds_27 (by decide) ?_
      have hr9 : ((-1000) : Int32).toInt = (-1000) := by decide
      exact ret _ _ _ dX11_sounds_35 (show (((-1000) : Int32) = S_sounds v1 v2) from (by subst_vars; unfold S_sounds; split <;> first | rfl | (exfalso; omega)))

set_option maxHeartbeats 4000000 in
set_option maxRecDepth 100000 in
theorem b_X11_best (l : Launch) (G : Gho) (D : va_G) (cB cI cJ cZ cS cT : ClassId) (h0 : Nat) (v1 : Int32)  : Met l yX11_best (Cond.code yX11_best cX11_best 4 (some .int) :: wsL_law) ({ frames := 1, cells := 0, slots := 0, locals := 25 }) (roP G D (tyL cB cI cJ cZ cS cT) [] [.ref h0, .int v1]) (vp_Si (fun r : Int32 => (r = S_best v1))) 0 0 (fun _ => False) := by
  refine metRO (own := RX11) (by decide) rfl ?_
  intro p e s m below meth c Q C hP ret
  obtain ⟨hx, hb, hml, hown, hts, hK, hN, hT⟩ := id C
  have hl := lv_entry ([.ref h0, .int v1]) (n := 4) (Nat.le_of_ble_eq_true rfl)
  rw [lg_entry_eq]
  generalize (lg_sl ([.ref h0, .int v1]) ++ List.replicate (4 - (lg_sl ([.ref h0, .int v1])).length) Slot.unset).toArray = ls at hl ⊢
  have hl : lv_has ls 4 [(0, .ref h0), (1, .int v1)] := hl
  have hP : va_P D vwCl [] s.heap := hP
  refine lv_iload_n hx hb dX11_best_0 rfl (lv_at hl 1 rfl) ?_
  have b_v1 := i32b v1
  obtain ⟨t_1, et_1⟩ : ∃ v9 : Int64, (v1 : Int32).toInt64 = v9 := ⟨_, rfl⟩
  refine lv_i2l (v := t_1) hx hb dX11_best_1 et_1 ?_
  have ft_1 : t_1.toInt = v1.toInt := by rw [← et_1]; exact Int32.toInt_toInt64 _
  refine lv_lconst (v := 0) hx hb dX11_best_2 (by decide) ?_
  refine lv_ldc2 hx hb hown (hts _ (inr51 _ (List.mem_of_getElem? (i := 22) rfl))) dX11_best_3 ?_
  refine rosi (As := [.long t_1, .long 0, .long 3]) (rest := []) ⟨hx, hb, hml, hown, hts⟩ (b_X11_outside l G D cB cI cJ cZ cS cT t_1 0 3 ) (csB (n := 3) (inr8 _ (List.mem_of_getElem? (i := 16) rfl)) (inr8 _ (List.mem_of_getElem? (i := 17) rfl)) (inr1 _ (List.mem_of_getElem? (i := 2) rfl)) (inr8 _ (List.mem_of_getElem? (i := 18) rfl)) (by decide +kernel) hts rfl rfl ⟨Nat.le_of_ble_eq_true rfl, Nat.le_of_ble_eq_true rfl⟩) (hP.sub [] rfl) hK hN hT rfl hl.1 rfl (Nat.le_of_ble_eq_true rfl) ⟨Nat.le_of_ble_eq_true rfl, Nat.le_of_ble_eq_true rfl⟩ dX11_best_6 (fun r_2 h_3 => ?_)
  have h_3 : ((r_2.toInt = 0 ∧ 0 ≤ t_1.toInt ∧ t_1.toInt ≤ 3) ∨ (r_2.toInt = 1 ∧ (t_1.toInt < 0 ∨ 3 < t_1.toInt))) := h_3
  have i_4 := h_3
  refine lv_if_eq (tgt := 15) hx hb dX11_best_9 (by decide) (fun c_5 => ?_) (fun c_5 => ?_)
  · have c_5 : r_2.toInt = 0 := ci_eq_t c_5
    have b_r_2 := i32b r_2
    rcases in4 (x := v1) (by omega) (by omega) with e_6 | e_6 | e_6 | e_6
    · have c_7 : v1.toInt = 0 := by rw [e_6]; decide
      have hl : lv_has ls 4 [(0, .ref h0), (1, .int 0)] := by rw [e_6] at hl; exact hl
      refine lv_iconst (v := 0) hx hb dX11_best_15 (by decide) ?_
      refine lv_istore_n (lv' := [(2, .int 0), (0, .ref h0), (1, .int 0)]) hx hb dX11_best_16 rfl hl (by decide) rfl (fun ls hl => ?_)
      refine lv_iconst (v := 1) hx hb dX11_best_17 (by decide) ?_
      refine lv_istore_n (lv' := [(3, .int 1), (2, .int 0), (0, .ref h0), (1, .int 0)]) hx hb dX11_best_18 rfl hl (by decide) rfl (fun ls hl => ?_)
      refine lv_iload_n hx hb dX11_best_19 rfl (lv_at hl 0 rfl) ?_
      refine lv_iconst (v := 3) hx hb dX11_best_20 (by decide) ?_
      refine lv_icmp_gt (tgt := 45) hx hb dX11_best_21 (by decide) (fun c0 => absurd c0 (by decide)) (fun _ => ?_)
      refine lv_iload_n hx hb dX11_best_24 rfl (lv_at hl 0 rfl) ?_
      refine lv_iload_n hx hb dX11_best_25 rfl (lv_at hl 3 rfl) ?_
      refine rosi (As := [.int 1, .int 0]) (rest := []) ⟨hx, hb, hml, hown, hts⟩ (b_X11_reward l G D cB cI cJ cZ cS cT 1 0 ) (csB (n := 2) (inr62 _ (List.mem_of_getElem? (i := 16) rfl)) (inr62 _ (List.mem_of_getElem? (i := 17) rfl)) (inr1 _ (List.mem_of_getElem? (i := 2) rfl)) (inr62 _ (List.mem_of_getElem? (i := 18) rfl)) (by decide +kernel) hts rfl rfl ⟨Nat.le_of_ble_eq_true rfl, Nat.le_of_ble_eq_true rfl⟩) (hP.sub [] rfl) hK hN hT rfl hl.1 rfl (Nat.le_of_ble_eq_true rfl) ⟨Nat.le_of_ble_eq_true rfl, Nat.le_of_ble_eq_true rfl⟩ dX11_best_26 (fun r_8 h_9 => ?_)
      have h_9 : (r_8 = rw_ 1 0) := h_9
      have i_10 := h_9
      obtain rfl : r_8 = 9 := i_10.trans (by decide)
      refine lv_iload_n hx hb dX11_best_29 rfl (lv_at hl 1 rfl) ?_
      refine lv_iload_n hx hb dX11_best_30 rfl (lv_at hl 3 rfl) ?_
      refine rosi (As := [.int 0, .int 0]) (rest := [.int 9]) ⟨hx, hb, hml, hown, hts⟩ (b_X11_reward l G D cB cI cJ cZ cS cT 0 0 ) (csB (n := 2) (inr62 _ (List.mem_of_getElem? (i := 16) rfl)) (inr62 _ (List.mem_of_getElem? (i := 17) rfl)) (inr1 _ (List.mem_of_getElem? (i := 2) rfl)) (inr62 _ (List.mem_of_getElem? (i := 18) rfl)) (by decide +kernel) hts rfl rfl ⟨Nat.le_of_ble_eq_true rfl, Nat.le_of_ble_eq_true rfl⟩) (hP.sub [] rfl) hK hN hT rfl hl.1 rfl (Nat.le_of_ble_eq_true rfl) ⟨Nat.le_of_ble_eq_true rfl, Nat.le_of_ble_eq_true rfl⟩ dX11_best_31 (fun r_11 h_12 => ?_)
      have h_12 : (r_11 = rw_ 0 0) := h_12
      have i_13 := h_12
      obtain rfl : r_11 = 4 := i_13.trans (by decide)
      refine lv_icmp_le (tgt := 39) hx hb dX11_best_34 (by decide) (fun c0 => absurd c0 (by decide)) (fun _ => ?_)
      refine lv_iload_n hx hb dX11_best_37 rfl (lv_at hl 0 rfl) ?_
      refine lv_istore_n (lv' := [(2, .int 1), (3, .int 1), (0, .ref h0), (1, .int 0)]) hx hb dX11_best_38 rfl hl (by decide) rfl (fun ls hl => ?_)
      refine lv_iinc (v := 2) (lv' := [(3, .int 2), (2, .int 1), (0, .ref h0), (1, .int 0)]) hx hb dX11_best_39 hl (k := 1) rfl (by decide) (by decide) rfl (fun ls hl => ?_)
      refine lv_goto (tgt := 19) hx hb dX11_best_42 (by decide) ?_
      refine lv_iload_n hx hb dX11_best_19 rfl (lv_at hl 0 rfl) ?_
      refine lv_iconst (v := 3) hx hb dX11_best_20 (by decide) ?_
      refine lv_icmp_gt (tgt := 45) hx hb dX11_best_21 (by decide) (fun c0 => absurd c0 (by decide)) (fun _ => ?_)
      refine lv_iload_n hx hb dX11_best_24 rfl (lv_at hl 0 rfl) ?_
      refine lv_iload_n hx hb dX11_best_25 rfl (lv_at hl 3 rfl) ?_
      refine rosi (As := [.int 2, .int 0]) (rest := []) ⟨hx, hb, hml, hown, hts⟩ (b_X11_reward l G D cB cI cJ cZ cS cT 2 0 ) (csB (n := 2) (inr62 _ (List.mem_of_getElem? (i := 16) rfl)) (inr62 _ (List.mem_of_getElem? (i := 17) rfl)) (inr1 _ (List.mem_of_getElem? (i := 2) rfl)) (inr62 _ (List.mem_of_getElem? (i := 18) rfl)) (by decide +kernel) hts rfl rfl ⟨Nat.le_of_ble_eq_true rfl, Nat.le_of_ble_eq_true rfl⟩) (hP.sub [] rfl) hK hN hT rfl hl.1 rfl (Nat.le_of_ble_eq_true rfl) ⟨Nat.le_of_ble_eq_true rfl, Nat.le_of_ble_eq_true rfl⟩ dX11_best_26 (fun r_14 h_15 => ?_)
      have h_15 : (r_14 = rw_ 2 0) := h_15
      have i_16 := h_15
      obtain rfl : r_14 = 6 := i_16.trans (by decide)
      refine lv_iload_n hx hb dX11_best_29 rfl (lv_at hl 1 rfl) ?_
      refine lv_iload_n hx hb dX11_best_30 rfl (lv_at hl 3 rfl) ?_
      refine rosi (As := [.int 1, .int 0]) (rest := [.int 6]) ⟨hx, hb, hml, hown, hts⟩ (b_X11_reward l G D cB cI cJ cZ cS cT 1 0 ) (csB (n := 2) (inr62 _ (List.mem_of_getElem? (i := 16) rfl)) (inr62 _ (List.mem_of_getElem? (i := 17) rfl)) (inr1 _ (List.mem_of_getElem? (i := 2) rfl)) (inr62 _ (List.mem_of_getElem? (i := 18) rfl)) (by decide +kernel) hts rfl rfl ⟨Nat.le_of_ble_eq_true rfl, Nat.le_of_ble_eq_true rfl⟩) (hP.sub [] rfl) hK hN hT rfl hl.1 rfl (Nat.le_of_ble_eq_true rfl) ⟨Nat.le_of_ble_eq_true rfl, Nat.le_of_ble_eq_true rfl⟩ dX11_best_31 (fun r_17 h_18 => ?_)
      have h_18 : (r_17 = rw_ 1 0) := h_18
      have i_19 := h_18
      obtain rfl : r_17 = 9 := i_19.trans (by decide)
      refine lv_icmp_le (tgt := 39) hx hb dX11_best_34 (by decide) (fun _ => ?_) (fun c0 => absurd c0 (by decide))
      refine lv_iinc (v := 3) (lv' := [(3, .int 3), (2, .int 1), (0, .ref h0), (1, .int 0)]) hx hb dX11_best_39 hl (k := 0) rfl (by decide) (by decide) rfl (fun ls hl => ?_)
      refine lv_goto (tgt := 19) hx hb dX11_best_42 (by decide) ?_
      refine lv_iload_n hx hb dX11_best_19 rfl (lv_at hl 0 rfl) ?_
      refine lv_iconst (v := 3) hx hb dX11_best_20 (by decide) ?_
      refine lv_icmp_gt (tgt := 45) hx hb dX11_best_21 (by decide) (fun c0 => absurd c0 (by decide)) (fun _ => ?_)
      refine lv_iload_n hx hb dX11_best_24 rfl (lv_at hl 0 rfl) ?_
      refine lv_iload_n hx hb dX11_best_25 rfl (lv_at hl 3 rfl) ?_
      refine rosi (As := [.int 3, .int 0]) (rest := []) ⟨hx, hb, hml, hown, hts⟩ (b_X11_reward l G D cB cI cJ cZ cS cT 3 0 ) (csB (n := 2) (inr62 _ (List.mem_of_getElem? (i := 16) rfl)) (inr62 _ (List.mem_of_getElem? (i := 17) rfl)) (inr1 _ (List.mem_of_getElem? (i := 2) rfl)) (inr62 _ (List.mem_of_getElem? (i := 18) rfl)) (by decide +kernel) hts rfl rfl ⟨Nat.le_of_ble_eq_true rfl, Nat.le_of_ble_eq_true rfl⟩) (hP.sub [] rfl) hK hN hT rfl hl.1 rfl (Nat.le_of_ble_eq_true rfl) ⟨Nat.le_of_ble_eq_true rfl, Nat.le_of_ble_eq_true rfl⟩ dX11_best_26 (fun r_20 h_21 => ?_)
      have h_21 : (r_20 = rw_ 3 0) := h_21
      have i_22 := h_21
      obtain rfl : r_20 = 1 := i_22.trans (by decide)
      refine lv_iload_n hx hb dX11_best_29 rfl (lv_at hl 1 rfl) ?_
      refine lv_iload_n hx hb dX11_best_30 rfl (lv_at hl 3 rfl) ?_
      refine rosi (As := [.int 1, .int 0]) (rest := [.int 1]) ⟨hx, hb, hml, hown, hts⟩ (b_X11_reward l G D cB cI cJ cZ cS cT 1 0 ) (csB (n := 2) (inr62 _ (List.mem_of_getElem? (i := 16) rfl)) (inr62 _ (List.mem_of_getElem? (i := 17) rfl)) (inr1 _ (List.mem_of_getElem? (i := 2) rfl)) (inr62 _ (List.mem_of_getElem? (i := 18) rfl)) (by decide +kernel) hts rfl rfl ⟨Nat.le_of_ble_eq_true rfl, Nat.le_of_ble_eq_true rfl⟩) (hP.sub [] rfl) hK hN hT rfl hl.1 rfl (Nat.le_of_ble_eq_true rfl) ⟨Nat.le_of_ble_eq_true rfl, Nat.le_of_ble_eq_true rfl⟩ dX11_best_31 (fun r_23 h_24 => ?_)
      have h_24 : (r_23 = rw_ 1 0) := h_24
      have i_25 := h_24
      obtain rfl : r_23 = 9 := i_25.trans (by decide)
      refine lv_icmp_le (tgt := 39) hx hb dX11_best_34 (by decide) (fun _ => ?_) (fun c0 => absurd c0 (by decide))
      refine lv_iinc (v := 4) (lv' := [(3, .int 4), (2, .int 1), (0, .ref h0), (1, .int 0)]) hx hb dX11_best_39 hl (k := 0) rfl (by decide) (by decide) rfl (fun ls hl => ?_)
      refine lv_goto (tgt := 19) hx hb dX11_best_42 (by decide) ?_
      refine lv_iload_n hx hb dX11_best_19 rfl (lv_at hl 0 rfl) ?_
      refine lv_iconst (v := 3) hx hb dX11_best_20 (by decide) ?_
      refine lv_icmp_gt (tgt := 45) hx hb dX11_best_21 (by decide) (fun _ => ?_) (fun c0 => absurd c0 (by decide))
      refine lv_iload_n hx hb dX11_best_45 rfl (lv_at hl 1 rfl) ?_
      have hr9 : (1 : Int32).toInt = 1 := by decide
      exact ret _ _ _ dX11_best_46 (show ((1 : Int32) = S_best v1) from (by subst_vars; decide))
    · have c_7 : v1.toInt = 1 := by rw [e_6]; decide
      have hl : lv_has ls 4 [(0, .ref h0), (1, .int 1)] := by rw [e_6] at hl; exact hl
      refine lv_iconst (v := 0) hx hb dX11_best_15 (by decide) ?_
      refine lv_istore_n (lv' := [(2, .int 0), (0, .ref h0), (1, .int 1)]) hx hb dX11_best_16 rfl hl (by decide) rfl (fun ls hl => ?_)
      refine lv_iconst (v := 1) hx hb dX11_best_17 (by decide) ?_
      refine lv_istore_n (lv' := [(3, .int 1), (2, .int 0), (0, .ref h0), (1, .int 1)]) hx hb dX11_best_18 rfl hl (by decide) rfl (fun ls hl => ?_)
      refine lv_iload_n hx hb dX11_best_19 rfl (lv_at hl 0 rfl) ?_
      refine lv_iconst (v := 3) hx hb dX11_best_20 (by decide) ?_
      refine lv_icmp_gt (tgt := 45) hx hb dX11_best_21 (by decide) (fun c0 => absurd c0 (by decide)) (fun _ => ?_)
      refine lv_iload_n hx hb dX11_best_24 rfl (lv_at hl 0 rfl) ?_
      refine lv_iload_n hx hb dX11_best_25 rfl (lv_at hl 3 rfl) ?_
      refine rosi (As := [.int 1, .int 1]) (rest := []) ⟨hx, hb, hml, hown, hts⟩ (b_X11_reward l G D cB cI cJ cZ cS cT 1 1 ) (csB (n := 2) (inr62 _ (List.mem_of_getElem? (i := 16) rfl)) (inr62 _ (List.mem_of_getElem? (i := 17) rfl)) (inr1 _ (List.mem_of_getElem? (i := 2) rfl)) (inr62 _ (List.mem_of_getElem? (i := 18) rfl)) (by decide +kernel) hts rfl rfl ⟨Nat.le_of_ble_eq_true rfl, Nat.le_of_ble_eq_true rfl⟩) (hP.sub [] rfl) hK hN hT rfl hl.1 rfl (Nat.le_of_ble_eq_true rfl) ⟨Nat.le_of_ble_eq_true rfl, Nat.le_of_ble_eq_true rfl⟩ dX11_best_26 (fun r_26 h_27 => ?_)
      have h_27 : (r_26 = rw_ 1 1) := h_27
      have i_28 := h_27
      obtain rfl : r_26 = 3 := i_28.trans (by decide)
      refine lv_iload_n hx hb dX11_best_29 rfl (lv_at hl 1 rfl) ?_
      refine lv_iload_n hx hb dX11_best_30 rfl (lv_at hl 3 rfl) ?_
      refine rosi (As := [.int 0, .int 1]) (rest := [.int 3]) ⟨hx, hb, hml, hown, hts⟩ (b_X11_reward l G D cB cI cJ cZ cS cT 0 1 ) (csB (n := 2) (inr62 _ (List.mem_of_getElem? (i := 16) rfl)) (inr62 _ (List.mem_of_getElem? (i := 17) rfl)) (inr1 _ (List.mem_of_getElem? (i := 2) rfl)) (inr62 _ (List.mem_of_getElem? (i := 18) rfl)) (by decide +kernel) hts rfl rfl ⟨Nat.le_of_ble_eq_true rfl, Nat.le_of_ble_eq_true rfl⟩) (hP.sub [] rfl) hK hN hT rfl hl.1 rfl (Nat.le_of_ble_eq_true rfl) ⟨Nat.le_of_ble_eq_true rfl, Nat.le_of_ble_eq_true rfl⟩ dX11_best_31 (fun r_29 h_30 => ?_)
      have h_30 : (r_29 = rw_ 0 1) := h_30
      have i_31 := h_30
      obtain rfl : r_29 = 0 := i_31.trans (by decide)
      refine lv_icmp_le (tgt := 39) hx hb dX11_best_34 (by decide) (fun c0 => absurd c0 (by decide)) (fun _ => ?_)
      refine lv_iload_n hx hb dX11_best_37 rfl (lv_at hl 0 rfl) ?_
      refine lv_istore_n (lv' := [(2, .int 1), (3, .int 1), (0, .ref h0), (1, .int 1)]) hx hb dX11_best_38 rfl hl (by decide) rfl (fun ls hl => ?_)
      refine lv_iinc (v := 2) (lv' := [(3, .int 2), (2, .int 1), (0, .ref h0), (1, .int 1)]) hx hb dX11_best_39 hl (k := 1) rfl (by decide) (by decide) rfl (fun ls hl => ?_)
      refine lv_goto (tgt := 19) hx hb dX11_best_42 (by decide) ?_
      refine lv_iload_n hx hb dX11_best_19 rfl (lv_at hl 0 rfl) ?_
      refine lv_iconst (v := 3) hx hb dX11_best_20 (by decide) ?_
      refine lv_icmp_gt (tgt := 45) hx hb dX11_best_21 (by decide) (fun c0 => absurd c0 (by decide)) (fun _ => ?_)
      refine lv_iload_n hx hb dX11_best_24 rfl (lv_at hl 0 rfl) ?_
      refine lv_iload_n hx hb dX11_best_25 rfl (lv_at hl 3 rfl) ?_
      refine rosi (As := [.int 2, .int 1]) (rest := []) ⟨hx, hb, hml, hown, hts⟩ (b_X11_reward l G D cB cI cJ cZ cS cT 2 1 ) (csB (n := 2) (inr62 _ (List.mem_of_getElem? (i := 16) rfl)) (inr62 _ (List.mem_of_getElem? (i := 17) rfl)) (inr1 _ (List.mem_of_getElem? (i := 2) rfl)) (inr62 _ (List.mem_of_getElem? (i := 18) rfl)) (by decide +kernel) hts rfl rfl ⟨Nat.le_of_ble_eq_true rfl, Nat.le_of_ble_eq_true rfl⟩) (hP.sub [] rfl) hK hN hT rfl hl.1 rfl (Nat.le_of_ble_eq_true rfl) ⟨Nat.le_of_ble_eq_true rfl, Nat.le_of_ble_eq_true rfl⟩ dX11_best_26 (fun r_32 h_33 => ?_)
      have h_33 : (r_32 = rw_ 2 1) := h_33
      have i_34 := h_33
      obtain rfl : r_32 = 6 := i_34.trans (by decide)
      refine lv_iload_n hx hb dX11_best_29 rfl (lv_at hl 1 rfl) ?_
      refine lv_iload_n hx hb dX11_best_30 rfl (lv_at hl 3 rfl) ?_
      refine rosi (As := [.int 1, .int 1]) (rest := [.int 6]) ⟨hx, hb, hml, hown, hts⟩ (b_X11_reward l G D cB cI cJ cZ cS cT 1 1 ) (csB (n := 2) (inr62 _ (List.mem_of_getElem? (i := 16) rfl)) (inr62 _ (List.mem_of_getElem? (i := 17) rfl)) (inr1 _ (List.mem_of_getElem? (i := 2) rfl)) (inr62 _ (List.mem_of_getElem? (i := 18) rfl)) (by decide +kernel) hts rfl rfl ⟨Nat.le_of_ble_eq_true rfl, Nat.le_of_ble_eq_true rfl⟩) (hP.sub [] rfl) hK hN hT rfl hl.1 rfl (Nat.le_of_ble_eq_true rfl) ⟨Nat.le_of_ble_eq_true rfl, Nat.le_of_ble_eq_true rfl⟩ dX11_best_31 (fun r_35 h_36 => ?_)
      have h_36 : (r_35 = rw_ 1 1) := h_36
      have i_37 := h_36
      obtain rfl : r_35 = 3 := i_37.trans (by decide)
      refine lv_icmp_le (tgt := 39) hx hb dX11_best_34 (by decide) (fun c0 => absurd c0 (by decide)) (fun _ => ?_)
      refine lv_iload_n hx hb dX11_best_37 rfl (lv_at hl 0 rfl) ?_
      refine lv_istore_n (lv' := [(2, .int 2), (3, .int 2), (0, .ref h0), (1, .int 1)]) hx hb dX11_best_38 rfl hl (by decide) rfl (fun ls hl => ?_)
      refine lv_iinc (v := 3) (lv' := [(3, .int 3), (2, .int 2), (0, .ref h0), (1, .int 1)]) hx hb dX11_best_39 hl (k := 1) rfl (by decide) (by decide) rfl (fun ls hl => ?_)
      refine lv_goto (tgt := 19) hx hb dX11_best_42 (by decide) ?_
      refine lv_iload_n hx hb dX11_best_19 rfl (lv_at hl 0 rfl) ?_
      refine lv_iconst (v := 3) hx hb dX11_best_20 (by decide) ?_
      refine lv_icmp_gt (tgt := 45) hx hb dX11_best_21 (by decide) (fun c0 => absurd c0 (by decide)) (fun _ => ?_)
      refine lv_iload_n hx hb dX11_best_24 rfl (lv_at hl 0 rfl) ?_
      refine lv_iload_n hx hb dX11_best_25 rfl (lv_at hl 3 rfl) ?_
      refine rosi (As := [.int 3, .int 1]) (rest := []) ⟨hx, hb, hml, hown, hts⟩ (b_X11_reward l G D cB cI cJ cZ cS cT 3 1 ) (csB (n := 2) (inr62 _ (List.mem_of_getElem? (i := 16) rfl)) (inr62 _ (List.mem_of_getElem? (i := 17) rfl)) (inr1 _ (List.mem_of_getElem? (i := 2) rfl)) (inr62 _ (List.mem_of_getElem? (i := 18) rfl)) (by decide +kernel) hts rfl rfl ⟨Nat.le_of_ble_eq_true rfl, Nat.le_of_ble_eq_true rfl⟩) (hP.sub [] rfl) hK hN hT rfl hl.1 rfl (Nat.le_of_ble_eq_true rfl) ⟨Nat.le_of_ble_eq_true rfl, Nat.le_of_ble_eq_true rfl⟩ dX11_best_26 (fun r_38 h_39 => ?_)
      have h_39 : (r_38 = rw_ 3 1) := h_39
      have i_40 := h_39
      obtain rfl : r_38 = 1 := i_40.trans (by decide)
      refine lv_iload_n hx hb dX11_best_29 rfl (lv_at hl 1 rfl) ?_
      refine lv_iload_n hx hb dX11_best_30 rfl (lv_at hl 3 rfl) ?_
      refine rosi (As := [.int 2, .int 1]) (rest := [.int 1]) ⟨hx, hb, hml, hown, hts⟩ (b_X11_reward l G D cB cI cJ cZ cS cT 2 1 ) (csB (n := 2) (inr62 _ (List.mem_of_getElem? (i := 16) rfl)) (inr62 _ (List.mem_of_getElem? (i := 17) rfl)) (inr1 _ (List.mem_of_getElem? (i := 2) rfl)) (inr62 _ (List.mem_of_getElem? (i := 18) rfl)) (by decide +kernel) hts rfl rfl ⟨Nat.le_of_ble_eq_true rfl, Nat.le_of_ble_eq_true rfl⟩) (hP.sub [] rfl) hK hN hT rfl hl.1 rfl (Nat.le_of_ble_eq_true rfl) ⟨Nat.le_of_ble_eq_true rfl, Nat.le_of_ble_eq_true rfl⟩ dX11_best_31 (fun r_41 h_42 => ?_)
      have h_42 : (r_41 = rw_ 2 1) := h_42
      have i_43 := h_42
      obtain rfl : r_41 = 6 := i_43.trans (by decide)
      refine lv_icmp_le (tgt := 39) hx hb dX11_best_34 (by decide) (fun _ => ?_) (fun c0 => absurd c0 (by decide))
      refine lv_iinc (v := 4) (lv' := [(3, .int 4), (2, .int 2), (0, .ref h0), (1, .int 1)]) hx hb dX11_best_39 hl (k := 0) rfl (by decide) (by decide) rfl (fun ls hl => ?_)
      refine lv_goto (tgt := 19) hx hb dX11_best_42 (by decide) ?_
      refine lv_iload_n hx hb dX11_best_19 rfl (lv_at hl 0 rfl) ?_
      refine lv_iconst (v := 3) hx hb dX11_best_20 (by decide) ?_
      refine lv_icmp_gt (tgt := 45) hx hb dX11_best_21 (by decide) (fun _ => ?_) (fun c0 => absurd c0 (by decide))
      refine lv_iload_n hx hb dX11_best_45 rfl (lv_at hl 1 rfl) ?_
      have hr9 : (2 : Int32).toInt = 2 := by decide
      exact ret _ _ _ dX11_best_46 (show ((2 : Int32) = S_best v1) from (by subst_vars; decide))
    · have c_7 : v1.toInt = 2 := by rw [e_6]; decide
      have hl : lv_has ls 4 [(0, .ref h0), (1, .int 2)] := by rw [e_6] at hl; exact hl
      refine lv_iconst (v := 0) hx hb dX11_best_15 (by decide) ?_
      refine lv_istore_n (lv' := [(2, .int 0), (0, .ref h0), (1, .int 2)]) hx hb dX11_best_16 rfl hl (by decide) rfl (fun ls hl => ?_)
      refine lv_iconst (v := 1) hx hb dX11_best_17 (by decide) ?_
      refine lv_istore_n (lv' := [(3, .int 1), (2, .int 0), (0, .ref h0), (1, .int 2)]) hx hb dX11_best_18 rfl hl (by decide) rfl (fun ls hl => ?_)
      refine lv_iload_n hx hb dX11_best_19 rfl (lv_at hl 0 rfl) ?_
      refine lv_iconst (v := 3) hx hb dX11_best_20 (by decide) ?_
      refine lv_icmp_gt (tgt := 45) hx hb dX11_best_21 (by decide) (fun c0 => absurd c0 (by decide)) (fun _ => ?_)
      refine lv_iload_n hx hb dX11_best_24 rfl (lv_at hl 0 rfl) ?_
      refine lv_iload_n hx hb dX11_best_25 rfl (lv_at hl 3 rfl) ?_
      refine rosi (As := [.int 1, .int 2]) (rest := []) ⟨hx, hb, hml, hown, hts⟩ (b_X11_reward l G D cB cI cJ cZ cS cT 1 2 ) (csB (n := 2) (inr62 _ (List.mem_of_getElem? (i := 16) rfl)) (inr62 _ (List.mem_of_getElem? (i := 17) rfl)) (inr1 _ (List.mem_of_getElem? (i := 2) rfl)) (inr62 _ (List.mem_of_getElem? (i := 18) rfl)) (by decide +kernel) hts rfl rfl ⟨Nat.le_of_ble_eq_true rfl, Nat.le_of_ble_eq_true rfl⟩) (hP.sub [] rfl) hK hN hT rfl hl.1 rfl (Nat.le_of_ble_eq_true rfl) ⟨Nat.le_of_ble_eq_true rfl, Nat.le_of_ble_eq_true rfl⟩ dX11_best_26 (fun r_44 h_45 => ?_)
      have h_45 : (r_44 = rw_ 1 2) := h_45
      have i_46 := h_45
      obtain rfl : r_44 = (-1) := i_46.trans (by decide)
      refine lv_iload_n hx hb dX11_best_29 rfl (lv_at hl 1 rfl) ?_
      refine lv_iload_n hx hb dX11_best_30 rfl (lv_at hl 3 rfl) ?_
      refine rosi (As := [.int 0, .int 2]) (rest := [.int (-1)]) ⟨hx, hb, hml, hown, hts⟩ (b_X11_reward l G D cB cI cJ cZ cS cT 0 2 ) (csB (n := 2) (inr62 _ (List.mem_of_getElem? (i := 16) rfl)) (inr62 _ (List.mem_of_getElem? (i := 17) rfl)) (inr1 _ (List.mem_of_getElem? (i := 2) rfl)) (inr62 _ (List.mem_of_getElem? (i := 18) rfl)) (by decide +kernel) hts rfl rfl ⟨Nat.le_of_ble_eq_true rfl, Nat.le_of_ble_eq_true rfl⟩) (hP.sub [] rfl) hK hN hT rfl hl.1 rfl (Nat.le_of_ble_eq_true rfl) ⟨Nat.le_of_ble_eq_true rfl, Nat.le_of_ble_eq_true rfl⟩ dX11_best_31 (fun r_47 h_48 => ?_)
      have h_48 : (r_47 = rw_ 0 2) := h_48
      have i_49 := h_48
      obtain rfl : r_47 = 0 := i_49.trans (by decide)
      refine lv_icmp_le (tgt := 39) hx hb dX11_best_34 (by decide) (fun _ => ?_) (fun c0 => absurd c0 (by decide))
      refine lv_iinc (v := 2) (lv' := [(3, .int 2), (2, .int 0), (0, .ref h0), (1, .int 2)]) hx hb dX11_best_39 hl (k := 0) rfl (by decide) (by decide) rfl (fun ls hl => ?_)
      refine lv_goto (tgt := 19) hx hb dX11_best_42 (by decide) ?_
      refine lv_iload_n hx hb dX11_best_19 rfl (lv_at hl 0 rfl) ?_
      refine lv_iconst (v := 3) hx hb dX11_best_20 (by decide) ?_
      refine lv_icmp_gt (tgt := 45) hx hb dX11_best_21 (by decide) (fun c0 => absurd c0 (by decide)) (fun _ => ?_)
      refine lv_iload_n hx hb dX11_best_24 rfl (lv_at hl 0 rfl) ?_
      refine lv_iload_n hx hb dX11_best_25 rfl (lv_at hl 3 rfl) ?_
      refine rosi (As := [.int 2, .int 2]) (rest := []) ⟨hx, hb, hml, hown, hts⟩ (b_X11_reward l G D cB cI cJ cZ cS cT 2 2 ) (csB (n := 2) (inr62 _ (List.mem_of_getElem? (i := 16) rfl)) (inr62 _ (List.mem_of_getElem? (i := 17) rfl)) (inr1 _ (List.mem_of_getElem? (i := 2) rfl)) (inr62 _ (List.mem_of_getElem? (i := 18) rfl)) (by decide +kernel) hts rfl rfl ⟨Nat.le_of_ble_eq_true rfl, Nat.le_of_ble_eq_true rfl⟩) (hP.sub [] rfl) hK hN hT rfl hl.1 rfl (Nat.le_of_ble_eq_true rfl) ⟨Nat.le_of_ble_eq_true rfl, Nat.le_of_ble_eq_true rfl⟩ dX11_best_26 (fun r_50 h_51 => ?_)
      have h_51 : (r_50 = rw_ 2 2) := h_51
      have i_52 := h_51
      obtain rfl : r_50 = 0 := i_52.trans (by decide)
      refine lv_iload_n hx hb dX11_best_29 rfl (lv_at hl 1 rfl) ?_
      refine lv_iload_n hx hb dX11_best_30 rfl (lv_at hl 3 rfl) ?_
      refine rosi (As := [.int 0, .int 2]) (rest := [.int 0]) ⟨hx, hb, hml, hown, hts⟩ (b_X11_reward l G D cB cI cJ cZ cS cT 0 2 ) (csB (n := 2) (inr62 _ (List.mem_of_getElem? (i := 16) rfl)) (inr62 _ (List.mem_of_getElem? (i := 17) rfl)) (inr1 _ (List.mem_of_getElem? (i := 2) rfl)) (inr62 _ (List.mem_of_getElem? (i := 18) rfl)) (by decide +kernel) hts rfl rfl ⟨Nat.le_of_ble_eq_true rfl, Nat.le_of_ble_eq_true rfl⟩) (hP.sub [] rfl) hK hN hT rfl hl.1 rfl (Nat.le_of_ble_eq_true rfl) ⟨Nat.le_of_ble_eq_true rfl, Nat.le_of_ble_eq_true rfl⟩ dX11_best_31 (fun r_53 h_54 => ?_)
      have h_54 : (r_53 = rw_ 0 2) := h_54
      have i_55 := h_54
      obtain rfl : r_53 = 0 := i_55.trans (by decide)
      refine lv_icmp_le (tgt := 39) hx hb dX11_best_34 (by decide) (fun _ => ?_) (fun c0 => absurd c0 (by decide))
      refine lv_iinc (v := 3) (lv' := [(3, .int 3), (2, .int 0), (0, .ref h0), (1, .int 2)]) hx hb dX11_best_39 hl (k := 0) rfl (by decide) (by decide) rfl (fun ls hl => ?_)
      refine lv_goto (tgt := 19) hx hb dX11_best_42 (by decide) ?_
      refine lv_iload_n hx hb dX11_best_19 rfl (lv_at hl 0 rfl) ?_
      refine lv_iconst (v := 3) hx hb dX11_best_20 (by decide) ?_
      refine lv_icmp_gt (tgt := 45) hx hb dX11_best_21 (by decide) (fun c0 => absurd c0 (by decide)) (fun _ => ?_)
      refine lv_iload_n hx hb dX11_best_24 rfl (lv_at hl 0 rfl) ?_
      refine lv_iload_n hx hb dX11_best_25 rfl (lv_at hl 3 rfl) ?_
      refine rosi (As := [.int 3, .int 2]) (rest := []) ⟨hx, hb, hml, hown, hts⟩ (b_X11_reward l G D cB cI cJ cZ cS cT 3 2 ) (csB (n := 2) (inr62 _ (List.mem_of_getElem? (i := 16) rfl)) (inr62 _ (List.mem_of_getElem? (i := 17) rfl)) (inr1 _ (List.mem_of_getElem? (i := 2) rfl)) (inr62 _ (List.mem_of_getElem? (i := 18) rfl)) (by decide +kernel) hts rfl rfl ⟨Nat.le_of_ble_eq_true rfl, Nat.le_of_ble_eq_true rfl⟩) (hP.sub [] rfl) hK hN hT rfl hl.1 rfl (Nat.le_of_ble_eq_true rfl) ⟨Nat.le_of_ble_eq_true rfl, Nat.le_of_ble_eq_true rfl⟩ dX11_best_26 (fun r_56 h_57 => ?_)
      have h_57 : (r_56 = rw_ 3 2) := h_57
      have i_58 := h_57
      obtain rfl : r_56 = 1 := i_58.trans (by decide)
      refine lv_iload_n hx hb dX11_best_29 rfl (lv_at hl 1 rfl) ?_
      refine lv_iload_n hx hb dX11_best_30 rfl (lv_at hl 3 rfl) ?_
      refine rosi (As := [.int 0, .int 2]) (rest := [.int 1]) ⟨hx, hb, hml, hown, hts⟩ (b_X11_reward l G D cB cI cJ cZ cS cT 0 2 ) (csB (n := 2) (inr62 _ (List.mem_of_getElem? (i := 16) rfl)) (inr62 _ (List.mem_of_getElem? (i := 17) rfl)) (inr1 _ (List.mem_of_getElem? (i := 2) rfl)) (inr62 _ (List.mem_of_getElem? (i := 18) rfl)) (by decide +kernel) hts rfl rfl ⟨Nat.le_of_ble_eq_true rfl, Nat.le_of_ble_eq_true rfl⟩) (hP.sub [] rfl) hK hN hT rfl hl.1 rfl (Nat.le_of_ble_eq_true rfl) ⟨Nat.le_of_ble_eq_true rfl, Nat.le_of_ble_eq_true rfl⟩ dX11_best_31 (fun r_59 h_60 => ?_)
      have h_60 : (r_59 = rw_ 0 2) := h_60
      have i_61 := h_60
      obtain rfl : r_59 = 0 := i_61.trans (by decide)
      refine lv_icmp_le (tgt := 39) hx hb dX11_best_34 (by decide) (fun c0 => absurd c0 (by decide)) (fun _ => ?_)
      refine lv_iload_n hx hb dX11_best_37 rfl (lv_at hl 0 rfl) ?_
      refine lv_istore_n (lv' := [(2, .int 3), (3, .int 3), (0, .ref h0), (1, .int 2)]) hx hb dX11_best_38 rfl hl (by decide) rfl (fun ls hl => ?_)
      refine lv_iinc (v := 4) (lv' := [(3, .int 4), (2, .int 3), (0, .ref h0), (1, .int 2)]) hx hb dX11_best_39 hl (k := 1) rfl (by decide) (by decide) rfl (fun ls hl => ?_)
      refine lv_goto (tgt := 19) hx hb dX11_best_42 (by decide) ?_
      refine lv_iload_n hx hb dX11_best_19 rfl (lv_at hl 0 rfl) ?_
      refine lv_iconst (v := 3) hx hb dX11_best_20 (by decide) ?_
      refine lv_icmp_gt (tgt := 45) hx hb dX11_best_21 (by decide) (fun _ => ?_) (fun c0 => absurd c0 (by decide))
      refine lv_iload_n hx hb dX11_best_45 rfl (lv_at hl 1 rfl) ?_
      have hr9 : (3 : Int32).toInt = 3 := by decide
      exact ret _ _ _ dX11_best_46 (show ((3 : Int32) = S_best v1) from (by subst_vars; decide))
    · have c_7 : v1.toInt = 3 := by rw [e_6]; decide
      have hl : lv_has ls 4 [(0, .ref h0), (1, .int 3)] := by rw [e_6] at hl; exact hl
      refine lv_iconst (v := 0) hx hb dX11_best_15 (by decide) ?_
      refine lv_istore_n (lv' := [(2, .int 0), (0, .ref h0), (1, .int 3)]) hx hb dX11_best_16 rfl hl (by decide) rfl (fun ls hl => ?_)
      refine lv_iconst (v := 1) hx hb dX11_best_17 (by decide) ?_
      refine lv_istore_n (lv' := [(3, .int 1), (2, .int 0), (0, .ref h0), (1, .int 3)]) hx hb dX11_best_18 rfl hl (by decide) rfl (fun ls hl => ?_)
      refine lv_iload_n hx hb dX11_best_19 rfl (lv_at hl 0 rfl) ?_
      refine lv_iconst (v := 3) hx hb dX11_best_20 (by decide) ?_
      refine lv_icmp_gt (tgt := 45) hx hb dX11_best_21 (by decide) (fun c0 => absurd c0 (by decide)) (fun _ => ?_)
      refine lv_iload_n hx hb dX11_best_24 rfl (lv_at hl 0 rfl) ?_
      refine lv_iload_n hx hb dX11_best_25 rfl (lv_at hl 3 rfl) ?_
      refine rosi (As := [.int 1, .int 3]) (rest := []) ⟨hx, hb, hml, hown, hts⟩ (b_X11_reward l G D cB cI cJ cZ cS cT 1 3 ) (csB (n := 2) (inr62 _ (List.mem_of_getElem? (i := 16) rfl)) (inr62 _ (List.mem_of_getElem? (i := 17) rfl)) (inr1 _ (List.mem_of_getElem? (i := 2) rfl)) (inr62 _ (List.mem_of_getElem? (i := 18) rfl)) (by decide +kernel) hts rfl rfl ⟨Nat.le_of_ble_eq_true rfl, Nat.le_of_ble_eq_true rfl⟩) (hP.sub [] rfl) hK hN hT rfl hl.1 rfl (Nat.le_of_ble_eq_true rfl) ⟨Nat.le_of_ble_eq_true rfl, Nat.le_of_ble_eq_true rfl⟩ dX11_best_26 (fun r_62 h_63 => ?_)
      have h_63 : (r_62 = rw_ 1 3) := h_63
      have i_64 := h_63
      obtain rfl : r_62 = (-1) := i_64.trans (by decide)
      refine lv_iload_n hx hb dX11_best_29 rfl (lv_at hl 1 rfl) ?_
      refine lv_iload_n hx hb dX11_best_30 rfl (lv_at hl 3 rfl) ?_
      refine rosi (As := [.int 0, .int 3]) (rest := [.int (-1)]) ⟨hx, hb, hml, hown, hts⟩ (b_X11_reward l G D cB cI cJ cZ cS cT 0 3 ) (csB (n := 2) (inr62 _ (List.mem_of_getElem? (i := 16) rfl)) (inr62 _ (List.mem_of_getElem? (i := 17) rfl)) (inr1 _ (List.mem_of_getElem? (i := 2) rfl)) (inr62 _ (List.mem_of_getElem? (i := 18) rfl)) (by decide +kernel) hts rfl rfl ⟨Nat.le_of_ble_eq_true rfl, Nat.le_of_ble_eq_true rfl⟩) (hP.sub [] rfl) hK hN hT rfl hl.1 rfl (Nat.le_of_ble_eq_true rfl) ⟨Nat.le_of_ble_eq_true rfl, Nat.le_of_ble_eq_true rfl⟩ dX11_best_31 (fun r_65 h_66 => ?_)
      have h_66 : (r_65 = rw_ 0 3) := h_66
      have i_67 := h_66
      obtain rfl : r_65 = 0 := i_67.trans (by decide)
      refine lv_icmp_le (tgt := 39) hx hb dX11_best_34 (by decide) (fun _ => ?_) (fun c0 => absurd c0 (by decide))
      refine lv_iinc (v := 2) (lv' := [(3, .int 2), (2, .int 0), (0, .ref h0), (1, .int 3)]) hx hb dX11_best_39 hl (k := 0) rfl (by decide) (by decide) rfl (fun ls hl => ?_)
      refine lv_goto (tgt := 19) hx hb dX11_best_42 (by decide) ?_
      refine lv_iload_n hx hb dX11_best_19 rfl (lv_at hl 0 rfl) ?_
      refine lv_iconst (v := 3) hx hb dX11_best_20 (by decide) ?_
      refine lv_icmp_gt (tgt := 45) hx hb dX11_best_21 (by decide) (fun c0 => absurd c0 (by decide)) (fun _ => ?_)
      refine lv_iload_n hx hb dX11_best_24 rfl (lv_at hl 0 rfl) ?_
      refine lv_iload_n hx hb dX11_best_25 rfl (lv_at hl 3 rfl) ?_
      refine rosi (As := [.int 2, .int 3]) (rest := []) ⟨hx, hb, hml, hown, hts⟩ (b_X11_reward l G D cB cI cJ cZ cS cT 2 3 ) (csB (n := 2) (inr62 _ (List.mem_of_getElem? (i := 16) rfl)) (inr62 _ (List.mem_of_getElem? (i := 17) rfl)) (inr1 _ (List.mem_of_getElem? (i := 2) rfl)) (inr62 _ (List.mem_of_getElem? (i := 18) rfl)) (by decide +kernel) hts rfl rfl ⟨Nat.le_of_ble_eq_true rfl, Nat.le_of_ble_eq_true rfl⟩) (hP.sub [] rfl) hK hN hT rfl hl.1 rfl (Nat.le_of_ble_eq_true rfl) ⟨Nat.le_of_ble_eq_true rfl, Nat.le_of_ble_eq_true rfl⟩ dX11_best_26 (fun r_68 h_69 => ?_)
      have h_69 : (r_68 = rw_ 2 3) := h_69
      have i_70 := h_69
      obtain rfl : r_68 = (-4) := i_70.trans (by decide)
      refine lv_iload_n hx hb dX11_best_29 rfl (lv_at hl 1 rfl) ?_
      refine lv_iload_n hx hb dX11_best_30 rfl (lv_at hl 3 rfl) ?_
      refine rosi (As := [.int 0, .int 3]) (rest := [.int (-4)]) ⟨hx, hb, hml, hown, hts⟩ (b_X11_reward l G D cB cI cJ cZ cS cT 0 3 ) (csB (n := 2) (inr62 _ (List.mem_of_getElem? (i := 16) rfl)) (inr62 _ (List.mem_of_getElem? (i := 17) rfl)) (inr1 _ (List.mem_of_getElem? (i := 2) rfl)) (inr62 _ (List.mem_of_getElem? (i := 18) rfl)) (by decide +kernel) hts rfl rfl ⟨Nat.le_of_ble_eq_true rfl, Nat.le_of_ble_eq_true rfl⟩) (hP.sub [] rfl) hK hN hT rfl hl.1 rfl (Nat.le_of_ble_eq_true rfl) ⟨Nat.le_of_ble_eq_true rfl, Nat.le_of_ble_eq_true rfl⟩ dX11_best_31 (fun r_71 h_72 => ?_)
      have h_72 : (r_71 = rw_ 0 3) := h_72
      have i_73 := h_72
      obtain rfl : r_71 = 0 := i_73.trans (by decide)
      refine lv_icmp_le (tgt := 39) hx hb dX11_best_34 (by decide) (fun _ => ?_) (fun c0 => absurd c0 (by decide))
      refine lv_iinc (v := 3) (lv' := [(3, .int 3), (2, .int 0), (0, .ref h0), (1, .int 3)]) hx hb dX11_best_39 hl (k := 0) rfl (by decide) (by decide) rfl (fun ls hl => ?_)
      refine lv_goto (tgt := 19) hx hb dX11_best_42 (by decide) ?_
      refine lv_iload_n hx hb dX11_best_19 rfl (lv_at hl 0 rfl) ?_
      refine lv_iconst (v := 3) hx hb dX11_best_20 (by decide) ?_
      refine lv_icmp_gt (tgt := 45) hx hb dX11_best_21 (by decide) (fun c0 => absurd c0 (by decide)) (fun _ => ?_)
      refine lv_iload_n hx hb dX11_best_24 rfl (lv_at hl 0 rfl) ?_
      refine lv_iload_n hx hb dX11_best_25 rfl (lv_at hl 3 rfl) ?_
      refine rosi (As := [.int 3, .int 3]) (rest := []) ⟨hx, hb, hml, hown, hts⟩ (b_X11_reward l G D cB cI cJ cZ cS cT 3 3 ) (csB (n := 2) (inr62 _ (List.mem_of_getElem? (i := 16) rfl)) (inr62 _ (List.mem_of_getElem? (i := 17) rfl)) (inr1 _ (List.mem_of_getElem? (i := 2) rfl)) (inr62 _ (List.mem_of_getElem? (i := 18) rfl)) (by decide +kernel) hts rfl rfl ⟨Nat.le_of_ble_eq_true rfl, Nat.le_of_ble_eq_true rfl⟩) (hP.sub [] rfl) hK hN hT rfl hl.1 rfl (Nat.le_of_ble_eq_true rfl) ⟨Nat.le_of_ble_eq_true rfl, Nat.le_of_ble_eq_true rfl⟩ dX11_best_26 (fun r_74 h_75 => ?_)
      have h_75 : (r_74 = rw_ 3 3) := h_75
      have i_76 := h_75
      obtain rfl : r_74 = (-5) := i_76.trans (by decide)
      refine lv_iload_n hx hb dX11_best_29 rfl (lv_at hl 1 rfl) ?_
      refine lv_iload_n hx hb dX11_best_30 rfl (lv_at hl 3 rfl) ?_
      refine rosi (As := [.int 0, .int 3]) (rest := [.int (-5)]) ⟨hx, hb, hml, hown, hts⟩ (b_X11_reward l G D cB cI cJ cZ cS cT 0 3 ) (csB (n := 2) (inr62 _ (List.mem_of_getElem? (i := 16) rfl)) (inr62 _ (List.mem_of_getElem? (i := 17) rfl)) (inr1 _ (List.mem_of_getElem? (i := 2) rfl)) (inr62 _ (List.mem_of_getElem? (i := 18) rfl)) (by decide +kernel) hts rfl rfl ⟨Nat.le_of_ble_eq_true rfl, Nat.le_of_ble_eq_true rfl⟩) (hP.sub [] rfl) hK hN hT rfl hl.1 rfl (Nat.le_of_ble_eq_true rfl) ⟨Nat.le_of_ble_eq_true rfl, Nat.le_of_ble_eq_true rfl⟩ dX11_best_31 (fun r_77 h_78 => ?_)
      have h_78 : (r_77 = rw_ 0 3) := h_78
      have i_79 := h_78
      obtain rfl : r_77 = 0 := i_79.trans (by decide)
      refine lv_icmp_le (tgt := 39) hx hb dX11_best_34 (by decide) (fun _ => ?_) (fun c0 => absurd c0 (by decide))
      refine lv_iinc (v := 4) (lv' := [(3, .int 4), (2, .int 0), (0, .ref h0), (1, .int 3)]) hx hb dX11_best_39 hl (k := 0) rfl (by decide) (by decide) rfl (fun ls hl => ?_)
      refine lv_goto (tgt := 19) hx hb dX11_best_42 (by decide) ?_
      refine lv_iload_n hx hb dX11_best_19 rfl (lv_at hl 0 rfl) ?_
      refine lv_iconst (v := 3) hx hb dX11_best_20 (by decide) ?_
      refine lv_icmp_gt (tgt := 45) hx hb dX11_best_21 (by decide) (fun _ => ?_) (fun c0 => absurd c0 (by decide))
      refine lv_iload_n hx hb dX11_best_45 rfl (lv_at hl 1 rfl) ?_
      have hr9 : (0 : Int32).toInt = 0 := by decide
      exact ret _ _ _ dX11_best_46 (show ((0 : Int32) = S_best v1) from (by subst_vars; decide))
  · have c_5 : ¬ r_2.toInt = 0 := ci_eq_f c_5
    have b_r_2 := i32b r_2
    refine lv_bipush (v := (-2)) hx hb dX11_best_12 (by decide) ?_
    have hr9 : ((-2) : Int32).toInt = (-2) := by decide
    exact ret _ _ _ dX11_best_14 (show (((-2) : Int32) = S_best v1) from (by unfold S_best; repeat' split <;> first | rfl | (exfalso; omega)))

set_option maxHeartbeats 4000000 in
set_option maxRecDepth 100000 in
theorem b_X11_commonDivisor_l2 {p : Program} {l : Launch} {e : Env} {s : State} {m : MethodId} {args : Array Value} {below : List Frame} {meth : Method} {c : Code} {Q : State → Prop} {G : Gho} {D : va_G} {cB cI cJ cZ cS cT : ClassId} (v0 : Int32) (v1 : Int32)  (C : Cx p s m args c RX11 cX11_commonDivisor 3 G D (tyL cB cI cJ cZ cS cT)) (hP : va_P D vwCl [] s.heap) (ret : RroI p l e ({ frames := 0, cells := 0, slots := 0, locals := 0 }) s m args below meth c cX11_commonDivisor (fun r : Int32 => True) Q) :
    ∀ (N : Nat) (l2_2 : Int32) (ls : Array Slot), (l2_2.toInt - 1).toNat < N → lv_has ls 3 [(2, .int l2_2), (0, .int v0), (1, .int v1)] → W p l e ({ frames := 0, cells := 0, slots := 0, locals := 0 }) s m args below meth c s.heap [] 0 0 Q (F0 m 2 ls []) := by
  obtain ⟨hx, hb, hml, hown, hts, hK, hN, hT⟩ := id C
  intro N
  induction N with
  | zero =>
    intro l2_2 ls  hM_2 hl
    omega
  | succ N_2 ih_2 =>
    intro l2_2 ls  hM_2 hl
    have b_l2_2 := i32b l2_2
    refine lv_iload_n hx hb dX11_commonDivisor_2 rfl (lv_at hl 0 rfl) ?_
    refine lv_iconst (v := 1) hx hb dX11_commonDivisor_3 (by decide) ?_
    refine lv_icmp_le (tgt := 27) hx hb dX11_commonDivisor_4 (by decide) (fun c_1 => ?_) (fun c_1 => ?_)
    · have c_1 : l2_2.toInt ≤ 1 := ci_le_t c_1
      refine lv_iconst (v := 1) hx hb dX11_commonDivisor_27 (by decide) ?_
      exact ret _ _ _ dX11_commonDivisor_28 trivial
    · have c_1 : 1 < l2_2.toInt := ci_le_f c_1
      refine lv_iload_n hx hb dX11_commonDivisor_7 rfl (lv_at hl 1 rfl) ?_
      refine lv_iload_n hx hb dX11_commonDivisor_8 rfl (lv_at hl 0 rfl) ?_
      obtain ⟨t_2, et_2⟩ : ∃ v9 : Int32, v0 - v0 / l2_2 * l2_2 = v9 := ⟨_, rfl⟩
      refine z_irem (v := t_2) hx hb dX11_commonDivisor_9 (ne0T (by omega)) et_2 ?_
      refine lv_if_ne (tgt := 21) hx hb dX11_commonDivisor_10 (by decide) (fun c_3 => ?_) (fun c_3 => ?_)
      · have c_3 : ¬ t_2.toInt = 0 := ci_ne_t c_3
        have b_t_2 := i32b t_2
        obtain ⟨t_4, et_4⟩ : ∃ v9 : Int32, l2_2 + (-1) = v9 := ⟨_, rfl⟩
        have ft_4 : t_4.toInt = l2_2.toInt + (-1) := addT (a := l2_2.toInt) (b := (-1)) rfl (by decide) et_4 (by omega) (by omega)
        refine lv_iinc (v := t_4) (lv' := [(2, .int t_4), (0, .int v0), (1, .int v1)]) hx hb dX11_commonDivisor_21 hl (k := 0) rfl (by rw [← et_4]; rfl) (by decide) rfl (fun ls hl => ?_)
        refine lv_goto (tgt := 2) hx hb dX11_commonDivisor_24 (by decide) ?_
        exact ih_2 (t_4) _  (by omega) (lv_sub hl [0, 1, 2] rfl)
      · have c_3 : t_2.toInt = 0 := ci_ne_f c_3
        have b_t_2 := i32b t_2
        refine lv_iload_n hx hb dX11_commonDivisor_13 rfl (lv_at hl 2 rfl) ?_
        refine lv_iload_n hx hb dX11_commonDivisor_14 rfl (lv_at hl 0 rfl) ?_
        obtain ⟨t_5, et_5⟩ : ∃ v9 : Int32, v1 - v1 / l2_2 * l2_2 = v9 := ⟨_, rfl⟩
        refine z_irem (v := t_5) hx hb dX11_commonDivisor_15 (ne0T (by omega)) et_5 ?_
        refine lv_if_ne (tgt := 21) hx hb dX11_commonDivisor_16 (by decide) (fun c_6 => ?_) (fun c_6 => ?_)
        · have c_6 : ¬ t_5.toInt = 0 := ci_ne_t c_6
          have b_t_5 := i32b t_5
          obtain ⟨t_7, et_7⟩ : ∃ v9 : Int32, l2_2 + (-1) = v9 := ⟨_, rfl⟩
          have ft_7 : t_7.toInt = l2_2.toInt + (-1) := addT (a := l2_2.toInt) (b := (-1)) rfl (by decide) et_7 (by omega) (by omega)
          refine lv_iinc (v := t_7) (lv' := [(2, .int t_7), (0, .int v0), (1, .int v1)]) hx hb dX11_commonDivisor_21 hl (k := 0) rfl (by rw [← et_7]; rfl) (by decide) rfl (fun ls hl => ?_)
          refine lv_goto (tgt := 2) hx hb dX11_commonDivisor_24 (by decide) ?_
          exact ih_2 (t_7) _  (by omega) (lv_sub hl [0, 1, 2] rfl)
        · have c_6 : t_5.toInt = 0 := ci_ne_f c_6
          have b_t_5 := i32b t_5
          refine lv_iload_n hx hb dX11_commonDivisor_19 rfl (lv_at hl 0 rfl) ?_
          exact ret _ _ _ dX11_commonDivisor_20 trivial

set_option maxHeartbeats 4000000 in
set_option maxRecDepth 100000 in
theorem b_X11_commonDivisor (l : Launch) (G : Gho) (D : va_G) (cB cI cJ cZ cS cT : ClassId) (v0 : Int32) (v1 : Int32)  : Met l yX11_commonDivisor (Cond.code yX11_commonDivisor cX11_commonDivisor 3 (some .int) :: wsL_law) ({ frames := 0, cells := 0, slots := 0, locals := 0 }) (roP G D (tyL cB cI cJ cZ cS cT) [] [.int v0, .int v1]) (vp_Si (fun r : Int32 => True)) 0 0 (fun _ => False) := by
  refine metRO (own := RX11) (by decide) rfl ?_
  intro p e s m below meth c Q C hP ret
  obtain ⟨hx, hb, hml, hown, hts, hK, hN, hT⟩ := id C
  have hl := lv_entry ([.int v0, .int v1]) (n := 3) (Nat.le_of_ble_eq_true rfl)
  rw [lg_entry_eq]
  generalize (lg_sl ([.int v0, .int v1]) ++ List.replicate (3 - (lg_sl ([.int v0, .int v1])).length) Slot.unset).toArray = ls at hl ⊢
  have hl : lv_has ls 3 [(0, .int v0), (1, .int v1)] := hl
  have hP : va_P D vwCl [] s.heap := hP
  refine lv_iload_n hx hb dX11_commonDivisor_0 rfl (lv_at hl 1 rfl) ?_
  refine lv_istore_n (lv' := [(2, .int v1), (0, .int v0), (1, .int v1)]) hx hb dX11_commonDivisor_1 rfl hl (by decide) rfl (fun ls hl => ?_)
  exact b_X11_commonDivisor_l2 v0 v1  C (hP.sub [] rfl) ret _ (v1) _  (Nat.lt_succ_self _) (lv_sub hl [0, 1, 2] rfl)

set_option maxHeartbeats 4000000 in
set_option maxRecDepth 100000 in
theorem b_X11_power_l5 {p : Program} {l : Launch} {e : Env} {s : State} {m : MethodId} {args : Array Value} {below : List Frame} {meth : Method} {c : Code} {Q : State → Prop} {G : Gho} {D : va_G} {cB cI cJ cZ cS cT : ClassId} (v0 : Int32) (v1 : Int32)  (C : Cx p s m args c RX11 cX11_power 5 G D (tyL cB cI cJ cZ cS cT)) (hP : va_P D vwCl [] s.heap) (ret : RroL p l e ({ frames := 0, cells := 0, slots := 0, locals := 0 }) s m args below meth c cX11_power (fun r : Int64 => True) Q) :
    ∀ (N : Nat) (l5_4 : Int32) (l5_2 : Int64) (ls : Array Slot), 0 ≤ l5_4.toInt → (v1.toInt - l5_4.toInt).toNat < N → lv_has ls 5 [(4, .int l5_4), (2, .long l5_2), (0, .int v0), (1, .int v1)] → W p l e ({ frames := 0, cells := 0, slots := 0, locals := 0 }) s m args below meth c s.heap [] 0 0 Q (F0 m 5 ls []) := by
  obtain ⟨hx, hb, hml, hown, hts, hK, hN, hT⟩ := id C
  intro N
  induction N with
  | zero =>
    intro l5_4 l5_2 ls kl5_4 hM_5 hl
    omega
  | succ N_5 ih_5 =>
    intro l5_4 l5_2 ls kl5_4 hM_5 hl
    have b_l5_4 := i32b l5_4
    refine lv_iload hx hb dX11_power_5 (lv_at hl 0 rfl) ?_
    refine lv_iload_n hx hb dX11_power_7 rfl (lv_at hl 3 rfl) ?_
    refine lv_icmp_ge (tgt := 22) hx hb dX11_power_8 (by decide) (fun c_1 => ?_) (fun c_1 => ?_)
    · have c_1 : v1.toInt ≤ l5_4.toInt := ci_ge_t c_1
      have b_v1 := i32b v1
      refine lv_lload_n hx hb dX11_power_22 rfl (lv_at hl 1 rfl) ?_
      exact ret _ _ _ dX11_power_23 trivial
    · have c_1 : l5_4.toInt < v1.toInt := ci_ge_f c_1
      have b_v1 := i32b v1
      refine lv_lload_n hx hb dX11_power_11 rfl (lv_at hl 1 rfl) ?_
      refine lv_iload_n hx hb dX11_power_12 rfl (lv_at hl 2 rfl) ?_
      have b_v0 := i32b v0
      obtain ⟨t_2, et_2⟩ : ∃ v9 : Int64, (v0 : Int32).toInt64 = v9 := ⟨_, rfl⟩
      refine lv_i2l (v := t_2) hx hb dX11_power_13 et_2 ?_
      have ft_2 : t_2.toInt = v0.toInt := by rw [← et_2]; exact Int32.toInt_toInt64 _
      obtain ⟨t_3, et_3⟩ : ∃ v9 : Int64, l5_2 * t_2 = v9 := ⟨_, rfl⟩
      refine z_lmul (v := t_3) hx hb dX11_power_14 et_3 ?_
      refine lv_lstore_n (lv' := [(2, .long t_3), (4, .int l5_4), (0, .int v0), (1, .int v1)]) hx hb dX11_power_15 rfl hl (by decide) rfl (fun ls hl => ?_)
      obtain ⟨t_4, et_4⟩ : ∃ v9 : Int32, l5_4 + 1 = v9 := ⟨_, rfl⟩
      have ft_4 : t_4.toInt = l5_4.toInt + 1 := addT (a := l5_4.toInt) (b := 1) rfl (by decide) et_4 (by omega) (by omega)
      refine lv_iinc (v := t_4) (lv' := [(4, .int t_4), (2, .long t_3), (0, .int v0), (1, .int v1)]) hx hb dX11_power_16 hl (k := 1) rfl (by rw [← et_4]; rfl) (by decide) rfl (fun ls hl => ?_)
      refine lv_goto (tgt := 5) hx hb dX11_power_19 (by decide) ?_
      exact ih_5 (t_4) (t_3) _ (by first | assumption | omega | decide) (by omega) (lv_sub hl [0, 1, 2, 3] rfl)

set_option maxHeartbeats 4000000 in
set_option maxRecDepth 100000 in
theorem b_X11_power (l : Launch) (G : Gho) (D : va_G) (cB cI cJ cZ cS cT : ClassId) (v0 : Int32) (v1 : Int32)  : Met l yX11_power (Cond.code yX11_power cX11_power 5 (some .long) :: wsL_law) ({ frames := 0, cells := 0, slots := 0, locals := 0 }) (roP G D (tyL cB cI cJ cZ cS cT) [] [.int v0, .int v1]) (vp_Sl (fun r : Int64 => True)) 0 0 (fun _ => False) := by
  refine metROL (own := RX11) (by decide) rfl ?_
  intro p e s m below meth c Q C hP ret
  obtain ⟨hx, hb, hml, hown, hts, hK, hN, hT⟩ := id C
  have hl := lv_entry ([.int v0, .int v1]) (n := 5) (Nat.le_of_ble_eq_true rfl)
  rw [lg_entry_eq]
  generalize (lg_sl ([.int v0, .int v1]) ++ List.replicate (5 - (lg_sl ([.int v0, .int v1])).length) Slot.unset).toArray = ls at hl ⊢
  have hl : lv_has ls 5 [(0, .int v0), (1, .int v1)] := hl
  have hP : va_P D vwCl [] s.heap := hP
  refine lv_lconst (v := 1) hx hb dX11_power_0 (by decide) ?_
  refine lv_lstore_n (lv' := [(2, .long 1), (0, .int v0), (1, .int v1)]) hx hb dX11_power_1 rfl hl (by decide) rfl (fun ls hl => ?_)
  refine lv_iconst (v := 0) hx hb dX11_power_2 (by decide) ?_
  refine lv_istore (lv' := [(4, .int 0), (2, .long 1), (0, .int v0), (1, .int v1)]) hx hb dX11_power_3 hl (by decide) rfl (fun ls hl => ?_)
  exact b_X11_power_l5 v0 v1  C (hP.sub [] rfl) ret _ (0) (1) _ (by first | assumption | omega | decide) (Nat.lt_succ_self _) (lv_sub hl [0, 1, 2, 3] rfl)

set_option maxHeartbeats 4000000 in
set_option maxRecDepth 100000 in
theorem b_X11_chance (l : Launch) (G : Gho) (D : va_G) (cB cI cJ cZ cS cT : ClassId) (h0 : Nat) (h_tape : Nat) (h_reader : Nat) (h_now : Nat) (h_trial : Nat) (h_images : Nat) (h_imageKept : Nat) (h_slots : Nat) (h_night : Nat) (h_otherNight : Nat) (h_circle : Nat) (h_words : Nat) (h_lawSearch : Nat) (h_placeSearch : Nat) (h_drawnNight : Nat) (v_now_tones : Int32) (v_now_a : Int32) (v_now_b : Int32) (v_now_c : Int32) (v_now_d : Int32) (v_now_odds : Int32) (v_now_lines : Int32) (h_now_signs : Nat) (v_now_signCount : Int32) (h_now_posts : Nat) (v_now_postCount : Int32) (h_now_acts : Nat) (h_now_acts_over : Nat) (h_now_acts_steps : Nat) (h_now_acts_before : Nat) (v_now_acts_size : Int32) (f_now_signs : Nat → Int32) (f_now_acts_over : Nat → Int32) (v1 : Int32) (v2 : Int32) (iv_now_signCount : 0 ≤ v_now_signCount.toInt ∧ v_now_signCount.toInt ≤ 8) (iv_now_postCount : 0 ≤ v_now_postCount.toInt ∧ v_now_postCount.toInt ≤ 5) (iv_now_acts_size : 0 ≤ v_now_acts_size.toInt ∧ v_now_acts_size.toInt ≤ 30) : Met l yX11_chance (Cond.code yX11_chance cX11_chance 6 (some .long) :: wsL_law) ({ frames := 2, cells := 0, slots := 0, locals := 44 }) (roP G D (tyL cB cI cJ cZ cS cT) [(h0, .inr (11, [.ref h_tape, .ref h_reader, .ref h_now, .ref h_trial, .ref h_images, .ref h_imageKept, .ref h_slots, .ref h_night, .ref h_otherNight, .ref h_circle, .ref h_words, .ref h_lawSearch, .ref h_placeSearch, .ref h_drawnNight])), (h_now, .inr (8, [.int v_now_tones, .int v_now_a, .int v_now_b, .int v_now_c, .int v_now_d, .int v_now_odds, .int v_now_lines, .ref h_now_signs, .int v_now_signCount, .ref h_now_posts, .int v_now_postCount, .ref h_now_acts])), (h_now_acts, .inr (0, [.ref h_now_acts_over, .ref h_now_acts_steps, .ref h_now_acts_before, .int v_now_acts_size])), (h_now_signs, .inl (cI, 8, .inl f_now_signs)), (h_now_acts_over, .inl (cI, 61, .inl f_now_acts_over))] [.ref h0, .int v1, .int v2]) (vp_Sl (fun r : Int64 => True)) 0 0 (fun _ => False) := by
  refine metROL (own := RX11) (by decide) rfl ?_
  intro p e s m below meth c Q C hP ret
  obtain ⟨hx, hb, hml, hown, hts, hK, hN, hT⟩ := id C
  have hl := lv_entry ([.ref h0, .int v1, .int v2]) (n := 6) (Nat.le_of_ble_eq_true rfl)
  rw [lg_entry_eq]
  generalize (lg_sl ([.ref h0, .int v1, .int v2]) ++ List.replicate (6 - (lg_sl ([.ref h0, .int v1, .int v2])).length) Slot.unset).toArray = ls at hl ⊢
  have hl : lv_has ls 6 [(0, .ref h0), (1, .int v1), (2, .int v2)] := hl
  have hP : va_P D vwCl [(h0, .inr (11, [.ref h_tape, .ref h_reader, .ref h_now, .ref h_trial, .ref h_images, .ref h_imageKept, .ref h_slots, .ref h_night, .ref h_otherNight, .ref h_circle, .ref h_words, .ref h_lawSearch, .ref h_placeSearch, .ref h_drawnNight])), (h_now, .inr (8, [.int v_now_tones, .int v_now_a, .int v_now_b, .int v_now_c, .int v_now_d, .int v_now_odds, .int v_now_lines, .ref h_now_signs, .int v_now_signCount, .ref h_now_posts, .int v_now_postCount, .ref h_now_acts])), (h_now_acts, .inr (0, [.ref h_now_acts_over, .ref h_now_acts_steps, .ref h_now_acts_before, .int v_now_acts_size])), (h_now_signs, .inl (cI, 8, .inl f_now_signs)), (h_now_acts_over, .inl (cI, 61, .inl f_now_acts_over))] s.heap := hP
  refine lv_aload_n hx hb dX11_chance_0 rfl (lv_at hl 0 rfl) ?_
  refine roi (As := []) (rest := []) ⟨hx, hb, hml, hown, hts⟩ (b_X11_noStation l G D cB cI cJ cZ cS cT h0 h_tape h_reader h_now h_trial h_images h_imageKept h_slots h_night h_otherNight h_circle h_words h_lawSearch h_placeSearch h_drawnNight v_now_tones v_now_a v_now_b v_now_c v_now_d v_now_odds v_now_lines h_now_signs v_now_signCount h_now_posts v_now_postCount h_now_acts (by first | assumption | omega | decide) (by first | assumption | omega | decide)) (cvB (n := 0) (inr22 _ (List.mem_of_getElem? (i := 11) rfl)) (inr22 _ (List.mem_of_getElem? (i := 12) rfl)) (inr22 _ (List.mem_of_getElem? (i := 13) rfl)) (inr1 _ (List.mem_of_getElem? (i := 2) rfl)) (inr22 _ (List.mem_of_getElem? (i := 14) rfl)) (by decide +kernel) hts rfl rfl ⟨Nat.le_of_ble_eq_true rfl, Nat.le_of_ble_eq_true rfl⟩) 0 11 rfl rfl rfl (hP.sub [0, 1] rfl) hK hN hT rfl hl.1 rfl (Nat.le_of_ble_eq_true rfl) ⟨Nat.le_of_ble_eq_true rfl, Nat.le_of_ble_eq_true rfl⟩ dX11_chance_1 (fun r_1 h_2 => ?_)
  have h_2 : (r_1 = 0 ∨ r_1 = 1) := h_2
  have i_3 := h_2
  have ar_1 : 0 ≤ r_1.toInt ∧ r_1.toInt ≤ 1 := by rcases i_3 with h | h <;> rw [h] <;> decide
  refine lv_if_ne (tgt := 29) hx hb dX11_chance_4 (by decide) (fun c_4 => ?_) (fun c_4 => ?_)
  · have c_4 : ¬ r_1.toInt = 0 := ci_ne_t c_4
    have b_r_1 := i32b r_1
    refine lv_ldc2 hx hb hown (hts _ (inr64 _ (List.mem_of_getElem? (i := 2) rfl))) dX11_chance_29 ?_
    exact ret _ _ _ dX11_chance_32 trivial
  · have c_4 : r_1.toInt = 0 := ci_ne_f c_4
    have b_r_1 := i32b r_1
    refine lv_iload_n hx hb dX11_chance_7 rfl (lv_at hl 1 rfl) ?_
    have b_v1 := i32b v1
    obtain ⟨t_5, et_5⟩ : ∃ v9 : Int64, (v1 : Int32).toInt64 = v9 := ⟨_, rfl⟩
    refine lv_i2l (v := t_5) hx hb dX11_chance_8 et_5 ?_
    have ft_5 : t_5.toInt = v1.toInt := by rw [← et_5]; exact Int32.toInt_toInt64 _
    refine lv_lconst (v := 0) hx hb dX11_chance_9 (by decide) ?_
    refine lv_ldc2 hx hb hown (hts _ (inr64 _ (List.mem_of_getElem? (i := 1) rfl))) dX11_chance_10 ?_
    refine rosi (As := [.long t_5, .long 0, .long 17]) (rest := []) ⟨hx, hb, hml, hown, hts⟩ (b_X11_outside l G D cB cI cJ cZ cS cT t_5 0 17 ) (csB (n := 3) (inr8 _ (List.mem_of_getElem? (i := 16) rfl)) (inr8 _ (List.mem_of_getElem? (i := 17) rfl)) (inr1 _ (List.mem_of_getElem? (i := 2) rfl)) (inr8 _ (List.mem_of_getElem? (i := 18) rfl)) (by decide +kernel) hts rfl rfl ⟨Nat.le_of_ble_eq_true rfl, Nat.le_of_ble_eq_true rfl⟩) (hP.sub [] rfl) hK hN hT rfl hl.1 rfl (Nat.le_of_ble_eq_true rfl) ⟨Nat.le_of_ble_eq_true rfl, Nat.le_of_ble_eq_true rfl⟩ dX11_chance_13 (fun r_6 h_7 => ?_)
    have h_7 : ((r_6.toInt = 0 ∧ 0 ≤ t_5.toInt ∧ t_5.toInt ≤ 17) ∨ (r_6.toInt = 1 ∧ (t_5.toInt < 0 ∨ 17 < t_5.toInt))) := h_7
    have i_8 := h_7
    refine lv_if_ne (tgt := 29) hx hb dX11_chance_16 (by decide) (fun c_9 => ?_) (fun c_9 => ?_)
    · have c_9 : ¬ r_6.toInt = 0 := ci_ne_t c_9
      have b_r_6 := i32b r_6
      refine lv_ldc2 hx hb hown (hts _ (inr64 _ (List.mem_of_getElem? (i := 2) rfl))) dX11_chance_29 ?_
      exact ret _ _ _ dX11_chance_32 trivial
    · have c_9 : r_6.toInt = 0 := ci_ne_f c_9
      have b_r_6 := i32b r_6
      refine lv_iload_n hx hb dX11_chance_19 rfl (lv_at hl 2 rfl) ?_
      have b_v2 := i32b v2
      obtain ⟨t_10, et_10⟩ : ∃ v9 : Int64, (v2 : Int32).toInt64 = v9 := ⟨_, rfl⟩
      refine lv_i2l (v := t_10) hx hb dX11_chance_20 et_10 ?_
      have ft_10 : t_10.toInt = v2.toInt := by rw [← et_10]; exact Int32.toInt_toInt64 _
      refine lv_lconst (v := 0) hx hb dX11_chance_21 (by decide) ?_
      refine lv_lconst (v := 1) hx hb dX11_chance_22 (by decide) ?_
      refine rosi (As := [.long t_10, .long 0, .long 1]) (rest := []) ⟨hx, hb, hml, hown, hts⟩ (b_X11_outside l G D cB cI cJ cZ cS cT t_10 0 1 ) (csB (n := 3) (inr8 _ (List.mem_of_getElem? (i := 16) rfl)) (inr8 _ (List.mem_of_getElem? (i := 17) rfl)) (inr1 _ (List.mem_of_getElem? (i := 2) rfl)) (inr8 _ (List.mem_of_getElem? (i := 18) rfl)) (by decide +kernel) hts rfl rfl ⟨Nat.le_of_ble_eq_true rfl, Nat.le_of_ble_eq_true rfl⟩) (hP.sub [] rfl) hK hN hT rfl hl.1 rfl (Nat.le_of_ble_eq_true rfl) ⟨Nat.le_of_ble_eq_true rfl, Nat.le_of_ble_eq_true rfl⟩ dX11_chance_23 (fun r_11 h_12 => ?_)
      have h_12 : ((r_11.toInt = 0 ∧ 0 ≤ t_10.toInt ∧ t_10.toInt ≤ 1) ∨ (r_11.toInt = 1 ∧ (t_10.toInt < 0 ∨ 1 < t_10.toInt))) := h_12
      have i_13 := h_12
      refine lv_if_eq (tgt := 33) hx hb dX11_chance_26 (by decide) (fun c_14 => ?_) (fun c_14 => ?_)
      · have c_14 : r_11.toInt = 0 := ci_eq_t c_14
        have b_r_11 := i32b r_11
        refine lv_bipush (v := 10) hx hb dX11_chance_33 (by decide) ?_
        refine lv_aload_n hx hb dX11_chance_35 rfl (lv_at hl 0 rfl) ?_
        refine va_get (D := D) (ci := 11) (v := .ref h_now) (C := RX11) (T := TX11) (N := 14) hx hb hts inlX11 hown hK hP 0 rfl rfl 2 (by decide) (hts _ (inr2 _ (List.mem_of_getElem? (i := 0) rfl))) (fun _ h9 => h9) rfl dX11_chance_36 ?_
        refine roi (As := []) (rest := [.int 10]) ⟨hx, hb, hml, hown, hts⟩ (b_X8_odds l G D cB cI cJ cZ cS cT h_now v_now_tones v_now_a v_now_b v_now_c v_now_d v_now_odds v_now_lines h_now_signs v_now_signCount h_now_posts v_now_postCount h_now_acts (by first | assumption | omega | decide) (by first | assumption | omega | decide)) (cvB (n := 0) (inr64 _ (List.mem_of_getElem? (i := 3) rfl)) (inr64 _ (List.mem_of_getElem? (i := 4) rfl)) (inr64 _ (List.mem_of_getElem? (i := 5) rfl)) (inr1 _ (List.mem_of_getElem? (i := 23) rfl)) (inr64 _ (List.mem_of_getElem? (i := 6) rfl)) (by decide +kernel) hts rfl rfl ⟨Nat.le_of_ble_eq_true rfl, Nat.le_of_ble_eq_true rfl⟩) 0 8 rfl rfl rfl (hP.sub [1] rfl) hK hN hT rfl hl.1 rfl (Nat.le_of_ble_eq_true rfl) ⟨Nat.le_of_ble_eq_true rfl, Nat.le_of_ble_eq_true rfl⟩ dX11_chance_39 (fun r_15 h_16 => ?_)
        have h_16 : (r_15 = v_now_odds) := h_16
        have i_17 := h_16
        obtain rfl := i_17.symm
        obtain ⟨t_18, et_18⟩ : ∃ v9 : Int32, 10 - v_now_odds = v9 := ⟨_, rfl⟩
        refine z_isub (v := t_18) hx hb dX11_chance_42 et_18 ?_
        refine lv_istore_n (lv' := [(3, .int t_18), (0, .ref h0), (1, .int v1), (2, .int v2)]) hx hb dX11_chance_43 rfl hl (by decide) rfl (fun ls hl => ?_)
        refine lv_iload_n hx hb dX11_chance_44 rfl (lv_at hl 0 rfl) ?_
        refine lv_bipush (v := 10) hx hb dX11_chance_45 (by decide) ?_
        refine rosi (As := [.int t_18, .int 10]) (rest := []) ⟨hx, hb, hml, hown, hts⟩ (b_X11_commonDivisor l G D cB cI cJ cZ cS cT t_18 10 ) (csB (n := 2) (inr64 _ (List.mem_of_getElem? (i := 7) rfl)) (inr64 _ (List.mem_of_getElem? (i := 8) rfl)) (inr1 _ (List.mem_of_getElem? (i := 2) rfl)) (inr64 _ (List.mem_of_getElem? (i := 9) rfl)) (by decide +kernel) hts rfl rfl ⟨Nat.le_of_ble_eq_true rfl, Nat.le_of_ble_eq_true rfl⟩) (hP.sub [] rfl) hK hN hT rfl hl.1 rfl (Nat.le_of_ble_eq_true rfl) ⟨Nat.le_of_ble_eq_true rfl, Nat.le_of_ble_eq_true rfl⟩ dX11_chance_47 (fun r_19 h_20 => ?_)
        refine lv_istore (lv' := [(4, .int r_19), (3, .int t_18), (0, .ref h0), (1, .int v1), (2, .int v2)]) hx hb dX11_chance_50 hl (by decide) rfl (fun ls hl => ?_)
        refine lv_iload hx hb dX11_chance_52 (lv_at hl 0 rfl) ?_
        refine lv_if_gt (tgt := 61) hx hb dX11_chance_54 (by decide) (fun c_21 => ?_) (fun c_21 => ?_)
        · have c_21 : 0 < r_19.toInt := ci_gt_t c_21
          have b_r_19 := i32b r_19
          refine lv_aload_n hx hb dX11_chance_61 rfl (lv_at hl 2 rfl) ?_
          refine va_get (D := D) (ci := 11) (v := .ref h_now) (C := RX11) (T := TX11) (N := 14) hx hb hts inlX11 hown hK hP 0 rfl rfl 2 (by decide) (hts _ (inr2 _ (List.mem_of_getElem? (i := 0) rfl))) (fun _ h9 => h9) rfl dX11_chance_62 ?_
          refine lv_iload_n hx hb dX11_chance_65 rfl (lv_at hl 3 rfl) ?_
          refine roi (As := [.int v1]) (rest := []) ⟨hx, hb, hml, hown, hts⟩ (b_X8_gapsAtRisk l G D cB cI cJ cZ cS cT h_now v_now_tones v_now_a v_now_b v_now_c v_now_d v_now_odds v_now_lines h_now_signs v_now_signCount h_now_posts v_now_postCount h_now_acts h_now_acts_over h_now_acts_steps h_now_acts_before v_now_acts_size f_now_signs f_now_acts_over v1 (by first | assumption | omega | decide) (by first | assumption | omega | decide) (by first | assumption | omega | decide)) (cvB (n := 1) (inr64 _ (List.mem_of_getElem? (i := 10) rfl)) (inr64 _ (List.mem_of_getElem? (i := 11) rfl)) (inr64 _ (List.mem_of_getElem? (i := 12) rfl)) (inr1 _ (List.mem_of_getElem? (i := 23) rfl)) (inr64 _ (List.mem_of_getElem? (i := 13) rfl)) (by decide +kernel) hts rfl rfl ⟨Nat.le_of_ble_eq_true rfl, Nat.le_of_ble_eq_true rfl⟩) 0 8 rfl rfl rfl (hP.sub [1, 2, 3, 4] rfl) hK hN hT rfl hl.1 rfl (Nat.le_of_ble_eq_true rfl) ⟨Nat.le_of_ble_eq_true rfl, Nat.le_of_ble_eq_true rfl⟩ dX11_chance_66 (fun r_22 h_23 => ?_)
          refine lv_istore (lv' := [(5, .int r_22), (4, .int r_19), (3, .int t_18), (0, .ref h0), (1, .int v1), (2, .int v2)]) hx hb dX11_chance_69 hl (by decide) rfl (fun ls hl => ?_)
          refine lv_iload_n hx hb dX11_chance_71 rfl (lv_at hl 5 rfl) ?_
          refine lv_if_ne (tgt := 87) hx hb dX11_chance_72 (by decide) (fun c_24 => ?_) (fun c_24 => ?_)
          · have c_24 : ¬ v2.toInt = 0 := ci_ne_t c_24
            refine lv_bipush (v := 10) hx hb dX11_chance_87 (by decide) ?_
            refine lv_iload hx hb dX11_chance_89 (lv_at hl 1 rfl) ?_
            obtain ⟨t_25, et_25⟩ : ∃ v9 : Int32, 10 / r_19 = v9 := ⟨_, rfl⟩
            refine z_idiv (v := t_25) hx hb dX11_chance_91 (ne0T (by omega)) et_25 ?_
            have ft_25 := divT (by decide) (by omega) et_25
            refine lv_iload hx hb dX11_chance_92 (lv_at hl 0 rfl) ?_
            refine rosl (As := [.int t_25, .int r_22]) (rest := []) ⟨hx, hb, hml, hown, hts⟩ (b_X11_power l G D cB cI cJ cZ cS cT t_25 r_22 ) (csB (n := 2) (inr64 _ (List.mem_of_getElem? (i := 15) rfl)) (inr64 _ (List.mem_of_getElem? (i := 16) rfl)) (inr1 _ (List.mem_of_getElem? (i := 2) rfl)) (inr64 _ (List.mem_of_getElem? (i := 17) rfl)) (by decide +kernel) hts rfl rfl ⟨Nat.le_of_ble_eq_true rfl, Nat.le_of_ble_eq_true rfl⟩) (hP.sub [] rfl) hK hN hT rfl hl.1 rfl (Nat.le_of_ble_eq_true rfl) ⟨Nat.le_of_ble_eq_true rfl, Nat.le_of_ble_eq_true rfl⟩ dX11_chance_94 (fun r_26 h_27 => ?_)
            exact ret _ _ _ dX11_chance_97 trivial
          · have c_24 : v2.toInt = 0 := ci_ne_f c_24
            refine lv_iload_n hx hb dX11_chance_75 rfl (lv_at hl 2 rfl) ?_
            refine lv_iload hx hb dX11_chance_76 (lv_at hl 1 rfl) ?_
            obtain ⟨t_28, et_28⟩ : ∃ v9 : Int32, t_18 / r_19 = v9 := ⟨_, rfl⟩
            refine z_idiv (v := t_28) hx hb dX11_chance_78 (ne0T (by omega)) et_28 ?_
            refine lv_iload hx hb dX11_chance_79 (lv_at hl 0 rfl) ?_
            refine rosl (As := [.int t_28, .int r_22]) (rest := []) ⟨hx, hb, hml, hown, hts⟩ (b_X11_power l G D cB cI cJ cZ cS cT t_28 r_22 ) (csB (n := 2) (inr64 _ (List.mem_of_getElem? (i := 15) rfl)) (inr64 _ (List.mem_of_getElem? (i := 16) rfl)) (inr1 _ (List.mem_of_getElem? (i := 2) rfl)) (inr64 _ (List.mem_of_getElem? (i := 17) rfl)) (by decide +kernel) hts rfl rfl ⟨Nat.le_of_ble_eq_true rfl, Nat.le_of_ble_eq_true rfl⟩) (hP.sub [] rfl) hK hN hT rfl hl.1 rfl (Nat.le_of_ble_eq_true rfl) ⟨Nat.le_of_ble_eq_true rfl, Nat.le_of_ble_eq_true rfl⟩ dX11_chance_81 (fun r_29 h_30 => ?_)
            refine lv_goto (tgt := 97) hx hb dX11_chance_84 (by decide) ?_
            exact ret _ _ _ dX11_chance_97 trivial
        · have c_21 : r_19.toInt ≤ 0 := ci_gt_f c_21
          have b_r_19 := i32b r_19
          refine lv_ldc2 hx hb hown (hts _ (inr64 _ (List.mem_of_getElem? (i := 2) rfl))) dX11_chance_57 ?_
          exact ret _ _ _ dX11_chance_60 trivial
      · have c_14 : ¬ r_11.toInt = 0 := ci_eq_f c_14
        have b_r_11 := i32b r_11
        refine lv_ldc2 hx hb hown (hts _ (inr64 _ (List.mem_of_getElem? (i := 2) rfl))) dX11_chance_29 ?_
        exact ret _ _ _ dX11_chance_32 trivial

set_option maxHeartbeats 4000000 in
set_option maxRecDepth 100000 in
theorem b_X11_chanceIsAtLeast (l : Launch) (G : Gho) (D : va_G) (cB cI cJ cZ cS cT : ClassId) (h0 : Nat) (h_tape : Nat) (h_reader : Nat) (h_now : Nat) (h_trial : Nat) (h_images : Nat) (h_imageKept : Nat) (h_slots : Nat) (h_night : Nat) (h_otherNight : Nat) (h_circle : Nat) (h_words : Nat) (h_lawSearch : Nat) (h_placeSearch : Nat) (h_drawnNight : Nat) (v_now_tones : Int32) (v_now_a : Int32) (v_now_b : Int32) (v_now_c : Int32) (v_now_d : Int32) (v_now_odds : Int32) (v_now_lines : Int32) (h_now_signs : Nat) (v_now_signCount : Int32) (h_now_posts : Nat) (v_now_postCount : Int32) (h_now_acts : Nat) (v1 : Int32) (v2 : Int32) (iv_now_signCount : 0 ≤ v_now_signCount.toInt ∧ v_now_signCount.toInt ≤ 8) (iv_now_postCount : 0 ≤ v_now_postCount.toInt ∧ v_now_postCount.toInt ≤ 5) : Met l yX11_chanceIsAtLeast (Cond.code yX11_chanceIsAtLeast cX11_chanceIsAtLeast 5 (some .boolean) :: wsL_law) ({ frames := 1, cells := 0, slots := 0, locals := 24 }) (roP G D (tyL cB cI cJ cZ cS cT) [(h0, .inr (11, [.ref h_tape, .ref h_reader, .ref h_now, .ref h_trial, .ref h_images, .ref h_imageKept, .ref h_slots, .ref h_night, .ref h_otherNight, .ref h_circle, .ref h_words, .ref h_lawSearch, .ref h_placeSearch, .ref h_drawnNight])), (h_now, .inr (8, [.int v_now_tones, .int v_now_a, .int v_now_b, .int v_now_c, .int v_now_d, .int v_now_odds, .int v_now_lines, .ref h_now_signs, .int v_now_signCount, .ref h_now_posts, .int v_now_postCount, .ref h_now_acts]))] [.ref h0, .int v1, .int v2]) (vp_Si (fun r : Int32 => (r = 0 ∨ r = 1))) 0 0 (fun _ => False) := by
  refine metROZ (own := RX11) (by decide) rfl (fun r h => h) ?_
  intro p e s m below meth c Q C hP ret
  obtain ⟨hx, hb, hml, hown, hts, hK, hN, hT⟩ := id C
  have hl := lv_entry ([.ref h0, .int v1, .int v2]) (n := 5) (Nat.le_of_ble_eq_true rfl)
  rw [lg_entry_eq]
  generalize (lg_sl ([.ref h0, .int v1, .int v2]) ++ List.replicate (5 - (lg_sl ([.ref h0, .int v1, .int v2])).length) Slot.unset).toArray = ls at hl ⊢
  have hl : lv_has ls 5 [(0, .ref h0), (1, .int v1), (2, .int v2)] := hl
  have hP : va_P D vwCl [(h0, .inr (11, [.ref h_tape, .ref h_reader, .ref h_now, .ref h_trial, .ref h_images, .ref h_imageKept, .ref h_slots, .ref h_night, .ref h_otherNight, .ref h_circle, .ref h_words, .ref h_lawSearch, .ref h_placeSearch, .ref h_drawnNight])), (h_now, .inr (8, [.int v_now_tones, .int v_now_a, .int v_now_b, .int v_now_c, .int v_now_d, .int v_now_odds, .int v_now_lines, .ref h_now_signs, .int v_now_signCount, .ref h_now_posts, .int v_now_postCount, .ref h_now_acts]))] s.heap := hP
  refine lv_bipush (v := 10) hx hb dX11_chanceIsAtLeast_0 (by decide) ?_
  refine lv_aload_n hx hb dX11_chanceIsAtLeast_2 rfl (lv_at hl 0 rfl) ?_
  refine va_get (D := D) (ci := 11) (v := .ref h_now) (C := RX11) (T := TX11) (N := 14) hx hb hts inlX11 hown hK hP 0 rfl rfl 2 (by decide) (hts _ (inr2 _ (List.mem_of_getElem? (i := 0) rfl))) (fun _ h9 => h9) rfl dX11_chanceIsAtLeast_3 ?_
  refine roi (As := []) (rest := [.int 10]) ⟨hx, hb, hml, hown, hts⟩ (b_X8_odds l G D cB cI cJ cZ cS cT h_now v_now_tones v_now_a v_now_b v_now_c v_now_d v_now_odds v_now_lines h_now_signs v_now_signCount h_now_posts v_now_postCount h_now_acts (by first | assumption | omega | decide) (by first | assumption | omega | decide)) (cvB (n := 0) (inr64 _ (List.mem_of_getElem? (i := 3) rfl)) (inr64 _ (List.mem_of_getElem? (i := 4) rfl)) (inr64 _ (List.mem_of_getElem? (i := 5) rfl)) (inr1 _ (List.mem_of_getElem? (i := 23) rfl)) (inr64 _ (List.mem_of_getElem? (i := 6) rfl)) (by decide +kernel) hts rfl rfl ⟨Nat.le_of_ble_eq_true rfl, Nat.le_of_ble_eq_true rfl⟩) 0 8 rfl rfl rfl (hP.sub [1] rfl) hK hN hT rfl hl.1 rfl (Nat.le_of_ble_eq_true rfl) ⟨Nat.le_of_ble_eq_true rfl, Nat.le_of_ble_eq_true rfl⟩ dX11_chanceIsAtLeast_6 (fun r_1 h_2 => ?_)
  have h_2 : (r_1 = v_now_odds) := h_2
  have i_3 := h_2
  obtain rfl := i_3.symm
  obtain ⟨t_4, et_4⟩ : ∃ v9 : Int32, 10 - v_now_odds = v9 := ⟨_, rfl⟩
  refine z_isub (v := t_4) hx hb dX11_chanceIsAtLeast_9 et_4 ?_
  refine lv_iload_n hx hb dX11_chanceIsAtLeast_10 rfl (lv_at hl 2 rfl) ?_
  refine rosl (As := [.int t_4, .int v2]) (rest := []) ⟨hx, hb, hml, hown, hts⟩ (b_X11_power l G D cB cI cJ cZ cS cT t_4 v2 ) (csB (n := 2) (inr64 _ (List.mem_of_getElem? (i := 15) rfl)) (inr64 _ (List.mem_of_getElem? (i := 16) rfl)) (inr1 _ (List.mem_of_getElem? (i := 2) rfl)) (inr64 _ (List.mem_of_getElem? (i := 17) rfl)) (by decide +kernel) hts rfl rfl ⟨Nat.le_of_ble_eq_true rfl, Nat.le_of_ble_eq_true rfl⟩) (hP.sub [] rfl) hK hN hT rfl hl.1 rfl (Nat.le_of_ble_eq_true rfl) ⟨Nat.le_of_ble_eq_true rfl, Nat.le_of_ble_eq_true rfl⟩ dX11_chanceIsAtLeast_11 (fun r_5 h_6 => ?_)
  refine lv_lstore_n (lv' := [(3, .long r_5), (0, .ref h0), (1, .int v1), (2, .int v2)]) hx hb dX11_chanceIsAtLeast_14 rfl hl (by decide) rfl (fun ls hl => ?_)
  refine lv_iload_n hx hb dX11_chanceIsAtLeast_15 rfl (lv_at hl 3 rfl) ?_
  refine lv_iconst (v := 2) hx hb dX11_chanceIsAtLeast_16 (by decide) ?_
  refine lv_icmp_lt (tgt := 42) hx hb dX11_chanceIsAtLeast_17 (by decide) (fun c_7 => ?_) (fun c_7 => ?_)
  · have c_7 : v2.toInt < 2 := ci_lt_t c_7
    have b_v2 := i32b v2
    refine lv_lload_n hx hb dX11_chanceIsAtLeast_42 rfl (lv_at hl 0 rfl) ?_
    refine lv_ldc2 hx hb hown (hts _ (inr65 _ (List.mem_of_getElem? (i := 14) rfl))) dX11_chanceIsAtLeast_43 ?_
    obtain ⟨t_8, et_8⟩ : ∃ v9 : Int64, r_5 * 100 = v9 := ⟨_, rfl⟩
    refine z_lmul (v := t_8) hx hb dX11_chanceIsAtLeast_46 et_8 ?_
    refine lv_iload_n hx hb dX11_chanceIsAtLeast_47 rfl (lv_at hl 2 rfl) ?_
    have b_v1 := i32b v1
    obtain ⟨t_9, et_9⟩ : ∃ v9 : Int64, (v1 : Int32).toInt64 = v9 := ⟨_, rfl⟩
    refine lv_i2l (v := t_9) hx hb dX11_chanceIsAtLeast_48 et_9 ?_
    have ft_9 : t_9.toInt = v1.toInt := by rw [← et_9]; exact Int32.toInt_toInt64 _
    refine lv_bipush (v := 10) hx hb dX11_chanceIsAtLeast_49 (by decide) ?_
    refine lv_iload_n hx hb dX11_chanceIsAtLeast_51 rfl (lv_at hl 3 rfl) ?_
    refine rosl (As := [.int 10, .int v2]) (rest := [.long t_9, .long t_8]) ⟨hx, hb, hml, hown, hts⟩ (b_X11_power l G D cB cI cJ cZ cS cT 10 v2 ) (csB (n := 2) (inr64 _ (List.mem_of_getElem? (i := 15) rfl)) (inr64 _ (List.mem_of_getElem? (i := 16) rfl)) (inr1 _ (List.mem_of_getElem? (i := 2) rfl)) (inr64 _ (List.mem_of_getElem? (i := 17) rfl)) (by decide +kernel) hts rfl rfl ⟨Nat.le_of_ble_eq_true rfl, Nat.le_of_ble_eq_true rfl⟩) (hP.sub [] rfl) hK hN hT rfl hl.1 rfl (Nat.le_of_ble_eq_true rfl) ⟨Nat.le_of_ble_eq_true rfl, Nat.le_of_ble_eq_true rfl⟩ dX11_chanceIsAtLeast_52 (fun r_10 h_11 => ?_)
    obtain ⟨t_12, et_12⟩ : ∃ v9 : Int64, t_9 * r_10 = v9 := ⟨_, rfl⟩
    refine z_lmul (v := t_12) hx hb dX11_chanceIsAtLeast_55 et_12 ?_
    obtain ⟨t_13, et_13⟩ : ∃ v9 : Int32, lg_cmp t_8 t_12 = v9 := ⟨_, rfl⟩
    refine z_lcmp (v := t_13) hx hb dX11_chanceIsAtLeast_56 et_13 ?_
    refine lv_if_lt (tgt := 64) hx hb dX11_chanceIsAtLeast_57 (by decide) (fun c_14 => ?_) (fun c_14 => ?_)
    · have c_14 : t_8.toInt < t_12.toInt := cl_lt_t et_13 c_14
      refine lv_iconst (v := 0) hx hb dX11_chanceIsAtLeast_64 (by decide) ?_
      have hr9 : (0 : Int32).toInt = 0 := by decide
      exact ret _ _ _ dX11_chanceIsAtLeast_65 (show ((0 : Int32) = 0 ∨ (0 : Int32) = 1) from (Or.inl rfl))
    · have c_14 : t_12.toInt ≤ t_8.toInt := cl_lt_f et_13 c_14
      refine lv_iconst (v := 1) hx hb dX11_chanceIsAtLeast_60 (by decide) ?_
      refine lv_goto (tgt := 65) hx hb dX11_chanceIsAtLeast_61 (by decide) ?_
      have hr9 : (1 : Int32).toInt = 1 := by decide
      exact ret _ _ _ dX11_chanceIsAtLeast_65 (show ((1 : Int32) = 0 ∨ (1 : Int32) = 1) from (Or.inr rfl))
  · have c_7 : 2 ≤ v2.toInt := ci_lt_f c_7
    have b_v2 := i32b v2
    refine lv_lload_n hx hb dX11_chanceIsAtLeast_20 rfl (lv_at hl 0 rfl) ?_
    refine lv_iload_n hx hb dX11_chanceIsAtLeast_21 rfl (lv_at hl 2 rfl) ?_
    have b_v1 := i32b v1
    obtain ⟨t_15, et_15⟩ : ∃ v9 : Int64, (v1 : Int32).toInt64 = v9 := ⟨_, rfl⟩
    refine lv_i2l (v := t_15) hx hb dX11_chanceIsAtLeast_22 et_15 ?_
    have ft_15 : t_15.toInt = v1.toInt := by rw [← et_15]; exact Int32.toInt_toInt64 _
    refine lv_bipush (v := 10) hx hb dX11_chanceIsAtLeast_23 (by decide) ?_
    refine lv_iload_n hx hb dX11_chanceIsAtLeast_25 rfl (lv_at hl 3 rfl) ?_
    refine lv_iconst (v := 2) hx hb dX11_chanceIsAtLeast_26 (by decide) ?_
    obtain ⟨t_16, et_16⟩ : ∃ v9 : Int32, v2 - 2 = v9 := ⟨_, rfl⟩
    refine z_isub (v := t_16) hx hb dX11_chanceIsAtLeast_27 et_16 ?_
    have ft_16 : t_16.toInt = v2.toInt - 2 := subT (a := v2.toInt) (b := 2) rfl (by decide) et_16 (by omega) (by omega)
    refine rosl (As := [.int 10, .int t_16]) (rest := [.long t_15, .long r_5]) ⟨hx, hb, hml, hown, hts⟩ (b_X11_power l G D cB cI cJ cZ cS cT 10 t_16 ) (csB (n := 2) (inr64 _ (List.mem_of_getElem? (i := 15) rfl)) (inr64 _ (List.mem_of_getElem? (i := 16) rfl)) (inr1 _ (List.mem_of_getElem? (i := 2) rfl)) (inr64 _ (List.mem_of_getElem? (i := 17) rfl)) (by decide +kernel) hts rfl rfl ⟨Nat.le_of_ble_eq_true rfl, Nat.le_of_ble_eq_true rfl⟩) (hP.sub [] rfl) hK hN hT rfl hl.1 rfl (Nat.le_of_ble_eq_true rfl) ⟨Nat.le_of_ble_eq_true rfl, Nat.le_of_ble_eq_true rfl⟩ dX11_chanceIsAtLeast_28 (fun r_17 h_18 => ?_)
    obtain ⟨t_19, et_19⟩ : ∃ v9 : Int64, t_15 * r_17 = v9 := ⟨_, rfl⟩
    refine z_lmul (v := t_19) hx hb dX11_chanceIsAtLeast_31 et_19 ?_
    obtain ⟨t_20, et_20⟩ : ∃ v9 : Int32, lg_cmp r_5 t_19 = v9 := ⟨_, rfl⟩
    refine z_lcmp (v := t_20) hx hb dX11_chanceIsAtLeast_32 et_20 ?_
    refine lv_if_lt (tgt := 40) hx hb dX11_chanceIsAtLeast_33 (by decide) (fun c_21 => ?_) (fun c_21 => ?_)
    · have c_21 : r_5.toInt < t_19.toInt := cl_lt_t et_20 c_21
      refine lv_iconst (v := 0) hx hb dX11_chanceIsAtLeast_40 (by decide) ?_
      have hr9 : (0 : Int32).toInt = 0 := by decide
      exact ret _ _ _ dX11_chanceIsAtLeast_41 (show ((0 : Int32) = 0 ∨ (0 : Int32) = 1) from (Or.inl rfl))
    · have c_21 : t_19.toInt ≤ r_5.toInt := cl_lt_f et_20 c_21
      refine lv_iconst (v := 1) hx hb dX11_chanceIsAtLeast_36 (by decide) ?_
      refine lv_goto (tgt := 41) hx hb dX11_chanceIsAtLeast_37 (by decide) ?_
      have hr9 : (1 : Int32).toInt = 1 := by decide
      exact ret _ _ _ dX11_chanceIsAtLeast_41 (show ((1 : Int32) = 0 ∨ (1 : Int32) = 1) from (Or.inr rfl))

set_option maxHeartbeats 4000000 in
set_option maxRecDepth 100000 in
theorem b_X11_sure_l25 {p : Program} {l : Launch} {e : Env} {s : State} {m : MethodId} {args : Array Value} {below : List Frame} {meth : Method} {c : Code} {Q : State → Prop} {G : Gho} {D : va_G} {cB cI cJ cZ cS cT : ClassId} (h0 : Nat) (h_tape : Nat) (h_reader : Nat) (h_now : Nat) (h_trial : Nat) (h_images : Nat) (h_imageKept : Nat) (h_slots : Nat) (h_night : Nat) (h_otherNight : Nat) (h_circle : Nat) (h_words : Nat) (h_lawSearch : Nat) (h_placeSearch : Nat) (h_drawnNight : Nat) (v_now_tones : Int32) (v_now_a : Int32) (v_now_b : Int32) (v_now_c : Int32) (v_now_d : Int32) (v_now_odds : Int32) (v_now_lines : Int32) (h_now_signs : Nat) (v_now_signCount : Int32) (h_now_posts : Nat) (v_now_postCount : Int32) (h_now_acts : Nat) (h_now_acts_over : Nat) (h_now_acts_steps : Nat) (h_now_acts_before : Nat) (v_now_acts_size : Int32) (f_now_signs : Nat → Int32) (f_now_acts_over : Nat → Int32) (v1 : Int32) (iv_now_signCount : 0 ≤ v_now_signCount.toInt ∧ v_now_signCount.toInt ≤ 8) (iv_now_postCount : 0 ≤ v_now_postCount.toInt ∧ v_now_postCount.toInt ≤ 5) (iv_now_acts_size : 0 ≤ v_now_acts_size.toInt ∧ v_now_acts_size.toInt ≤ 30) (C : Cx p s m args c RX11 cX11_sure 3 G D (tyL cB cI cJ cZ cS cT)) (hP : va_P D vwCl [(h0, .inr (11, [.ref h_tape, .ref h_reader, .ref h_now, .ref h_trial, .ref h_images, .ref h_imageKept, .ref h_slots, .ref h_night, .ref h_otherNight, .ref h_circle, .ref h_words, .ref h_lawSearch, .ref h_placeSearch, .ref h_drawnNight])), (h_now, .inr (8, [.int v_now_tones, .int v_now_a, .int v_now_b, .int v_now_c, .int v_now_d, .int v_now_odds, .int v_now_lines, .ref h_now_signs, .int v_now_signCount, .ref h_now_posts, .int v_now_postCount, .ref h_now_acts])), (h_now_acts, .inr (0, [.ref h_now_acts_over, .ref h_now_acts_steps, .ref h_now_acts_before, .int v_now_acts_size])), (h_now_signs, .inl (cI, 8, .inl f_now_signs)), (h_now_acts_over, .inl (cI, 61, .inl f_now_acts_over))] s.heap) (ret : RroI p l e ({ frames := 2, cells := 0, slots := 0, locals := 48 }) s m args below meth c cX11_sure (fun r : Int32 => True) Q) :
    ∀ (N : Nat) (l25_2 : Int32) (ls : Array Slot), (-1) ≤ l25_2.toInt ∧ l25_2.toInt ≤ 17 → (l25_2.toInt - 0 + 1).toNat < N → lv_has ls 3 [(2, .int l25_2), (0, .ref h0), (1, .int v1)] → W p l e ({ frames := 2, cells := 0, slots := 0, locals := 48 }) s m args below meth c s.heap [] 0 0 Q (F0 m 25 ls []) := by
  obtain ⟨hx, hb, hml, hown, hts, hK, hN, hT⟩ := id C
  intro N
  induction N with
  | zero =>
    intro l25_2 ls kl25_2 hM_25 hl
    omega
  | succ N_25 ih_25 =>
    intro l25_2 ls kl25_2 hM_25 hl
    have b_l25_2 := i32b l25_2
    refine lv_iload_n hx hb dX11_sure_25 rfl (lv_at hl 0 rfl) ?_
    refine lv_if_lt (tgt := 53) hx hb dX11_sure_26 (by decide) (fun c_10 => ?_) (fun c_10 => ?_)
    · have c_10 : l25_2.toInt < 0 := ci_lt_t c_10
      refine lv_iconst (v := (-1)) hx hb dX11_sure_53 (by decide) ?_
      exact ret _ _ _ dX11_sure_54 trivial
    · have c_10 : 0 ≤ l25_2.toInt := ci_lt_f c_10
      refine lv_aload_n hx hb dX11_sure_29 rfl (lv_at hl 1 rfl) ?_
      refine lv_iload_n hx hb dX11_sure_30 rfl (lv_at hl 2 rfl) ?_
      refine lv_aload_n hx hb dX11_sure_31 rfl (lv_at hl 1 rfl) ?_
      refine va_get (D := D) (ci := 11) (v := .ref h_now) (C := RX11) (T := TX11) (N := 14) hx hb hts inlX11 hown hK hP 0 rfl rfl 2 (by decide) (hts _ (inr2 _ (List.mem_of_getElem? (i := 0) rfl))) (fun _ h9 => h9) rfl dX11_sure_32 ?_
      refine lv_iload_n hx hb dX11_sure_35 rfl (lv_at hl 0 rfl) ?_
      refine roi (As := [.int l25_2]) (rest := [.int v1, .ref h0]) ⟨hx, hb, hml, hown, hts⟩ (b_X8_gapsAtRisk l G D cB cI cJ cZ cS cT h_now v_now_tones v_now_a v_now_b v_now_c v_now_d v_now_odds v_now_lines h_now_signs v_now_signCount h_now_posts v_now_postCount h_now_acts h_now_acts_over h_now_acts_steps h_now_acts_before v_now_acts_size f_now_signs f_now_acts_over l25_2 (by first | assumption | omega | decide) (by first | assumption | omega | decide) (by first | assumption | omega | decide)) (cvB (n := 1) (inr64 _ (List.mem_of_getElem? (i := 10) rfl)) (inr64 _ (List.mem_of_getElem? (i := 11) rfl)) (inr64 _ (List.mem_of_getElem? (i := 12) rfl)) (inr1 _ (List.mem_of_getElem? (i := 23) rfl)) (inr64 _ (List.mem_of_getElem? (i := 13) rfl)) (by decide +kernel) hts rfl rfl ⟨Nat.le_of_ble_eq_true rfl, Nat.le_of_ble_eq_true rfl⟩) 0 8 rfl rfl rfl (hP.sub [1, 2, 3, 4] rfl) hK hN hT rfl hl.1 rfl (Nat.le_of_ble_eq_true rfl) ⟨Nat.le_of_ble_eq_true rfl, Nat.le_of_ble_eq_true rfl⟩ dX11_sure_36 (fun r_11 h_12 => ?_)
      refine roi (As := [.int v1, .int r_11]) (rest := []) ⟨hx, hb, hml, hown, hts⟩ (b_X11_chanceIsAtLeast l G D cB cI cJ cZ cS cT h0 h_tape h_reader h_now h_trial h_images h_imageKept h_slots h_night h_otherNight h_circle h_words h_lawSearch h_placeSearch h_drawnNight v_now_tones v_now_a v_now_b v_now_c v_now_d v_now_odds v_now_lines h_now_signs v_now_signCount h_now_posts v_now_postCount h_now_acts v1 r_11 (by first | assumption | omega | decide) (by first | assumption | omega | decide)) (cvB (n := 2) (inr65 _ (List.mem_of_getElem? (i := 15) rfl)) (inr65 _ (List.mem_of_getElem? (i := 16) rfl)) (inr65 _ (List.mem_of_getElem? (i := 17) rfl)) (inr1 _ (List.mem_of_getElem? (i := 2) rfl)) (inr65 _ (List.mem_of_getElem? (i := 18) rfl)) (by decide +kernel) hts rfl rfl ⟨Nat.le_of_ble_eq_true rfl, Nat.le_of_ble_eq_true rfl⟩) 0 11 rfl rfl rfl (hP.sub [0, 1] rfl) hK hN hT rfl hl.1 rfl (Nat.le_of_ble_eq_true rfl) ⟨Nat.le_of_ble_eq_true rfl, Nat.le_of_ble_eq_true rfl⟩ dX11_sure_39 (fun r_13 h_14 => ?_)
      have h_14 : (r_13 = 0 ∨ r_13 = 1) := h_14
      have i_15 := h_14
      have ar_13 : 0 ≤ r_13.toInt ∧ r_13.toInt ≤ 1 := by rcases i_15 with h | h <;> rw [h] <;> decide
      refine lv_if_eq (tgt := 47) hx hb dX11_sure_42 (by decide) (fun c_16 => ?_) (fun c_16 => ?_)
      · have c_16 : r_13.toInt = 0 := ci_eq_t c_16
        have b_r_13 := i32b r_13
        obtain ⟨t_17, et_17⟩ : ∃ v9 : Int32, l25_2 + (-1) = v9 := ⟨_, rfl⟩
        have ft_17 : t_17.toInt = l25_2.toInt + (-1) := addT (a := l25_2.toInt) (b := (-1)) rfl (by decide) et_17 (by omega) (by omega)
        refine lv_iinc (v := t_17) (lv' := [(2, .int t_17), (0, .ref h0), (1, .int v1)]) hx hb dX11_sure_47 hl (k := 0) rfl (by rw [← et_17]; rfl) (by decide) rfl (fun ls hl => ?_)
        refine lv_goto (tgt := 25) hx hb dX11_sure_50 (by decide) ?_
        exact ih_25 (t_17) _ (by first | assumption | omega | decide) (by omega) (lv_sub hl [0, 1, 2] rfl)
      · have c_16 : ¬ r_13.toInt = 0 := ci_eq_f c_16
        have b_r_13 := i32b r_13
        refine lv_iload_n hx hb dX11_sure_45 rfl (lv_at hl 0 rfl) ?_
        exact ret _ _ _ dX11_sure_46 trivial

set_option maxHeartbeats 4000000 in
set_option maxRecDepth 100000 in
theorem b_X11_sure (l : Launch) (G : Gho) (D : va_G) (cB cI cJ cZ cS cT : ClassId) (h0 : Nat) (h_tape : Nat) (h_reader : Nat) (h_now : Nat) (h_trial : Nat) (h_images : Nat) (h_imageKept : Nat) (h_slots : Nat) (h_night : Nat) (h_otherNight : Nat) (h_circle : Nat) (h_words : Nat) (h_lawSearch : Nat) (h_placeSearch : Nat) (h_drawnNight : Nat) (v_now_tones : Int32) (v_now_a : Int32) (v_now_b : Int32) (v_now_c : Int32) (v_now_d : Int32) (v_now_odds : Int32) (v_now_lines : Int32) (h_now_signs : Nat) (v_now_signCount : Int32) (h_now_posts : Nat) (v_now_postCount : Int32) (h_now_acts : Nat) (h_now_acts_over : Nat) (h_now_acts_steps : Nat) (h_now_acts_before : Nat) (v_now_acts_size : Int32) (f_now_signs : Nat → Int32) (f_now_acts_over : Nat → Int32) (v1 : Int32) (iv_now_signCount : 0 ≤ v_now_signCount.toInt ∧ v_now_signCount.toInt ≤ 8) (iv_now_postCount : 0 ≤ v_now_postCount.toInt ∧ v_now_postCount.toInt ≤ 5) (iv_now_acts_size : 0 ≤ v_now_acts_size.toInt ∧ v_now_acts_size.toInt ≤ 30) : Met l yX11_sure (Cond.code yX11_sure cX11_sure 3 (some .int) :: wsL_law) ({ frames := 2, cells := 0, slots := 0, locals := 48 }) (roP G D (tyL cB cI cJ cZ cS cT) [(h0, .inr (11, [.ref h_tape, .ref h_reader, .ref h_now, .ref h_trial, .ref h_images, .ref h_imageKept, .ref h_slots, .ref h_night, .ref h_otherNight, .ref h_circle, .ref h_words, .ref h_lawSearch, .ref h_placeSearch, .ref h_drawnNight])), (h_now, .inr (8, [.int v_now_tones, .int v_now_a, .int v_now_b, .int v_now_c, .int v_now_d, .int v_now_odds, .int v_now_lines, .ref h_now_signs, .int v_now_signCount, .ref h_now_posts, .int v_now_postCount, .ref h_now_acts])), (h_now_acts, .inr (0, [.ref h_now_acts_over, .ref h_now_acts_steps, .ref h_now_acts_before, .int v_now_acts_size])), (h_now_signs, .inl (cI, 8, .inl f_now_signs)), (h_now_acts_over, .inl (cI, 61, .inl f_now_acts_over))] [.ref h0, .int v1]) (vp_Si (fun r : Int32 => True)) 0 0 (fun _ => False) := by
  refine metRO (own := RX11) (by decide) rfl ?_
  intro p e s m below meth c Q C hP ret
  obtain ⟨hx, hb, hml, hown, hts, hK, hN, hT⟩ := id C
  have hl := lv_entry ([.ref h0, .int v1]) (n := 3) (Nat.le_of_ble_eq_true rfl)
  rw [lg_entry_eq]
  generalize (lg_sl ([.ref h0, .int v1]) ++ List.replicate (3 - (lg_sl ([.ref h0, .int v1])).length) Slot.unset).toArray = ls at hl ⊢
  have hl : lv_has ls 3 [(0, .ref h0), (1, .int v1)] := hl
  have hP : va_P D vwCl [(h0, .inr (11, [.ref h_tape, .ref h_reader, .ref h_now, .ref h_trial, .ref h_images, .ref h_imageKept, .ref h_slots, .ref h_night, .ref h_otherNight, .ref h_circle, .ref h_words, .ref h_lawSearch, .ref h_placeSearch, .ref h_drawnNight])), (h_now, .inr (8, [.int v_now_tones, .int v_now_a, .int v_now_b, .int v_now_c, .int v_now_d, .int v_now_odds, .int v_now_lines, .ref h_now_signs, .int v_now_signCount, .ref h_now_posts, .int v_now_postCount, .ref h_now_acts])), (h_now_acts, .inr (0, [.ref h_now_acts_over, .ref h_now_acts_steps, .ref h_now_acts_before, .int v_now_acts_size])), (h_now_signs, .inl (cI, 8, .inl f_now_signs)), (h_now_acts_over, .inl (cI, 61, .inl f_now_acts_over))] s.heap := hP
  refine lv_aload_n hx hb dX11_sure_0 rfl (lv_at hl 0 rfl) ?_
  refine roi (As := []) (rest := []) ⟨hx, hb, hml, hown, hts⟩ (b_X11_noStation l G D cB cI cJ cZ cS cT h0 h_tape h_reader h_now h_trial h_images h_imageKept h_slots h_night h_otherNight h_circle h_words h_lawSearch h_placeSearch h_drawnNight v_now_tones v_now_a v_now_b v_now_c v_now_d v_now_odds v_now_lines h_now_signs v_now_signCount h_now_posts v_now_postCount h_now_acts (by first | assumption | omega | decide) (by first | assumption | omega | decide)) (cvB (n := 0) (inr22 _ (List.mem_of_getElem? (i := 11) rfl)) (inr22 _ (List.mem_of_getElem? (i := 12) rfl)) (inr22 _ (List.mem_of_getElem? (i := 13) rfl)) (inr1 _ (List.mem_of_getElem? (i := 2) rfl)) (inr22 _ (List.mem_of_getElem? (i := 14) rfl)) (by decide +kernel) hts rfl rfl ⟨Nat.le_of_ble_eq_true rfl, Nat.le_of_ble_eq_true rfl⟩) 0 11 rfl rfl rfl (hP.sub [0, 1] rfl) hK hN hT rfl hl.1 rfl (Nat.le_of_ble_eq_true rfl) ⟨Nat.le_of_ble_eq_true rfl, Nat.le_of_ble_eq_true rfl⟩ dX11_sure_1 (fun r_1 h_2 => ?_)
  have h_2 : (r_1 = 0 ∨ r_1 = 1) := h_2
  have i_3 := h_2
  have ar_1 : 0 ≤ r_1.toInt ∧ r_1.toInt ≤ 1 := by rcases i_3 with h | h <;> rw [h] <;> decide
  refine lv_if_ne (tgt := 19) hx hb dX11_sure_4 (by decide) (fun c_4 => ?_) (fun c_4 => ?_)
  · have c_4 : ¬ r_1.toInt = 0 := ci_ne_t c_4
    have b_r_1 := i32b r_1
    refine lv_bipush (v := (-2)) hx hb dX11_sure_19 (by decide) ?_
    exact ret _ _ _ dX11_sure_21 trivial
  · have c_4 : r_1.toInt = 0 := ci_ne_f c_4
    have b_r_1 := i32b r_1
    refine lv_iload_n hx hb dX11_sure_7 rfl (lv_at hl 1 rfl) ?_
    have b_v1 := i32b v1
    obtain ⟨t_5, et_5⟩ : ∃ v9 : Int64, (v1 : Int32).toInt64 = v9 := ⟨_, rfl⟩
    refine lv_i2l (v := t_5) hx hb dX11_sure_8 et_5 ?_
    have ft_5 : t_5.toInt = v1.toInt := by rw [← et_5]; exact Int32.toInt_toInt64 _
    refine lv_lconst (v := 0) hx hb dX11_sure_9 (by decide) ?_
    refine lv_ldc2 hx hb hown (hts _ (inr65 _ (List.mem_of_getElem? (i := 14) rfl))) dX11_sure_10 ?_
    refine rosi (As := [.long t_5, .long 0, .long 100]) (rest := []) ⟨hx, hb, hml, hown, hts⟩ (b_X11_outside l G D cB cI cJ cZ cS cT t_5 0 100 ) (csB (n := 3) (inr8 _ (List.mem_of_getElem? (i := 16) rfl)) (inr8 _ (List.mem_of_getElem? (i := 17) rfl)) (inr1 _ (List.mem_of_getElem? (i := 2) rfl)) (inr8 _ (List.mem_of_getElem? (i := 18) rfl)) (by decide +kernel) hts rfl rfl ⟨Nat.le_of_ble_eq_true rfl, Nat.le_of_ble_eq_true rfl⟩) (hP.sub [] rfl) hK hN hT rfl hl.1 rfl (Nat.le_of_ble_eq_true rfl) ⟨Nat.le_of_ble_eq_true rfl, Nat.le_of_ble_eq_true rfl⟩ dX11_sure_13 (fun r_6 h_7 => ?_)
    have h_7 : ((r_6.toInt = 0 ∧ 0 ≤ t_5.toInt ∧ t_5.toInt ≤ 100) ∨ (r_6.toInt = 1 ∧ (t_5.toInt < 0 ∨ 100 < t_5.toInt))) := h_7
    have i_8 := h_7
    refine lv_if_eq (tgt := 22) hx hb dX11_sure_16 (by decide) (fun c_9 => ?_) (fun c_9 => ?_)
    · have c_9 : r_6.toInt = 0 := ci_eq_t c_9
      have b_r_6 := i32b r_6
      refine lv_bipush (v := 17) hx hb dX11_sure_22 (by decide) ?_
      refine lv_istore_n (lv' := [(2, .int 17), (0, .ref h0), (1, .int v1)]) hx hb dX11_sure_24 rfl hl (by decide) rfl (fun ls hl => ?_)
      exact b_X11_sure_l25 h0 h_tape h_reader h_now h_trial h_images h_imageKept h_slots h_night h_otherNight h_circle h_words h_lawSearch h_placeSearch h_drawnNight v_now_tones v_now_a v_now_b v_now_c v_now_d v_now_odds v_now_lines h_now_signs v_now_signCount h_now_posts v_now_postCount h_now_acts h_now_acts_over h_now_acts_steps h_now_acts_before v_now_acts_size f_now_signs f_now_acts_over v1 (by first | assumption | omega | decide) (by first | assumption | omega | decide) (by first | assumption | omega | decide) C (hP.sub [0, 1, 2, 3, 4] rfl) ret _ (17) _ (by first | assumption | omega | decide) (Nat.lt_succ_self _) (lv_sub hl [0, 1, 2] rfl)
    · have c_9 : ¬ r_6.toInt = 0 := ci_eq_f c_9
      have b_r_6 := i32b r_6
      refine lv_bipush (v := (-2)) hx hb dX11_sure_19 (by decide) ?_
      exact ret _ _ _ dX11_sure_21 trivial

set_option maxHeartbeats 4000000 in
set_option maxRecDepth 100000 in
theorem b_X11_drawn (l : Launch) (G : Gho) (D : va_G) (cB cI cJ cZ cS cT : ClassId) (sz : Nat) (h0 : Nat) (h_tape : Nat) (h_reader : Nat) (h_now : Nat) (h_trial : Nat) (h_images : Nat) (h_imageKept : Nat) (h_slots : Nat) (h_night : Nat) (h_otherNight : Nat) (h_circle : Nat) (h_words : Nat) (h_lawSearch : Nat) (h_placeSearch : Nat) (h_drawnNight : Nat) (v_drawnNight_x : Int64) (v_drawnNight_tone : Int32) (v_drawnNight_lost : Int32) (v_drawnNight_answer : Int32) (v_now_tones : Int32) (v_now_a : Int32) (v_now_b : Int32) (v_now_c : Int32) (v_now_d : Int32) (v_now_odds : Int32) (v_now_lines : Int32) (h_now_signs : Nat) (v_now_signCount : Int32) (h_now_posts : Nat) (v_now_postCount : Int32) (h_now_acts : Nat) (h_now_acts_over : Nat) (h_now_acts_steps : Nat) (h_now_acts_before : Nat) (v_now_acts_size : Int32) (f_now_signs : Nat → Int32) (f_now_acts_over : Nat → Int32) (v1 : Int32) (v2 : Int32) (v3 : Int32) (iv_now_signCount : 0 ≤ v_now_signCount.toInt ∧ v_now_signCount.toInt ≤ 8) (iv_now_postCount : 0 ≤ v_now_postCount.toInt ∧ v_now_postCount.toInt ≤ 5) (iv_now_acts_size : 0 ≤ v_now_acts_size.toInt ∧ v_now_acts_size.toInt ≤ 30) : Met l yX11_drawn (Cond.code yX11_drawn cX11_drawn 4 (some .int) :: wsL_law) ({ frames := 3, cells := 0, slots := 0, locals := 74 }) (wrP G D (tyL cB cI cJ cZ cS cT) [(h0, .inr (11, [.ref h_tape, .ref h_reader, .ref h_now, .ref h_trial, .ref h_images, .ref h_imageKept, .ref h_slots, .ref h_night, .ref h_otherNight, .ref h_circle, .ref h_words, .ref h_lawSearch, .ref h_placeSearch, .ref h_drawnNight])), (h_drawnNight, .inr (2, [.long v_drawnNight_x, .int v_drawnNight_tone, .int v_drawnNight_lost, .int v_drawnNight_answer])), (h_now, .inr (8, [.int v_now_tones, .int v_now_a, .int v_now_b, .int v_now_c, .int v_now_d, .int v_now_odds, .int v_now_lines, .ref h_now_signs, .int v_now_signCount, .ref h_now_posts, .int v_now_postCount, .ref h_now_acts])), (h_now_acts, .inr (0, [.ref h_now_acts_over, .ref h_now_acts_steps, .ref h_now_acts_before, .int v_now_acts_size])), (h_now_signs, .inl (cI, 8, .inl f_now_signs)), (h_now_acts_over, .inl (cI, 61, .inl f_now_acts_over))] sz [.ref h0, .int v1, .int v2, .int v3]) (va_Qi (fun (r : Int32) (x : Int64 × Int32 × Int32 × Int32) => True) (atW D (tyL cB cI cJ cZ cS cT) (va_A [(h0, .inr (11, [.ref h_tape, .ref h_reader, .ref h_now, .ref h_trial, .ref h_images, .ref h_imageKept, .ref h_slots, .ref h_night, .ref h_otherNight, .ref h_circle, .ref h_words, .ref h_lawSearch, .ref h_placeSearch, .ref h_drawnNight])), (h_drawnNight, .inr (2, [.long v_drawnNight_x, .int v_drawnNight_tone, .int v_drawnNight_lost, .int v_drawnNight_answer])), (h_now, .inr (8, [.int v_now_tones, .int v_now_a, .int v_now_b, .int v_now_c, .int v_now_d, .int v_now_odds, .int v_now_lines, .ref h_now_signs, .int v_now_signCount, .ref h_now_posts, .int v_now_postCount, .ref h_now_acts])), (h_now_acts, .inr (0, [.ref h_now_acts_over, .ref h_now_acts_steps, .ref h_now_acts_before, .int v_now_acts_size])), (h_now_signs, .inl (cI, 8, .inl f_now_signs)), (h_now_acts_over, .inl (cI, 61, .inl f_now_acts_over))] sz) (fun x : Int64 × Int32 × Int32 × Int32 => [(h0, .inr (11, [.ref h_tape, .ref h_reader, .ref h_now, .ref h_trial, .ref h_images, .ref h_imageKept, .ref h_slots, .ref h_night, .ref h_otherNight, .ref h_circle, .ref h_words, .ref h_lawSearch, .ref h_placeSearch, .ref h_drawnNight])), (h_drawnNight, .inr (2, [.long x.1, .int x.2.1, .int x.2.2.1, .int x.2.2.2])), (h_now, .inr (8, [.int v_now_tones, .int v_now_a, .int v_now_b, .int v_now_c, .int v_now_d, .int v_now_odds, .int v_now_lines, .ref h_now_signs, .int v_now_signCount, .ref h_now_posts, .int v_now_postCount, .ref h_now_acts])), (h_now_acts, .inr (0, [.ref h_now_acts_over, .ref h_now_acts_steps, .ref h_now_acts_before, .int v_now_acts_size])), (h_now_signs, .inl (cI, 8, .inl f_now_signs)), (h_now_acts_over, .inl (cI, 61, .inl f_now_acts_over))])) (va_A [(h0, .inr (11, [.ref h_tape, .ref h_reader, .ref h_now, .ref h_trial, .ref h_images, .ref h_imageKept, .ref h_slots, .ref h_night, .ref h_otherNight, .ref h_circle, .ref h_words, .ref h_lawSearch, .ref h_placeSearch, .ref h_drawnNight])), (h_drawnNight, .inr (2, [.long v_drawnNight_x, .int v_drawnNight_tone, .int v_drawnNight_lost, .int v_drawnNight_answer])), (h_now, .inr (8, [.int v_now_tones, .int v_now_a, .int v_now_b, .int v_now_c, .int v_now_d, .int v_now_odds, .int v_now_lines, .ref h_now_signs, .int v_now_signCount, .ref h_now_posts, .int v_now_postCount, .ref h_now_acts])), (h_now_acts, .inr (0, [.ref h_now_acts_over, .ref h_now_acts_steps, .ref h_now_acts_before, .int v_now_acts_size])), (h_now_signs, .inl (cI, 8, .inl f_now_signs)), (h_now_acts_over, .inl (cI, 61, .inl f_now_acts_over))] sz)) 0 0 (va_A [(h0, .inr (11, [.ref h_tape, .ref h_reader, .ref h_now, .ref h_trial, .ref h_images, .ref h_imageKept, .ref h_slots, .ref h_night, .ref h_otherNight, .ref h_circle, .ref h_words, .ref h_lawSearch, .ref h_placeSearch, .ref h_drawnNight])), (h_drawnNight, .inr (2, [.long v_drawnNight_x, .int v_drawnNight_tone, .int v_drawnNight_lost, .int v_drawnNight_answer])), (h_now, .inr (8, [.int v_now_tones, .int v_now_a, .int v_now_b, .int v_now_c, .int v_now_d, .int v_now_odds, .int v_now_lines, .ref h_now_signs, .int v_now_signCount, .ref h_now_posts, .int v_now_postCount, .ref h_now_acts])), (h_now_acts, .inr (0, [.ref h_now_acts_over, .ref h_now_acts_steps, .ref h_now_acts_before, .int v_now_acts_size])), (h_now_signs, .inl (cI, 8, .inl f_now_signs)), (h_now_acts_over, .inl (cI, 61, .inl f_now_acts_over))] sz) := by
  refine metI (own := RX11) (by decide) rfl ?_
  intro p e s m below meth c Q hsz C hG hP hD hAB ret
  obtain ⟨hx, hb, hml, hown, hts, hK, hN, hT⟩ := id C
  subst hsz
  generalize hAe : va_A [(h0, .inr (11, [.ref h_tape, .ref h_reader, .ref h_now, .ref h_trial, .ref h_images, .ref h_imageKept, .ref h_slots, .ref h_night, .ref h_otherNight, .ref h_circle, .ref h_words, .ref h_lawSearch, .ref h_placeSearch, .ref h_drawnNight])), (h_drawnNight, .inr (2, [.long v_drawnNight_x, .int v_drawnNight_tone, .int v_drawnNight_lost, .int v_drawnNight_answer])), (h_now, .inr (8, [.int v_now_tones, .int v_now_a, .int v_now_b, .int v_now_c, .int v_now_d, .int v_now_odds, .int v_now_lines, .ref h_now_signs, .int v_now_signCount, .ref h_now_posts, .int v_now_postCount, .ref h_now_acts])), (h_now_acts, .inr (0, [.ref h_now_acts_over, .ref h_now_acts_steps, .ref h_now_acts_before, .int v_now_acts_size])), (h_now_signs, .inl (cI, 8, .inl f_now_signs)), (h_now_acts_over, .inl (cI, 61, .inl f_now_acts_over))] s.heap.size = A at hD hAB ret ⊢
  have hA : ∀ q : Nat, s.heap.size ≤ q → A q := fun q h => by rw [← hAe]; exact Or.inr h
  have hS : va_S A s.heap s.heap [] := va_S.rf
  have hl := lv_entry ([.ref h0, .int v1, .int v2, .int v3]) (n := 4) (Nat.le_of_ble_eq_true rfl)
  rw [lg_entry_eq]
  generalize (lg_sl ([.ref h0, .int v1, .int v2, .int v3]) ++ List.replicate (4 - (lg_sl ([.ref h0, .int v1, .int v2, .int v3])).length) Slot.unset).toArray = ls at hl ⊢
  have hl : lv_has ls 4 [(0, .ref h0), (1, .int v1), (2, .int v2), (3, .int v3)] := hl
  have hP : va_P D vwCl [(h0, .inr (11, [.ref h_tape, .ref h_reader, .ref h_now, .ref h_trial, .ref h_images, .ref h_imageKept, .ref h_slots, .ref h_night, .ref h_otherNight, .ref h_circle, .ref h_words, .ref h_lawSearch, .ref h_placeSearch, .ref h_drawnNight])), (h_drawnNight, .inr (2, [.long v_drawnNight_x, .int v_drawnNight_tone, .int v_drawnNight_lost, .int v_drawnNight_answer])), (h_now, .inr (8, [.int v_now_tones, .int v_now_a, .int v_now_b, .int v_now_c, .int v_now_d, .int v_now_odds, .int v_now_lines, .ref h_now_signs, .int v_now_signCount, .ref h_now_posts, .int v_now_postCount, .ref h_now_acts])), (h_now_acts, .inr (0, [.ref h_now_acts_over, .ref h_now_acts_steps, .ref h_now_acts_before, .int v_now_acts_size])), (h_now_signs, .inl (cI, 8, .inl f_now_signs)), (h_now_acts_over, .inl (cI, 61, .inl f_now_acts_over))] s.heap := hP
  refine lv_aload_n hx hb dX11_drawn_0 rfl (lv_at hl 0 rfl) ?_
  refine lv_iload_n hx hb dX11_drawn_1 rfl (lv_at hl 2 rfl) ?_
  refine roi (As := [.int v2]) (rest := []) ⟨hx, hb, hml, hown, hts⟩ (b_X11_noStep l G D cB cI cJ cZ cS cT h0 h_tape h_reader h_now h_trial h_images h_imageKept h_slots h_night h_otherNight h_circle h_words h_lawSearch h_placeSearch h_drawnNight v_now_tones v_now_a v_now_b v_now_c v_now_d v_now_odds v_now_lines h_now_signs v_now_signCount h_now_posts v_now_postCount h_now_acts v2 (by first | assumption | omega | decide) (by first | assumption | omega | decide)) (cvB (n := 1) (inr22 _ (List.mem_of_getElem? (i := 6) rfl)) (inr22 _ (List.mem_of_getElem? (i := 7) rfl)) (inr22 _ (List.mem_of_getElem? (i := 8) rfl)) (inr1 _ (List.mem_of_getElem? (i := 2) rfl)) (inr22 _ (List.mem_of_getElem? (i := 9) rfl)) (by decide +kernel) hts rfl rfl ⟨Nat.le_of_ble_eq_true rfl, Nat.le_of_ble_eq_true rfl⟩) 0 11 rfl rfl rfl (hP.sub [0, 2] rfl) hK hN (kT.to hT hS hAB) rfl hl.1 rfl (Nat.le_of_ble_eq_true rfl) ⟨Nat.le_of_ble_eq_true rfl, Nat.le_of_ble_eq_true rfl⟩ dX11_drawn_2 (fun r_1 h_2 => ?_)
  have h_2 : (r_1 = 0 ∨ r_1 = 1) := h_2
  have i_3 := h_2
  have ar_1 : 0 ≤ r_1.toInt ∧ r_1.toInt ≤ 1 := by rcases i_3 with h | h <;> rw [h] <;> decide
  refine lv_if_ne (tgt := 32) hx hb dX11_drawn_5 (by decide) (fun c_4 => ?_) (fun c_4 => ?_)
  · have c_4 : ¬ r_1.toInt = 0 := ci_ne_t c_4
    have b_r_1 := i32b r_1
    refine lv_bipush (v := (-2)) hx hb dX11_drawn_32 (by decide) ?_
    exact ret _ _ _ _ _ (v_drawnNight_x, v_drawnNight_tone, v_drawnNight_lost, v_drawnNight_answer) dX11_drawn_34 trivial (hP.sub [0, 1, 2, 3, 4, 5] rfl) (hD.sub [0, 1, 2, 3, 4, 5] (by decide) rfl) hS
  · have c_4 : r_1.toInt = 0 := ci_ne_f c_4
    have b_r_1 := i32b r_1
    refine lv_iload_n hx hb dX11_drawn_8 rfl (lv_at hl 1 rfl) ?_
    have b_v1 := i32b v1
    obtain ⟨t_5, et_5⟩ : ∃ v9 : Int64, (v1 : Int32).toInt64 = v9 := ⟨_, rfl⟩
    refine lv_i2l (v := t_5) hx hb dX11_drawn_9 et_5 ?_
    have ft_5 : t_5.toInt = v1.toInt := by rw [← et_5]; exact Int32.toInt_toInt64 _
    refine lv_lconst (v := 0) hx hb dX11_drawn_10 (by decide) ?_
    refine lv_ldc2 hx hb hown (hts _ (inr47 _ (List.mem_of_getElem? (i := 13) rfl))) dX11_drawn_11 ?_
    refine rosi (As := [.long t_5, .long 0, .long 2000000000]) (rest := []) ⟨hx, hb, hml, hown, hts⟩ (b_X11_outside l G D cB cI cJ cZ cS cT t_5 0 2000000000 ) (csB (n := 3) (inr8 _ (List.mem_of_getElem? (i := 16) rfl)) (inr8 _ (List.mem_of_getElem? (i := 17) rfl)) (inr1 _ (List.mem_of_getElem? (i := 2) rfl)) (inr8 _ (List.mem_of_getElem? (i := 18) rfl)) (by decide +kernel) hts rfl rfl ⟨Nat.le_of_ble_eq_true rfl, Nat.le_of_ble_eq_true rfl⟩) (hP.sub [] rfl) hK hN (kT.to hT hS hAB) rfl hl.1 rfl (Nat.le_of_ble_eq_true rfl) ⟨Nat.le_of_ble_eq_true rfl, Nat.le_of_ble_eq_true rfl⟩ dX11_drawn_14 (fun r_6 h_7 => ?_)
    have h_7 : ((r_6.toInt = 0 ∧ 0 ≤ t_5.toInt ∧ t_5.toInt ≤ 2000000000) ∨ (r_6.toInt = 1 ∧ (t_5.toInt < 0 ∨ 2000000000 < t_5.toInt))) := h_7
    have i_8 := h_7
    refine lv_if_ne (tgt := 32) hx hb dX11_drawn_17 (by decide) (fun c_9 => ?_) (fun c_9 => ?_)
    · have c_9 : ¬ r_6.toInt = 0 := ci_ne_t c_9
      have b_r_6 := i32b r_6
      refine lv_bipush (v := (-2)) hx hb dX11_drawn_32 (by decide) ?_
      exact ret _ _ _ _ _ (v_drawnNight_x, v_drawnNight_tone, v_drawnNight_lost, v_drawnNight_answer) dX11_drawn_34 trivial (hP.sub [0, 1, 2, 3, 4, 5] rfl) (hD.sub [0, 1, 2, 3, 4, 5] (by decide) rfl) hS
    · have c_9 : r_6.toInt = 0 := ci_ne_f c_9
      have b_r_6 := i32b r_6
      refine lv_iload_n hx hb dX11_drawn_20 rfl (lv_at hl 3 rfl) ?_
      have b_v3 := i32b v3
      obtain ⟨t_10, et_10⟩ : ∃ v9 : Int64, (v3 : Int32).toInt64 = v9 := ⟨_, rfl⟩
      refine lv_i2l (v := t_10) hx hb dX11_drawn_21 et_10 ?_
      have ft_10 : t_10.toInt = v3.toInt := by rw [← et_10]; exact Int32.toInt_toInt64 _
      refine lv_lconst (v := 0) hx hb dX11_drawn_22 (by decide) ?_
      refine lv_ldc2 hx hb hown (hts _ (inr68 _ (List.mem_of_getElem? (i := 7) rfl))) dX11_drawn_23 ?_
      refine rosi (As := [.long t_10, .long 0, .long 2]) (rest := []) ⟨hx, hb, hml, hown, hts⟩ (b_X11_outside l G D cB cI cJ cZ cS cT t_10 0 2 ) (csB (n := 3) (inr8 _ (List.mem_of_getElem? (i := 16) rfl)) (inr8 _ (List.mem_of_getElem? (i := 17) rfl)) (inr1 _ (List.mem_of_getElem? (i := 2) rfl)) (inr8 _ (List.mem_of_getElem? (i := 18) rfl)) (by decide +kernel) hts rfl rfl ⟨Nat.le_of_ble_eq_true rfl, Nat.le_of_ble_eq_true rfl⟩) (hP.sub [] rfl) hK hN (kT.to hT hS hAB) rfl hl.1 rfl (Nat.le_of_ble_eq_true rfl) ⟨Nat.le_of_ble_eq_true rfl, Nat.le_of_ble_eq_true rfl⟩ dX11_drawn_26 (fun r_11 h_12 => ?_)
      have h_12 : ((r_11.toInt = 0 ∧ 0 ≤ t_10.toInt ∧ t_10.toInt ≤ 2) ∨ (r_11.toInt = 1 ∧ (t_10.toInt < 0 ∨ 2 < t_10.toInt))) := h_12
      have i_13 := h_12
      refine lv_if_eq (tgt := 35) hx hb dX11_drawn_29 (by decide) (fun c_14 => ?_) (fun c_14 => ?_)
      · have c_14 : r_11.toInt = 0 := ci_eq_t c_14
        have b_r_11 := i32b r_11
        refine lv_aload_n hx hb dX11_drawn_35 rfl (lv_at hl 0 rfl) ?_
        refine va_get (D := D) (ci := 11) (v := .ref h_drawnNight) (C := RX11) (T := TX11) (N := 14) hx hb hts inlX11 hown hK hP 0 rfl rfl 13 (by decide) (hts _ (inr3 _ (List.mem_of_getElem? (i := 9) rfl))) (fun _ h9 => h9) rfl dX11_drawn_36 ?_
        refine lv_aload_n hx hb dX11_drawn_39 rfl (lv_at hl 0 rfl) ?_
        refine va_get (D := D) (ci := 11) (v := .ref h_now) (C := RX11) (T := TX11) (N := 14) hx hb hts inlX11 hown hK hP 0 rfl rfl 2 (by decide) (hts _ (inr2 _ (List.mem_of_getElem? (i := 0) rfl))) (fun _ h9 => h9) rfl dX11_drawn_40 ?_
        refine lv_iload_n hx hb dX11_drawn_43 rfl (lv_at hl 1 rfl) ?_
        refine lv_iload_n hx hb dX11_drawn_44 rfl (lv_at hl 2 rfl) ?_
        refine wrVv (As := [.ref h_now, .int v1, .int v2]) (rest := []) (wr := [(h0, .inr (11, [.ref h_tape, .ref h_reader, .ref h_now, .ref h_trial, .ref h_images, .ref h_imageKept, .ref h_slots, .ref h_night, .ref h_otherNight, .ref h_circle, .ref h_words, .ref h_lawSearch, .ref h_placeSearch, .ref h_drawnNight]))]) ⟨hx, hb, hml, hown, hts⟩ (b_X2_draw l G D cB cI cJ cZ cS cT s.heap.size h_drawnNight v_drawnNight_x v_drawnNight_tone v_drawnNight_lost v_drawnNight_answer h_now v_now_tones v_now_a v_now_b v_now_c v_now_d v_now_odds v_now_lines h_now_signs v_now_signCount h_now_posts v_now_postCount h_now_acts h_now_acts_over h_now_acts_steps h_now_acts_before v_now_acts_size f_now_signs f_now_acts_over v1 v2 (by first | assumption | omega | decide) (by first | assumption | omega | decide) (by first | assumption | omega | decide)) hP hD hS hA hK hN hT hAB hG [1, 2, 3, 4, 5] [0] rfl rfl (by decide) (by decide) (by decide) (cvB (n := 3) (inr68 _ (List.mem_of_getElem? (i := 8) rfl)) (inr68 _ (List.mem_of_getElem? (i := 9) rfl)) (inr68 _ (List.mem_of_getElem? (i := 10) rfl)) (inr3 _ (List.mem_of_getElem? (i := 8) rfl)) (inr68 _ (List.mem_of_getElem? (i := 11) rfl)) (by decide +kernel) hts rfl rfl ⟨Nat.le_of_ble_eq_true rfl, Nat.le_of_ble_eq_true rfl⟩) 0 2 rfl rfl rfl rfl hl.1 rfl (Nat.le_of_ble_eq_true rfl) ⟨Nat.le_of_ble_eq_true rfl, Nat.le_of_ble_eq_true rfl⟩ dX11_drawn_45 (fun x9 H locs h_16 hP hD hS => ?_)
        obtain ⟨t_17, t_18, t_19, t_20⟩ := x9
        have hP : va_P D vwCl [(h0, .inr (11, [.ref h_tape, .ref h_reader, .ref h_now, .ref h_trial, .ref h_images, .ref h_imageKept, .ref h_slots, .ref h_night, .ref h_otherNight, .ref h_circle, .ref h_words, .ref h_lawSearch, .ref h_placeSearch, .ref h_drawnNight])), (h_drawnNight, .inr (2, [.long t_17, .int t_18, .int t_19, .int t_20])), (h_now, .inr (8, [.int v_now_tones, .int v_now_a, .int v_now_b, .int v_now_c, .int v_now_d, .int v_now_odds, .int v_now_lines, .ref h_now_signs, .int v_now_signCount, .ref h_now_posts, .int v_now_postCount, .ref h_now_acts])), (h_now_acts, .inr (0, [.ref h_now_acts_over, .ref h_now_acts_steps, .ref h_now_acts_before, .int v_now_acts_size])), (h_now_signs, .inl (cI, 8, .inl f_now_signs)), (h_now_acts_over, .inl (cI, 61, .inl f_now_acts_over))] H := hP
        have hD : va_D A [(h0, .inr (11, [.ref h_tape, .ref h_reader, .ref h_now, .ref h_trial, .ref h_images, .ref h_imageKept, .ref h_slots, .ref h_night, .ref h_otherNight, .ref h_circle, .ref h_words, .ref h_lawSearch, .ref h_placeSearch, .ref h_drawnNight])), (h_drawnNight, .inr (2, [.long t_17, .int t_18, .int t_19, .int t_20])), (h_now, .inr (8, [.int v_now_tones, .int v_now_a, .int v_now_b, .int v_now_c, .int v_now_d, .int v_now_odds, .int v_now_lines, .ref h_now_signs, .int v_now_signCount, .ref h_now_posts, .int v_now_postCount, .ref h_now_acts])), (h_now_acts, .inr (0, [.ref h_now_acts_over, .ref h_now_acts_steps, .ref h_now_acts_before, .int v_now_acts_size])), (h_now_signs, .inl (cI, 8, .inl f_now_signs)), (h_now_acts_over, .inl (cI, 61, .inl f_now_acts_over))] := hD
        refine lv_iload_n hx hb dX11_drawn_48 rfl (lv_at hl 3 rfl) ?_
        by_cases c_21 : v3 = 0
        · refine lv_lookup (off := 27) (tgt := 76) hx hb dX11_drawn_49 (by decide) (by rw [c_21]; decide) (by decide) ?_
          refine lv_aload_n hx hb dX11_drawn_76 rfl (lv_at hl 0 rfl) ?_
          refine va_get (D := D) (ci := 11) (v := .ref h_drawnNight) (C := RX11) (T := TX11) (N := 14) hx hb hts inlX11 hown hK hP 0 rfl rfl 13 (by decide) (hts _ (inr3 _ (List.mem_of_getElem? (i := 9) rfl))) (fun _ h9 => h9) rfl dX11_drawn_77 ?_
          refine roi (As := []) (rest := []) ⟨hx, hb, hml, hown, hts⟩ (b_X2_toneAtEnd l G D cB cI cJ cZ cS cT h_drawnNight t_17 t_18 t_19 t_20 ) (cvB (n := 0) (inr69 _ (List.mem_of_getElem? (i := 10) rfl)) (inr69 _ (List.mem_of_getElem? (i := 11) rfl)) (inr69 _ (List.mem_of_getElem? (i := 12) rfl)) (inr3 _ (List.mem_of_getElem? (i := 8) rfl)) (inr69 _ (List.mem_of_getElem? (i := 13) rfl)) (by decide +kernel) hts rfl rfl ⟨Nat.le_of_ble_eq_true rfl, Nat.le_of_ble_eq_true rfl⟩) 0 2 rfl rfl rfl (hP.sub [1] rfl) hK hN (kT.to hT hS hAB) rfl hl.1 rfl (Nat.le_of_ble_eq_true rfl) ⟨Nat.le_of_ble_eq_true rfl, Nat.le_of_ble_eq_true rfl⟩ dX11_drawn_80 (fun r_22 h_23 => ?_)
          have h_23 : (r_22 = t_18) := h_23
          have i_24 := h_23
          obtain rfl := i_24.symm
          exact ret _ _ _ _ _ (t_17, t_18, t_19, t_20) dX11_drawn_83 trivial (hP.sub [0, 1, 2, 3, 4, 5] rfl) (hD.sub [0, 1, 2, 3, 4, 5] (by decide) rfl) hS
        by_cases c_25 : v3 = 1
        · refine lv_lookup (off := 35) (tgt := 84) hx hb dX11_drawn_49 (by decide) (by rw [c_25]; decide) (by decide) ?_
          refine lv_aload_n hx hb dX11_drawn_84 rfl (lv_at hl 0 rfl) ?_
          refine va_get (D := D) (ci := 11) (v := .ref h_drawnNight) (C := RX11) (T := TX11) (N := 14) hx hb hts inlX11 hown hK hP 0 rfl rfl 13 (by decide) (hts _ (inr3 _ (List.mem_of_getElem? (i := 9) rfl))) (fun _ h9 => h9) rfl dX11_drawn_85 ?_
          refine roi (As := []) (rest := []) ⟨hx, hb, hml, hown, hts⟩ (b_X2_answersLost l G D cB cI cJ cZ cS cT h_drawnNight t_17 t_18 t_19 t_20 ) (cvB (n := 0) (inr69 _ (List.mem_of_getElem? (i := 14) rfl)) (inr69 _ (List.mem_of_getElem? (i := 15) rfl)) (inr69 _ (List.mem_of_getElem? (i := 16) rfl)) (inr3 _ (List.mem_of_getElem? (i := 8) rfl)) (inr69 _ (List.mem_of_getElem? (i := 17) rfl)) (by decide +kernel) hts rfl rfl ⟨Nat.le_of_ble_eq_true rfl, Nat.le_of_ble_eq_true rfl⟩) 0 2 rfl rfl rfl (hP.sub [1] rfl) hK hN (kT.to hT hS hAB) rfl hl.1 rfl (Nat.le_of_ble_eq_true rfl) ⟨Nat.le_of_ble_eq_true rfl, Nat.le_of_ble_eq_true rfl⟩ dX11_drawn_88 (fun r_26 h_27 => ?_)
          have h_27 : (r_26 = t_19) := h_27
          have i_28 := h_27
          obtain rfl := i_28.symm
          exact ret _ _ _ _ _ (t_17, t_18, t_19, t_20) dX11_drawn_91 trivial (hP.sub [0, 1, 2, 3, 4, 5] rfl) (hD.sub [0, 1, 2, 3, 4, 5] (by decide) rfl) hS
        refine lv_lookup (off := 43) (tgt := 92) hx hb dX11_drawn_49 (by decide) (sw_look2 c_21 (by decide) c_25 (by decide)) (by decide) ?_
        refine lv_aload_n hx hb dX11_drawn_92 rfl (lv_at hl 0 rfl) ?_
        refine va_get (D := D) (ci := 11) (v := .ref h_drawnNight) (C := RX11) (T := TX11) (N := 14) hx hb hts inlX11 hown hK hP 0 rfl rfl 13 (by decide) (hts _ (inr3 _ (List.mem_of_getElem? (i := 9) rfl))) (fun _ h9 => h9) rfl dX11_drawn_93 ?_
        refine roi (As := []) (rest := []) ⟨hx, hb, hml, hown, hts⟩ (b_X2_answerBehind l G D cB cI cJ cZ cS cT h_drawnNight t_17 t_18 t_19 t_20 ) (cvB (n := 0) (inr69 _ (List.mem_of_getElem? (i := 18) rfl)) (inr69 _ (List.mem_of_getElem? (i := 19) rfl)) (inr69 _ (List.mem_of_getElem? (i := 20) rfl)) (inr3 _ (List.mem_of_getElem? (i := 8) rfl)) (inr69 _ (List.mem_of_getElem? (i := 21) rfl)) (by decide +kernel) hts rfl rfl ⟨Nat.le_of_ble_eq_true rfl, Nat.le_of_ble_eq_true rfl⟩) 0 2 rfl rfl rfl (hP.sub [1] rfl) hK hN (kT.to hT hS hAB) rfl hl.1 rfl (Nat.le_of_ble_eq_true rfl) ⟨Nat.le_of_ble_eq_true rfl, Nat.le_of_ble_eq_true rfl⟩ dX11_drawn_96 (fun r_29 h_30 => ?_)
        have h_30 : (r_29 = t_20) := h_30
        have i_31 := h_30
        obtain rfl := i_31.symm
        exact ret _ _ _ _ _ (t_17, t_18, t_19, t_20) dX11_drawn_99 trivial (hP.sub [0, 1, 2, 3, 4, 5] rfl) (hD.sub [0, 1, 2, 3, 4, 5] (by decide) rfl) hS
      · have c_14 : ¬ r_11.toInt = 0 := ci_eq_f c_14
        have b_r_11 := i32b r_11
        refine lv_bipush (v := (-2)) hx hb dX11_drawn_32 (by decide) ?_
        exact ret _ _ _ _ _ (v_drawnNight_x, v_drawnNight_tone, v_drawnNight_lost, v_drawnNight_answer) dX11_drawn_34 trivial (hP.sub [0, 1, 2, 3, 4, 5] rfl) (hD.sub [0, 1, 2, 3, 4, 5] (by decide) rfl) hS

set_option maxHeartbeats 4000000 in
set_option maxRecDepth 100000 in
theorem b_X11_luck_l50 {p : Program} {l : Launch} {e : Env} {s : State} {m : MethodId} {args : Array Value} {below : List Frame} {meth : Method} {c : Code} {Q : State → Prop} {G : Gho} {D : va_G} {cB cI cJ cZ cS cT : ClassId} {A : Nat → Prop} (h0 : Nat) (h_tape : Nat) (h_reader : Nat) (h_now : Nat) (h_trial : Nat) (h_images : Nat) (h_imageKept : Nat) (h_slots : Nat) (h_night : Nat) (h_otherNight : Nat) (h_circle : Nat) (h_words : Nat) (h_lawSearch : Nat) (h_placeSearch : Nat) (h_drawnNight : Nat) (v_now_tones : Int32) (v_now_a : Int32) (v_now_b : Int32) (v_now_c : Int32) (v_now_d : Int32) (v_now_odds : Int32) (v_now_lines : Int32) (h_now_signs : Nat) (v_now_signCount : Int32) (h_now_posts : Nat) (v_now_postCount : Int32) (h_now_acts : Nat) (h_now_acts_over : Nat) (h_now_acts_steps : Nat) (h_now_acts_before : Nat) (v_now_acts_size : Int32) (f_now_signs : Nat → Int32) (f_now_acts_over : Nat → Int32) (v1 : Int32) (v2 : Int32) (v3 : Int32) (v4 : Int32) (iv_now_signCount : 0 ≤ v_now_signCount.toInt ∧ v_now_signCount.toInt ≤ 8) (iv_now_postCount : 0 ≤ v_now_postCount.toInt ∧ v_now_postCount.toInt ≤ 5) (iv_now_acts_size : 0 ≤ v_now_acts_size.toInt ∧ v_now_acts_size.toInt ≤ 30) (C : Cx p s m args c RX11 cX11_luck 7 G D (tyL cB cI cJ cZ cS cT)) (hG : G.1 ≤ s.heap.size) (hAB : ∀ q, A q → G.1 ≤ q) (hA : ∀ q : Nat, s.heap.size ≤ q → A q) (ret : RetI p l e ({ frames := 3, cells := 0, slots := 0, locals := 74 }) s m args below meth c cX11_luck D A (fun x : Int64 × Int32 × Int32 × Int32 => [(h0, .inr (11, [.ref h_tape, .ref h_reader, .ref h_now, .ref h_trial, .ref h_images, .ref h_imageKept, .ref h_slots, .ref h_night, .ref h_otherNight, .ref h_circle, .ref h_words, .ref h_lawSearch, .ref h_placeSearch, .ref h_drawnNight])), (h_drawnNight, .inr (2, [.long x.1, .int x.2.1, .int x.2.2.1, .int x.2.2.2])), (h_now, .inr (8, [.int v_now_tones, .int v_now_a, .int v_now_b, .int v_now_c, .int v_now_d, .int v_now_odds, .int v_now_lines, .ref h_now_signs, .int v_now_signCount, .ref h_now_posts, .int v_now_postCount, .ref h_now_acts])), (h_now_acts, .inr (0, [.ref h_now_acts_over, .ref h_now_acts_steps, .ref h_now_acts_before, .int v_now_acts_size])), (h_now_signs, .inl (cI, 8, .inl f_now_signs)), (h_now_acts_over, .inl (cI, 61, .inl f_now_acts_over))]) (fun (r : Int32) (x : Int64 × Int32 × Int32 × Int32) => True) Q) :
    ∀ (N : Nat) (u50_drawnNight_x : Int64) (u50_drawnNight_tone : Int32) (u50_drawnNight_lost : Int32) (u50_drawnNight_answer : Int32) (l50_6 : Int32) (l50_5 : Int32) (H : Heap) (locs : List Loc) (ls : Array Slot), 0 ≤ l50_6.toInt → (v2.toInt - l50_6.toInt).toNat < N → va_P D vwCl [(h0, .inr (11, [.ref h_tape, .ref h_reader, .ref h_now, .ref h_trial, .ref h_images, .ref h_imageKept, .ref h_slots, .ref h_night, .ref h_otherNight, .ref h_circle, .ref h_words, .ref h_lawSearch, .ref h_placeSearch, .ref h_drawnNight])), (h_drawnNight, .inr (2, [.long u50_drawnNight_x, .int u50_drawnNight_tone, .int u50_drawnNight_lost, .int u50_drawnNight_answer])), (h_now, .inr (8, [.int v_now_tones, .int v_now_a, .int v_now_b, .int v_now_c, .int v_now_d, .int v_now_odds, .int v_now_lines, .ref h_now_signs, .int v_now_signCount, .ref h_now_posts, .int v_now_postCount, .ref h_now_acts])), (h_now_acts, .inr (0, [.ref h_now_acts_over, .ref h_now_acts_steps, .ref h_now_acts_before, .int v_now_acts_size])), (h_now_signs, .inl (cI, 8, .inl f_now_signs)), (h_now_acts_over, .inl (cI, 61, .inl f_now_acts_over))] H → va_D A [(h0, .inr (11, [.ref h_tape, .ref h_reader, .ref h_now, .ref h_trial, .ref h_images, .ref h_imageKept, .ref h_slots, .ref h_night, .ref h_otherNight, .ref h_circle, .ref h_words, .ref h_lawSearch, .ref h_placeSearch, .ref h_drawnNight])), (h_drawnNight, .inr (2, [.long u50_drawnNight_x, .int u50_drawnNight_tone, .int u50_drawnNight_lost, .int u50_drawnNight_answer])), (h_now, .inr (8, [.int v_now_tones, .int v_now_a, .int v_now_b, .int v_now_c, .int v_now_d, .int v_now_odds, .int v_now_lines, .ref h_now_signs, .int v_now_signCount, .ref h_now_posts, .int v_now_postCount, .ref h_now_acts])), (h_now_acts, .inr (0, [.ref h_now_acts_over, .ref h_now_acts_steps, .ref h_now_acts_before, .int v_now_acts_size])), (h_now_signs, .inl (cI, 8, .inl f_now_signs)), (h_now_acts_over, .inl (cI, 61, .inl f_now_acts_over))] → va_S A s.heap H locs → lv_has ls 7 [(6, .int l50_6), (5, .int l50_5), (0, .ref h0), (1, .int v1), (2, .int v2), (3, .int v3), (4, .int v4)] → W p l e ({ frames := 3, cells := 0, slots := 0, locals := 74 }) s m args below meth c H locs 0 0 Q (F0 m 50 ls []) := by
  obtain ⟨hx, hb, hml, hown, hts, hK, hN, hT⟩ := id C
  intro N
  induction N with
  | zero =>
    intro u50_drawnNight_x u50_drawnNight_tone u50_drawnNight_lost u50_drawnNight_answer l50_6 l50_5 H locs ls kl50_6 hM_50 hP hD hS hl
    omega
  | succ N_50 ih_50 =>
    intro u50_drawnNight_x u50_drawnNight_tone u50_drawnNight_lost u50_drawnNight_answer l50_6 l50_5 H locs ls kl50_6 hM_50 hP hD hS hl
    have b_l50_6 := i32b l50_6
    refine lv_iload hx hb dX11_luck_50 (lv_at hl 0 rfl) ?_
    refine lv_iload_n hx hb dX11_luck_52 rfl (lv_at hl 4 rfl) ?_
    refine lv_icmp_ge (tgt := 93) hx hb dX11_luck_53 (by decide) (fun c_19 => ?_) (fun c_19 => ?_)
    · have c_19 : v2.toInt ≤ l50_6.toInt := ci_ge_t c_19
      have b_v2 := i32b v2
      refine lv_iload hx hb dX11_luck_93 (lv_at hl 1 rfl) ?_
      exact ret _ _ _ _ _ (u50_drawnNight_x, u50_drawnNight_tone, u50_drawnNight_lost, u50_drawnNight_answer) dX11_luck_95 trivial (hP.sub [0, 1, 2, 3, 4, 5] rfl) (hD.sub [0, 1, 2, 3, 4, 5] (by decide) rfl) hS
    · have c_19 : l50_6.toInt < v2.toInt := ci_ge_f c_19
      have b_v2 := i32b v2
      refine lv_aload_n hx hb dX11_luck_56 rfl (lv_at hl 2 rfl) ?_
      refine va_get (D := D) (ci := 11) (v := .ref h_drawnNight) (C := RX11) (T := TX11) (N := 14) hx hb hts inlX11 hown hK hP 0 rfl rfl 13 (by decide) (hts _ (inr3 _ (List.mem_of_getElem? (i := 9) rfl))) (fun _ h9 => h9) rfl dX11_luck_57 ?_
      refine lv_aload_n hx hb dX11_luck_60 rfl (lv_at hl 2 rfl) ?_
      refine va_get (D := D) (ci := 11) (v := .ref h_now) (C := RX11) (T := TX11) (N := 14) hx hb hts inlX11 hown hK hP 0 rfl rfl 2 (by decide) (hts _ (inr2 _ (List.mem_of_getElem? (i := 0) rfl))) (fun _ h9 => h9) rfl dX11_luck_61 ?_
      refine lv_iload_n hx hb dX11_luck_64 rfl (lv_at hl 3 rfl) ?_
      refine lv_iload hx hb dX11_luck_65 (lv_at hl 0 rfl) ?_
      obtain ⟨t_20, et_20⟩ : ∃ v9 : Int32, v1 + l50_6 = v9 := ⟨_, rfl⟩
      refine z_iadd (v := t_20) hx hb dX11_luck_67 et_20 ?_
      refine lv_iload_n hx hb dX11_luck_68 rfl (lv_at hl 5 rfl) ?_
      refine wrVv (As := [.ref h_now, .int t_20, .int v3]) (rest := []) (wr := [(h0, .inr (11, [.ref h_tape, .ref h_reader, .ref h_now, .ref h_trial, .ref h_images, .ref h_imageKept, .ref h_slots, .ref h_night, .ref h_otherNight, .ref h_circle, .ref h_words, .ref h_lawSearch, .ref h_placeSearch, .ref h_drawnNight]))]) ⟨hx, hb, hml, hown, hts⟩ (b_X2_draw l G D cB cI cJ cZ cS cT H.size h_drawnNight u50_drawnNight_x u50_drawnNight_tone u50_drawnNight_lost u50_drawnNight_answer h_now v_now_tones v_now_a v_now_b v_now_c v_now_d v_now_odds v_now_lines h_now_signs v_now_signCount h_now_posts v_now_postCount h_now_acts h_now_acts_over h_now_acts_steps h_now_acts_before v_now_acts_size f_now_signs f_now_acts_over t_20 v3 (by first | assumption | omega | decide) (by first | assumption | omega | decide) (by first | assumption | omega | decide)) hP hD hS hA hK hN hT hAB hG [1, 2, 3, 4, 5] [0] rfl rfl (by decide) (by decide) (by decide) (cvB (n := 3) (inr68 _ (List.mem_of_getElem? (i := 8) rfl)) (inr68 _ (List.mem_of_getElem? (i := 9) rfl)) (inr68 _ (List.mem_of_getElem? (i := 10) rfl)) (inr3 _ (List.mem_of_getElem? (i := 8) rfl)) (inr68 _ (List.mem_of_getElem? (i := 11) rfl)) (by decide +kernel) hts rfl rfl ⟨Nat.le_of_ble_eq_true rfl, Nat.le_of_ble_eq_true rfl⟩) 0 2 rfl rfl rfl rfl hl.1 rfl (Nat.le_of_ble_eq_true rfl) ⟨Nat.le_of_ble_eq_true rfl, Nat.le_of_ble_eq_true rfl⟩ dX11_luck_69 (fun x9 H locs h_22 hP hD hS => ?_)
      obtain ⟨t_23, t_24, t_25, t_26⟩ := x9
      have hP : va_P D vwCl [(h0, .inr (11, [.ref h_tape, .ref h_reader, .ref h_now, .ref h_trial, .ref h_images, .ref h_imageKept, .ref h_slots, .ref h_night, .ref h_otherNight, .ref h_circle, .ref h_words, .ref h_lawSearch, .ref h_placeSearch, .ref h_drawnNight])), (h_drawnNight, .inr (2, [.long t_23, .int t_24, .int t_25, .int t_26])), (h_now, .inr (8, [.int v_now_tones, .int v_now_a, .int v_now_b, .int v_now_c, .int v_now_d, .int v_now_odds, .int v_now_lines, .ref h_now_signs, .int v_now_signCount, .ref h_now_posts, .int v_now_postCount, .ref h_now_acts])), (h_now_acts, .inr (0, [.ref h_now_acts_over, .ref h_now_acts_steps, .ref h_now_acts_before, .int v_now_acts_size])), (h_now_signs, .inl (cI, 8, .inl f_now_signs)), (h_now_acts_over, .inl (cI, 61, .inl f_now_acts_over))] H := hP
      have hD : va_D A [(h0, .inr (11, [.ref h_tape, .ref h_reader, .ref h_now, .ref h_trial, .ref h_images, .ref h_imageKept, .ref h_slots, .ref h_night, .ref h_otherNight, .ref h_circle, .ref h_words, .ref h_lawSearch, .ref h_placeSearch, .ref h_drawnNight])), (h_drawnNight, .inr (2, [.long t_23, .int t_24, .int t_25, .int t_26])), (h_now, .inr (8, [.int v_now_tones, .int v_now_a, .int v_now_b, .int v_now_c, .int v_now_d, .int v_now_odds, .int v_now_lines, .ref h_now_signs, .int v_now_signCount, .ref h_now_posts, .int v_now_postCount, .ref h_now_acts])), (h_now_acts, .inr (0, [.ref h_now_acts_over, .ref h_now_acts_steps, .ref h_now_acts_before, .int v_now_acts_size])), (h_now_signs, .inl (cI, 8, .inl f_now_signs)), (h_now_acts_over, .inl (cI, 61, .inl f_now_acts_over))] := hD
      refine lv_aload_n hx hb dX11_luck_72 rfl (lv_at hl 2 rfl) ?_
      refine va_get (D := D) (ci := 11) (v := .ref h_drawnNight) (C := RX11) (T := TX11) (N := 14) hx hb hts inlX11 hown hK hP 0 rfl rfl 13 (by decide) (hts _ (inr3 _ (List.mem_of_getElem? (i := 9) rfl))) (fun _ h9 => h9) rfl dX11_luck_73 ?_
      refine roi (As := []) (rest := []) ⟨hx, hb, hml, hown, hts⟩ (b_X2_toneAtEnd l G D cB cI cJ cZ cS cT h_drawnNight t_23 t_24 t_25 t_26 ) (cvB (n := 0) (inr69 _ (List.mem_of_getElem? (i := 10) rfl)) (inr69 _ (List.mem_of_getElem? (i := 11) rfl)) (inr69 _ (List.mem_of_getElem? (i := 12) rfl)) (inr3 _ (List.mem_of_getElem? (i := 8) rfl)) (inr69 _ (List.mem_of_getElem? (i := 13) rfl)) (by decide +kernel) hts rfl rfl ⟨Nat.le_of_ble_eq_true rfl, Nat.le_of_ble_eq_true rfl⟩) 0 2 rfl rfl rfl (hP.sub [1] rfl) hK hN (kT.to hT hS hAB) rfl hl.1 rfl (Nat.le_of_ble_eq_true rfl) ⟨Nat.le_of_ble_eq_true rfl, Nat.le_of_ble_eq_true rfl⟩ dX11_luck_76 (fun r_27 h_28 => ?_)
      have h_28 : (r_27 = t_24) := h_28
      have i_29 := h_28
      obtain rfl := i_29.symm
      refine lv_iload hx hb dX11_luck_79 (lv_at hl 6 rfl) ?_
      refine lv_icmp_ne (tgt := 87) hx hb dX11_luck_81 (by decide) (fun c_30 => ?_) (fun c_30 => ?_)
      · have c_30 : ¬ t_24.toInt = v4.toInt := ci_ne_t c_30
        have b_t_24 := i32b t_24
        have b_v4 := i32b v4
        obtain ⟨t_31, et_31⟩ : ∃ v9 : Int32, l50_6 + 1 = v9 := ⟨_, rfl⟩
        have ft_31 : t_31.toInt = l50_6.toInt + 1 := addT (a := l50_6.toInt) (b := 1) rfl (by decide) et_31 (by omega) (by omega)
        refine lv_iinc (v := t_31) (lv' := [(6, .int t_31), (5, .int l50_5), (0, .ref h0), (1, .int v1), (2, .int v2), (3, .int v3), (4, .int v4)]) hx hb dX11_luck_87 hl (k := 0) rfl (by rw [← et_31]; rfl) (by decide) rfl (fun ls hl => ?_)
        refine lv_goto (tgt := 50) hx hb dX11_luck_90 (by decide) ?_
        exact ih_50 (t_23) (t_24) (t_25) (t_26) (t_31) (l50_5) _ _ _ (by first | assumption | omega | decide) (by omega) (hP.sub [0, 1, 2, 3, 4, 5] rfl) (hD.sub [0, 1, 2, 3, 4, 5] (by decide) rfl) hS (lv_sub hl [0, 1, 2, 3, 4, 5, 6] rfl)
      · have c_30 : t_24.toInt = v4.toInt := ci_ne_f c_30
        have b_t_24 := i32b t_24
        have b_v4 := i32b v4
        obtain ⟨t_32, et_32⟩ : ∃ v9 : Int32, l50_5 + 1 = v9 := ⟨_, rfl⟩
        refine lv_iinc (v := t_32) (lv' := [(5, .int t_32), (6, .int l50_6), (0, .ref h0), (1, .int v1), (2, .int v2), (3, .int v3), (4, .int v4)]) hx hb dX11_luck_84 hl (k := 1) rfl (by rw [← et_32]; rfl) (by decide) rfl (fun ls hl => ?_)
        obtain ⟨t_33, et_33⟩ : ∃ v9 : Int32, l50_6 + 1 = v9 := ⟨_, rfl⟩
        have ft_33 : t_33.toInt = l50_6.toInt + 1 := addT (a := l50_6.toInt) (b := 1) rfl (by decide) et_33 (by omega) (by omega)
        refine lv_iinc (v := t_33) (lv' := [(6, .int t_33), (5, .int t_32), (0, .ref h0), (1, .int v1), (2, .int v2), (3, .int v3), (4, .int v4)]) hx hb dX11_luck_87 hl (k := 1) rfl (by rw [← et_33]; rfl) (by decide) rfl (fun ls hl => ?_)
        refine lv_goto (tgt := 50) hx hb dX11_luck_90 (by decide) ?_
        exact ih_50 (t_23) (t_24) (t_25) (t_26) (t_33) (t_32) _ _ _ (by first | assumption | omega | decide) (by omega) (hP.sub [0, 1, 2, 3, 4, 5] rfl) (hD.sub [0, 1, 2, 3, 4, 5] (by decide) rfl) hS (lv_sub hl [0, 1, 2, 3, 4, 5, 6] rfl)

set_option maxHeartbeats 4000000 in
set_option maxRecDepth 100000 in
theorem b_X11_luck (l : Launch) (G : Gho) (D : va_G) (cB cI cJ cZ cS cT : ClassId) (sz : Nat) (h0 : Nat) (h_tape : Nat) (h_reader : Nat) (h_now : Nat) (h_trial : Nat) (h_images : Nat) (h_imageKept : Nat) (h_slots : Nat) (h_night : Nat) (h_otherNight : Nat) (h_circle : Nat) (h_words : Nat) (h_lawSearch : Nat) (h_placeSearch : Nat) (h_drawnNight : Nat) (v_drawnNight_x : Int64) (v_drawnNight_tone : Int32) (v_drawnNight_lost : Int32) (v_drawnNight_answer : Int32) (v_now_tones : Int32) (v_now_a : Int32) (v_now_b : Int32) (v_now_c : Int32) (v_now_d : Int32) (v_now_odds : Int32) (v_now_lines : Int32) (h_now_signs : Nat) (v_now_signCount : Int32) (h_now_posts : Nat) (v_now_postCount : Int32) (h_now_acts : Nat) (h_now_acts_over : Nat) (h_now_acts_steps : Nat) (h_now_acts_before : Nat) (v_now_acts_size : Int32) (f_now_signs : Nat → Int32) (f_now_acts_over : Nat → Int32) (v1 : Int32) (v2 : Int32) (v3 : Int32) (v4 : Int32) (iv_now_signCount : 0 ≤ v_now_signCount.toInt ∧ v_now_signCount.toInt ≤ 8) (iv_now_postCount : 0 ≤ v_now_postCount.toInt ∧ v_now_postCount.toInt ≤ 5) (iv_now_acts_size : 0 ≤ v_now_acts_size.toInt ∧ v_now_acts_size.toInt ≤ 30) : Met l yX11_luck (Cond.code yX11_luck cX11_luck 7 (some .int) :: wsL_law) ({ frames := 3, cells := 0, slots := 0, locals := 74 }) (wrP G D (tyL cB cI cJ cZ cS cT) [(h0, .inr (11, [.ref h_tape, .ref h_reader, .ref h_now, .ref h_trial, .ref h_images, .ref h_imageKept, .ref h_slots, .ref h_night, .ref h_otherNight, .ref h_circle, .ref h_words, .ref h_lawSearch, .ref h_placeSearch, .ref h_drawnNight])), (h_drawnNight, .inr (2, [.long v_drawnNight_x, .int v_drawnNight_tone, .int v_drawnNight_lost, .int v_drawnNight_answer])), (h_now, .inr (8, [.int v_now_tones, .int v_now_a, .int v_now_b, .int v_now_c, .int v_now_d, .int v_now_odds, .int v_now_lines, .ref h_now_signs, .int v_now_signCount, .ref h_now_posts, .int v_now_postCount, .ref h_now_acts])), (h_now_acts, .inr (0, [.ref h_now_acts_over, .ref h_now_acts_steps, .ref h_now_acts_before, .int v_now_acts_size])), (h_now_signs, .inl (cI, 8, .inl f_now_signs)), (h_now_acts_over, .inl (cI, 61, .inl f_now_acts_over))] sz [.ref h0, .int v1, .int v2, .int v3, .int v4]) (va_Qi (fun (r : Int32) (x : Int64 × Int32 × Int32 × Int32) => True) (atW D (tyL cB cI cJ cZ cS cT) (va_A [(h0, .inr (11, [.ref h_tape, .ref h_reader, .ref h_now, .ref h_trial, .ref h_images, .ref h_imageKept, .ref h_slots, .ref h_night, .ref h_otherNight, .ref h_circle, .ref h_words, .ref h_lawSearch, .ref h_placeSearch, .ref h_drawnNight])), (h_drawnNight, .inr (2, [.long v_drawnNight_x, .int v_drawnNight_tone, .int v_drawnNight_lost, .int v_drawnNight_answer])), (h_now, .inr (8, [.int v_now_tones, .int v_now_a, .int v_now_b, .int v_now_c, .int v_now_d, .int v_now_odds, .int v_now_lines, .ref h_now_signs, .int v_now_signCount, .ref h_now_posts, .int v_now_postCount, .ref h_now_acts])), (h_now_acts, .inr (0, [.ref h_now_acts_over, .ref h_now_acts_steps, .ref h_now_acts_before, .int v_now_acts_size])), (h_now_signs, .inl (cI, 8, .inl f_now_signs)), (h_now_acts_over, .inl (cI, 61, .inl f_now_acts_over))] sz) (fun x : Int64 × Int32 × Int32 × Int32 => [(h0, .inr (11, [.ref h_tape, .ref h_reader, .ref h_now, .ref h_trial, .ref h_images, .ref h_imageKept, .ref h_slots, .ref h_night, .ref h_otherNight, .ref h_circle, .ref h_words, .ref h_lawSearch, .ref h_placeSearch, .ref h_drawnNight])), (h_drawnNight, .inr (2, [.long x.1, .int x.2.1, .int x.2.2.1, .int x.2.2.2])), (h_now, .inr (8, [.int v_now_tones, .int v_now_a, .int v_now_b, .int v_now_c, .int v_now_d, .int v_now_odds, .int v_now_lines, .ref h_now_signs, .int v_now_signCount, .ref h_now_posts, .int v_now_postCount, .ref h_now_acts])), (h_now_acts, .inr (0, [.ref h_now_acts_over, .ref h_now_acts_steps, .ref h_now_acts_before, .int v_now_acts_size])), (h_now_signs, .inl (cI, 8, .inl f_now_signs)), (h_now_acts_over, .inl (cI, 61, .inl f_now_acts_over))])) (va_A [(h0, .inr (11, [.ref h_tape, .ref h_reader, .ref h_now, .ref h_trial, .ref h_images, .ref h_imageKept, .ref h_slots, .ref h_night, .ref h_otherNight, .ref h_circle, .ref h_words, .ref h_lawSearch, .ref h_placeSearch, .ref h_drawnNight])), (h_drawnNight, .inr (2, [.long v_drawnNight_x, .int v_drawnNight_tone, .int v_drawnNight_lost, .int v_drawnNight_answer])), (h_now, .inr (8, [.int v_now_tones, .int v_now_a, .int v_now_b, .int v_now_c, .int v_now_d, .int v_now_odds, .int v_now_lines, .ref h_now_signs, .int v_now_signCount, .ref h_now_posts, .int v_now_postCount, .ref h_now_acts])), (h_now_acts, .inr (0, [.ref h_now_acts_over, .ref h_now_acts_steps, .ref h_now_acts_before, .int v_now_acts_size])), (h_now_signs, .inl (cI, 8, .inl f_now_signs)), (h_now_acts_over, .inl (cI, 61, .inl f_now_acts_over))] sz)) 0 0 (va_A [(h0, .inr (11, [.ref h_tape, .ref h_reader, .ref h_now, .ref h_trial, .ref h_images, .ref h_imageKept, .ref h_slots, .ref h_night, .ref h_otherNight, .ref h_circle, .ref h_words, .ref h_lawSearch, .ref h_placeSearch, .ref h_drawnNight])), (h_drawnNight, .inr (2, [.long v_drawnNight_x, .int v_drawnNight_tone, .int v_drawnNight_lost, .int v_drawnNight_answer])), (h_now, .inr (8, [.int v_now_tones, .int v_now_a, .int v_now_b, .int v_now_c, .int v_now_d, .int v_now_odds, .int v_now_lines, .ref h_now_signs, .int v_now_signCount, .ref h_now_posts, .int v_now_postCount, .ref h_now_acts])), (h_now_acts, .inr (0, [.ref h_now_acts_over, .ref h_now_acts_steps, .ref h_now_acts_before, .int v_now_acts_size])), (h_now_signs, .inl (cI, 8, .inl f_now_signs)), (h_now_acts_over, .inl (cI, 61, .inl f_now_acts_over))] sz) := by
  refine metI (own := RX11) (by decide) rfl ?_
  intro p e s m below meth c Q hsz C hG hP hD hAB ret
  obtain ⟨hx, hb, hml, hown, hts, hK, hN, hT⟩ := id C
  subst hsz
  generalize hAe : va_A [(h0, .inr (11, [.ref h_tape, .ref h_reader, .ref h_now, .ref h_trial, .ref h_images, .ref h_imageKept, .ref h_slots, .ref h_night, .ref h_otherNight, .ref h_circle, .ref h_words, .ref h_lawSearch, .ref h_placeSearch, .ref h_drawnNight])), (h_drawnNight, .inr (2, [.long v_drawnNight_x, .int v_drawnNight_tone, .int v_drawnNight_lost, .int v_drawnNight_answer])), (h_now, .inr (8, [.int v_now_tones, .int v_now_a, .int v_now_b, .int v_now_c, .int v_now_d, .int v_now_odds, .int v_now_lines, .ref h_now_signs, .int v_now_signCount, .ref h_now_posts, .int v_now_postCount, .ref h_now_acts])), (h_now_acts, .inr (0, [.ref h_now_acts_over, .ref h_now_acts_steps, .ref h_now_acts_before, .int v_now_acts_size])), (h_now_signs, .inl (cI, 8, .inl f_now_signs)), (h_now_acts_over, .inl (cI, 61, .inl f_now_acts_over))] s.heap.size = A at hD hAB ret ⊢
  have hA : ∀ q : Nat, s.heap.size ≤ q → A q := fun q h => by rw [← hAe]; exact Or.inr h
  have hS : va_S A s.heap s.heap [] := va_S.rf
  have hl := lv_entry ([.ref h0, .int v1, .int v2, .int v3, .int v4]) (n := 7) (Nat.le_of_ble_eq_true rfl)
  rw [lg_entry_eq]
  generalize (lg_sl ([.ref h0, .int v1, .int v2, .int v3, .int v4]) ++ List.replicate (7 - (lg_sl ([.ref h0, .int v1, .int v2, .int v3, .int v4])).length) Slot.unset).toArray = ls at hl ⊢
  have hl : lv_has ls 7 [(0, .ref h0), (1, .int v1), (2, .int v2), (3, .int v3), (4, .int v4)] := hl
  have hP : va_P D vwCl [(h0, .inr (11, [.ref h_tape, .ref h_reader, .ref h_now, .ref h_trial, .ref h_images, .ref h_imageKept, .ref h_slots, .ref h_night, .ref h_otherNight, .ref h_circle, .ref h_words, .ref h_lawSearch, .ref h_placeSearch, .ref h_drawnNight])), (h_drawnNight, .inr (2, [.long v_drawnNight_x, .int v_drawnNight_tone, .int v_drawnNight_lost, .int v_drawnNight_answer])), (h_now, .inr (8, [.int v_now_tones, .int v_now_a, .int v_now_b, .int v_now_c, .int v_now_d, .int v_now_odds, .int v_now_lines, .ref h_now_signs, .int v_now_signCount, .ref h_now_posts, .int v_now_postCount, .ref h_now_acts])), (h_now_acts, .inr (0, [.ref h_now_acts_over, .ref h_now_acts_steps, .ref h_now_acts_before, .int v_now_acts_size])), (h_now_signs, .inl (cI, 8, .inl f_now_signs)), (h_now_acts_over, .inl (cI, 61, .inl f_now_acts_over))] s.heap := hP
  refine lv_aload_n hx hb dX11_luck_0 rfl (lv_at hl 0 rfl) ?_
  refine lv_iload_n hx hb dX11_luck_1 rfl (lv_at hl 3 rfl) ?_
  refine roi (As := [.int v3]) (rest := []) ⟨hx, hb, hml, hown, hts⟩ (b_X11_noStep l G D cB cI cJ cZ cS cT h0 h_tape h_reader h_now h_trial h_images h_imageKept h_slots h_night h_otherNight h_circle h_words h_lawSearch h_placeSearch h_drawnNight v_now_tones v_now_a v_now_b v_now_c v_now_d v_now_odds v_now_lines h_now_signs v_now_signCount h_now_posts v_now_postCount h_now_acts v3 (by first | assumption | omega | decide) (by first | assumption | omega | decide)) (cvB (n := 1) (inr22 _ (List.mem_of_getElem? (i := 6) rfl)) (inr22 _ (List.mem_of_getElem? (i := 7) rfl)) (inr22 _ (List.mem_of_getElem? (i := 8) rfl)) (inr1 _ (List.mem_of_getElem? (i := 2) rfl)) (inr22 _ (List.mem_of_getElem? (i := 9) rfl)) (by decide +kernel) hts rfl rfl ⟨Nat.le_of_ble_eq_true rfl, Nat.le_of_ble_eq_true rfl⟩) 0 11 rfl rfl rfl (hP.sub [0, 2] rfl) hK hN (kT.to hT hS hAB) rfl hl.1 rfl (Nat.le_of_ble_eq_true rfl) ⟨Nat.le_of_ble_eq_true rfl, Nat.le_of_ble_eq_true rfl⟩ dX11_luck_2 (fun r_1 h_2 => ?_)
  have h_2 : (r_1 = 0 ∨ r_1 = 1) := h_2
  have i_3 := h_2
  have ar_1 : 0 ≤ r_1.toInt ∧ r_1.toInt ≤ 1 := by rcases i_3 with h | h <;> rw [h] <;> decide
  refine lv_if_ne (tgt := 41) hx hb dX11_luck_5 (by decide) (fun c_4 => ?_) (fun c_4 => ?_)
  · have c_4 : ¬ r_1.toInt = 0 := ci_ne_t c_4
    have b_r_1 := i32b r_1
    refine lv_bipush (v := (-2)) hx hb dX11_luck_41 (by decide) ?_
    exact ret _ _ _ _ _ (v_drawnNight_x, v_drawnNight_tone, v_drawnNight_lost, v_drawnNight_answer) dX11_luck_43 trivial (hP.sub [0, 1, 2, 3, 4, 5] rfl) (hD.sub [0, 1, 2, 3, 4, 5] (by decide) rfl) hS
  · have c_4 : r_1.toInt = 0 := ci_ne_f c_4
    have b_r_1 := i32b r_1
    refine lv_aload_n hx hb dX11_luck_8 rfl (lv_at hl 0 rfl) ?_
    refine lv_iload hx hb dX11_luck_9 (lv_at hl 4 rfl) ?_
    refine roi (As := [.int v4]) (rest := []) ⟨hx, hb, hml, hown, hts⟩ (b_X11_noTone l G D cB cI cJ cZ cS cT h0 h_tape h_reader h_now h_trial h_images h_imageKept h_slots h_night h_otherNight h_circle h_words h_lawSearch h_placeSearch h_drawnNight v_now_tones v_now_a v_now_b v_now_c v_now_d v_now_odds v_now_lines h_now_signs v_now_signCount h_now_posts v_now_postCount h_now_acts v4 (by first | assumption | omega | decide) (by first | assumption | omega | decide)) (cvB (n := 1) (inr29 _ (List.mem_of_getElem? (i := 11) rfl)) (inr29 _ (List.mem_of_getElem? (i := 12) rfl)) (inr29 _ (List.mem_of_getElem? (i := 13) rfl)) (inr1 _ (List.mem_of_getElem? (i := 2) rfl)) (inr29 _ (List.mem_of_getElem? (i := 14) rfl)) (by decide +kernel) hts rfl rfl ⟨Nat.le_of_ble_eq_true rfl, Nat.le_of_ble_eq_true rfl⟩) 0 11 rfl rfl rfl (hP.sub [0, 2] rfl) hK hN (kT.to hT hS hAB) rfl hl.1 rfl (Nat.le_of_ble_eq_true rfl) ⟨Nat.le_of_ble_eq_true rfl, Nat.le_of_ble_eq_true rfl⟩ dX11_luck_11 (fun r_5 h_6 => ?_)
    have h_6 : (r_5 = 0 ∨ r_5 = 1) := h_6
    have i_7 := h_6
    have ar_5 : 0 ≤ r_5.toInt ∧ r_5.toInt ≤ 1 := by rcases i_7 with h | h <;> rw [h] <;> decide
    refine lv_if_ne (tgt := 41) hx hb dX11_luck_14 (by decide) (fun c_8 => ?_) (fun c_8 => ?_)
    · have c_8 : ¬ r_5.toInt = 0 := ci_ne_t c_8
      have b_r_5 := i32b r_5
      refine lv_bipush (v := (-2)) hx hb dX11_luck_41 (by decide) ?_
      exact ret _ _ _ _ _ (v_drawnNight_x, v_drawnNight_tone, v_drawnNight_lost, v_drawnNight_answer) dX11_luck_43 trivial (hP.sub [0, 1, 2, 3, 4, 5] rfl) (hD.sub [0, 1, 2, 3, 4, 5] (by decide) rfl) hS
    · have c_8 : r_5.toInt = 0 := ci_ne_f c_8
      have b_r_5 := i32b r_5
      refine lv_iload_n hx hb dX11_luck_17 rfl (lv_at hl 1 rfl) ?_
      have b_v1 := i32b v1
      obtain ⟨t_9, et_9⟩ : ∃ v9 : Int64, (v1 : Int32).toInt64 = v9 := ⟨_, rfl⟩
      refine lv_i2l (v := t_9) hx hb dX11_luck_18 et_9 ?_
      have ft_9 : t_9.toInt = v1.toInt := by rw [← et_9]; exact Int32.toInt_toInt64 _
      refine lv_lconst (v := 0) hx hb dX11_luck_19 (by decide) ?_
      refine lv_ldc2 hx hb hown (hts _ (inr47 _ (List.mem_of_getElem? (i := 13) rfl))) dX11_luck_20 ?_
      refine rosi (As := [.long t_9, .long 0, .long 2000000000]) (rest := []) ⟨hx, hb, hml, hown, hts⟩ (b_X11_outside l G D cB cI cJ cZ cS cT t_9 0 2000000000 ) (csB (n := 3) (inr8 _ (List.mem_of_getElem? (i := 16) rfl)) (inr8 _ (List.mem_of_getElem? (i := 17) rfl)) (inr1 _ (List.mem_of_getElem? (i := 2) rfl)) (inr8 _ (List.mem_of_getElem? (i := 18) rfl)) (by decide +kernel) hts rfl rfl ⟨Nat.le_of_ble_eq_true rfl, Nat.le_of_ble_eq_true rfl⟩) (hP.sub [] rfl) hK hN (kT.to hT hS hAB) rfl hl.1 rfl (Nat.le_of_ble_eq_true rfl) ⟨Nat.le_of_ble_eq_true rfl, Nat.le_of_ble_eq_true rfl⟩ dX11_luck_23 (fun r_10 h_11 => ?_)
      have h_11 : ((r_10.toInt = 0 ∧ 0 ≤ t_9.toInt ∧ t_9.toInt ≤ 2000000000) ∨ (r_10.toInt = 1 ∧ (t_9.toInt < 0 ∨ 2000000000 < t_9.toInt))) := h_11
      have i_12 := h_11
      refine lv_if_ne (tgt := 41) hx hb dX11_luck_26 (by decide) (fun c_13 => ?_) (fun c_13 => ?_)
      · have c_13 : ¬ r_10.toInt = 0 := ci_ne_t c_13
        have b_r_10 := i32b r_10
        refine lv_bipush (v := (-2)) hx hb dX11_luck_41 (by decide) ?_
        exact ret _ _ _ _ _ (v_drawnNight_x, v_drawnNight_tone, v_drawnNight_lost, v_drawnNight_answer) dX11_luck_43 trivial (hP.sub [0, 1, 2, 3, 4, 5] rfl) (hD.sub [0, 1, 2, 3, 4, 5] (by decide) rfl) hS
      · have c_13 : r_10.toInt = 0 := ci_ne_f c_13
        have b_r_10 := i32b r_10
        refine lv_iload_n hx hb dX11_luck_29 rfl (lv_at hl 2 rfl) ?_
        have b_v2 := i32b v2
        obtain ⟨t_14, et_14⟩ : ∃ v9 : Int64, (v2 : Int32).toInt64 = v9 := ⟨_, rfl⟩
        refine lv_i2l (v := t_14) hx hb dX11_luck_30 et_14 ?_
        have ft_14 : t_14.toInt = v2.toInt := by rw [← et_14]; exact Int32.toInt_toInt64 _
        refine lv_lconst (v := 1) hx hb dX11_luck_31 (by decide) ?_
        refine lv_ldc2 hx hb hown (hts _ (inr70 _ (List.mem_of_getElem? (i := 14) rfl))) dX11_luck_32 ?_
        refine rosi (As := [.long t_14, .long 1, .long 20]) (rest := []) ⟨hx, hb, hml, hown, hts⟩ (b_X11_outside l G D cB cI cJ cZ cS cT t_14 1 20 ) (csB (n := 3) (inr8 _ (List.mem_of_getElem? (i := 16) rfl)) (inr8 _ (List.mem_of_getElem? (i := 17) rfl)) (inr1 _ (List.mem_of_getElem? (i := 2) rfl)) (inr8 _ (List.mem_of_getElem? (i := 18) rfl)) (by decide +kernel) hts rfl rfl ⟨Nat.le_of_ble_eq_true rfl, Nat.le_of_ble_eq_true rfl⟩) (hP.sub [] rfl) hK hN (kT.to hT hS hAB) rfl hl.1 rfl (Nat.le_of_ble_eq_true rfl) ⟨Nat.le_of_ble_eq_true rfl, Nat.le_of_ble_eq_true rfl⟩ dX11_luck_35 (fun r_15 h_16 => ?_)
        have h_16 : ((r_15.toInt = 0 ∧ 1 ≤ t_14.toInt ∧ t_14.toInt ≤ 20) ∨ (r_15.toInt = 1 ∧ (t_14.toInt < 1 ∨ 20 < t_14.toInt))) := h_16
        have i_17 := h_16
        refine lv_if_eq (tgt := 44) hx hb dX11_luck_38 (by decide) (fun c_18 => ?_) (fun c_18 => ?_)
        · have c_18 : r_15.toInt = 0 := ci_eq_t c_18
          have b_r_15 := i32b r_15
          refine lv_iconst (v := 0) hx hb dX11_luck_44 (by decide) ?_
          refine lv_istore (lv' := [(5, .int 0), (0, .ref h0), (1, .int v1), (2, .int v2), (3, .int v3), (4, .int v4)]) hx hb dX11_luck_45 hl (by decide) rfl (fun ls hl => ?_)
          refine lv_iconst (v := 0) hx hb dX11_luck_47 (by decide) ?_
          refine lv_istore (lv' := [(6, .int 0), (5, .int 0), (0, .ref h0), (1, .int v1), (2, .int v2), (3, .int v3), (4, .int v4)]) hx hb dX11_luck_48 hl (by decide) rfl (fun ls hl => ?_)
          exact b_X11_luck_l50 h0 h_tape h_reader h_now h_trial h_images h_imageKept h_slots h_night h_otherNight h_circle h_words h_lawSearch h_placeSearch h_drawnNight v_now_tones v_now_a v_now_b v_now_c v_now_d v_now_odds v_now_lines h_now_signs v_now_signCount h_now_posts v_now_postCount h_now_acts h_now_acts_over h_now_acts_steps h_now_acts_before v_now_acts_size f_now_signs f_now_acts_over v1 v2 v3 v4 (by first | assumption | omega | decide) (by first | assumption | omega | decide) (by first | assumption | omega | decide) C hG hAB hA ret _ (v_drawnNight_x) (v_drawnNight_tone) (v_drawnNight_lost) (v_drawnNight_answer) (0) (0) _ _ _ (by first | assumption | omega | decide) (Nat.lt_succ_self _) (hP.sub [0, 1, 2, 3, 4, 5] rfl) (hD.sub [0, 1, 2, 3, 4, 5] (by decide) rfl) hS (lv_sub hl [0, 1, 2, 3, 4, 5, 6] rfl)
        · have c_18 : ¬ r_15.toInt = 0 := ci_eq_f c_18
          have b_r_15 := i32b r_15
          refine lv_bipush (v := (-2)) hx hb dX11_luck_41 (by decide) ?_
          exact ret _ _ _ _ _ (v_drawnNight_x, v_drawnNight_tone, v_drawnNight_lost, v_drawnNight_answer) dX11_luck_43 trivial (hP.sub [0, 1, 2, 3, 4, 5] rfl) (hD.sub [0, 1, 2, 3, 4, 5] (by decide) rfl) hS

set_option maxHeartbeats 4000000 in
set_option maxRecDepth 100000 in
theorem b_X11_speak (l : Launch) (G : Gho) (D : va_G) (cB cI cJ cZ cS cT : ClassId) (sz : Nat) (h0 : Nat) (h_tape : Nat) (h_reader : Nat) (h_now : Nat) (h_trial : Nat) (h_images : Nat) (h_imageKept : Nat) (h_slots : Nat) (h_night : Nat) (h_otherNight : Nat) (h_circle : Nat) (h_words : Nat) (h_lawSearch : Nat) (h_placeSearch : Nat) (h_drawnNight : Nat) (v_now_tones : Int32) (v_now_a : Int32) (v_now_b : Int32) (v_now_c : Int32) (v_now_d : Int32) (v_now_odds : Int32) (v_now_lines : Int32) (h_now_signs : Nat) (v_now_signCount : Int32) (h_now_posts : Nat) (v_now_postCount : Int32) (h_now_acts : Nat) (h_now_acts_over : Nat) (h_now_acts_steps : Nat) (h_now_acts_before : Nat) (v_now_acts_size : Int32) (f_now_acts_before : Nat → Int32) (f_now_acts_over : Nat → Int32) (f_now_acts_steps : Nat → Int32) (v1 : Int32) (v2 : Int32) (iv_now_signCount : 0 ≤ v_now_signCount.toInt ∧ v_now_signCount.toInt ≤ 8) (iv_now_postCount : 0 ≤ v_now_postCount.toInt ∧ v_now_postCount.toInt ≤ 5) (iv_now_acts_size : 0 ≤ v_now_acts_size.toInt ∧ v_now_acts_size.toInt ≤ 30) : Met l yX11_speak (Cond.code yX11_speak cX11_speak 4 (some .int) :: wsL_law) ({ frames := 3, cells := 0, slots := 0, locals := 61 }) (wrP G D (tyL cB cI cJ cZ cS cT) [(h0, .inr (11, [.ref h_tape, .ref h_reader, .ref h_now, .ref h_trial, .ref h_images, .ref h_imageKept, .ref h_slots, .ref h_night, .ref h_otherNight, .ref h_circle, .ref h_words, .ref h_lawSearch, .ref h_placeSearch, .ref h_drawnNight])), (h_now, .inr (8, [.int v_now_tones, .int v_now_a, .int v_now_b, .int v_now_c, .int v_now_d, .int v_now_odds, .int v_now_lines, .ref h_now_signs, .int v_now_signCount, .ref h_now_posts, .int v_now_postCount, .ref h_now_acts])), (h_now_acts, .inr (0, [.ref h_now_acts_over, .ref h_now_acts_steps, .ref h_now_acts_before, .int v_now_acts_size])), (h_now_acts_before, .inl (cI, 30, .inl f_now_acts_before)), (h_now_acts_over, .inl (cI, 61, .inl f_now_acts_over)), (h_now_acts_steps, .inl (cI, 30, .inl f_now_acts_steps))] sz [.ref h0, .int v1, .int v2]) (va_Qi (fun (r : Int32) (x : Int32 × (Nat → Int32) × (Nat → Int32) × (Nat → Int32)) => (0 ≤ x.1.toInt ∧ x.1.toInt ≤ 30)) (atW D (tyL cB cI cJ cZ cS cT) (va_A [(h0, .inr (11, [.ref h_tape, .ref h_reader, .ref h_now, .ref h_trial, .ref h_images, .ref h_imageKept, .ref h_slots, .ref h_night, .ref h_otherNight, .ref h_circle, .ref h_words, .ref h_lawSearch, .ref h_placeSearch, .ref h_drawnNight])), (h_now, .inr (8, [.int v_now_tones, .int v_now_a, .int v_now_b, .int v_now_c, .int v_now_d, .int v_now_odds, .int v_now_lines, .ref h_now_signs, .int v_now_signCount, .ref h_now_posts, .int v_now_postCount, .ref h_now_acts])), (h_now_acts, .inr (0, [.ref h_now_acts_over, .ref h_now_acts_steps, .ref h_now_acts_before, .int v_now_acts_size])), (h_now_acts_before, .inl (cI, 30, .inl f_now_acts_before)), (h_now_acts_over, .inl (cI, 61, .inl f_now_acts_over)), (h_now_acts_steps, .inl (cI, 30, .inl f_now_acts_steps))] sz) (fun x : Int32 × (Nat → Int32) × (Nat → Int32) × (Nat → Int32) => [(h0, .inr (11, [.ref h_tape, .ref h_reader, .ref h_now, .ref h_trial, .ref h_images, .ref h_imageKept, .ref h_slots, .ref h_night, .ref h_otherNight, .ref h_circle, .ref h_words, .ref h_lawSearch, .ref h_placeSearch, .ref h_drawnNight])), (h_now, .inr (8, [.int v_now_tones, .int v_now_a, .int v_now_b, .int v_now_c, .int v_now_d, .int v_now_odds, .int v_now_lines, .ref h_now_signs, .int v_now_signCount, .ref h_now_posts, .int v_now_postCount, .ref h_now_acts])), (h_now_acts, .inr (0, [.ref h_now_acts_over, .ref h_now_acts_steps, .ref h_now_acts_before, .int x.1])), (h_now_acts_before, .inl (cI, 30, .inl x.2.1)), (h_now_acts_over, .inl (cI, 61, .inl x.2.2.1)), (h_now_acts_steps, .inl (cI, 30, .inl x.2.2.2))])) (va_A [(h0, .inr (11, [.ref h_tape, .ref h_reader, .ref h_now, .ref h_trial, .ref h_images, .ref h_imageKept, .ref h_slots, .ref h_night, .ref h_otherNight, .ref h_circle, .ref h_words, .ref h_lawSearch, .ref h_placeSearch, .ref h_drawnNight])), (h_now, .inr (8, [.int v_now_tones, .int v_now_a, .int v_now_b, .int v_now_c, .int v_now_d, .int v_now_odds, .int v_now_lines, .ref h_now_signs, .int v_now_signCount, .ref h_now_posts, .int v_now_postCount, .ref h_now_acts])), (h_now_acts, .inr (0, [.ref h_now_acts_over, .ref h_now_acts_steps, .ref h_now_acts_before, .int v_now_acts_size])), (h_now_acts_before, .inl (cI, 30, .inl f_now_acts_before)), (h_now_acts_over, .inl (cI, 61, .inl f_now_acts_over)), (h_now_acts_steps, .inl (cI, 30, .inl f_now_acts_steps))] sz)) 0 0 (va_A [(h0, .inr (11, [.ref h_tape, .ref h_reader, .ref h_now, .ref h_trial, .ref h_images, .ref h_imageKept, .ref h_slots, .ref h_night, .ref h_otherNight, .ref h_circle, .ref h_words, .ref h_lawSearch, .ref h_placeSearch, .ref h_drawnNight])), (h_now, .inr (8, [.int v_now_tones, .int v_now_a, .int v_now_b, .int v_now_c, .int v_now_d, .int v_now_odds, .int v_now_lines, .ref h_now_signs, .int v_now_signCount, .ref h_now_posts, .int v_now_postCount, .ref h_now_acts])), (h_now_acts, .inr (0, [.ref h_now_acts_over, .ref h_now_acts_steps, .ref h_now_acts_before, .int v_now_acts_size])), (h_now_acts_before, .inl (cI, 30, .inl f_now_acts_before)), (h_now_acts_over, .inl (cI, 61, .inl f_now_acts_over)), (h_now_acts_steps, .inl (cI, 30, .inl f_now_acts_steps))] sz) := by
  refine metI (own := RX11) (by decide) rfl ?_
  intro p e s m below meth c Q hsz C hG hP hD hAB ret
  obtain ⟨hx, hb, hml, hown, hts, hK, hN, hT⟩ := id C
  subst hsz
  generalize hAe : va_A [(h0, .inr (11, [.ref h_tape, .ref h_reader, .ref h_now, .ref h_trial, .ref h_images, .ref h_imageKept, .ref h_slots, .ref h_night, .ref h_otherNight, .ref h_circle, .ref h_words, .ref h_lawSearch, .ref h_placeSearch, .ref h_drawnNight])), (h_now, .inr (8, [.int v_now_tones, .int v_now_a, .int v_now_b, .int v_now_c, .int v_now_d, .int v_now_odds, .int v_now_lines, .ref h_now_signs, .int v_now_signCount, .ref h_now_posts, .int v_now_postCount, .ref h_now_acts])), (h_now_acts, .inr (0, [.ref h_now_acts_over, .ref h_now_acts_steps, .ref h_now_acts_before, .int v_now_acts_size])), (h_now_acts_before, .inl (cI, 30, .inl f_now_acts_before)), (h_now_acts_over, .inl (cI, 61, .inl f_now_acts_over)), (h_now_acts_steps, .inl (cI, 30, .inl f_now_acts_steps))] s.heap.size = A at hD hAB ret ⊢
  have hA : ∀ q : Nat, s.heap.size ≤ q → A q := fun q h => by rw [← hAe]; exact Or.inr h
  have hS : va_S A s.heap s.heap [] := va_S.rf
  have hl := lv_entry ([.ref h0, .int v1, .int v2]) (n := 4) (Nat.le_of_ble_eq_true rfl)
  rw [lg_entry_eq]
  generalize (lg_sl ([.ref h0, .int v1, .int v2]) ++ List.replicate (4 - (lg_sl ([.ref h0, .int v1, .int v2])).length) Slot.unset).toArray = ls at hl ⊢
  have hl : lv_has ls 4 [(0, .ref h0), (1, .int v1), (2, .int v2)] := hl
  have hP : va_P D vwCl [(h0, .inr (11, [.ref h_tape, .ref h_reader, .ref h_now, .ref h_trial, .ref h_images, .ref h_imageKept, .ref h_slots, .ref h_night, .ref h_otherNight, .ref h_circle, .ref h_words, .ref h_lawSearch, .ref h_placeSearch, .ref h_drawnNight])), (h_now, .inr (8, [.int v_now_tones, .int v_now_a, .int v_now_b, .int v_now_c, .int v_now_d, .int v_now_odds, .int v_now_lines, .ref h_now_signs, .int v_now_signCount, .ref h_now_posts, .int v_now_postCount, .ref h_now_acts])), (h_now_acts, .inr (0, [.ref h_now_acts_over, .ref h_now_acts_steps, .ref h_now_acts_before, .int v_now_acts_size])), (h_now_acts_before, .inl (cI, 30, .inl f_now_acts_before)), (h_now_acts_over, .inl (cI, 61, .inl f_now_acts_over)), (h_now_acts_steps, .inl (cI, 30, .inl f_now_acts_steps))] s.heap := hP
  refine lv_aload_n hx hb dX11_speak_0 rfl (lv_at hl 0 rfl) ?_
  refine lv_iload_n hx hb dX11_speak_1 rfl (lv_at hl 1 rfl) ?_
  refine roi (As := [.int v1]) (rest := []) ⟨hx, hb, hml, hown, hts⟩ (b_X11_noStep l G D cB cI cJ cZ cS cT h0 h_tape h_reader h_now h_trial h_images h_imageKept h_slots h_night h_otherNight h_circle h_words h_lawSearch h_placeSearch h_drawnNight v_now_tones v_now_a v_now_b v_now_c v_now_d v_now_odds v_now_lines h_now_signs v_now_signCount h_now_posts v_now_postCount h_now_acts v1 (by first | assumption | omega | decide) (by first | assumption | omega | decide)) (cvB (n := 1) (inr22 _ (List.mem_of_getElem? (i := 6) rfl)) (inr22 _ (List.mem_of_getElem? (i := 7) rfl)) (inr22 _ (List.mem_of_getElem? (i := 8) rfl)) (inr1 _ (List.mem_of_getElem? (i := 2) rfl)) (inr22 _ (List.mem_of_getElem? (i := 9) rfl)) (by decide +kernel) hts rfl rfl ⟨Nat.le_of_ble_eq_true rfl, Nat.le_of_ble_eq_true rfl⟩) 0 11 rfl rfl rfl (hP.sub [0, 1] rfl) hK hN (kT.to hT hS hAB) rfl hl.1 rfl (Nat.le_of_ble_eq_true rfl) ⟨Nat.le_of_ble_eq_true rfl, Nat.le_of_ble_eq_true rfl⟩ dX11_speak_2 (fun r_1 h_2 => ?_)
  have h_2 : (r_1 = 0 ∨ r_1 = 1) := h_2
  have i_3 := h_2
  have ar_1 : 0 ≤ r_1.toInt ∧ r_1.toInt ≤ 1 := by rcases i_3 with h | h <;> rw [h] <;> decide
  refine lv_if_ne (tgt := 21) hx hb dX11_speak_5 (by decide) (fun c_4 => ?_) (fun c_4 => ?_)
  · have c_4 : ¬ r_1.toInt = 0 := ci_ne_t c_4
    have b_r_1 := i32b r_1
    refine lv_bipush (v := (-2)) hx hb dX11_speak_21 (by decide) ?_
    exact ret _ _ _ _ _ (v_now_acts_size, f_now_acts_before, f_now_acts_over, f_now_acts_steps) dX11_speak_23 (show (0 ≤ v_now_acts_size.toInt ∧ v_now_acts_size.toInt ≤ 30) from (by first | assumption | omega | decide)) (hP.sub [0, 1, 2, 3, 4, 5] rfl) (hD.sub [0, 1, 2, 3, 4, 5] (by decide) rfl) hS
  · have c_4 : r_1.toInt = 0 := ci_ne_f c_4
    have b_r_1 := i32b r_1
    refine lv_iload_n hx hb dX11_speak_8 rfl (lv_at hl 2 rfl) ?_
    refine lv_iconst (v := (-1)) hx hb dX11_speak_9 (by decide) ?_
    refine lv_icmp_eq (tgt := 24) hx hb dX11_speak_10 (by decide) (fun c_5 => ?_) (fun c_5 => ?_)
    · have c_5 : v2.toInt = (-1) := ci_eq_t c_5
      have b_v2 := i32b v2
      refine lv_aload_n hx hb dX11_speak_24 rfl (lv_at hl 0 rfl) ?_
      refine va_get (D := D) (ci := 11) (v := .ref h_now) (C := RX11) (T := TX11) (N := 14) hx hb hts inlX11 hown hK hP 0 rfl rfl 2 (by decide) (hts _ (inr2 _ (List.mem_of_getElem? (i := 0) rfl))) (fun _ h9 => h9) rfl dX11_speak_25 ?_
      refine roq (As := []) (rest := []) ⟨hx, hb, hml, hown, hts⟩ (b_X8_acts l G D cB cI cJ cZ cS cT h_now v_now_tones v_now_a v_now_b v_now_c v_now_d v_now_odds v_now_lines h_now_signs v_now_signCount h_now_posts v_now_postCount h_now_acts (by first | assumption | omega | decide) (by first | assumption | omega | decide)) (cvB (n := 0) (inr36 _ (List.mem_of_getElem? (i := 3) rfl)) (inr36 _ (List.mem_of_getElem? (i := 4) rfl)) (inr36 _ (List.mem_of_getElem? (i := 5) rfl)) (inr1 _ (List.mem_of_getElem? (i := 23) rfl)) (inr36 _ (List.mem_of_getElem? (i := 6) rfl)) (by decide +kernel) hts rfl rfl ⟨Nat.le_of_ble_eq_true rfl, Nat.le_of_ble_eq_true rfl⟩) 0 8 rfl rfl rfl (hP.sub [1] rfl) hK hN (kT.to hT hS hAB) rfl hl.1 rfl (Nat.le_of_ble_eq_true rfl) ⟨Nat.le_of_ble_eq_true rfl, Nat.le_of_ble_eq_true rfl⟩ dX11_speak_28 (fun r_6 h_7 => ?_)
      have h_7 : (r_6 = some h_now_acts) := h_7
      have i_8 := h_7
      obtain rfl := i_8
      refine W.eq (g2 := F0 m 31 ls [.ref h_now_acts]) rfl ?_
      refine roi (As := []) (rest := []) ⟨hx, hb, hml, hown, hts⟩ (b_X0_size l G D cB cI cJ cZ cS cT h_now_acts h_now_acts_over h_now_acts_steps h_now_acts_before v_now_acts_size (by first | assumption | omega | decide)) (cvB (n := 0) (inr66 _ (List.mem_of_getElem? (i := 8) rfl)) (inr66 _ (List.mem_of_getElem? (i := 9) rfl)) (inr66 _ (List.mem_of_getElem? (i := 10) rfl)) (inr4 _ (List.mem_of_getElem? (i := 5) rfl)) (inr66 _ (List.mem_of_getElem? (i := 11) rfl)) (by decide +kernel) hts rfl rfl ⟨Nat.le_of_ble_eq_true rfl, Nat.le_of_ble_eq_true rfl⟩) 0 0 rfl rfl rfl (hP.sub [2] rfl) hK hN (kT.to hT hS hAB) rfl hl.1 rfl (Nat.le_of_ble_eq_true rfl) ⟨Nat.le_of_ble_eq_true rfl, Nat.le_of_ble_eq_true rfl⟩ dX11_speak_31 (fun r_9 h_10 => ?_)
      have h_10 : (r_9 = v_now_acts_size) := h_10
      have i_11 := h_10
      obtain rfl := i_11.symm
      refine lv_bipush (v := 30) hx hb dX11_speak_34 (by decide) ?_
      refine lv_icmp_lt (tgt := 42) hx hb dX11_speak_36 (by decide) (fun c_12 => ?_) (fun c_12 => ?_)
      · have c_12 : v_now_acts_size.toInt < 30 := ci_lt_t c_12
        have b_v_now_acts_size := i32b v_now_acts_size
        refine lv_aload_n hx hb dX11_speak_42 rfl (lv_at hl 0 rfl) ?_
        refine va_get (D := D) (ci := 11) (v := .ref h_now) (C := RX11) (T := TX11) (N := 14) hx hb hts inlX11 hown hK hP 0 rfl rfl 2 (by decide) (hts _ (inr2 _ (List.mem_of_getElem? (i := 0) rfl))) (fun _ h9 => h9) rfl dX11_speak_43 ?_
        refine roq (As := []) (rest := []) ⟨hx, hb, hml, hown, hts⟩ (b_X8_acts l G D cB cI cJ cZ cS cT h_now v_now_tones v_now_a v_now_b v_now_c v_now_d v_now_odds v_now_lines h_now_signs v_now_signCount h_now_posts v_now_postCount h_now_acts (by first | assumption | omega | decide) (by first | assumption | omega | decide)) (cvB (n := 0) (inr36 _ (List.mem_of_getElem? (i := 3) rfl)) (inr36 _ (List.mem_of_getElem? (i := 4) rfl)) (inr36 _ (List.mem_of_getElem? (i := 5) rfl)) (inr1 _ (List.mem_of_getElem? (i := 23) rfl)) (inr36 _ (List.mem_of_getElem? (i := 6) rfl)) (by decide +kernel) hts rfl rfl ⟨Nat.le_of_ble_eq_true rfl, Nat.le_of_ble_eq_true rfl⟩) 0 8 rfl rfl rfl (hP.sub [1] rfl) hK hN (kT.to hT hS hAB) rfl hl.1 rfl (Nat.le_of_ble_eq_true rfl) ⟨Nat.le_of_ble_eq_true rfl, Nat.le_of_ble_eq_true rfl⟩ dX11_speak_46 (fun r_13 h_14 => ?_)
        have h_14 : (r_13 = some h_now_acts) := h_14
        have i_15 := h_14
        obtain rfl := i_15
        refine W.eq (g2 := F0 m 49 ls [.ref h_now_acts]) rfl ?_
        refine lv_iload_n hx hb dX11_speak_49 rfl (lv_at hl 1 rfl) ?_
        refine roi (As := [.int v1]) (rest := []) ⟨hx, hb, hml, hown, hts⟩ (b_X0_overStep l G D cB cI cJ cZ cS cT h_now_acts h_now_acts_over h_now_acts_steps h_now_acts_before v_now_acts_size f_now_acts_over v1 (by first | assumption | omega | decide)) (cvB (n := 1) (inr66 _ (List.mem_of_getElem? (i := 12) rfl)) (inr23 _ (List.mem_of_getElem? (i := 4) rfl)) (inr23 _ (List.mem_of_getElem? (i := 5) rfl)) (inr4 _ (List.mem_of_getElem? (i := 5) rfl)) (inr23 _ (List.mem_of_getElem? (i := 6) rfl)) (by decide +kernel) hts rfl rfl ⟨Nat.le_of_ble_eq_true rfl, Nat.le_of_ble_eq_true rfl⟩) 0 0 rfl rfl rfl (hP.sub [2, 4] rfl) hK hN (kT.to hT hS hAB) rfl hl.1 rfl (Nat.le_of_ble_eq_true rfl) ⟨Nat.le_of_ble_eq_true rfl, Nat.le_of_ble_eq_true rfl⟩ dX11_speak_50 (fun r_16 h_17 => ?_)
        refine lv_istore_n (lv' := [(3, .int r_16), (0, .ref h0), (1, .int v1), (2, .int v2)]) hx hb dX11_speak_53 rfl hl (by decide) rfl (fun ls hl => ?_)
        refine lv_aload_n hx hb dX11_speak_54 rfl (lv_at hl 1 rfl) ?_
        refine va_get (D := D) (ci := 11) (v := .ref h_now) (C := RX11) (T := TX11) (N := 14) hx hb hts inlX11 hown hK hP 0 rfl rfl 2 (by decide) (hts _ (inr2 _ (List.mem_of_getElem? (i := 0) rfl))) (fun _ h9 => h9) rfl dX11_speak_55 ?_
        refine roq (As := []) (rest := []) ⟨hx, hb, hml, hown, hts⟩ (b_X8_acts l G D cB cI cJ cZ cS cT h_now v_now_tones v_now_a v_now_b v_now_c v_now_d v_now_odds v_now_lines h_now_signs v_now_signCount h_now_posts v_now_postCount h_now_acts (by first | assumption | omega | decide) (by first | assumption | omega | decide)) (cvB (n := 0) (inr36 _ (List.mem_of_getElem? (i := 3) rfl)) (inr36 _ (List.mem_of_getElem? (i := 4) rfl)) (inr36 _ (List.mem_of_getElem? (i := 5) rfl)) (inr1 _ (List.mem_of_getElem? (i := 23) rfl)) (inr36 _ (List.mem_of_getElem? (i := 6) rfl)) (by decide +kernel) hts rfl rfl ⟨Nat.le_of_ble_eq_true rfl, Nat.le_of_ble_eq_true rfl⟩) 0 8 rfl rfl rfl (hP.sub [1] rfl) hK hN (kT.to hT hS hAB) rfl hl.1 rfl (Nat.le_of_ble_eq_true rfl) ⟨Nat.le_of_ble_eq_true rfl, Nat.le_of_ble_eq_true rfl⟩ dX11_speak_58 (fun r_18 h_19 => ?_)
        have h_19 : (r_18 = some h_now_acts) := h_19
        have i_20 := h_19
        obtain rfl := i_20
        refine W.eq (g2 := F0 m 61 ls [.ref h_now_acts]) rfl ?_
        refine lv_iload_n hx hb dX11_speak_61 rfl (lv_at hl 2 rfl) ?_
        refine lv_iload_n hx hb dX11_speak_62 rfl (lv_at hl 3 rfl) ?_
        refine wrVv (As := [.int v1, .int v2]) (rest := []) (wr := [(h0, .inr (11, [.ref h_tape, .ref h_reader, .ref h_now, .ref h_trial, .ref h_images, .ref h_imageKept, .ref h_slots, .ref h_night, .ref h_otherNight, .ref h_circle, .ref h_words, .ref h_lawSearch, .ref h_placeSearch, .ref h_drawnNight])), (h_now, .inr (8, [.int v_now_tones, .int v_now_a, .int v_now_b, .int v_now_c, .int v_now_d, .int v_now_odds, .int v_now_lines, .ref h_now_signs, .int v_now_signCount, .ref h_now_posts, .int v_now_postCount, .ref h_now_acts]))]) ⟨hx, hb, hml, hown, hts⟩ (b_X0_add l G D cB cI cJ cZ cS cT s.heap.size h_now_acts h_now_acts_over h_now_acts_steps h_now_acts_before v_now_acts_size f_now_acts_before f_now_acts_over f_now_acts_steps v1 v2 (by first | assumption | omega | decide)) hP hD hS hA hK hN hT hAB hG [2, 3, 4, 5] [0, 1] rfl rfl (by decide) (by decide) (by decide) (cvB (n := 2) (inr66 _ (List.mem_of_getElem? (i := 13) rfl)) (inr66 _ (List.mem_of_getElem? (i := 14) rfl)) (inr66 _ (List.mem_of_getElem? (i := 15) rfl)) (inr4 _ (List.mem_of_getElem? (i := 5) rfl)) (inr66 _ (List.mem_of_getElem? (i := 16) rfl)) (by decide +kernel) hts rfl rfl ⟨Nat.le_of_ble_eq_true rfl, Nat.le_of_ble_eq_true rfl⟩) 0 0 rfl rfl rfl rfl hl.1 rfl (Nat.le_of_ble_eq_true rfl) ⟨Nat.le_of_ble_eq_true rfl, Nat.le_of_ble_eq_true rfl⟩ dX11_speak_63 (fun x9 H locs h_22 hP hD hS => ?_)
        obtain ⟨t_23, g_24, g_25, g_26⟩ := x9
        have hP : va_P D vwCl [(h0, .inr (11, [.ref h_tape, .ref h_reader, .ref h_now, .ref h_trial, .ref h_images, .ref h_imageKept, .ref h_slots, .ref h_night, .ref h_otherNight, .ref h_circle, .ref h_words, .ref h_lawSearch, .ref h_placeSearch, .ref h_drawnNight])), (h_now, .inr (8, [.int v_now_tones, .int v_now_a, .int v_now_b, .int v_now_c, .int v_now_d, .int v_now_odds, .int v_now_lines, .ref h_now_signs, .int v_now_signCount, .ref h_now_posts, .int v_now_postCount, .ref h_now_acts])), (h_now_acts, .inr (0, [.ref h_now_acts_over, .ref h_now_acts_steps, .ref h_now_acts_before, .int t_23])), (h_now_acts_before, .inl (cI, 30, .inl g_24)), (h_now_acts_over, .inl (cI, 61, .inl g_25)), (h_now_acts_steps, .inl (cI, 30, .inl g_26))] H := hP
        have hD : va_D A [(h0, .inr (11, [.ref h_tape, .ref h_reader, .ref h_now, .ref h_trial, .ref h_images, .ref h_imageKept, .ref h_slots, .ref h_night, .ref h_otherNight, .ref h_circle, .ref h_words, .ref h_lawSearch, .ref h_placeSearch, .ref h_drawnNight])), (h_now, .inr (8, [.int v_now_tones, .int v_now_a, .int v_now_b, .int v_now_c, .int v_now_d, .int v_now_odds, .int v_now_lines, .ref h_now_signs, .int v_now_signCount, .ref h_now_posts, .int v_now_postCount, .ref h_now_acts])), (h_now_acts, .inr (0, [.ref h_now_acts_over, .ref h_now_acts_steps, .ref h_now_acts_before, .int t_23])), (h_now_acts_before, .inl (cI, 30, .inl g_24)), (h_now_acts_over, .inl (cI, 61, .inl g_25)), (h_now_acts_steps, .inl (cI, 30, .inl g_26))] := hD
        have h_22 : (0 ≤ t_23.toInt ∧ t_23.toInt ≤ 30) := h_22
        have i_27 := h_22
        refine lv_iload_n hx hb dX11_speak_66 rfl (lv_at hl 0 rfl) ?_
        exact ret _ _ _ _ _ (t_23, g_24, g_25, g_26) dX11_speak_67 (show (0 ≤ t_23.toInt ∧ t_23.toInt ≤ 30) from (by first | assumption | omega | decide)) (hP.sub [0, 1, 2, 3, 4, 5] rfl) (hD.sub [0, 1, 2, 3, 4, 5] (by decide) rfl) hS
      · have c_12 : 30 ≤ v_now_acts_size.toInt := ci_lt_f c_12
        have b_v_now_acts_size := i32b v_now_acts_size
        refine lv_bipush (v := (-5)) hx hb dX11_speak_39 (by decide) ?_
        exact ret _ _ _ _ _ (v_now_acts_size, f_now_acts_before, f_now_acts_over, f_now_acts_steps) dX11_speak_41 (show (0 ≤ v_now_acts_size.toInt ∧ v_now_acts_size.toInt ≤ 30) from (by first | assumption | omega | decide)) (hP.sub [0, 1, 2, 3, 4, 5] rfl) (hD.sub [0, 1, 2, 3, 4, 5] (by decide) rfl) hS
    · have c_5 : ¬ v2.toInt = (-1) := ci_eq_f c_5
      have b_v2 := i32b v2
      refine lv_aload_n hx hb dX11_speak_13 rfl (lv_at hl 0 rfl) ?_
      refine lv_iload_n hx hb dX11_speak_14 rfl (lv_at hl 2 rfl) ?_
      refine roi (As := [.int v2]) (rest := []) ⟨hx, hb, hml, hown, hts⟩ (b_X11_noTone l G D cB cI cJ cZ cS cT h0 h_tape h_reader h_now h_trial h_images h_imageKept h_slots h_night h_otherNight h_circle h_words h_lawSearch h_placeSearch h_drawnNight v_now_tones v_now_a v_now_b v_now_c v_now_d v_now_odds v_now_lines h_now_signs v_now_signCount h_now_posts v_now_postCount h_now_acts v2 (by first | assumption | omega | decide) (by first | assumption | omega | decide)) (cvB (n := 1) (inr29 _ (List.mem_of_getElem? (i := 11) rfl)) (inr29 _ (List.mem_of_getElem? (i := 12) rfl)) (inr29 _ (List.mem_of_getElem? (i := 13) rfl)) (inr1 _ (List.mem_of_getElem? (i := 2) rfl)) (inr29 _ (List.mem_of_getElem? (i := 14) rfl)) (by decide +kernel) hts rfl rfl ⟨Nat.le_of_ble_eq_true rfl, Nat.le_of_ble_eq_true rfl⟩) 0 11 rfl rfl rfl (hP.sub [0, 1] rfl) hK hN (kT.to hT hS hAB) rfl hl.1 rfl (Nat.le_of_ble_eq_true rfl) ⟨Nat.le_of_ble_eq_true rfl, Nat.le_of_ble_eq_true rfl⟩ dX11_speak_15 (fun r_28 h_29 => ?_)
      have h_29 : (r_28 = 0 ∨ r_28 = 1) := h_29
      have i_30 := h_29
      have ar_28 : 0 ≤ r_28.toInt ∧ r_28.toInt ≤ 1 := by rcases i_30 with h | h <;> rw [h] <;> decide
      refine lv_if_eq (tgt := 24) hx hb dX11_speak_18 (by decide) (fun c_31 => ?_) (fun c_31 => ?_)
      · have c_31 : r_28.toInt = 0 := ci_eq_t c_31
        have b_r_28 := i32b r_28
        refine lv_aload_n hx hb dX11_speak_24 rfl (lv_at hl 0 rfl) ?_
        refine va_get (D := D) (ci := 11) (v := .ref h_now) (C := RX11) (T := TX11) (N := 14) hx hb hts inlX11 hown hK hP 0 rfl rfl 2 (by decide) (hts _ (inr2 _ (List.mem_of_getElem? (i := 0) rfl))) (fun _ h9 => h9) rfl dX11_speak_25 ?_
        refine roq (As := []) (rest := []) ⟨hx, hb, hml, hown, hts⟩ (b_X8_acts l G D cB cI cJ cZ cS cT h_now v_now_tones v_now_a v_now_b v_now_c v_now_d v_now_odds v_now_lines h_now_signs v_now_signCount h_now_posts v_now_postCount h_now_acts (by first | assumption | omega | decide) (by first | assumption | omega | decide)) (cvB (n := 0) (inr36 _ (List.mem_of_getElem? (i := 3) rfl)) (inr36 _ (List.mem_of_getElem? (i := 4) rfl)) (inr36 _ (List.mem_of_getElem? (i := 5) rfl)) (inr1 _ (List.mem_of_getElem? (i := 23) rfl)) (inr36 _ (List.mem_of_getElem? (i := 6) rfl)) (by decide +kernel) hts rfl rfl ⟨Nat.le_of_ble_eq_true rfl, Nat.le_of_ble_eq_true rfl⟩) 0 8 rfl rfl rfl (hP.sub [1] rfl) hK hN (kT.to hT hS hAB) rfl hl.1 rfl (Nat.le_of_ble_eq_true rfl) ⟨Nat.le_of_ble_eq_true rfl, Nat.le_of_ble_eq_true rfl⟩ dX11_speak_28 (fun r_32 h_33 => ?_)
        have h_33 : (r_32 = some h_now_acts) := h_33
        have i_34 := h_33
        obtain rfl := i_34
        refine W.eq (g2 := F0 m 31 ls [.ref h_now_acts]) rfl ?_
        refine roi (As := []) (rest := []) ⟨hx, hb, hml, hown, hts⟩ (b_X0_size l G D cB cI cJ cZ cS cT h_now_acts h_now_acts_over h_now_acts_steps h_now_acts_before v_now_acts_size (by first | assumption | omega | decide)) (cvB (n := 0) (inr66 _ (List.mem_of_getElem? (i := 8) rfl)) (inr66 _ (List.mem_of_getElem? (i := 9) rfl)) (inr66 _ (List.mem_of_getElem? (i := 10) rfl)) (inr4 _ (List.mem_of_getElem? (i := 5) rfl)) (inr66 _ (List.mem_of_getElem? (i := 11) rfl)) (by decide +kernel) hts rfl rfl ⟨Nat.le_of_ble_eq_true rfl, Nat.le_of_ble_eq_true rfl⟩) 0 0 rfl rfl rfl (hP.sub [2] rfl) hK hN (kT.to hT hS hAB) rfl hl.1 rfl (Nat.le_of_ble_eq_true rfl) ⟨Nat.le_of_ble_eq_true rfl, Nat.le_of_ble_eq_true rfl⟩ dX11_speak_31 (fun r_35 h_36 => ?_)
        have h_36 : (r_35 = v_now_acts_size) := h_36
        have i_37 := h_36
        obtain rfl := i_37.symm
        refine lv_bipush (v := 30) hx hb dX11_speak_34 (by decide) ?_
        refine lv_icmp_lt (tgt := 42) hx hb dX11_speak_36 (by decide) (fun c_38 => ?_) (fun c_38 => ?_)
        · have c_38 : v_now_acts_size.toInt < 30 := ci_lt_t c_38
          have b_v_now_acts_size := i32b v_now_acts_size
          refine lv_aload_n hx hb dX11_speak_42 rfl (lv_at hl 0 rfl) ?_
          refine va_get (D := D) (ci := 11) (v := .ref h_now) (C := RX11) (T := TX11) (N := 14) hx hb hts inlX11 hown hK hP 0 rfl rfl 2 (by decide) (hts _ (inr2 _ (List.mem_of_getElem? (i := 0) rfl))) (fun _ h9 => h9) rfl dX11_speak_43 ?_
          refine roq (As := []) (rest := []) ⟨hx, hb, hml, hown, hts⟩ (b_X8_acts l G D cB cI cJ cZ cS cT h_now v_now_tones v_now_a v_now_b v_now_c v_now_d v_now_odds v_now_lines h_now_signs v_now_signCount h_now_posts v_now_postCount h_now_acts (by first | assumption | omega | decide) (by first | assumption | omega | decide)) (cvB (n := 0) (inr36 _ (List.mem_of_getElem? (i := 3) rfl)) (inr36 _ (List.mem_of_getElem? (i := 4) rfl)) (inr36 _ (List.mem_of_getElem? (i := 5) rfl)) (inr1 _ (List.mem_of_getElem? (i := 23) rfl)) (inr36 _ (List.mem_of_getElem? (i := 6) rfl)) (by decide +kernel) hts rfl rfl ⟨Nat.le_of_ble_eq_true rfl, Nat.le_of_ble_eq_true rfl⟩) 0 8 rfl rfl rfl (hP.sub [1] rfl) hK hN (kT.to hT hS hAB) rfl hl.1 rfl (Nat.le_of_ble_eq_true rfl) ⟨Nat.le_of_ble_eq_true rfl, Nat.le_of_ble_eq_true rfl⟩ dX11_speak_46 (fun r_39 h_40 => ?_)
          have h_40 : (r_39 = some h_now_acts) := h_40
          have i_41 := h_40
          obtain rfl := i_41
          refine W.eq (g2 := F0 m 49 ls [.ref h_now_acts]) rfl ?_
          refine lv_iload_n hx hb dX11_speak_49 rfl (lv_at hl 1 rfl) ?_
          refine roi (As := [.int v1]) (rest := []) ⟨hx, hb, hml, hown, hts⟩ (b_X0_overStep l G D cB cI cJ cZ cS cT h_now_acts h_now_acts_over h_now_acts_steps h_now_acts_before v_now_acts_size f_now_acts_over v1 (by first | assumption | omega | decide)) (cvB (n := 1) (inr66 _ (List.mem_of_getElem? (i := 12) rfl)) (inr23 _ (List.mem_of_getElem? (i := 4) rfl)) (inr23 _ (List.mem_of_getElem? (i := 5) rfl)) (inr4 _ (List.mem_of_getElem? (i := 5) rfl)) (inr23 _ (List.mem_of_getElem? (i := 6) rfl)) (by decide +kernel) hts rfl rfl ⟨Nat.le_of_ble_eq_true rfl, Nat.le_of_ble_eq_true rfl⟩) 0 0 rfl rfl rfl (hP.sub [2, 4] rfl) hK hN (kT.to hT hS hAB) rfl hl.1 rfl (Nat.le_of_ble_eq_true rfl) ⟨Nat.le_of_ble_eq_true rfl, Nat.le_of_ble_eq_true rfl⟩ dX11_speak_50 (fun r_42 h_43 => ?_)
          refine lv_istore_n (lv' := [(3, .int r_42), (0, .ref h0), (1, .int v1), (2, .int v2)]) hx hb dX11_speak_53 rfl hl (by decide) rfl (fun ls hl => ?_)
          refine lv_aload_n hx hb dX11_speak_54 rfl (lv_at hl 1 rfl) ?_
          refine va_get (D := D) (ci := 11) (v := .ref h_now) (C := RX11) (T := TX11) (N := 14) hx hb hts inlX11 hown hK hP 0 rfl rfl 2 (by decide) (hts _ (inr2 _ (List.mem_of_getElem? (i := 0) rfl))) (fun _ h9 => h9) rfl dX11_speak_55 ?_
          refine roq (As := []) (rest := []) ⟨hx, hb, hml, hown, hts⟩ (b_X8_acts l G D cB cI cJ cZ cS cT h_now v_now_tones v_now_a v_now_b v_now_c v_now_d v_now_odds v_now_lines h_now_signs v_now_signCount h_now_posts v_now_postCount h_now_acts (by first | assumption | omega | decide) (by first | assumption | omega | decide)) (cvB (n := 0) (inr36 _ (List.mem_of_getElem? (i := 3) rfl)) (inr36 _ (List.mem_of_getElem? (i := 4) rfl)) (inr36 _ (List.mem_of_getElem? (i := 5) rfl)) (inr1 _ (List.mem_of_getElem? (i := 23) rfl)) (inr36 _ (List.mem_of_getElem? (i := 6) rfl)) (by decide +kernel) hts rfl rfl ⟨Nat.le_of_ble_eq_true rfl, Nat.le_of_ble_eq_true rfl⟩) 0 8 rfl rfl rfl (hP.sub [1] rfl) hK hN (kT.to hT hS hAB) rfl hl.1 rfl (Nat.le_of_ble_eq_true rfl) ⟨Nat.le_of_ble_eq_true rfl, Nat.le_of_ble_eq_true rfl⟩ dX11_speak_58 (fun r_44 h_45 => ?_)
          have h_45 : (r_44 = some h_now_acts) := h_45
          have i_46 := h_45
          obtain rfl := i_46
          refine W.eq (g2 := F0 m 61 ls [.ref h_now_acts]) rfl ?_
          refine lv_iload_n hx hb dX11_speak_61 rfl (lv_at hl 2 rfl) ?_
          refine lv_iload_n hx hb dX11_speak_62 rfl (lv_at hl 3 rfl) ?_
          refine wrVv (As := [.int v1, .int v2]) (rest := []) (wr := [(h0, .inr (11, [.ref h_tape, .ref h_reader, .ref h_now, .ref h_trial, .ref h_images, .ref h_imageKept, .ref h_slots, .ref h_night, .ref h_otherNight, .ref h_circle, .ref h_words, .ref h_lawSearch, .ref h_placeSearch, .ref h_drawnNight])), (h_now, .inr (8, [.int v_now_tones, .int v_now_a, .int v_now_b, .int v_now_c, .int v_now_d, .int v_now_odds, .int v_now_lines, .ref h_now_signs, .int v_now_signCount, .ref h_now_posts, .int v_now_postCount, .ref h_now_acts]))]) ⟨hx, hb, hml, hown, hts⟩ (b_X0_add l G D cB cI cJ cZ cS cT s.heap.size h_now_acts h_now_acts_over h_now_acts_steps h_now_acts_before v_now_acts_size f_now_acts_before f_now_acts_over f_now_acts_steps v1 v2 (by first | assumption | omega | decide)) hP hD hS hA hK hN hT hAB hG [2, 3, 4, 5] [0, 1] rfl rfl (by decide) (by decide) (by decide) (cvB (n := 2) (inr66 _ (List.mem_of_getElem? (i := 13) rfl)) (inr66 _ (List.mem_of_getElem? (i := 14) rfl)) (inr66 _ (List.mem_of_getElem? (i := 15) rfl)) (inr4 _ (List.mem_of_getElem? (i := 5) rfl)) (inr66 _ (List.mem_of_getElem? (i := 16) rfl)) (by decide +kernel) hts rfl rfl ⟨Nat.le_of_ble_eq_true rfl, Nat.le_of_ble_eq_true rfl⟩) 0 0 rfl rfl rfl rfl hl.1 rfl (Nat.le_of_ble_eq_true rfl) ⟨Nat.le_of_ble_eq_true rfl, Nat.le_of_ble_eq_true rfl⟩ dX11_speak_63 (fun x9 H locs h_48 hP hD hS => ?_)
          obtain ⟨t_49, g_50, g_51, g_52⟩ := x9
          have hP : va_P D vwCl [(h0, .inr (11, [.ref h_tape, .ref h_reader, .ref h_now, .ref h_trial, .ref h_images, .ref h_imageKept, .ref h_slots, .ref h_night, .ref h_otherNight, .ref h_circle, .ref h_words, .ref h_lawSearch, .ref h_placeSearch, .ref h_drawnNight])), (h_now, .inr (8, [.int v_now_tones, .int v_now_a, .int v_now_b, .int v_now_c, .int v_now_d, .int v_now_odds, .int v_now_lines, .ref h_now_signs, .int v_now_signCount, .ref h_now_posts, .int v_now_postCount, .ref h_now_acts])), (h_now_acts, .inr (0, [.ref h_now_acts_over, .ref h_now_acts_steps, .ref h_now_acts_before, .int t_49])), (h_now_acts_before, .inl (cI, 30, .inl g_50)), (h_now_acts_over, .inl (cI, 61, .inl g_51)), (h_now_acts_steps, .inl (cI, 30, .inl g_52))] H := hP
          have hD : va_D A [(h0, .inr (11, [.ref h_tape, .ref h_reader, .ref h_now, .ref h_trial, .ref h_images, .ref h_imageKept, .ref h_slots, .ref h_night, .ref h_otherNight, .ref h_circle, .ref h_words, .ref h_lawSearch, .ref h_placeSearch, .ref h_drawnNight])), (h_now, .inr (8, [.int v_now_tones, .int v_now_a, .int v_now_b, .int v_now_c, .int v_now_d, .int v_now_odds, .int v_now_lines, .ref h_now_signs, .int v_now_signCount, .ref h_now_posts, .int v_now_postCount, .ref h_now_acts])), (h_now_acts, .inr (0, [.ref h_now_acts_over, .ref h_now_acts_steps, .ref h_now_acts_before, .int t_49])), (h_now_acts_before, .inl (cI, 30, .inl g_50)), (h_now_acts_over, .inl (cI, 61, .inl g_51)), (h_now_acts_steps, .inl (cI, 30, .inl g_52))] := hD
          have h_48 : (0 ≤ t_49.toInt ∧ t_49.toInt ≤ 30) := h_48
          have i_53 := h_48
          refine lv_iload_n hx hb dX11_speak_66 rfl (lv_at hl 0 rfl) ?_
          exact ret _ _ _ _ _ (t_49, g_50, g_51, g_52) dX11_speak_67 (show (0 ≤ t_49.toInt ∧ t_49.toInt ≤ 30) from (by first | assumption | omega | decide)) (hP.sub [0, 1, 2, 3, 4, 5] rfl) (hD.sub [0, 1, 2, 3, 4, 5] (by decide) rfl) hS
        · have c_38 : 30 ≤ v_now_acts_size.toInt := ci_lt_f c_38
          have b_v_now_acts_size := i32b v_now_acts_size
          refine lv_bipush (v := (-5)) hx hb dX11_speak_39 (by decide) ?_
          exact ret _ _ _ _ _ (v_now_acts_size, f_now_acts_before, f_now_acts_over, f_now_acts_steps) dX11_speak_41 (show (0 ≤ v_now_acts_size.toInt ∧ v_now_acts_size.toInt ≤ 30) from (by first | assumption | omega | decide)) (hP.sub [0, 1, 2, 3, 4, 5] rfl) (hD.sub [0, 1, 2, 3, 4, 5] (by decide) rfl) hS
      · have c_31 : ¬ r_28.toInt = 0 := ci_eq_f c_31
        have b_r_28 := i32b r_28
        refine lv_bipush (v := (-2)) hx hb dX11_speak_21 (by decide) ?_
        exact ret _ _ _ _ _ (v_now_acts_size, f_now_acts_before, f_now_acts_over, f_now_acts_steps) dX11_speak_23 (show (0 ≤ v_now_acts_size.toInt ∧ v_now_acts_size.toInt ≤ 30) from (by first | assumption | omega | decide)) (hP.sub [0, 1, 2, 3, 4, 5] rfl) (hD.sub [0, 1, 2, 3, 4, 5] (by decide) rfl) hS
