theorem dX12_advance_0 : decode cX12_advance 0 = .ok (.aload_n 0, 1) := by decide +kernel
theorem dX12_advance_1 : decode cX12_advance 1 = .ok (.aload_n 0, 1) := by decide +kernel
theorem dX12_advance_10 : decode cX12_advance 10 = .ok (.if_icmp .eq 16, 3) := by decide +kernel
theorem dX12_advance_13 : decode cX12_advance 13 = .ok (.aload_n 0, 1) := by decide +kernel
theorem dX12_advance_14 : decode cX12_advance 14 = .ok (.aload_n 0, 1) := by decide +kernel
theorem dX12_advance_15 : decode cX12_advance 15 = .ok (.getfield 115, 3) := by decide +kernel
theorem dX12_advance_18 : decode cX12_advance 18 = .ok (.invokevirtual 118, 3) := by decide +kernel
theorem dX12_advance_2 : decode cX12_advance 2 = .ok (.getfield 115, 3) := by decide +kernel
theorem dX12_advance_21 : decode cX12_advance 21 = .ok (.bipush 10, 2) := by decide +kernel
theorem dX12_advance_23 : decode cX12_advance 23 = .ok (.if_icmp .ne 16, 3) := by decide +kernel
theorem dX12_advance_239 : decode cX12_advance 239 = .ok (.return_, 1) := by decide +kernel
theorem dX12_advance_39 : decode cX12_advance 39 = .ok (.aload_n 0, 1) := by decide +kernel
theorem dX12_advance_40 : decode cX12_advance 40 = .ok (.aload_n 0, 1) := by decide +kernel
theorem dX12_advance_41 : decode cX12_advance 41 = .ok (.getfield 115, 3) := by decide +kernel
theorem dX12_advance_44 : decode cX12_advance 44 = .ok (.putfield 121, 3) := by decide +kernel
theorem dX12_advance_47 : decode cX12_advance 47 = .ok (.aload_n 0, 1) := by decide +kernel
theorem dX12_advance_48 : decode cX12_advance 48 = .ok (.aload_n 0, 1) := by decide +kernel
theorem dX12_advance_49 : decode cX12_advance 49 = .ok (.getfield 115, 3) := by decide +kernel
theorem dX12_advance_5 : decode cX12_advance 5 = .ok (.invokevirtual 118, 3) := by decide +kernel
theorem dX12_advance_52 : decode cX12_advance 52 = .ok (.invokevirtual 118, 3) := by decide +kernel
theorem dX12_advance_55 : decode cX12_advance 55 = .ok (.istore_n 1, 1) := by decide +kernel
theorem dX12_advance_56 : decode cX12_advance 56 = .ok (.iload_n 1, 1) := by decide +kernel
theorem dX12_advance_57 : decode cX12_advance 57 = .ok (.iconst (-1), 1) := by decide +kernel
theorem dX12_advance_58 : decode cX12_advance 58 = .ok (.if_icmp .ne 11, 3) := by decide +kernel
theorem dX12_advance_61 : decode cX12_advance 61 = .ok (.aload_n 0, 1) := by decide +kernel
theorem dX12_advance_62 : decode cX12_advance 62 = .ok (.iconst 0, 1) := by decide +kernel
theorem dX12_advance_63 : decode cX12_advance 63 = .ok (.putfield 124, 3) := by decide +kernel
theorem dX12_advance_66 : decode cX12_advance 66 = .ok (.goto 173, 3) := by decide +kernel
theorem dX12_advance_8 : decode cX12_advance 8 = .ok (.bipush 32, 2) := by decide +kernel
theorem dX12_back_0 : decode cX12_back 0 = .ok (.iload_n 1, 1) := by decide +kernel
theorem dX12_back_1 : decode cX12_back 1 = .ok (.i2l, 1) := by decide +kernel
theorem dX12_back_12 : decode cX12_back 12 = .ok (.bipush (-2), 2) := by decide +kernel
theorem dX12_back_14 : decode cX12_back 14 = .ok (.ireturn, 1) := by decide +kernel
theorem dX12_back_15 : decode cX12_back 15 = .ok (.aload_n 0, 1) := by decide +kernel
theorem dX12_back_16 : decode cX12_back 16 = .ok (.getfield 16, 3) := by decide +kernel
theorem dX12_back_19 : decode cX12_back 19 = .ok (.iload_n 1, 1) := by decide +kernel
theorem dX12_back_2 : decode cX12_back 2 = .ok (.lconst 0, 1) := by decide +kernel
theorem dX12_back_20 : decode cX12_back 20 = .ok (.baload, 1) := by decide +kernel
theorem dX12_back_21 : decode cX12_back 21 = .ok (.ifCond .ne 6, 3) := by decide +kernel
theorem dX12_back_24 : decode cX12_back 24 = .ok (.bipush (-6), 2) := by decide +kernel
theorem dX12_back_26 : decode cX12_back 26 = .ok (.ireturn, 1) := by decide +kernel
theorem dX12_back_3 : decode cX12_back 3 = .ok (.ldc2_w 93, 3) := by decide +kernel
theorem dX12_back_6 : decode cX12_back 6 = .ok (.invokestatic 95, 3) := by decide +kernel
theorem dX12_back_9 : decode cX12_back 9 = .ok (.ifCond .ne 6, 3) := by decide +kernel
theorem dX12_bestBy_0 : decode cX12_bestBy 0 = .ok (.iconst 0, 1) := by decide +kernel
theorem dX12_bestBy_1 : decode cX12_bestBy 1 = .ok (.istore_n 1, 1) := by decide +kernel
theorem dX12_bestBy_10 : decode cX12_bestBy 10 = .ok (.iload_n 0, 1) := by decide +kernel
theorem dX12_bestBy_11 : decode cX12_bestBy 11 = .ok (.invokestatic 423, 3) := by decide +kernel
theorem dX12_bestBy_14 : decode cX12_bestBy 14 = .ok (.iload_n 1, 1) := by decide +kernel
theorem dX12_bestBy_15 : decode cX12_bestBy 15 = .ok (.iload_n 0, 1) := by decide +kernel
theorem dX12_bestBy_16 : decode cX12_bestBy 16 = .ok (.invokestatic 423, 3) := by decide +kernel
theorem dX12_bestBy_19 : decode cX12_bestBy 19 = .ok (.if_icmp .le 7, 3) := by decide +kernel
theorem dX12_bestBy_2 : decode cX12_bestBy 2 = .ok (.iconst 1, 1) := by decide +kernel
theorem dX12_bestBy_22 : decode cX12_bestBy 22 = .ok (.iload_n 2, 1) := by decide +kernel
theorem dX12_bestBy_23 : decode cX12_bestBy 23 = .ok (.goto 4, 3) := by decide +kernel
theorem dX12_bestBy_26 : decode cX12_bestBy 26 = .ok (.iload_n 1, 1) := by decide +kernel
theorem dX12_bestBy_27 : decode cX12_bestBy 27 = .ok (.istore_n 1, 1) := by decide +kernel
theorem dX12_bestBy_28 : decode cX12_bestBy 28 = .ok (.iinc 2 1, 3) := by decide +kernel
theorem dX12_bestBy_3 : decode cX12_bestBy 3 = .ok (.istore_n 2, 1) := by decide +kernel
theorem dX12_bestBy_31 : decode cX12_bestBy 31 = .ok (.goto (-27), 3) := by decide +kernel
theorem dX12_bestBy_34 : decode cX12_bestBy 34 = .ok (.iload_n 1, 1) := by decide +kernel
theorem dX12_bestBy_35 : decode cX12_bestBy 35 = .ok (.ireturn, 1) := by decide +kernel
theorem dX12_bestBy_4 : decode cX12_bestBy 4 = .ok (.iload_n 2, 1) := by decide +kernel
theorem dX12_bestBy_5 : decode cX12_bestBy 5 = .ok (.iconst 4, 1) := by decide +kernel
theorem dX12_bestBy_6 : decode cX12_bestBy 6 = .ok (.if_icmp .ge 28, 3) := by decide +kernel
theorem dX12_bestBy_9 : decode cX12_bestBy 9 = .ok (.iload_n 2, 1) := by decide +kernel
theorem dX12_best_0 : decode cX12_best 0 = .ok (.iload_n 1, 1) := by decide +kernel
theorem dX12_best_1 : decode cX12_best 1 = .ok (.i2l, 1) := by decide +kernel
theorem dX12_best_12 : decode cX12_best 12 = .ok (.iload_n 1, 1) := by decide +kernel
theorem dX12_best_13 : decode cX12_best 13 = .ok (.invokestatic 426, 3) := by decide +kernel
theorem dX12_best_16 : decode cX12_best 16 = .ok (.goto 5, 3) := by decide +kernel
theorem dX12_best_19 : decode cX12_best 19 = .ok (.bipush (-2), 2) := by decide +kernel
theorem dX12_best_2 : decode cX12_best 2 = .ok (.lconst 0, 1) := by decide +kernel
theorem dX12_best_21 : decode cX12_best 21 = .ok (.ireturn, 1) := by decide +kernel
theorem dX12_best_3 : decode cX12_best 3 = .ok (.ldc2_w 429, 3) := by decide +kernel
theorem dX12_best_6 : decode cX12_best 6 = .ok (.invokestatic 95, 3) := by decide +kernel
theorem dX12_best_9 : decode cX12_best 9 = .ok (.ifCond .eq 10, 3) := by decide +kernel
theorem dX12_chance_0 : decode cX12_chance 0 = .ok (.aload_n 0, 1) := by decide +kernel
theorem dX12_chance_1 : decode cX12_chance 1 = .ok (.invokevirtual 269, 3) := by decide +kernel
theorem dX12_chance_29 : decode cX12_chance 29 = .ok (.ldc2_w 433, 3) := by decide +kernel
theorem dX12_chance_32 : decode cX12_chance 32 = .ok (.lreturn, 1) := by decide +kernel
theorem dX12_chance_4 : decode cX12_chance 4 = .ok (.ifCond .eq 25, 3) := by decide +kernel
theorem dX12_count_0 : decode cX12_count 0 = .ok (.iload_n 1, 1) := by decide +kernel
theorem dX12_count_1 : decode cX12_count 1 = .ok (.i2l, 1) := by decide +kernel
theorem dX12_count_12 : decode cX12_count 12 = .ok (.aload_n 0, 1) := by decide +kernel
theorem dX12_count_13 : decode cX12_count 13 = .ok (.getfield 9, 3) := by decide +kernel
theorem dX12_count_16 : decode cX12_count 16 = .ok (.iload_n 1, 1) := by decide +kernel
theorem dX12_count_17 : decode cX12_count 17 = .ok (.iaload, 1) := by decide +kernel
theorem dX12_count_18 : decode cX12_count 18 = .ok (.ireturn, 1) := by decide +kernel
theorem dX12_count_19 : decode cX12_count 19 = .ok (.iload_n 1, 1) := by decide +kernel
theorem dX12_count_2 : decode cX12_count 2 = .ok (.lconst 0, 1) := by decide +kernel
theorem dX12_count_20 : decode cX12_count 20 = .ok (.bipush 10, 2) := by decide +kernel
theorem dX12_count_22 : decode cX12_count 22 = .ok (.if_icmp .ne 8, 3) := by decide +kernel
theorem dX12_count_25 : decode cX12_count 25 = .ok (.aload_n 0, 1) := by decide +kernel
theorem dX12_count_26 : decode cX12_count 26 = .ok (.getfield 109, 3) := by decide +kernel
theorem dX12_count_29 : decode cX12_count 29 = .ok (.ireturn, 1) := by decide +kernel
theorem dX12_count_3 : decode cX12_count 3 = .ok (.ldc2_w 460, 3) := by decide +kernel
theorem dX12_count_30 : decode cX12_count 30 = .ok (.iload_n 1, 1) := by decide +kernel
theorem dX12_count_31 : decode cX12_count 31 = .ok (.bipush 11, 2) := by decide +kernel
theorem dX12_count_33 : decode cX12_count 33 = .ok (.if_icmp .eq 5, 3) := by decide +kernel
theorem dX12_count_36 : decode cX12_count 36 = .ok (.iconst (-1), 1) := by decide +kernel
theorem dX12_count_37 : decode cX12_count 37 = .ok (.ireturn, 1) := by decide +kernel
theorem dX12_count_38 : decode cX12_count 38 = .ok (.iconst 0, 1) := by decide +kernel
theorem dX12_count_39 : decode cX12_count 39 = .ok (.istore_n 2, 1) := by decide +kernel
theorem dX12_count_40 : decode cX12_count 40 = .ok (.iconst 0, 1) := by decide +kernel
theorem dX12_count_41 : decode cX12_count 41 = .ok (.istore_n 3, 1) := by decide +kernel
theorem dX12_count_42 : decode cX12_count 42 = .ok (.iload_n 3, 1) := by decide +kernel
theorem dX12_count_43 : decode cX12_count 43 = .ok (.iconst 4, 1) := by decide +kernel
theorem dX12_count_44 : decode cX12_count 44 = .ok (.if_icmp .ge 27, 3) := by decide +kernel
theorem dX12_count_47 : decode cX12_count 47 = .ok (.iload_n 2, 1) := by decide +kernel
theorem dX12_count_48 : decode cX12_count 48 = .ok (.aload_n 0, 1) := by decide +kernel
theorem dX12_count_49 : decode cX12_count 49 = .ok (.getfield 77, 3) := by decide +kernel
theorem dX12_count_52 : decode cX12_count 52 = .ok (.iload_n 3, 1) := by decide +kernel
theorem dX12_count_53 : decode cX12_count 53 = .ok (.iaload, 1) := by decide +kernel
theorem dX12_count_54 : decode cX12_count 54 = .ok (.iconst (-1), 1) := by decide +kernel
theorem dX12_count_55 : decode cX12_count 55 = .ok (.if_icmp .ne 7, 3) := by decide +kernel
theorem dX12_count_58 : decode cX12_count 58 = .ok (.iconst 0, 1) := by decide +kernel
theorem dX12_count_59 : decode cX12_count 59 = .ok (.goto 4, 3) := by decide +kernel
theorem dX12_count_6 : decode cX12_count 6 = .ok (.invokestatic 95, 3) := by decide +kernel
theorem dX12_count_63 : decode cX12_count 63 = .ok (.iadd, 1) := by decide +kernel
theorem dX12_count_64 : decode cX12_count 64 = .ok (.istore_n 2, 1) := by decide +kernel
theorem dX12_count_65 : decode cX12_count 65 = .ok (.iinc 3 1, 3) := by decide +kernel
theorem dX12_count_68 : decode cX12_count 68 = .ok (.goto (-26), 3) := by decide +kernel
theorem dX12_count_71 : decode cX12_count 71 = .ok (.iload_n 2, 1) := by decide +kernel
theorem dX12_count_72 : decode cX12_count 72 = .ok (.ireturn, 1) := by decide +kernel
theorem dX12_count_9 : decode cX12_count 9 = .ok (.ifCond .eq 10, 3) := by decide +kernel
theorem dX12_end_0 : decode cX12_end 0 = .ok (.iload_n 1, 1) := by decide +kernel
theorem dX12_end_1 : decode cX12_end 1 = .ok (.i2l, 1) := by decide +kernel
theorem dX12_end_11 : decode cX12_end 11 = .ok (.ifCond .ne 5, 3) := by decide +kernel
theorem dX12_end_14 : decode cX12_end 14 = .ok (.iconst (-1), 1) := by decide +kernel
theorem dX12_end_15 : decode cX12_end 15 = .ok (.ireturn, 1) := by decide +kernel
theorem dX12_end_16 : decode cX12_end 16 = .ok (.aload_n 0, 1) := by decide +kernel
theorem dX12_end_17 : decode cX12_end 17 = .ok (.iload_n 1, 1) := by decide +kernel
theorem dX12_end_18 : decode cX12_end 18 = .ok (.putfield 109, 3) := by decide +kernel
theorem dX12_end_2 : decode cX12_end 2 = .ok (.lconst 0, 1) := by decide +kernel
theorem dX12_end_21 : decode cX12_end 21 = .ok (.iload_n 1, 1) := by decide +kernel
theorem dX12_end_22 : decode cX12_end 22 = .ok (.ireturn, 1) := by decide +kernel
theorem dX12_end_3 : decode cX12_end 3 = .ok (.aload_n 0, 1) := by decide +kernel
theorem dX12_end_4 : decode cX12_end 4 = .ok (.getfield 109, 3) := by decide +kernel
theorem dX12_end_7 : decode cX12_end 7 = .ok (.i2l, 1) := by decide +kernel
theorem dX12_end_8 : decode cX12_end 8 = .ok (.invokestatic 95, 3) := by decide +kernel
theorem dX12_fault_0 : decode cX12_fault 0 = .ok (.iload_n 1, 1) := by decide +kernel
theorem dX12_fault_1 : decode cX12_fault 1 = .ok (.ifCond .ne 10, 3) := by decide +kernel
theorem dX12_fault_11 : decode cX12_fault 11 = .ok (.iload_n 1, 1) := by decide +kernel
theorem dX12_fault_12 : decode cX12_fault 12 = .ok (.iconst 1, 1) := by decide +kernel
theorem dX12_fault_13 : decode cX12_fault 13 = .ok (.if_icmp .ne 10, 3) := by decide +kernel
theorem dX12_fault_16 : decode cX12_fault 16 = .ok (.aload_n 0, 1) := by decide +kernel
theorem dX12_fault_17 : decode cX12_fault 17 = .ok (.getfield 27, 3) := by decide +kernel
theorem dX12_fault_20 : decode cX12_fault 20 = .ok (.goto 4, 3) := by decide +kernel
theorem dX12_fault_23 : decode cX12_fault 23 = .ok (.iconst (-1), 1) := by decide +kernel
theorem dX12_fault_24 : decode cX12_fault 24 = .ok (.ireturn, 1) := by decide +kernel
theorem dX12_fault_4 : decode cX12_fault 4 = .ok (.aload_n 0, 1) := by decide +kernel
theorem dX12_fault_5 : decode cX12_fault 5 = .ok (.getfield 145, 3) := by decide +kernel
theorem dX12_fault_8 : decode cX12_fault 8 = .ok (.goto 16, 3) := by decide +kernel
theorem dX12_feed_0 : decode cX12_feed 0 = .ok (.aload_n 0, 1) := by decide +kernel
theorem dX12_feed_1 : decode cX12_feed 1 = .ok (.getfield 109, 3) := by decide +kernel
theorem dX12_feed_10 : decode cX12_feed 10 = .ok (.if_icmp .le 5, 3) := by decide +kernel
theorem dX12_feed_101 : decode cX12_feed 101 = .ok (.aload_n 0, 1) := by decide +kernel
theorem dX12_feed_102 : decode cX12_feed 102 = .ok (.dup, 1) := by decide +kernel
theorem dX12_feed_103 : decode cX12_feed 103 = .ok (.getfield 109, 3) := by decide +kernel
theorem dX12_feed_106 : decode cX12_feed 106 = .ok (.bipush 20, 2) := by decide +kernel
theorem dX12_feed_108 : decode cX12_feed 108 = .ok (.iadd, 1) := by decide +kernel
theorem dX12_feed_109 : decode cX12_feed 109 = .ok (.putfield 109, 3) := by decide +kernel
theorem dX12_feed_112 : decode cX12_feed 112 = .ok (.aload_n 0, 1) := by decide +kernel
theorem dX12_feed_113 : decode cX12_feed 113 = .ok (.getfield 109, 3) := by decide +kernel
theorem dX12_feed_116 : decode cX12_feed 116 = .ok (.ireturn, 1) := by decide +kernel
theorem dX12_feed_15 : decode cX12_feed 15 = .ok (.aload_n 0, 1) := by decide +kernel
theorem dX12_feed_16 : decode cX12_feed 16 = .ok (.getfield 24, 3) := by decide +kernel
theorem dX12_feed_19 : decode cX12_feed 19 = .ok (.iconst 0, 1) := by decide +kernel
theorem dX12_feed_20 : decode cX12_feed 20 = .ok (.iload_n 1, 1) := by decide +kernel
theorem dX12_feed_21 : decode cX12_feed 21 = .ok (.iastore, 1) := by decide +kernel
theorem dX12_feed_22 : decode cX12_feed 22 = .ok (.aload_n 0, 1) := by decide +kernel
theorem dX12_feed_23 : decode cX12_feed 23 = .ok (.getfield 24, 3) := by decide +kernel
theorem dX12_feed_26 : decode cX12_feed 26 = .ok (.iconst 1, 1) := by decide +kernel
theorem dX12_feed_27 : decode cX12_feed 27 = .ok (.iload_n 2, 1) := by decide +kernel
theorem dX12_feed_28 : decode cX12_feed 28 = .ok (.iastore, 1) := by decide +kernel
theorem dX12_feed_29 : decode cX12_feed 29 = .ok (.aload_n 0, 1) := by decide +kernel
theorem dX12_feed_30 : decode cX12_feed 30 = .ok (.getfield 24, 3) := by decide +kernel
theorem dX12_feed_33 : decode cX12_feed 33 = .ok (.iconst 2, 1) := by decide +kernel
theorem dX12_feed_34 : decode cX12_feed 34 = .ok (.iload_n 3, 1) := by decide +kernel
theorem dX12_feed_35 : decode cX12_feed 35 = .ok (.iastore, 1) := by decide +kernel
theorem dX12_feed_36 : decode cX12_feed 36 = .ok (.aload_n 0, 1) := by decide +kernel
theorem dX12_feed_37 : decode cX12_feed 37 = .ok (.getfield 24, 3) := by decide +kernel
theorem dX12_feed_4 : decode cX12_feed 4 = .ok (.bipush 20, 2) := by decide +kernel
theorem dX12_feed_40 : decode cX12_feed 40 = .ok (.iconst 3, 1) := by decide +kernel
theorem dX12_feed_41 : decode cX12_feed 41 = .ok (.iload 4, 2) := by decide +kernel
theorem dX12_feed_43 : decode cX12_feed 43 = .ok (.iastore, 1) := by decide +kernel
theorem dX12_feed_44 : decode cX12_feed 44 = .ok (.aload_n 0, 1) := by decide +kernel
theorem dX12_feed_45 : decode cX12_feed 45 = .ok (.getfield 24, 3) := by decide +kernel
theorem dX12_feed_48 : decode cX12_feed 48 = .ok (.iconst 4, 1) := by decide +kernel
theorem dX12_feed_49 : decode cX12_feed 49 = .ok (.iload 5, 2) := by decide +kernel
theorem dX12_feed_51 : decode cX12_feed 51 = .ok (.iastore, 1) := by decide +kernel
theorem dX12_feed_52 : decode cX12_feed 52 = .ok (.iconst 0, 1) := by decide +kernel
theorem dX12_feed_53 : decode cX12_feed 53 = .ok (.istore 6, 2) := by decide +kernel
theorem dX12_feed_55 : decode cX12_feed 55 = .ok (.iload 6, 2) := by decide +kernel
theorem dX12_feed_57 : decode cX12_feed 57 = .ok (.bipush 20, 2) := by decide +kernel
theorem dX12_feed_59 : decode cX12_feed 59 = .ok (.if_icmp .ge 42, 3) := by decide +kernel
theorem dX12_feed_6 : decode cX12_feed 6 = .ok (.iadd, 1) := by decide +kernel
theorem dX12_feed_62 : decode cX12_feed 62 = .ok (.aload_n 0, 1) := by decide +kernel
theorem dX12_feed_63 : decode cX12_feed 63 = .ok (.getfield 20, 3) := by decide +kernel
theorem dX12_feed_66 : decode cX12_feed 66 = .ok (.aload_n 0, 1) := by decide +kernel
theorem dX12_feed_67 : decode cX12_feed 67 = .ok (.getfield 109, 3) := by decide +kernel
theorem dX12_feed_7 : decode cX12_feed 7 = .ok (.sipush 500, 3) := by decide +kernel
theorem dX12_feed_70 : decode cX12_feed 70 = .ok (.iload 6, 2) := by decide +kernel
theorem dX12_feed_72 : decode cX12_feed 72 = .ok (.iadd, 1) := by decide +kernel
theorem dX12_feed_73 : decode cX12_feed 73 = .ok (.aload_n 0, 1) := by decide +kernel
theorem dX12_feed_74 : decode cX12_feed 74 = .ok (.getfield 24, 3) := by decide +kernel
theorem dX12_feed_77 : decode cX12_feed 77 = .ok (.iload 6, 2) := by decide +kernel
theorem dX12_feed_79 : decode cX12_feed 79 = .ok (.iconst 4, 1) := by decide +kernel
theorem dX12_feed_80 : decode cX12_feed 80 = .ok (.idiv, 1) := by decide +kernel
theorem dX12_feed_81 : decode cX12_feed 81 = .ok (.iaload, 1) := by decide +kernel
theorem dX12_feed_82 : decode cX12_feed 82 = .ok (.bipush 24, 2) := by decide +kernel
theorem dX12_feed_84 : decode cX12_feed 84 = .ok (.bipush 8, 2) := by decide +kernel
theorem dX12_feed_86 : decode cX12_feed 86 = .ok (.iload 6, 2) := by decide +kernel
theorem dX12_feed_88 : decode cX12_feed 88 = .ok (.iconst 4, 1) := by decide +kernel
theorem dX12_feed_89 : decode cX12_feed 89 = .ok (.irem, 1) := by decide +kernel
theorem dX12_feed_90 : decode cX12_feed 90 = .ok (.imul, 1) := by decide +kernel
theorem dX12_feed_91 : decode cX12_feed 91 = .ok (.isub, 1) := by decide +kernel
theorem dX12_feed_92 : decode cX12_feed 92 = .ok (.ishr, 1) := by decide +kernel
theorem dX12_feed_93 : decode cX12_feed 93 = .ok (.i2b, 1) := by decide +kernel
theorem dX12_feed_94 : decode cX12_feed 94 = .ok (.bastore, 1) := by decide +kernel
theorem dX12_feed_95 : decode cX12_feed 95 = .ok (.iinc 6 1, 3) := by decide +kernel
theorem dX12_feed_98 : decode cX12_feed 98 = .ok (.goto (-43), 3) := by decide +kernel
theorem dX12_good_0 : decode cX12_good 0 = .ok (.aload_n 0, 1) := by decide +kernel
theorem dX12_good_1 : decode cX12_good 1 = .ok (.getfield 145, 3) := by decide +kernel
theorem dX12_good_12 : decode cX12_good 12 = .ok (.ireturn, 1) := by decide +kernel
theorem dX12_good_4 : decode cX12_good 4 = .ok (.ifCond .ne 7, 3) := by decide +kernel
theorem dX12_good_7 : decode cX12_good 7 = .ok (.iconst 1, 1) := by decide +kernel
theorem dX12_good_8 : decode cX12_good 8 = .ok (.goto 4, 3) := by decide +kernel
theorem dX12_image_0 : decode cX12_image 0 = .ok (.iload_n 1, 1) := by decide +kernel
theorem dX12_image_1 : decode cX12_image 1 = .ok (.i2l, 1) := by decide +kernel
theorem dX12_image_12 : decode cX12_image 12 = .ok (.bipush (-2), 2) := by decide +kernel
theorem dX12_image_14 : decode cX12_image 14 = .ok (.ireturn, 1) := by decide +kernel
theorem dX12_image_15 : decode cX12_image 15 = .ok (.iconst 0, 1) := by decide +kernel
theorem dX12_image_16 : decode cX12_image 16 = .ok (.istore_n 2, 1) := by decide +kernel
theorem dX12_image_17 : decode cX12_image 17 = .ok (.iload_n 2, 1) := by decide +kernel
theorem dX12_image_18 : decode cX12_image 18 = .ok (.bipush 53, 2) := by decide +kernel
theorem dX12_image_2 : decode cX12_image 2 = .ok (.lconst 0, 1) := by decide +kernel
theorem dX12_image_20 : decode cX12_image 20 = .ok (.if_icmp .ge 26, 3) := by decide +kernel
theorem dX12_image_23 : decode cX12_image 23 = .ok (.aload_n 0, 1) := by decide +kernel
theorem dX12_image_24 : decode cX12_image 24 = .ok (.getfield 13, 3) := by decide +kernel
theorem dX12_image_27 : decode cX12_image 27 = .ok (.bipush 53, 2) := by decide +kernel
theorem dX12_image_29 : decode cX12_image 29 = .ok (.iload_n 1, 1) := by decide +kernel
theorem dX12_image_3 : decode cX12_image 3 = .ok (.ldc2_w 93, 3) := by decide +kernel
theorem dX12_image_30 : decode cX12_image 30 = .ok (.imul, 1) := by decide +kernel
theorem dX12_image_31 : decode cX12_image 31 = .ok (.iload_n 2, 1) := by decide +kernel
theorem dX12_image_32 : decode cX12_image 32 = .ok (.iadd, 1) := by decide +kernel
theorem dX12_image_33 : decode cX12_image 33 = .ok (.aload_n 0, 1) := by decide +kernel
theorem dX12_image_34 : decode cX12_image 34 = .ok (.getfield 9, 3) := by decide +kernel
theorem dX12_image_37 : decode cX12_image 37 = .ok (.iload_n 2, 1) := by decide +kernel
theorem dX12_image_38 : decode cX12_image 38 = .ok (.iaload, 1) := by decide +kernel
theorem dX12_image_39 : decode cX12_image 39 = .ok (.iastore, 1) := by decide +kernel
theorem dX12_image_40 : decode cX12_image 40 = .ok (.iinc 2 1, 3) := by decide +kernel
theorem dX12_image_43 : decode cX12_image 43 = .ok (.goto (-26), 3) := by decide +kernel
theorem dX12_image_46 : decode cX12_image 46 = .ok (.aload_n 0, 1) := by decide +kernel
theorem dX12_image_47 : decode cX12_image 47 = .ok (.getfield 16, 3) := by decide +kernel
theorem dX12_image_50 : decode cX12_image 50 = .ok (.iload_n 1, 1) := by decide +kernel
theorem dX12_image_51 : decode cX12_image 51 = .ok (.iconst 1, 1) := by decide +kernel
theorem dX12_image_52 : decode cX12_image 52 = .ok (.bastore, 1) := by decide +kernel
theorem dX12_image_53 : decode cX12_image 53 = .ok (.iconst 0, 1) := by decide +kernel
theorem dX12_image_54 : decode cX12_image 54 = .ok (.ireturn, 1) := by decide +kernel
theorem dX12_image_6 : decode cX12_image 6 = .ok (.invokestatic 95, 3) := by decide +kernel
theorem dX12_image_9 : decode cX12_image 9 = .ok (.ifCond .ne 6, 3) := by decide +kernel
theorem dX12_paste_0 : decode cX12_paste 0 = .ok (.iload_n 1, 1) := by decide +kernel
theorem dX12_paste_1 : decode cX12_paste 1 = .ok (.invokestatic 371, 3) := by decide +kernel
theorem dX12_paste_11 : decode cX12_paste 11 = .ok (.ifCond .ne 6, 3) := by decide +kernel
theorem dX12_paste_14 : decode cX12_paste 14 = .ok (.bipush (-2), 2) := by decide +kernel
theorem dX12_paste_16 : decode cX12_paste 16 = .ok (.ireturn, 1) := by decide +kernel
theorem dX12_paste_17 : decode cX12_paste 17 = .ok (.aload_n 0, 1) := by decide +kernel
theorem dX12_paste_18 : decode cX12_paste 18 = .ok (.getfield 77, 3) := by decide +kernel
theorem dX12_paste_21 : decode cX12_paste 21 = .ok (.iload_n 1, 1) := by decide +kernel
theorem dX12_paste_22 : decode cX12_paste 22 = .ok (.iaload, 1) := by decide +kernel
theorem dX12_paste_23 : decode cX12_paste 23 = .ok (.iconst (-1), 1) := by decide +kernel
theorem dX12_paste_24 : decode cX12_paste 24 = .ok (.if_icmp .eq 13, 3) := by decide +kernel
theorem dX12_paste_37 : decode cX12_paste 37 = .ok (.bipush (-6), 2) := by decide +kernel
theorem dX12_paste_39 : decode cX12_paste 39 = .ok (.ireturn, 1) := by decide +kernel
theorem dX12_paste_4 : decode cX12_paste 4 = .ok (.ifCond .eq 10, 3) := by decide +kernel
theorem dX12_paste_7 : decode cX12_paste 7 = .ok (.iload_n 3, 1) := by decide +kernel
theorem dX12_paste_8 : decode cX12_paste 8 = .ok (.invokestatic 371, 3) := by decide +kernel
theorem dX12_rests_0 : decode cX12_rests 0 = .ok (.iconst 0, 1) := by decide +kernel
theorem dX12_rests_1 : decode cX12_rests 1 = .ok (.istore_n 1, 1) := by decide +kernel
theorem dX12_rests_10 : decode cX12_rests 10 = .ok (.iload_n 1, 1) := by decide +kernel
theorem dX12_rests_11 : decode cX12_rests 11 = .ok (.iload_n 2, 1) := by decide +kernel
theorem dX12_rests_12 : decode cX12_rests 12 = .ok (.iconst 4, 1) := by decide +kernel
theorem dX12_rests_13 : decode cX12_rests 13 = .ok (.idiv, 1) := by decide +kernel
theorem dX12_rests_14 : decode cX12_rests 14 = .ok (.iload_n 2, 1) := by decide +kernel
theorem dX12_rests_15 : decode cX12_rests 15 = .ok (.iconst 4, 1) := by decide +kernel
theorem dX12_rests_16 : decode cX12_rests 16 = .ok (.irem, 1) := by decide +kernel
theorem dX12_rests_17 : decode cX12_rests 17 = .ok (.invokestatic 423, 3) := by decide +kernel
theorem dX12_rests_2 : decode cX12_rests 2 = .ok (.iconst 0, 1) := by decide +kernel
theorem dX12_rests_20 : decode cX12_rests 20 = .ok (.iload_n 2, 1) := by decide +kernel
theorem dX12_rests_21 : decode cX12_rests 21 = .ok (.iconst 4, 1) := by decide +kernel
theorem dX12_rests_22 : decode cX12_rests 22 = .ok (.irem, 1) := by decide +kernel
theorem dX12_rests_23 : decode cX12_rests 23 = .ok (.invokestatic 426, 3) := by decide +kernel
theorem dX12_rests_26 : decode cX12_rests 26 = .ok (.iload_n 2, 1) := by decide +kernel
theorem dX12_rests_27 : decode cX12_rests 27 = .ok (.iconst 4, 1) := by decide +kernel
theorem dX12_rests_28 : decode cX12_rests 28 = .ok (.irem, 1) := by decide +kernel
theorem dX12_rests_29 : decode cX12_rests 29 = .ok (.invokestatic 423, 3) := by decide +kernel
theorem dX12_rests_3 : decode cX12_rests 3 = .ok (.istore_n 2, 1) := by decide +kernel
theorem dX12_rests_32 : decode cX12_rests 32 = .ok (.if_icmp .ne 31, 3) := by decide +kernel
theorem dX12_rests_35 : decode cX12_rests 35 = .ok (.iload_n 2, 1) := by decide +kernel
theorem dX12_rests_36 : decode cX12_rests 36 = .ok (.iconst 4, 1) := by decide +kernel
theorem dX12_rests_37 : decode cX12_rests 37 = .ok (.irem, 1) := by decide +kernel
theorem dX12_rests_38 : decode cX12_rests 38 = .ok (.iload_n 2, 1) := by decide +kernel
theorem dX12_rests_39 : decode cX12_rests 39 = .ok (.iconst 4, 1) := by decide +kernel
theorem dX12_rests_4 : decode cX12_rests 4 = .ok (.iload_n 2, 1) := by decide +kernel
theorem dX12_rests_40 : decode cX12_rests 40 = .ok (.idiv, 1) := by decide +kernel
theorem dX12_rests_41 : decode cX12_rests 41 = .ok (.invokestatic 423, 3) := by decide +kernel
theorem dX12_rests_44 : decode cX12_rests 44 = .ok (.iload_n 2, 1) := by decide +kernel
theorem dX12_rests_45 : decode cX12_rests 45 = .ok (.iconst 4, 1) := by decide +kernel
theorem dX12_rests_46 : decode cX12_rests 46 = .ok (.idiv, 1) := by decide +kernel
theorem dX12_rests_47 : decode cX12_rests 47 = .ok (.invokestatic 426, 3) := by decide +kernel
theorem dX12_rests_5 : decode cX12_rests 5 = .ok (.bipush 16, 2) := by decide +kernel
theorem dX12_rests_50 : decode cX12_rests 50 = .ok (.iload_n 2, 1) := by decide +kernel
theorem dX12_rests_51 : decode cX12_rests 51 = .ok (.iconst 4, 1) := by decide +kernel
theorem dX12_rests_52 : decode cX12_rests 52 = .ok (.idiv, 1) := by decide +kernel
theorem dX12_rests_53 : decode cX12_rests 53 = .ok (.invokestatic 423, 3) := by decide +kernel
theorem dX12_rests_56 : decode cX12_rests 56 = .ok (.if_icmp .ne 7, 3) := by decide +kernel
theorem dX12_rests_63 : decode cX12_rests 63 = .ok (.iconst 0, 1) := by decide +kernel
theorem dX12_rests_64 : decode cX12_rests 64 = .ok (.iadd, 1) := by decide +kernel
theorem dX12_rests_65 : decode cX12_rests 65 = .ok (.istore_n 1, 1) := by decide +kernel
theorem dX12_rests_66 : decode cX12_rests 66 = .ok (.iinc 2 1, 3) := by decide +kernel
theorem dX12_rests_69 : decode cX12_rests 69 = .ok (.goto (-65), 3) := by decide +kernel
theorem dX12_rests_7 : decode cX12_rests 7 = .ok (.if_icmp .ge 65, 3) := by decide +kernel
theorem dX12_rests_72 : decode cX12_rests 72 = .ok (.iload_n 1, 1) := by decide +kernel
theorem dX12_rests_73 : decode cX12_rests 73 = .ok (.ireturn, 1) := by decide +kernel
theorem dX12_row_0 : decode cX12_row 0 = .ok (.iload_n 1, 1) := by decide +kernel
theorem dX12_row_1 : decode cX12_row 1 = .ok (.invokestatic 371, 3) := by decide +kernel
theorem dX12_row_10 : decode cX12_row 10 = .ok (.ldc2_w 429, 3) := by decide +kernel
theorem dX12_row_13 : decode cX12_row 13 = .ok (.invokestatic 95, 3) := by decide +kernel
theorem dX12_row_16 : decode cX12_row 16 = .ok (.ifCond .eq 9, 3) := by decide +kernel
theorem dX12_row_19 : decode cX12_row 19 = .ok (.iload_n 3, 1) := by decide +kernel
theorem dX12_row_20 : decode cX12_row 20 = .ok (.bipush 60, 2) := by decide +kernel
theorem dX12_row_22 : decode cX12_row 22 = .ok (.if_icmp .le 6, 3) := by decide +kernel
theorem dX12_row_25 : decode cX12_row 25 = .ok (.bipush (-2), 2) := by decide +kernel
theorem dX12_row_27 : decode cX12_row 27 = .ok (.ireturn, 1) := by decide +kernel
theorem dX12_row_28 : decode cX12_row 28 = .ok (.iload_n 3, 1) := by decide +kernel
theorem dX12_row_29 : decode cX12_row 29 = .ok (.ifCond .ge 6, 3) := by decide +kernel
theorem dX12_row_32 : decode cX12_row 32 = .ok (.bipush (-3), 2) := by decide +kernel
theorem dX12_row_34 : decode cX12_row 34 = .ok (.ireturn, 1) := by decide +kernel
theorem dX12_row_35 : decode cX12_row 35 = .ok (.aload_n 0, 1) := by decide +kernel
theorem dX12_row_36 : decode cX12_row 36 = .ok (.getfield 77, 3) := by decide +kernel
theorem dX12_row_39 : decode cX12_row 39 = .ok (.iload_n 1, 1) := by decide +kernel
theorem dX12_row_4 : decode cX12_row 4 = .ok (.ifCond .eq 21, 3) := by decide +kernel
theorem dX12_row_40 : decode cX12_row 40 = .ok (.iload_n 3, 1) := by decide +kernel
theorem dX12_row_41 : decode cX12_row 41 = .ok (.iastore, 1) := by decide +kernel
theorem dX12_row_42 : decode cX12_row 42 = .ok (.aload_n 0, 1) := by decide +kernel
theorem dX12_row_43 : decode cX12_row 43 = .ok (.getfield 80, 3) := by decide +kernel
theorem dX12_row_46 : decode cX12_row 46 = .ok (.iload_n 1, 1) := by decide +kernel
theorem dX12_row_47 : decode cX12_row 47 = .ok (.iload_n 2, 1) := by decide +kernel
theorem dX12_row_48 : decode cX12_row 48 = .ok (.iastore, 1) := by decide +kernel
theorem dX12_row_49 : decode cX12_row 49 = .ok (.iconst 0, 1) := by decide +kernel
theorem dX12_row_50 : decode cX12_row 50 = .ok (.istore 4, 2) := by decide +kernel
theorem dX12_row_52 : decode cX12_row 52 = .ok (.iload 4, 2) := by decide +kernel
theorem dX12_row_54 : decode cX12_row 54 = .ok (.bipush 60, 2) := by decide +kernel
theorem dX12_row_56 : decode cX12_row 56 = .ok (.if_icmp .ge 22, 3) := by decide +kernel
theorem dX12_row_59 : decode cX12_row 59 = .ok (.aload_n 0, 1) := by decide +kernel
theorem dX12_row_60 : decode cX12_row 60 = .ok (.getfield 83, 3) := by decide +kernel
theorem dX12_row_63 : decode cX12_row 63 = .ok (.bipush 60, 2) := by decide +kernel
theorem dX12_row_65 : decode cX12_row 65 = .ok (.iload_n 1, 1) := by decide +kernel
theorem dX12_row_66 : decode cX12_row 66 = .ok (.imul, 1) := by decide +kernel
theorem dX12_row_67 : decode cX12_row 67 = .ok (.iload 4, 2) := by decide +kernel
theorem dX12_row_69 : decode cX12_row 69 = .ok (.iadd, 1) := by decide +kernel
theorem dX12_row_7 : decode cX12_row 7 = .ok (.iload_n 2, 1) := by decide +kernel
theorem dX12_row_70 : decode cX12_row 70 = .ok (.lconst 0, 1) := by decide +kernel
theorem dX12_row_71 : decode cX12_row 71 = .ok (.lastore, 1) := by decide +kernel
theorem dX12_row_72 : decode cX12_row 72 = .ok (.iinc 4 1, 3) := by decide +kernel
theorem dX12_row_75 : decode cX12_row 75 = .ok (.goto (-23), 3) := by decide +kernel
theorem dX12_row_78 : decode cX12_row 78 = .ok (.iconst 0, 1) := by decide +kernel
theorem dX12_row_79 : decode cX12_row 79 = .ok (.ireturn, 1) := by decide +kernel
theorem dX12_row_8 : decode cX12_row 8 = .ok (.i2l, 1) := by decide +kernel
theorem dX12_row_9 : decode cX12_row 9 = .ok (.lconst 0, 1) := by decide +kernel
theorem dX12_see_0 : decode cX12_see 0 = .ok (.iload_n 1, 1) := by decide +kernel
theorem dX12_see_1 : decode cX12_see 1 = .ok (.aload_n 0, 1) := by decide +kernel
theorem dX12_see_2 : decode cX12_see 2 = .ok (.getfield 112, 3) := by decide +kernel
theorem dX12_see_21 : decode cX12_see 21 = .ok (.iconst (-1), 1) := by decide +kernel
theorem dX12_see_22 : decode cX12_see 22 = .ok (.ireturn, 1) := by decide +kernel
theorem dX12_see_5 : decode cX12_see 5 = .ok (.if_icmp .ge 16, 3) := by decide +kernel
theorem dX12_soundsBy_0 : decode cX12_soundsBy 0 = .ok (.iload_n 0, 1) := by decide +kernel
theorem dX12_soundsBy_1 : decode cX12_soundsBy 1 = .ok (.iload_n 1, 1) := by decide +kernel
theorem dX12_soundsBy_10 : decode cX12_soundsBy 10 = .ok (.iload_n 0, 1) := by decide +kernel
theorem dX12_soundsBy_11 : decode cX12_soundsBy 11 = .ok (.iload_n 1, 1) := by decide +kernel
theorem dX12_soundsBy_12 : decode cX12_soundsBy 12 = .ok (.if_icmp .ne 7, 3) := by decide +kernel
theorem dX12_soundsBy_15 : decode cX12_soundsBy 15 = .ok (.iconst 4, 1) := by decide +kernel
theorem dX12_soundsBy_16 : decode cX12_soundsBy 16 = .ok (.goto 4, 3) := by decide +kernel
theorem dX12_soundsBy_19 : decode cX12_soundsBy 19 = .ok (.iconst 0, 1) := by decide +kernel
theorem dX12_soundsBy_2 : decode cX12_soundsBy 2 = .ok (.if_icmp .le 8, 3) := by decide +kernel
theorem dX12_soundsBy_20 : decode cX12_soundsBy 20 = .ok (.iload_n 0, 1) := by decide +kernel
theorem dX12_soundsBy_21 : decode cX12_soundsBy 21 = .ok (.iload_n 0, 1) := by decide +kernel
theorem dX12_soundsBy_22 : decode cX12_soundsBy 22 = .ok (.imul, 1) := by decide +kernel
theorem dX12_soundsBy_23 : decode cX12_soundsBy 23 = .ok (.isub, 1) := by decide +kernel
theorem dX12_soundsBy_24 : decode cX12_soundsBy 24 = .ok (.ireturn, 1) := by decide +kernel
theorem dX12_soundsBy_5 : decode cX12_soundsBy 5 = .ok (.bipush 10, 2) := by decide +kernel
theorem dX12_soundsBy_7 : decode cX12_soundsBy 7 = .ok (.goto 13, 3) := by decide +kernel
theorem dX12_sounds_0 : decode cX12_sounds 0 = .ok (.iload_n 1, 1) := by decide +kernel
theorem dX12_sounds_1 : decode cX12_sounds 1 = .ok (.i2l, 1) := by decide +kernel
theorem dX12_sounds_12 : decode cX12_sounds 12 = .ok (.iload_n 2, 1) := by decide +kernel
theorem dX12_sounds_13 : decode cX12_sounds 13 = .ok (.i2l, 1) := by decide +kernel
theorem dX12_sounds_14 : decode cX12_sounds 14 = .ok (.lconst 0, 1) := by decide +kernel
theorem dX12_sounds_15 : decode cX12_sounds 15 = .ok (.ldc2_w 429, 3) := by decide +kernel
theorem dX12_sounds_18 : decode cX12_sounds 18 = .ok (.invokestatic 95, 3) := by decide +kernel
theorem dX12_sounds_2 : decode cX12_sounds 2 = .ok (.lconst 0, 1) := by decide +kernel
theorem dX12_sounds_21 : decode cX12_sounds 21 = .ok (.ifCond .eq 11, 3) := by decide +kernel
theorem dX12_sounds_24 : decode cX12_sounds 24 = .ok (.iload_n 1, 1) := by decide +kernel
theorem dX12_sounds_25 : decode cX12_sounds 25 = .ok (.iload_n 2, 1) := by decide +kernel
theorem dX12_sounds_26 : decode cX12_sounds 26 = .ok (.invokestatic 423, 3) := by decide +kernel
theorem dX12_sounds_29 : decode cX12_sounds 29 = .ok (.goto 6, 3) := by decide +kernel
theorem dX12_sounds_3 : decode cX12_sounds 3 = .ok (.ldc2_w 429, 3) := by decide +kernel
theorem dX12_sounds_32 : decode cX12_sounds 32 = .ok (.sipush (-1000), 3) := by decide +kernel
theorem dX12_sounds_35 : decode cX12_sounds 35 = .ok (.ireturn, 1) := by decide +kernel
theorem dX12_sounds_6 : decode cX12_sounds 6 = .ok (.invokestatic 95, 3) := by decide +kernel
theorem dX12_sounds_9 : decode cX12_sounds 9 = .ok (.ifCond .eq 23, 3) := by decide +kernel
theorem dX12_station_0 : decode cX12_station 0 = .ok (.aload_n 0, 1) := by decide +kernel
theorem dX12_station_1 : decode cX12_station 1 = .ok (.aload_n 0, 1) := by decide +kernel
theorem dX12_station_10 : decode cX12_station 10 = .ok (.putfield 109, 3) := by decide +kernel
theorem dX12_station_101 : decode cX12_station 101 = .ok (.iload_n 1, 1) := by decide +kernel
theorem dX12_station_102 : decode cX12_station 102 = .ok (.iaload, 1) := by decide +kernel
theorem dX12_station_103 : decode cX12_station 103 = .ok (.iastore, 1) := by decide +kernel
theorem dX12_station_104 : decode cX12_station 104 = .ok (.iinc 1 1, 3) := by decide +kernel
theorem dX12_station_107 : decode cX12_station 107 = .ok (.goto (-21), 3) := by decide +kernel
theorem dX12_station_110 : decode cX12_station 110 = .ok (.aload_n 0, 1) := by decide +kernel
theorem dX12_station_111 : decode cX12_station 111 = .ok (.getfield 9, 3) := by decide +kernel
theorem dX12_station_114 : decode cX12_station 114 = .ok (.bipush 9, 2) := by decide +kernel
theorem dX12_station_116 : decode cX12_station 116 = .ok (.iaload, 1) := by decide +kernel
theorem dX12_station_117 : decode cX12_station 117 = .ok (.ireturn, 1) := by decide +kernel
theorem dX12_station_13 : decode cX12_station 13 = .ok (.aload_n 0, 1) := by decide +kernel
theorem dX12_station_14 : decode cX12_station 14 = .ok (.iconst 0, 1) := by decide +kernel
theorem dX12_station_15 : decode cX12_station 15 = .ok (.putfield 115, 3) := by decide +kernel
theorem dX12_station_18 : decode cX12_station 18 = .ok (.aload_n 0, 1) := by decide +kernel
theorem dX12_station_19 : decode cX12_station 19 = .ok (.iconst 0, 1) := by decide +kernel
theorem dX12_station_2 : decode cX12_station 2 = .ok (.getfield 109, 3) := by decide +kernel
theorem dX12_station_20 : decode cX12_station 20 = .ok (.putfield 145, 3) := by decide +kernel
theorem dX12_station_23 : decode cX12_station 23 = .ok (.aload_n 0, 1) := by decide +kernel
theorem dX12_station_24 : decode cX12_station 24 = .ok (.iconst (-1), 1) := by decide +kernel
theorem dX12_station_25 : decode cX12_station 25 = .ok (.putfield 27, 3) := by decide +kernel
theorem dX12_station_28 : decode cX12_station 28 = .ok (.iconst 0, 1) := by decide +kernel
theorem dX12_station_29 : decode cX12_station 29 = .ok (.istore_n 1, 1) := by decide +kernel
theorem dX12_station_30 : decode cX12_station 30 = .ok (.iload_n 1, 1) := by decide +kernel
theorem dX12_station_31 : decode cX12_station 31 = .ok (.bipush 53, 2) := by decide +kernel
theorem dX12_station_33 : decode cX12_station 33 = .ok (.if_icmp .ge 16, 3) := by decide +kernel
theorem dX12_station_36 : decode cX12_station 36 = .ok (.aload_n 0, 1) := by decide +kernel
theorem dX12_station_37 : decode cX12_station 37 = .ok (.getfield 31, 3) := by decide +kernel
theorem dX12_station_40 : decode cX12_station 40 = .ok (.iload_n 1, 1) := by decide +kernel
theorem dX12_station_41 : decode cX12_station 41 = .ok (.iconst 0, 1) := by decide +kernel
theorem dX12_station_42 : decode cX12_station 42 = .ok (.iastore, 1) := by decide +kernel
theorem dX12_station_43 : decode cX12_station 43 = .ok (.iinc 1 1, 3) := by decide +kernel
theorem dX12_station_46 : decode cX12_station 46 = .ok (.goto (-16), 3) := by decide +kernel
theorem dX12_station_49 : decode cX12_station 49 = .ok (.aload_n 0, 1) := by decide +kernel
theorem dX12_station_5 : decode cX12_station 5 = .ok (.putfield 112, 3) := by decide +kernel
theorem dX12_station_50 : decode cX12_station 50 = .ok (.invokevirtual 165, 3) := by decide +kernel
theorem dX12_station_53 : decode cX12_station 53 = .ok (.aload_n 0, 1) := by decide +kernel
theorem dX12_station_54 : decode cX12_station 54 = .ok (.invokevirtual 148, 3) := by decide +kernel
theorem dX12_station_57 : decode cX12_station 57 = .ok (.ifCond .eq 17, 3) := by decide +kernel
theorem dX12_station_60 : decode cX12_station 60 = .ok (.aload_n 0, 1) := by decide +kernel
theorem dX12_station_61 : decode cX12_station 61 = .ok (.getfield 124, 3) := by decide +kernel
theorem dX12_station_64 : decode cX12_station 64 = .ok (.ifCond .eq 10, 3) := by decide +kernel
theorem dX12_station_74 : decode cX12_station 74 = .ok (.aload_n 0, 1) := by decide +kernel
theorem dX12_station_75 : decode cX12_station 75 = .ok (.invokevirtual 148, 3) := by decide +kernel
theorem dX12_station_78 : decode cX12_station 78 = .ok (.ifCond .ne 6, 3) := by decide +kernel
theorem dX12_station_8 : decode cX12_station 8 = .ok (.aload_n 0, 1) := by decide +kernel
theorem dX12_station_84 : decode cX12_station 84 = .ok (.iconst 0, 1) := by decide +kernel
theorem dX12_station_85 : decode cX12_station 85 = .ok (.istore_n 1, 1) := by decide +kernel
theorem dX12_station_86 : decode cX12_station 86 = .ok (.iload_n 1, 1) := by decide +kernel
theorem dX12_station_87 : decode cX12_station 87 = .ok (.bipush 53, 2) := by decide +kernel
theorem dX12_station_89 : decode cX12_station 89 = .ok (.if_icmp .ge 21, 3) := by decide +kernel
theorem dX12_station_9 : decode cX12_station 9 = .ok (.iconst 0, 1) := by decide +kernel
theorem dX12_station_92 : decode cX12_station 92 = .ok (.aload_n 0, 1) := by decide +kernel
theorem dX12_station_93 : decode cX12_station 93 = .ok (.getfield 9, 3) := by decide +kernel
theorem dX12_station_96 : decode cX12_station 96 = .ok (.iload_n 1, 1) := by decide +kernel
theorem dX12_station_97 : decode cX12_station 97 = .ok (.aload_n 0, 1) := by decide +kernel
theorem dX12_station_98 : decode cX12_station 98 = .ok (.getfield 31, 3) := by decide +kernel
theorem dX12_write_0 : decode cX12_write 0 = .ok (.iload_n 1, 1) := by decide +kernel
theorem dX12_write_1 : decode cX12_write 1 = .ok (.invokestatic 371, 3) := by decide +kernel
theorem dX12_write_10 : decode cX12_write 10 = .ok (.aload_n 0, 1) := by decide +kernel
theorem dX12_write_11 : decode cX12_write 11 = .ok (.getfield 77, 3) := by decide +kernel
theorem dX12_write_14 : decode cX12_write 14 = .ok (.iload_n 1, 1) := by decide +kernel
theorem dX12_write_15 : decode cX12_write 15 = .ok (.iaload, 1) := by decide +kernel
theorem dX12_write_16 : decode cX12_write 16 = .ok (.iconst (-1), 1) := by decide +kernel
theorem dX12_write_17 : decode cX12_write 17 = .ok (.if_icmp .ne 6, 3) := by decide +kernel
theorem dX12_write_20 : decode cX12_write 20 = .ok (.bipush (-6), 2) := by decide +kernel
theorem dX12_write_22 : decode cX12_write 22 = .ok (.ireturn, 1) := by decide +kernel
theorem dX12_write_4 : decode cX12_write 4 = .ok (.ifCond .ne 6, 3) := by decide +kernel
theorem dX12_write_7 : decode cX12_write 7 = .ok (.bipush (-2), 2) := by decide +kernel
theorem dX12_write_9 : decode cX12_write 9 = .ok (.ireturn, 1) := by decide +kernel
set_option maxHeartbeats 4000000 in
set_option maxRecDepth 100000 in
theorem k_soundsBy (l : Launch) (D : va_G) (cB cI cJ cZ cS cT : ClassId) (o : Int32) (t : Int32)  : Met l yX12_soundsBy (Cond.code yX12_soundsBy cX12_soundsBy 2 (some .int) :: wsL_law) ({ frames := 0, cells := 0, slots := 0, locals := 0 }) (roP D (tyL cB cI cJ cZ cS cT) [] [.int o, .int t]) (vp_Si (fun r : Int32 => r = rw_ o t)) 0 0 (fun _ => False) := by
  refine Met.ofW (cc := cX12_soundsBy) (maxL := 2) (ret := (some .int)) (by decide) rfl ?_
  intro p e s m args below meth c s₁ B hml hv
  obtain ⟨rfl, hP, hK⟩ := hv
  have hx := B.exec
  have hb := B.bytes
  have hr := B.returns
  have hts : ∀ w ∈ wsL_law, w.before ([.int o, .int t] : List Value).toArray s = true := fun w h => atoms_spec (ws := Cond.code yX12_soundsBy cX12_soundsBy 2 (some .int) :: wsL_law) B.pre w (List.mem_cons_of_mem _ h)
  have hown : s.vm.findClass RX12 = some m.cls := findClass_of_methodNamed B.named
  have hlocks := B.notSynchronized
  have hl := lv_entry ([.int o, .int t]) (n := 2) (Nat.le_of_ble_eq_true rfl)
  rw [lg_entry_eq]
  generalize (lg_sl ([.int o, .int t]) ++ List.replicate (2 - (lg_sl ([.int o, .int t])).length) Slot.unset).toArray = ls at hl ⊢
  have hl : lv_has ls 2 [(0, .int o), (1, .int t)] := hl
  have hP : va_P D vwCl [] s.heap := hP
  refine lv_iload_n hx hb dX12_soundsBy_0 rfl (lv_at hl 0 rfl) ?_
  refine lv_iload_n hx hb dX12_soundsBy_1 rfl (lv_at hl 1 rfl) ?_
  refine lv_icmp_le (tgt := 10) hx hb dX12_soundsBy_2 (by decide) (fun c_1 => ?_) (fun c_1 => ?_)
  · have c_1 : o.toInt ≤ t.toInt := ci_le_t c_1
    refine lv_iload_n hx hb dX12_soundsBy_10 rfl (lv_at hl 0 rfl) ?_
    refine lv_iload_n hx hb dX12_soundsBy_11 rfl (lv_at hl 1 rfl) ?_
    refine lv_icmp_ne (tgt := 19) hx hb dX12_soundsBy_12 (by decide) (fun c_2 => ?_) (fun c_2 => ?_)
    · have c_2 : ¬ o.toInt = t.toInt := ci_ne_t c_2
      refine lv_iconst (v := 0) hx hb dX12_soundsBy_19 (by decide) ?_
      refine lv_iload_n hx hb dX12_soundsBy_20 rfl (lv_at hl 0 rfl) ?_
      refine lv_iload_n hx hb dX12_soundsBy_21 rfl (lv_at hl 0 rfl) ?_
      obtain ⟨t_3, et_3⟩ : ∃ v9 : Int32, o * o = v9 := ⟨_, rfl⟩
      refine z_imul (v := t_3) hx hb dX12_soundsBy_22 et_3 ?_
      obtain ⟨t_4, et_4⟩ : ∃ v9 : Int32, 0 - t_3 = v9 := ⟨_, rfl⟩
      refine z_isub (v := t_4) hx hb dX12_soundsBy_23 et_4 ?_
      exact W.iret (v := t_4) hx hb hr (fun t ht hW => ⟨_, rfl, (by subst_vars; unfold rw_; simp only [Int32.lt_iff_toInt_lt, ← Int32.toInt_inj]; repeat' split <;> first | rfl | (exfalso; omega)), ht⟩) (fun _ h => by cases h) dX12_soundsBy_24
    · have c_2 : o.toInt = t.toInt := ci_ne_f c_2
      refine lv_iconst (v := 4) hx hb dX12_soundsBy_15 (by decide) ?_
      refine lv_goto (tgt := 20) hx hb dX12_soundsBy_16 (by decide) ?_
      refine lv_iload_n hx hb dX12_soundsBy_20 rfl (lv_at hl 0 rfl) ?_
      refine lv_iload_n hx hb dX12_soundsBy_21 rfl (lv_at hl 0 rfl) ?_
      obtain ⟨t_5, et_5⟩ : ∃ v9 : Int32, o * o = v9 := ⟨_, rfl⟩
      refine z_imul (v := t_5) hx hb dX12_soundsBy_22 et_5 ?_
      obtain ⟨t_6, et_6⟩ : ∃ v9 : Int32, 4 - t_5 = v9 := ⟨_, rfl⟩
      refine z_isub (v := t_6) hx hb dX12_soundsBy_23 et_6 ?_
      exact W.iret (v := t_6) hx hb hr (fun t ht hW => ⟨_, rfl, (by subst_vars; unfold rw_; simp only [Int32.lt_iff_toInt_lt, ← Int32.toInt_inj]; repeat' split <;> first | rfl | (exfalso; omega)), ht⟩) (fun _ h => by cases h) dX12_soundsBy_24
  · have c_1 : t.toInt < o.toInt := ci_le_f c_1
    refine lv_bipush (v := 10) hx hb dX12_soundsBy_5 (by decide) ?_
    refine lv_goto (tgt := 20) hx hb dX12_soundsBy_7 (by decide) ?_
    refine lv_iload_n hx hb dX12_soundsBy_20 rfl (lv_at hl 0 rfl) ?_
    refine lv_iload_n hx hb dX12_soundsBy_21 rfl (lv_at hl 0 rfl) ?_
    obtain ⟨t_7, et_7⟩ : ∃ v9 : Int32, o * o = v9 := ⟨_, rfl⟩
    refine z_imul (v := t_7) hx hb dX12_soundsBy_22 et_7 ?_
    obtain ⟨t_8, et_8⟩ : ∃ v9 : Int32, 10 - t_7 = v9 := ⟨_, rfl⟩
    refine z_isub (v := t_8) hx hb dX12_soundsBy_23 et_8 ?_
    exact W.iret (v := t_8) hx hb hr (fun t ht hW => ⟨_, rfl, (by subst_vars; unfold rw_; simp only [Int32.lt_iff_toInt_lt, ← Int32.toInt_inj]; repeat' split <;> first | rfl | (exfalso; omega)), ht⟩) (fun _ h => by cases h) dX12_soundsBy_24

set_option maxHeartbeats 4000000 in
set_option maxRecDepth 100000 in
theorem k_bestBy0 (l : Launch) (D : va_G) (cB cI cJ cZ cS cT : ClassId)   : Met l yX12_bestBy (Cond.code yX12_bestBy cX12_bestBy 3 (some .int) :: wsL_law) ({ frames := 1, cells := 0, slots := 0, locals := 21 }) (roP D (tyL cB cI cJ cZ cS cT) [] [.int 0]) (vp_Si (fun r : Int32 => r = 1)) 0 0 (fun _ => False) := by
  refine Met.ofW (cc := cX12_bestBy) (maxL := 3) (ret := (some .int)) (by decide) rfl ?_
  intro p e s m args below meth c s₁ B hml hv
  obtain ⟨rfl, hP, hK⟩ := hv
  have hx := B.exec
  have hb := B.bytes
  have hr := B.returns
  have hts : ∀ w ∈ wsL_law, w.before ([.int 0] : List Value).toArray s = true := fun w h => atoms_spec (ws := Cond.code yX12_bestBy cX12_bestBy 3 (some .int) :: wsL_law) B.pre w (List.mem_cons_of_mem _ h)
  have hown : s.vm.findClass RX12 = some m.cls := findClass_of_methodNamed B.named
  have hlocks := B.notSynchronized
  have hl := lv_entry ([.int 0]) (n := 3) (Nat.le_of_ble_eq_true rfl)
  rw [lg_entry_eq]
  generalize (lg_sl ([.int 0]) ++ List.replicate (3 - (lg_sl ([.int 0])).length) Slot.unset).toArray = ls at hl ⊢
  have hl : lv_has ls 3 [(0, .int 0)] := hl
  have hP : va_P D vwCl [] s.heap := hP
  refine lv_iconst (v := 0) hx hb dX12_bestBy_0 (by decide) ?_
  refine lv_istore_n (lv' := [(1, .int 0), (0, .int 0)]) hx hb dX12_bestBy_1 rfl hl (by decide) rfl (fun ls hl => ?_)
  refine lv_iconst (v := 1) hx hb dX12_bestBy_2 (by decide) ?_
  refine lv_istore_n (lv' := [(2, .int 1), (1, .int 0), (0, .int 0)]) hx hb dX12_bestBy_3 rfl hl (by decide) rfl (fun ls hl => ?_)
  refine lv_iload_n hx hb dX12_bestBy_4 rfl (lv_at hl 0 rfl) ?_
  refine lv_iconst (v := 4) hx hb dX12_bestBy_5 (by decide) ?_
  refine lv_icmp_ge (tgt := 34) hx hb dX12_bestBy_6 (by decide) (fun c0 => absurd c0 (by decide)) (fun _ => ?_)
  refine lv_iload_n hx hb dX12_bestBy_9 rfl (lv_at hl 0 rfl) ?_
  refine lv_iload_n hx hb dX12_bestBy_10 rfl (lv_at hl 2 rfl) ?_
  refine rosi (As := [.int 1, .int 0]) (rest := []) ⟨hx, hb, hml, hown, hts⟩ (k_soundsBy l D cB cI cJ cZ cS cT 1 0 ) (csB (n := 2) (inr62 _ (List.mem_of_getElem? (i := 23) rfl)) (inr63 _ (List.mem_of_getElem? (i := 0) rfl)) (inr1 _ (List.mem_of_getElem? (i := 5) rfl)) (inr63 _ (List.mem_of_getElem? (i := 1) rfl)) (by decide +kernel) hts rfl rfl ⟨Nat.le_of_ble_eq_true rfl, Nat.le_of_ble_eq_true rfl⟩) (hP.sub [] rfl) hK rfl hl.1 rfl (Nat.le_of_ble_eq_true rfl) ⟨Nat.le_of_ble_eq_true rfl, Nat.le_of_ble_eq_true rfl⟩ dX12_bestBy_11 (fun r_1 h_2 => ?_)
  obtain rfl : r_1 = 9 := h_2.trans (by decide)
  refine lv_iload_n hx hb dX12_bestBy_14 rfl (lv_at hl 1 rfl) ?_
  refine lv_iload_n hx hb dX12_bestBy_15 rfl (lv_at hl 2 rfl) ?_
  refine rosi (As := [.int 0, .int 0]) (rest := [.int 9]) ⟨hx, hb, hml, hown, hts⟩ (k_soundsBy l D cB cI cJ cZ cS cT 0 0 ) (csB (n := 2) (inr62 _ (List.mem_of_getElem? (i := 23) rfl)) (inr63 _ (List.mem_of_getElem? (i := 0) rfl)) (inr1 _ (List.mem_of_getElem? (i := 5) rfl)) (inr63 _ (List.mem_of_getElem? (i := 1) rfl)) (by decide +kernel) hts rfl rfl ⟨Nat.le_of_ble_eq_true rfl, Nat.le_of_ble_eq_true rfl⟩) (hP.sub [] rfl) hK rfl hl.1 rfl (Nat.le_of_ble_eq_true rfl) ⟨Nat.le_of_ble_eq_true rfl, Nat.le_of_ble_eq_true rfl⟩ dX12_bestBy_16 (fun r_3 h_4 => ?_)
  obtain rfl : r_3 = 4 := h_4.trans (by decide)
  refine lv_icmp_le (tgt := 26) hx hb dX12_bestBy_19 (by decide) (fun c0 => absurd c0 (by decide)) (fun _ => ?_)
  refine lv_iload_n hx hb dX12_bestBy_22 rfl (lv_at hl 0 rfl) ?_
  refine lv_goto (tgt := 27) hx hb dX12_bestBy_23 (by decide) ?_
  refine lv_istore_n (lv' := [(1, .int 1), (2, .int 1), (0, .int 0)]) hx hb dX12_bestBy_27 rfl hl (by decide) rfl (fun ls hl => ?_)
  refine lv_iinc (v := 2) (lv' := [(2, .int 2), (1, .int 1), (0, .int 0)]) hx hb dX12_bestBy_28 hl (k := 1) rfl (by decide) (by decide) rfl (fun ls hl => ?_)
  refine lv_goto (tgt := 4) hx hb dX12_bestBy_31 (by decide) ?_
  refine lv_iload_n hx hb dX12_bestBy_4 rfl (lv_at hl 0 rfl) ?_
  refine lv_iconst (v := 4) hx hb dX12_bestBy_5 (by decide) ?_
  refine lv_icmp_ge (tgt := 34) hx hb dX12_bestBy_6 (by decide) (fun c0 => absurd c0 (by decide)) (fun _ => ?_)
  refine lv_iload_n hx hb dX12_bestBy_9 rfl (lv_at hl 0 rfl) ?_
  refine lv_iload_n hx hb dX12_bestBy_10 rfl (lv_at hl 2 rfl) ?_
  refine rosi (As := [.int 2, .int 0]) (rest := []) ⟨hx, hb, hml, hown, hts⟩ (k_soundsBy l D cB cI cJ cZ cS cT 2 0 ) (csB (n := 2) (inr62 _ (List.mem_of_getElem? (i := 23) rfl)) (inr63 _ (List.mem_of_getElem? (i := 0) rfl)) (inr1 _ (List.mem_of_getElem? (i := 5) rfl)) (inr63 _ (List.mem_of_getElem? (i := 1) rfl)) (by decide +kernel) hts rfl rfl ⟨Nat.le_of_ble_eq_true rfl, Nat.le_of_ble_eq_true rfl⟩) (hP.sub [] rfl) hK rfl hl.1 rfl (Nat.le_of_ble_eq_true rfl) ⟨Nat.le_of_ble_eq_true rfl, Nat.le_of_ble_eq_true rfl⟩ dX12_bestBy_11 (fun r_5 h_6 => ?_)
  obtain rfl : r_5 = 6 := h_6.trans (by decide)
  refine lv_iload_n hx hb dX12_bestBy_14 rfl (lv_at hl 1 rfl) ?_
  refine lv_iload_n hx hb dX12_bestBy_15 rfl (lv_at hl 2 rfl) ?_
  refine rosi (As := [.int 1, .int 0]) (rest := [.int 6]) ⟨hx, hb, hml, hown, hts⟩ (k_soundsBy l D cB cI cJ cZ cS cT 1 0 ) (csB (n := 2) (inr62 _ (List.mem_of_getElem? (i := 23) rfl)) (inr63 _ (List.mem_of_getElem? (i := 0) rfl)) (inr1 _ (List.mem_of_getElem? (i := 5) rfl)) (inr63 _ (List.mem_of_getElem? (i := 1) rfl)) (by decide +kernel) hts rfl rfl ⟨Nat.le_of_ble_eq_true rfl, Nat.le_of_ble_eq_true rfl⟩) (hP.sub [] rfl) hK rfl hl.1 rfl (Nat.le_of_ble_eq_true rfl) ⟨Nat.le_of_ble_eq_true rfl, Nat.le_of_ble_eq_true rfl⟩ dX12_bestBy_16 (fun r_7 h_8 => ?_)
  obtain rfl : r_7 = 9 := h_8.trans (by decide)
  refine lv_icmp_le (tgt := 26) hx hb dX12_bestBy_19 (by decide) (fun _ => ?_) (fun c0 => absurd c0 (by decide))
  refine lv_iload_n hx hb dX12_bestBy_26 rfl (lv_at hl 1 rfl) ?_
  refine lv_istore_n (lv' := [(1, .int 1), (2, .int 2), (0, .int 0)]) hx hb dX12_bestBy_27 rfl hl (by decide) rfl (fun ls hl => ?_)
  refine lv_iinc (v := 3) (lv' := [(2, .int 3), (1, .int 1), (0, .int 0)]) hx hb dX12_bestBy_28 hl (k := 1) rfl (by decide) (by decide) rfl (fun ls hl => ?_)
  refine lv_goto (tgt := 4) hx hb dX12_bestBy_31 (by decide) ?_
  refine lv_iload_n hx hb dX12_bestBy_4 rfl (lv_at hl 0 rfl) ?_
  refine lv_iconst (v := 4) hx hb dX12_bestBy_5 (by decide) ?_
  refine lv_icmp_ge (tgt := 34) hx hb dX12_bestBy_6 (by decide) (fun c0 => absurd c0 (by decide)) (fun _ => ?_)
  refine lv_iload_n hx hb dX12_bestBy_9 rfl (lv_at hl 0 rfl) ?_
  refine lv_iload_n hx hb dX12_bestBy_10 rfl (lv_at hl 2 rfl) ?_
  refine rosi (As := [.int 3, .int 0]) (rest := []) ⟨hx, hb, hml, hown, hts⟩ (k_soundsBy l D cB cI cJ cZ cS cT 3 0 ) (csB (n := 2) (inr62 _ (List.mem_of_getElem? (i := 23) rfl)) (inr63 _ (List.mem_of_getElem? (i := 0) rfl)) (inr1 _ (List.mem_of_getElem? (i := 5) rfl)) (inr63 _ (List.mem_of_getElem? (i := 1) rfl)) (by decide +kernel) hts rfl rfl ⟨Nat.le_of_ble_eq_true rfl, Nat.le_of_ble_eq_true rfl⟩) (hP.sub [] rfl) hK rfl hl.1 rfl (Nat.le_of_ble_eq_true rfl) ⟨Nat.le_of_ble_eq_true rfl, Nat.le_of_ble_eq_true rfl⟩ dX12_bestBy_11 (fun r_9 h_10 => ?_)
  obtain rfl : r_9 = 1 := h_10.trans (by decide)
  refine lv_iload_n hx hb dX12_bestBy_14 rfl (lv_at hl 1 rfl) ?_
  refine lv_iload_n hx hb dX12_bestBy_15 rfl (lv_at hl 2 rfl) ?_
  refine rosi (As := [.int 1, .int 0]) (rest := [.int 1]) ⟨hx, hb, hml, hown, hts⟩ (k_soundsBy l D cB cI cJ cZ cS cT 1 0 ) (csB (n := 2) (inr62 _ (List.mem_of_getElem? (i := 23) rfl)) (inr63 _ (List.mem_of_getElem? (i := 0) rfl)) (inr1 _ (List.mem_of_getElem? (i := 5) rfl)) (inr63 _ (List.mem_of_getElem? (i := 1) rfl)) (by decide +kernel) hts rfl rfl ⟨Nat.le_of_ble_eq_true rfl, Nat.le_of_ble_eq_true rfl⟩) (hP.sub [] rfl) hK rfl hl.1 rfl (Nat.le_of_ble_eq_true rfl) ⟨Nat.le_of_ble_eq_true rfl, Nat.le_of_ble_eq_true rfl⟩ dX12_bestBy_16 (fun r_11 h_12 => ?_)
  obtain rfl : r_11 = 9 := h_12.trans (by decide)
  refine lv_icmp_le (tgt := 26) hx hb dX12_bestBy_19 (by decide) (fun _ => ?_) (fun c0 => absurd c0 (by decide))
  refine lv_iload_n hx hb dX12_bestBy_26 rfl (lv_at hl 1 rfl) ?_
  refine lv_istore_n (lv' := [(1, .int 1), (2, .int 3), (0, .int 0)]) hx hb dX12_bestBy_27 rfl hl (by decide) rfl (fun ls hl => ?_)
  refine lv_iinc (v := 4) (lv' := [(2, .int 4), (1, .int 1), (0, .int 0)]) hx hb dX12_bestBy_28 hl (k := 1) rfl (by decide) (by decide) rfl (fun ls hl => ?_)
  refine lv_goto (tgt := 4) hx hb dX12_bestBy_31 (by decide) ?_
  refine lv_iload_n hx hb dX12_bestBy_4 rfl (lv_at hl 0 rfl) ?_
  refine lv_iconst (v := 4) hx hb dX12_bestBy_5 (by decide) ?_
  refine lv_icmp_ge (tgt := 34) hx hb dX12_bestBy_6 (by decide) (fun _ => ?_) (fun c0 => absurd c0 (by decide))
  refine lv_iload_n hx hb dX12_bestBy_34 rfl (lv_at hl 1 rfl) ?_
  exact W.iret (v := 1) hx hb hr (fun t ht hW => ⟨_, rfl, rfl, ht⟩) (fun _ h => by cases h) dX12_bestBy_35

set_option maxHeartbeats 4000000 in
set_option maxRecDepth 100000 in
theorem k_bestBy1 (l : Launch) (D : va_G) (cB cI cJ cZ cS cT : ClassId)   : Met l yX12_bestBy (Cond.code yX12_bestBy cX12_bestBy 3 (some .int) :: wsL_law) ({ frames := 1, cells := 0, slots := 0, locals := 21 }) (roP D (tyL cB cI cJ cZ cS cT) [] [.int 1]) (vp_Si (fun r : Int32 => r = 2)) 0 0 (fun _ => False) := by
  refine Met.ofW (cc := cX12_bestBy) (maxL := 3) (ret := (some .int)) (by decide) rfl ?_
  intro p e s m args below meth c s₁ B hml hv
  obtain ⟨rfl, hP, hK⟩ := hv
  have hx := B.exec
  have hb := B.bytes
  have hr := B.returns
  have hts : ∀ w ∈ wsL_law, w.before ([.int 1] : List Value).toArray s = true := fun w h => atoms_spec (ws := Cond.code yX12_bestBy cX12_bestBy 3 (some .int) :: wsL_law) B.pre w (List.mem_cons_of_mem _ h)
  have hown : s.vm.findClass RX12 = some m.cls := findClass_of_methodNamed B.named
  have hlocks := B.notSynchronized
  have hl := lv_entry ([.int 1]) (n := 3) (Nat.le_of_ble_eq_true rfl)
  rw [lg_entry_eq]
  generalize (lg_sl ([.int 1]) ++ List.replicate (3 - (lg_sl ([.int 1])).length) Slot.unset).toArray = ls at hl ⊢
  have hl : lv_has ls 3 [(0, .int 1)] := hl
  have hP : va_P D vwCl [] s.heap := hP
  refine lv_iconst (v := 0) hx hb dX12_bestBy_0 (by decide) ?_
  refine lv_istore_n (lv' := [(1, .int 0), (0, .int 1)]) hx hb dX12_bestBy_1 rfl hl (by decide) rfl (fun ls hl => ?_)
  refine lv_iconst (v := 1) hx hb dX12_bestBy_2 (by decide) ?_
  refine lv_istore_n (lv' := [(2, .int 1), (1, .int 0), (0, .int 1)]) hx hb dX12_bestBy_3 rfl hl (by decide) rfl (fun ls hl => ?_)
  refine lv_iload_n hx hb dX12_bestBy_4 rfl (lv_at hl 0 rfl) ?_
  refine lv_iconst (v := 4) hx hb dX12_bestBy_5 (by decide) ?_
  refine lv_icmp_ge (tgt := 34) hx hb dX12_bestBy_6 (by decide) (fun c0 => absurd c0 (by decide)) (fun _ => ?_)
  refine lv_iload_n hx hb dX12_bestBy_9 rfl (lv_at hl 0 rfl) ?_
  refine lv_iload_n hx hb dX12_bestBy_10 rfl (lv_at hl 2 rfl) ?_
  refine rosi (As := [.int 1, .int 1]) (rest := []) ⟨hx, hb, hml, hown, hts⟩ (k_soundsBy l D cB cI cJ cZ cS cT 1 1 ) (csB (n := 2) (inr62 _ (List.mem_of_getElem? (i := 23) rfl)) (inr63 _ (List.mem_of_getElem? (i := 0) rfl)) (inr1 _ (List.mem_of_getElem? (i := 5) rfl)) (inr63 _ (List.mem_of_getElem? (i := 1) rfl)) (by decide +kernel) hts rfl rfl ⟨Nat.le_of_ble_eq_true rfl, Nat.le_of_ble_eq_true rfl⟩) (hP.sub [] rfl) hK rfl hl.1 rfl (Nat.le_of_ble_eq_true rfl) ⟨Nat.le_of_ble_eq_true rfl, Nat.le_of_ble_eq_true rfl⟩ dX12_bestBy_11 (fun r_1 h_2 => ?_)
  obtain rfl : r_1 = 3 := h_2.trans (by decide)
  refine lv_iload_n hx hb dX12_bestBy_14 rfl (lv_at hl 1 rfl) ?_
  refine lv_iload_n hx hb dX12_bestBy_15 rfl (lv_at hl 2 rfl) ?_
  refine rosi (As := [.int 0, .int 1]) (rest := [.int 3]) ⟨hx, hb, hml, hown, hts⟩ (k_soundsBy l D cB cI cJ cZ cS cT 0 1 ) (csB (n := 2) (inr62 _ (List.mem_of_getElem? (i := 23) rfl)) (inr63 _ (List.mem_of_getElem? (i := 0) rfl)) (inr1 _ (List.mem_of_getElem? (i := 5) rfl)) (inr63 _ (List.mem_of_getElem? (i := 1) rfl)) (by decide +kernel) hts rfl rfl ⟨Nat.le_of_ble_eq_true rfl, Nat.le_of_ble_eq_true rfl⟩) (hP.sub [] rfl) hK rfl hl.1 rfl (Nat.le_of_ble_eq_true rfl) ⟨Nat.le_of_ble_eq_true rfl, Nat.le_of_ble_eq_true rfl⟩ dX12_bestBy_16 (fun r_3 h_4 => ?_)
  obtain rfl : r_3 = 0 := h_4.trans (by decide)
  refine lv_icmp_le (tgt := 26) hx hb dX12_bestBy_19 (by decide) (fun c0 => absurd c0 (by decide)) (fun _ => ?_)
  refine lv_iload_n hx hb dX12_bestBy_22 rfl (lv_at hl 0 rfl) ?_
  refine lv_goto (tgt := 27) hx hb dX12_bestBy_23 (by decide) ?_
  refine lv_istore_n (lv' := [(1, .int 1), (2, .int 1), (0, .int 1)]) hx hb dX12_bestBy_27 rfl hl (by decide) rfl (fun ls hl => ?_)
  refine lv_iinc (v := 2) (lv' := [(2, .int 2), (1, .int 1), (0, .int 1)]) hx hb dX12_bestBy_28 hl (k := 1) rfl (by decide) (by decide) rfl (fun ls hl => ?_)
  refine lv_goto (tgt := 4) hx hb dX12_bestBy_31 (by decide) ?_
  refine lv_iload_n hx hb dX12_bestBy_4 rfl (lv_at hl 0 rfl) ?_
  refine lv_iconst (v := 4) hx hb dX12_bestBy_5 (by decide) ?_
  refine lv_icmp_ge (tgt := 34) hx hb dX12_bestBy_6 (by decide) (fun c0 => absurd c0 (by decide)) (fun _ => ?_)
  refine lv_iload_n hx hb dX12_bestBy_9 rfl (lv_at hl 0 rfl) ?_
  refine lv_iload_n hx hb dX12_bestBy_10 rfl (lv_at hl 2 rfl) ?_
  refine rosi (As := [.int 2, .int 1]) (rest := []) ⟨hx, hb, hml, hown, hts⟩ (k_soundsBy l D cB cI cJ cZ cS cT 2 1 ) (csB (n := 2) (inr62 _ (List.mem_of_getElem? (i := 23) rfl)) (inr63 _ (List.mem_of_getElem? (i := 0) rfl)) (inr1 _ (List.mem_of_getElem? (i := 5) rfl)) (inr63 _ (List.mem_of_getElem? (i := 1) rfl)) (by decide +kernel) hts rfl rfl ⟨Nat.le_of_ble_eq_true rfl, Nat.le_of_ble_eq_true rfl⟩) (hP.sub [] rfl) hK rfl hl.1 rfl (Nat.le_of_ble_eq_true rfl) ⟨Nat.le_of_ble_eq_true rfl, Nat.le_of_ble_eq_true rfl⟩ dX12_bestBy_11 (fun r_5 h_6 => ?_)
  obtain rfl : r_5 = 6 := h_6.trans (by decide)
  refine lv_iload_n hx hb dX12_bestBy_14 rfl (lv_at hl 1 rfl) ?_
  refine lv_iload_n hx hb dX12_bestBy_15 rfl (lv_at hl 2 rfl) ?_
  refine rosi (As := [.int 1, .int 1]) (rest := [.int 6]) ⟨hx, hb, hml, hown, hts⟩ (k_soundsBy l D cB cI cJ cZ cS cT 1 1 ) (csB (n := 2) (inr62 _ (List.mem_of_getElem? (i := 23) rfl)) (inr63 _ (List.mem_of_getElem? (i := 0) rfl)) (inr1 _ (List.mem_of_getElem? (i := 5) rfl)) (inr63 _ (List.mem_of_getElem? (i := 1) rfl)) (by decide +kernel) hts rfl rfl ⟨Nat.le_of_ble_eq_true rfl, Nat.le_of_ble_eq_true rfl⟩) (hP.sub [] rfl) hK rfl hl.1 rfl (Nat.le_of_ble_eq_true rfl) ⟨Nat.le_of_ble_eq_true rfl, Nat.le_of_ble_eq_true rfl⟩ dX12_bestBy_16 (fun r_7 h_8 => ?_)
  obtain rfl : r_7 = 3 := h_8.trans (by decide)
  refine lv_icmp_le (tgt := 26) hx hb dX12_bestBy_19 (by decide) (fun c0 => absurd c0 (by decide)) (fun _ => ?_)
  refine lv_iload_n hx hb dX12_bestBy_22 rfl (lv_at hl 0 rfl) ?_
  refine lv_goto (tgt := 27) hx hb dX12_bestBy_23 (by decide) ?_
  refine lv_istore_n (lv' := [(1, .int 2), (2, .int 2), (0, .int 1)]) hx hb dX12_bestBy_27 rfl hl (by decide) rfl (fun ls hl => ?_)
  refine lv_iinc (v := 3) (lv' := [(2, .int 3), (1, .int 2), (0, .int 1)]) hx hb dX12_bestBy_28 hl (k := 1) rfl (by decide) (by decide) rfl (fun ls hl => ?_)
  refine lv_goto (tgt := 4) hx hb dX12_bestBy_31 (by decide) ?_
  refine lv_iload_n hx hb dX12_bestBy_4 rfl (lv_at hl 0 rfl) ?_
  refine lv_iconst (v := 4) hx hb dX12_bestBy_5 (by decide) ?_
  refine lv_icmp_ge (tgt := 34) hx hb dX12_bestBy_6 (by decide) (fun c0 => absurd c0 (by decide)) (fun _ => ?_)
  refine lv_iload_n hx hb dX12_bestBy_9 rfl (lv_at hl 0 rfl) ?_
  refine lv_iload_n hx hb dX12_bestBy_10 rfl (lv_at hl 2 rfl) ?_
  refine rosi (As := [.int 3, .int 1]) (rest := []) ⟨hx, hb, hml, hown, hts⟩ (k_soundsBy l D cB cI cJ cZ cS cT 3 1 ) (csB (n := 2) (inr62 _ (List.mem_of_getElem? (i := 23) rfl)) (inr63 _ (List.mem_of_getElem? (i := 0) rfl)) (inr1 _ (List.mem_of_getElem? (i := 5) rfl)) (inr63 _ (List.mem_of_getElem? (i := 1) rfl)) (by decide +kernel) hts rfl rfl ⟨Nat.le_of_ble_eq_true rfl, Nat.le_of_ble_eq_true rfl⟩) (hP.sub [] rfl) hK rfl hl.1 rfl (Nat.le_of_ble_eq_true rfl) ⟨Nat.le_of_ble_eq_true rfl, Nat.le_of_ble_eq_true rfl⟩ dX12_bestBy_11 (fun r_9 h_10 => ?_)
  obtain rfl : r_9 = 1 := h_10.trans (by decide)
  refine lv_iload_n hx hb dX12_bestBy_14 rfl (lv_at hl 1 rfl) ?_
  refine lv_iload_n hx hb dX12_bestBy_15 rfl (lv_at hl 2 rfl) ?_
  refine rosi (As := [.int 2, .int 1]) (rest := [.int 1]) ⟨hx, hb, hml, hown, hts⟩ (k_soundsBy l D cB cI cJ cZ cS cT 2 1 ) (csB (n := 2) (inr62 _ (List.mem_of_getElem? (i := 23) rfl)) (inr63 _ (List.mem_of_getElem? (i := 0) rfl)) (inr1 _ (List.mem_of_getElem? (i := 5) rfl)) (inr63 _ (List.mem_of_getElem? (i := 1) rfl)) (by decide +kernel) hts rfl rfl ⟨Nat.le_of_ble_eq_true rfl, Nat.le_of_ble_eq_true rfl⟩) (hP.sub [] rfl) hK rfl hl.1 rfl (Nat.le_of_ble_eq_true rfl) ⟨Nat.le_of_ble_eq_true rfl, Nat.le_of_ble_eq_true rfl⟩ dX12_bestBy_16 (fun r_11 h_12 => ?_)
  obtain rfl : r_11 = 6 := h_12.trans (by decide)
  refine lv_icmp_le (tgt := 26) hx hb dX12_bestBy_19 (by decide) (fun _ => ?_) (fun c0 => absurd c0 (by decide))
  refine lv_iload_n hx hb dX12_bestBy_26 rfl (lv_at hl 1 rfl) ?_
  refine lv_istore_n (lv' := [(1, .int 2), (2, .int 3), (0, .int 1)]) hx hb dX12_bestBy_27 rfl hl (by decide) rfl (fun ls hl => ?_)
  refine lv_iinc (v := 4) (lv' := [(2, .int 4), (1, .int 2), (0, .int 1)]) hx hb dX12_bestBy_28 hl (k := 1) rfl (by decide) (by decide) rfl (fun ls hl => ?_)
  refine lv_goto (tgt := 4) hx hb dX12_bestBy_31 (by decide) ?_
  refine lv_iload_n hx hb dX12_bestBy_4 rfl (lv_at hl 0 rfl) ?_
  refine lv_iconst (v := 4) hx hb dX12_bestBy_5 (by decide) ?_
  refine lv_icmp_ge (tgt := 34) hx hb dX12_bestBy_6 (by decide) (fun _ => ?_) (fun c0 => absurd c0 (by decide))
  refine lv_iload_n hx hb dX12_bestBy_34 rfl (lv_at hl 1 rfl) ?_
  exact W.iret (v := 2) hx hb hr (fun t ht hW => ⟨_, rfl, rfl, ht⟩) (fun _ h => by cases h) dX12_bestBy_35

set_option maxHeartbeats 4000000 in
set_option maxRecDepth 100000 in
theorem k_bestBy2 (l : Launch) (D : va_G) (cB cI cJ cZ cS cT : ClassId)   : Met l yX12_bestBy (Cond.code yX12_bestBy cX12_bestBy 3 (some .int) :: wsL_law) ({ frames := 1, cells := 0, slots := 0, locals := 21 }) (roP D (tyL cB cI cJ cZ cS cT) [] [.int 2]) (vp_Si (fun r : Int32 => r = 3)) 0 0 (fun _ => False) := by
  refine Met.ofW (cc := cX12_bestBy) (maxL := 3) (ret := (some .int)) (by decide) rfl ?_
  intro p e s m args below meth c s₁ B hml hv
  obtain ⟨rfl, hP, hK⟩ := hv
  have hx := B.exec
  have hb := B.bytes
  have hr := B.returns
  have hts : ∀ w ∈ wsL_law, w.before ([.int 2] : List Value).toArray s = true := fun w h => atoms_spec (ws := Cond.code yX12_bestBy cX12_bestBy 3 (some .int) :: wsL_law) B.pre w (List.mem_cons_of_mem _ h)
  have hown : s.vm.findClass RX12 = some m.cls := findClass_of_methodNamed B.named
  have hlocks := B.notSynchronized
  have hl := lv_entry ([.int 2]) (n := 3) (Nat.le_of_ble_eq_true rfl)
  rw [lg_entry_eq]
  generalize (lg_sl ([.int 2]) ++ List.replicate (3 - (lg_sl ([.int 2])).length) Slot.unset).toArray = ls at hl ⊢
  have hl : lv_has ls 3 [(0, .int 2)] := hl
  have hP : va_P D vwCl [] s.heap := hP
  refine lv_iconst (v := 0) hx hb dX12_bestBy_0 (by decide) ?_
  refine lv_istore_n (lv' := [(1, .int 0), (0, .int 2)]) hx hb dX12_bestBy_1 rfl hl (by decide) rfl (fun ls hl => ?_)
  refine lv_iconst (v := 1) hx hb dX12_bestBy_2 (by decide) ?_
  refine lv_istore_n (lv' := [(2, .int 1), (1, .int 0), (0, .int 2)]) hx hb dX12_bestBy_3 rfl hl (by decide) rfl (fun ls hl => ?_)
  refine lv_iload_n hx hb dX12_bestBy_4 rfl (lv_at hl 0 rfl) ?_
  refine lv_iconst (v := 4) hx hb dX12_bestBy_5 (by decide) ?_
  refine lv_icmp_ge (tgt := 34) hx hb dX12_bestBy_6 (by decide) (fun c0 => absurd c0 (by decide)) (fun _ => ?_)
  refine lv_iload_n hx hb dX12_bestBy_9 rfl (lv_at hl 0 rfl) ?_
  refine lv_iload_n hx hb dX12_bestBy_10 rfl (lv_at hl 2 rfl) ?_
  refine rosi (As := [.int 1, .int 2]) (rest := []) ⟨hx, hb, hml, hown, hts⟩ (k_soundsBy l D cB cI cJ cZ cS cT 1 2 ) (csB (n := 2) (inr62 _ (List.mem_of_getElem? (i := 23) rfl)) (inr63 _ (List.mem_of_getElem? (i := 0) rfl)) (inr1 _ (List.mem_of_getElem? (i := 5) rfl)) (inr63 _ (List.mem_of_getElem? (i := 1) rfl)) (by decide +kernel) hts rfl rfl ⟨Nat.le_of_ble_eq_true rfl, Nat.le_of_ble_eq_true rfl⟩) (hP.sub [] rfl) hK rfl hl.1 rfl (Nat.le_of_ble_eq_true rfl) ⟨Nat.le_of_ble_eq_true rfl, Nat.le_of_ble_eq_true rfl⟩ dX12_bestBy_11 (fun r_1 h_2 => ?_)
  obtain rfl : r_1 = (-1) := h_2.trans (by decide)
  refine lv_iload_n hx hb dX12_bestBy_14 rfl (lv_at hl 1 rfl) ?_
  refine lv_iload_n hx hb dX12_bestBy_15 rfl (lv_at hl 2 rfl) ?_
  refine rosi (As := [.int 0, .int 2]) (rest := [.int (-1)]) ⟨hx, hb, hml, hown, hts⟩ (k_soundsBy l D cB cI cJ cZ cS cT 0 2 ) (csB (n := 2) (inr62 _ (List.mem_of_getElem? (i := 23) rfl)) (inr63 _ (List.mem_of_getElem? (i := 0) rfl)) (inr1 _ (List.mem_of_getElem? (i := 5) rfl)) (inr63 _ (List.mem_of_getElem? (i := 1) rfl)) (by decide +kernel) hts rfl rfl ⟨Nat.le_of_ble_eq_true rfl, Nat.le_of_ble_eq_true rfl⟩) (hP.sub [] rfl) hK rfl hl.1 rfl (Nat.le_of_ble_eq_true rfl) ⟨Nat.le_of_ble_eq_true rfl, Nat.le_of_ble_eq_true rfl⟩ dX12_bestBy_16 (fun r_3 h_4 => ?_)
  obtain rfl : r_3 = 0 := h_4.trans (by decide)
  refine lv_icmp_le (tgt := 26) hx hb dX12_bestBy_19 (by decide) (fun _ => ?_) (fun c0 => absurd c0 (by decide))
  refine lv_iload_n hx hb dX12_bestBy_26 rfl (lv_at hl 1 rfl) ?_
  refine lv_istore_n (lv' := [(1, .int 0), (2, .int 1), (0, .int 2)]) hx hb dX12_bestBy_27 rfl hl (by decide) rfl (fun ls hl => ?_)
  refine lv_iinc (v := 2) (lv' := [(2, .int 2), (1, .int 0), (0, .int 2)]) hx hb dX12_bestBy_28 hl (k := 1) rfl (by decide) (by decide) rfl (fun ls hl => ?_)
  refine lv_goto (tgt := 4) hx hb dX12_bestBy_31 (by decide) ?_
  refine lv_iload_n hx hb dX12_bestBy_4 rfl (lv_at hl 0 rfl) ?_
  refine lv_iconst (v := 4) hx hb dX12_bestBy_5 (by decide) ?_
  refine lv_icmp_ge (tgt := 34) hx hb dX12_bestBy_6 (by decide) (fun c0 => absurd c0 (by decide)) (fun _ => ?_)
  refine lv_iload_n hx hb dX12_bestBy_9 rfl (lv_at hl 0 rfl) ?_
  refine lv_iload_n hx hb dX12_bestBy_10 rfl (lv_at hl 2 rfl) ?_
  refine rosi (As := [.int 2, .int 2]) (rest := []) ⟨hx, hb, hml, hown, hts⟩ (k_soundsBy l D cB cI cJ cZ cS cT 2 2 ) (csB (n := 2) (inr62 _ (List.mem_of_getElem? (i := 23) rfl)) (inr63 _ (List.mem_of_getElem? (i := 0) rfl)) (inr1 _ (List.mem_of_getElem? (i := 5) rfl)) (inr63 _ (List.mem_of_getElem? (i := 1) rfl)) (by decide +kernel) hts rfl rfl ⟨Nat.le_of_ble_eq_true rfl, Nat.le_of_ble_eq_true rfl⟩) (hP.sub [] rfl) hK rfl hl.1 rfl (Nat.le_of_ble_eq_true rfl) ⟨Nat.le_of_ble_eq_true rfl, Nat.le_of_ble_eq_true rfl⟩ dX12_bestBy_11 (fun r_5 h_6 => ?_)
  obtain rfl : r_5 = 0 := h_6.trans (by decide)
  refine lv_iload_n hx hb dX12_bestBy_14 rfl (lv_at hl 1 rfl) ?_
  refine lv_iload_n hx hb dX12_bestBy_15 rfl (lv_at hl 2 rfl) ?_
  refine rosi (As := [.int 0, .int 2]) (rest := [.int 0]) ⟨hx, hb, hml, hown, hts⟩ (k_soundsBy l D cB cI cJ cZ cS cT 0 2 ) (csB (n := 2) (inr62 _ (List.mem_of_getElem? (i := 23) rfl)) (inr63 _ (List.mem_of_getElem? (i := 0) rfl)) (inr1 _ (List.mem_of_getElem? (i := 5) rfl)) (inr63 _ (List.mem_of_getElem? (i := 1) rfl)) (by decide +kernel) hts rfl rfl ⟨Nat.le_of_ble_eq_true rfl, Nat.le_of_ble_eq_true rfl⟩) (hP.sub [] rfl) hK rfl hl.1 rfl (Nat.le_of_ble_eq_true rfl) ⟨Nat.le_of_ble_eq_true rfl, Nat.le_of_ble_eq_true rfl⟩ dX12_bestBy_16 (fun r_7 h_8 => ?_)
  obtain rfl : r_7 = 0 := h_8.trans (by decide)
  refine lv_icmp_le (tgt := 26) hx hb dX12_bestBy_19 (by decide) (fun _ => ?_) (fun c0 => absurd c0 (by decide))
  refine lv_iload_n hx hb dX12_bestBy_26 rfl (lv_at hl 1 rfl) ?_
  refine lv_istore_n (lv' := [(1, .int 0), (2, .int 2), (0, .int 2)]) hx hb dX12_bestBy_27 rfl hl (by decide) rfl (fun ls hl => ?_)
  refine lv_iinc (v := 3) (lv' := [(2, .int 3), (1, .int 0), (0, .int 2)]) hx hb dX12_bestBy_28 hl (k := 1) rfl (by decide) (by decide) rfl (fun ls hl => ?_)
  refine lv_goto (tgt := 4) hx hb dX12_bestBy_31 (by decide) ?_
  refine lv_iload_n hx hb dX12_bestBy_4 rfl (lv_at hl 0 rfl) ?_
  refine lv_iconst (v := 4) hx hb dX12_bestBy_5 (by decide) ?_
  refine lv_icmp_ge (tgt := 34) hx hb dX12_bestBy_6 (by decide) (fun c0 => absurd c0 (by decide)) (fun _ => ?_)
  refine lv_iload_n hx hb dX12_bestBy_9 rfl (lv_at hl 0 rfl) ?_
  refine lv_iload_n hx hb dX12_bestBy_10 rfl (lv_at hl 2 rfl) ?_
  refine rosi (As := [.int 3, .int 2]) (rest := []) ⟨hx, hb, hml, hown, hts⟩ (k_soundsBy l D cB cI cJ cZ cS cT 3 2 ) (csB (n := 2) (inr62 _ (List.mem_of_getElem? (i := 23) rfl)) (inr63 _ (List.mem_of_getElem? (i := 0) rfl)) (inr1 _ (List.mem_of_getElem? (i := 5) rfl)) (inr63 _ (List.mem_of_getElem? (i := 1) rfl)) (by decide +kernel) hts rfl rfl ⟨Nat.le_of_ble_eq_true rfl, Nat.le_of_ble_eq_true rfl⟩) (hP.sub [] rfl) hK rfl hl.1 rfl (Nat.le_of_ble_eq_true rfl) ⟨Nat.le_of_ble_eq_true rfl, Nat.le_of_ble_eq_true rfl⟩ dX12_bestBy_11 (fun r_9 h_10 => ?_)
  obtain rfl : r_9 = 1 := h_10.trans (by decide)
  refine lv_iload_n hx hb dX12_bestBy_14 rfl (lv_at hl 1 rfl) ?_
  refine lv_iload_n hx hb dX12_bestBy_15 rfl (lv_at hl 2 rfl) ?_
  refine rosi (As := [.int 0, .int 2]) (rest := [.int 1]) ⟨hx, hb, hml, hown, hts⟩ (k_soundsBy l D cB cI cJ cZ cS cT 0 2 ) (csB (n := 2) (inr62 _ (List.mem_of_getElem? (i := 23) rfl)) (inr63 _ (List.mem_of_getElem? (i := 0) rfl)) (inr1 _ (List.mem_of_getElem? (i := 5) rfl)) (inr63 _ (List.mem_of_getElem? (i := 1) rfl)) (by decide +kernel) hts rfl rfl ⟨Nat.le_of_ble_eq_true rfl, Nat.le_of_ble_eq_true rfl⟩) (hP.sub [] rfl) hK rfl hl.1 rfl (Nat.le_of_ble_eq_true rfl) ⟨Nat.le_of_ble_eq_true rfl, Nat.le_of_ble_eq_true rfl⟩ dX12_bestBy_16 (fun r_11 h_12 => ?_)
  obtain rfl : r_11 = 0 := h_12.trans (by decide)
  refine lv_icmp_le (tgt := 26) hx hb dX12_bestBy_19 (by decide) (fun c0 => absurd c0 (by decide)) (fun _ => ?_)
  refine lv_iload_n hx hb dX12_bestBy_22 rfl (lv_at hl 0 rfl) ?_
  refine lv_goto (tgt := 27) hx hb dX12_bestBy_23 (by decide) ?_
  refine lv_istore_n (lv' := [(1, .int 3), (2, .int 3), (0, .int 2)]) hx hb dX12_bestBy_27 rfl hl (by decide) rfl (fun ls hl => ?_)
  refine lv_iinc (v := 4) (lv' := [(2, .int 4), (1, .int 3), (0, .int 2)]) hx hb dX12_bestBy_28 hl (k := 1) rfl (by decide) (by decide) rfl (fun ls hl => ?_)
  refine lv_goto (tgt := 4) hx hb dX12_bestBy_31 (by decide) ?_
  refine lv_iload_n hx hb dX12_bestBy_4 rfl (lv_at hl 0 rfl) ?_
  refine lv_iconst (v := 4) hx hb dX12_bestBy_5 (by decide) ?_
  refine lv_icmp_ge (tgt := 34) hx hb dX12_bestBy_6 (by decide) (fun _ => ?_) (fun c0 => absurd c0 (by decide))
  refine lv_iload_n hx hb dX12_bestBy_34 rfl (lv_at hl 1 rfl) ?_
  exact W.iret (v := 3) hx hb hr (fun t ht hW => ⟨_, rfl, rfl, ht⟩) (fun _ h => by cases h) dX12_bestBy_35

set_option maxHeartbeats 4000000 in
set_option maxRecDepth 100000 in
theorem k_bestBy3 (l : Launch) (D : va_G) (cB cI cJ cZ cS cT : ClassId)   : Met l yX12_bestBy (Cond.code yX12_bestBy cX12_bestBy 3 (some .int) :: wsL_law) ({ frames := 1, cells := 0, slots := 0, locals := 21 }) (roP D (tyL cB cI cJ cZ cS cT) [] [.int 3]) (vp_Si (fun r : Int32 => r = 0)) 0 0 (fun _ => False) := by
  refine Met.ofW (cc := cX12_bestBy) (maxL := 3) (ret := (some .int)) (by decide) rfl ?_
  intro p e s m args below meth c s₁ B hml hv
  obtain ⟨rfl, hP, hK⟩ := hv
  have hx := B.exec
  have hb := B.bytes
  have hr := B.returns
  have hts : ∀ w ∈ wsL_law, w.before ([.int 3] : List Value).toArray s = true := fun w h => atoms_spec (ws := Cond.code yX12_bestBy cX12_bestBy 3 (some .int) :: wsL_law) B.pre w (List.mem_cons_of_mem _ h)
  have hown : s.vm.findClass RX12 = some m.cls := findClass_of_methodNamed B.named
  have hlocks := B.notSynchronized
  have hl := lv_entry ([.int 3]) (n := 3) (Nat.le_of_ble_eq_true rfl)
  rw [lg_entry_eq]
  generalize (lg_sl ([.int 3]) ++ List.replicate (3 - (lg_sl ([.int 3])).length) Slot.unset).toArray = ls at hl ⊢
  have hl : lv_has ls 3 [(0, .int 3)] := hl
  have hP : va_P D vwCl [] s.heap := hP
  refine lv_iconst (v := 0) hx hb dX12_bestBy_0 (by decide) ?_
  refine lv_istore_n (lv' := [(1, .int 0), (0, .int 3)]) hx hb dX12_bestBy_1 rfl hl (by decide) rfl (fun ls hl => ?_)
  refine lv_iconst (v := 1) hx hb dX12_bestBy_2 (by decide) ?_
  refine lv_istore_n (lv' := [(2, .int 1), (1, .int 0), (0, .int 3)]) hx hb dX12_bestBy_3 rfl hl (by decide) rfl (fun ls hl => ?_)
  refine lv_iload_n hx hb dX12_bestBy_4 rfl (lv_at hl 0 rfl) ?_
  refine lv_iconst (v := 4) hx hb dX12_bestBy_5 (by decide) ?_
  refine lv_icmp_ge (tgt := 34) hx hb dX12_bestBy_6 (by decide) (fun c0 => absurd c0 (by decide)) (fun _ => ?_)
  refine lv_iload_n hx hb dX12_bestBy_9 rfl (lv_at hl 0 rfl) ?_
  refine lv_iload_n hx hb dX12_bestBy_10 rfl (lv_at hl 2 rfl) ?_
  refine rosi (As := [.int 1, .int 3]) (rest := []) ⟨hx, hb, hml, hown, hts⟩ (k_soundsBy l D cB cI cJ cZ cS cT 1 3 ) (csB (n := 2) (inr62 _ (List.mem_of_getElem? (i := 23) rfl)) (inr63 _ (List.mem_of_getElem? (i := 0) rfl)) (inr1 _ (List.mem_of_getElem? (i := 5) rfl)) (inr63 _ (List.mem_of_getElem? (i := 1) rfl)) (by decide +kernel) hts rfl rfl ⟨Nat.le_of_ble_eq_true rfl, Nat.le_of_ble_eq_true rfl⟩) (hP.sub [] rfl) hK rfl hl.1 rfl (Nat.le_of_ble_eq_true rfl) ⟨Nat.le_of_ble_eq_true rfl, Nat.le_of_ble_eq_true rfl⟩ dX12_bestBy_11 (fun r_1 h_2 => ?_)
  obtain rfl : r_1 = (-1) := h_2.trans (by decide)
  refine lv_iload_n hx hb dX12_bestBy_14 rfl (lv_at hl 1 rfl) ?_
  refine lv_iload_n hx hb dX12_bestBy_15 rfl (lv_at hl 2 rfl) ?_
  refine rosi (As := [.int 0, .int 3]) (rest := [.int (-1)]) ⟨hx, hb, hml, hown, hts⟩ (k_soundsBy l D cB cI cJ cZ cS cT 0 3 ) (csB (n := 2) (inr62 _ (List.mem_of_getElem? (i := 23) rfl)) (inr63 _ (List.mem_of_getElem? (i := 0) rfl)) (inr1 _ (List.mem_of_getElem? (i := 5) rfl)) (inr63 _ (List.mem_of_getElem? (i := 1) rfl)) (by decide +kernel) hts rfl rfl ⟨Nat.le_of_ble_eq_true rfl, Nat.le_of_ble_eq_true rfl⟩) (hP.sub [] rfl) hK rfl hl.1 rfl (Nat.le_of_ble_eq_true rfl) ⟨Nat.le_of_ble_eq_true rfl, Nat.le_of_ble_eq_true rfl⟩ dX12_bestBy_16 (fun r_3 h_4 => ?_)
  obtain rfl : r_3 = 0 := h_4.trans (by decide)
  refine lv_icmp_le (tgt := 26) hx hb dX12_bestBy_19 (by decide) (fun _ => ?_) (fun c0 => absurd c0 (by decide))
  refine lv_iload_n hx hb dX12_bestBy_26 rfl (lv_at hl 1 rfl) ?_
  refine lv_istore_n (lv' := [(1, .int 0), (2, .int 1), (0, .int 3)]) hx hb dX12_bestBy_27 rfl hl (by decide) rfl (fun ls hl => ?_)
  refine lv_iinc (v := 2) (lv' := [(2, .int 2), (1, .int 0), (0, .int 3)]) hx hb dX12_bestBy_28 hl (k := 1) rfl (by decide) (by decide) rfl (fun ls hl => ?_)
  refine lv_goto (tgt := 4) hx hb dX12_bestBy_31 (by decide) ?_
  refine lv_iload_n hx hb dX12_bestBy_4 rfl (lv_at hl 0 rfl) ?_
  refine lv_iconst (v := 4) hx hb dX12_bestBy_5 (by decide) ?_
  refine lv_icmp_ge (tgt := 34) hx hb dX12_bestBy_6 (by decide) (fun c0 => absurd c0 (by decide)) (fun _ => ?_)
  refine lv_iload_n hx hb dX12_bestBy_9 rfl (lv_at hl 0 rfl) ?_
  refine lv_iload_n hx hb dX12_bestBy_10 rfl (lv_at hl 2 rfl) ?_
  refine rosi (As := [.int 2, .int 3]) (rest := []) ⟨hx, hb, hml, hown, hts⟩ (k_soundsBy l D cB cI cJ cZ cS cT 2 3 ) (csB (n := 2) (inr62 _ (List.mem_of_getElem? (i := 23) rfl)) (inr63 _ (List.mem_of_getElem? (i := 0) rfl)) (inr1 _ (List.mem_of_getElem? (i := 5) rfl)) (inr63 _ (List.mem_of_getElem? (i := 1) rfl)) (by decide +kernel) hts rfl rfl ⟨Nat.le_of_ble_eq_true rfl, Nat.le_of_ble_eq_true rfl⟩) (hP.sub [] rfl) hK rfl hl.1 rfl (Nat.le_of_ble_eq_true rfl) ⟨Nat.le_of_ble_eq_true rfl, Nat.le_of_ble_eq_true rfl⟩ dX12_bestBy_11 (fun r_5 h_6 => ?_)
  obtain rfl : r_5 = (-4) := h_6.trans (by decide)
  refine lv_iload_n hx hb dX12_bestBy_14 rfl (lv_at hl 1 rfl) ?_
  refine lv_iload_n hx hb dX12_bestBy_15 rfl (lv_at hl 2 rfl) ?_
  refine rosi (As := [.int 0, .int 3]) (rest := [.int (-4)]) ⟨hx, hb, hml, hown, hts⟩ (k_soundsBy l D cB cI cJ cZ cS cT 0 3 ) (csB (n := 2) (inr62 _ (List.mem_of_getElem? (i := 23) rfl)) (inr63 _ (List.mem_of_getElem? (i := 0) rfl)) (inr1 _ (List.mem_of_getElem? (i := 5) rfl)) (inr63 _ (List.mem_of_getElem? (i := 1) rfl)) (by decide +kernel) hts rfl rfl ⟨Nat.le_of_ble_eq_true rfl, Nat.le_of_ble_eq_true rfl⟩) (hP.sub [] rfl) hK rfl hl.1 rfl (Nat.le_of_ble_eq_true rfl) ⟨Nat.le_of_ble_eq_true rfl, Nat.le_of_ble_eq_true rfl⟩ dX12_bestBy_16 (fun r_7 h_8 => ?_)
  obtain rfl : r_7 = 0 := h_8.trans (by decide)
  refine lv_icmp_le (tgt := 26) hx hb dX12_bestBy_19 (by decide) (fun _ => ?_) (fun c0 => absurd c0 (by decide))
  refine lv_iload_n hx hb dX12_bestBy_26 rfl (lv_at hl 1 rfl) ?_
  refine lv_istore_n (lv' := [(1, .int 0), (2, .int 2), (0, .int 3)]) hx hb dX12_bestBy_27 rfl hl (by decide) rfl (fun ls hl => ?_)
  refine lv_iinc (v := 3) (lv' := [(2, .int 3), (1, .int 0), (0, .int 3)]) hx hb dX12_bestBy_28 hl (k := 1) rfl (by decide) (by decide) rfl (fun ls hl => ?_)
  refine lv_goto (tgt := 4) hx hb dX12_bestBy_31 (by decide) ?_
  refine lv_iload_n hx hb dX12_bestBy_4 rfl (lv_at hl 0 rfl) ?_
  refine lv_iconst (v := 4) hx hb dX12_bestBy_5 (by decide) ?_
  refine lv_icmp_ge (tgt := 34) hx hb dX12_bestBy_6 (by decide) (fun c0 => absurd c0 (by decide)) (fun _ => ?_)
  refine lv_iload_n hx hb dX12_bestBy_9 rfl (lv_at hl 0 rfl) ?_
  refine lv_iload_n hx hb dX12_bestBy_10 rfl (lv_at hl 2 rfl) ?_
  refine rosi (As := [.int 3, .int 3]) (rest := []) ⟨hx, hb, hml, hown, hts⟩ (k_soundsBy l D cB cI cJ cZ cS cT 3 3 ) (csB (n := 2) (inr62 _ (List.mem_of_getElem? (i := 23) rfl)) (inr63 _ (List.mem_of_getElem? (i := 0) rfl)) (inr1 _ (List.mem_of_getElem? (i := 5) rfl)) (inr63 _ (List.mem_of_getElem? (i := 1) rfl)) (by decide +kernel) hts rfl rfl ⟨Nat.le_of_ble_eq_true rfl, Nat.le_of_ble_eq_true rfl⟩) (hP.sub [] rfl) hK rfl hl.1 rfl (Nat.le_of_ble_eq_true rfl) ⟨Nat.le_of_ble_eq_true rfl, Nat.le_of_ble_eq_true rfl⟩ dX12_bestBy_11 (fun r_9 h_10 => ?_)
  obtain rfl : r_9 = (-5) := h_10.trans (by decide)
  refine lv_iload_n hx hb dX12_bestBy_14 rfl (lv_at hl 1 rfl) ?_
  refine lv_iload_n hx hb dX12_bestBy_15 rfl (lv_at hl 2 rfl) ?_
  refine rosi (As := [.int 0, .int 3]) (rest := [.int (-5)]) ⟨hx, hb, hml, hown, hts⟩ (k_soundsBy l D cB cI cJ cZ cS cT 0 3 ) (csB (n := 2) (inr62 _ (List.mem_of_getElem? (i := 23) rfl)) (inr63 _ (List.mem_of_getElem? (i := 0) rfl)) (inr1 _ (List.mem_of_getElem? (i := 5) rfl)) (inr63 _ (List.mem_of_getElem? (i := 1) rfl)) (by decide +kernel) hts rfl rfl ⟨Nat.le_of_ble_eq_true rfl, Nat.le_of_ble_eq_true rfl⟩) (hP.sub [] rfl) hK rfl hl.1 rfl (Nat.le_of_ble_eq_true rfl) ⟨Nat.le_of_ble_eq_true rfl, Nat.le_of_ble_eq_true rfl⟩ dX12_bestBy_16 (fun r_11 h_12 => ?_)
  obtain rfl : r_11 = 0 := h_12.trans (by decide)
  refine lv_icmp_le (tgt := 26) hx hb dX12_bestBy_19 (by decide) (fun _ => ?_) (fun c0 => absurd c0 (by decide))
  refine lv_iload_n hx hb dX12_bestBy_26 rfl (lv_at hl 1 rfl) ?_
  refine lv_istore_n (lv' := [(1, .int 0), (2, .int 3), (0, .int 3)]) hx hb dX12_bestBy_27 rfl hl (by decide) rfl (fun ls hl => ?_)
  refine lv_iinc (v := 4) (lv' := [(2, .int 4), (1, .int 0), (0, .int 3)]) hx hb dX12_bestBy_28 hl (k := 1) rfl (by decide) (by decide) rfl (fun ls hl => ?_)
  refine lv_goto (tgt := 4) hx hb dX12_bestBy_31 (by decide) ?_
  refine lv_iload_n hx hb dX12_bestBy_4 rfl (lv_at hl 0 rfl) ?_
  refine lv_iconst (v := 4) hx hb dX12_bestBy_5 (by decide) ?_
  refine lv_icmp_ge (tgt := 34) hx hb dX12_bestBy_6 (by decide) (fun _ => ?_) (fun c0 => absurd c0 (by decide))
  refine lv_iload_n hx hb dX12_bestBy_34 rfl (lv_at hl 1 rfl) ?_
  exact W.iret (v := 0) hx hb hr (fun t ht hW => ⟨_, rfl, rfl, ht⟩) (fun _ h => by cases h) dX12_bestBy_35

set_option maxHeartbeats 4000000 in
set_option maxRecDepth 100000 in
theorem km_rests (l : Launch) (D : va_G) (cB cI cJ cZ cS cT : ClassId) (m0 : Nat) (m_world : Nat) (m_images : Nat) (m_hasImage : Nat) (m_tape : Nat) (m_five : Nat) (m_fresh : Nat) (m_spokenAt : Nat) (m_heardAt : Nat) (m_lastAt : Nat) (m_answerAt : Nat) (m_heardNow : Nat) (m_seenAt : Nat) (m_fewest : Nat) (m_costNow : Nat) (m_costThen : Nat) (m_lawsOf : Nat) (m_heardBy : Nat) (m_placesOf : Nat) (m_sentIn : Nat) (m_lostBy : Nat) (m_many : Nat) (m_width : Nat) (m_numbers : Nat) (m_moving : Nat)  : Met l yX12_rests (Cond.code yX12_rests cX12_rests 3 (some .int) :: wsL_law) ({ frames := 2, cells := 0, slots := 0, locals := 43 }) (roP D (tyL cB cI cJ cZ cS cT) [(m0, .inr (12, [.int 0, .ref m_world, .ref m_images, .ref m_hasImage, .ref m_tape, .int 0, .ref m_five, .int 0, .int 0, .int 0, .int 0, .int 0, .int 0, .int (-1), .ref m_fresh, .ref m_spokenAt, .ref m_heardAt, .ref m_lastAt, .ref m_answerAt, .int 0, .int 0, .int 0, .long 0, .int 0, .int 0, .ref m_heardNow, .ref m_seenAt, .int 0, .int 0, .int 0, .int 0, .int 0, .ref m_fewest, .ref m_costNow, .ref m_costThen, .ref m_lawsOf, .ref m_heardBy, .int 0, .int 0, .ref m_placesOf, .ref m_sentIn, .int 0, .int 0, .ref m_lostBy, .ref m_many, .ref m_width, .ref m_numbers, .ref m_moving]))] [.ref m0]) (vp_Si (fun r : Int32 => r = 0)) 0 0 (fun _ => False) := by
  refine Met.ofW (cc := cX12_rests) (maxL := 3) (ret := (some .int)) (by decide) rfl ?_
  intro p e s m args below meth c s₁ B hml hv
  obtain ⟨rfl, hP, hK⟩ := hv
  have hx := B.exec
  have hb := B.bytes
  have hr := B.returns
  have hts : ∀ w ∈ wsL_law, w.before ([.ref m0] : List Value).toArray s = true := fun w h => atoms_spec (ws := Cond.code yX12_rests cX12_rests 3 (some .int) :: wsL_law) B.pre w (List.mem_cons_of_mem _ h)
  have hown : s.vm.findClass RX12 = some m.cls := findClass_of_methodNamed B.named
  have hlocks := B.notSynchronized
  have hl := lv_entry ([.ref m0]) (n := 3) (Nat.le_of_ble_eq_true rfl)
  rw [lg_entry_eq]
  generalize (lg_sl ([.ref m0]) ++ List.replicate (3 - (lg_sl ([.ref m0])).length) Slot.unset).toArray = ls at hl ⊢
  have hl : lv_has ls 3 [(0, .ref m0)] := hl
  have hP : va_P D vwCl [(m0, .inr (12, [.int 0, .ref m_world, .ref m_images, .ref m_hasImage, .ref m_tape, .int 0, .ref m_five, .int 0, .int 0, .int 0, .int 0, .int 0, .int 0, .int (-1), .ref m_fresh, .ref m_spokenAt, .ref m_heardAt, .ref m_lastAt, .ref m_answerAt, .int 0, .int 0, .int 0, .long 0, .int 0, .int 0, .ref m_heardNow, .ref m_seenAt, .int 0, .int 0, .int 0, .int 0, .int 0, .ref m_fewest, .ref m_costNow, .ref m_costThen, .ref m_lawsOf, .ref m_heardBy, .int 0, .int 0, .ref m_placesOf, .ref m_sentIn, .int 0, .int 0, .ref m_lostBy, .ref m_many, .ref m_width, .ref m_numbers, .ref m_moving]))] s.heap := hP
  refine lv_iconst (v := 0) hx hb dX12_rests_0 (by decide) ?_
  refine lv_istore_n (lv' := [(1, .int 0), (0, .ref m0)]) hx hb dX12_rests_1 rfl hl (by decide) rfl (fun ls hl => ?_)
  refine lv_iconst (v := 0) hx hb dX12_rests_2 (by decide) ?_
  refine lv_istore_n (lv' := [(2, .int 0), (1, .int 0), (0, .ref m0)]) hx hb dX12_rests_3 rfl hl (by decide) rfl (fun ls hl => ?_)
  refine lv_iload_n hx hb dX12_rests_4 rfl (lv_at hl 0 rfl) ?_
  refine lv_bipush (v := 16) hx hb dX12_rests_5 (by decide) ?_
  refine lv_icmp_ge (tgt := 72) hx hb dX12_rests_7 (by decide) (fun c0 => absurd c0 (by decide)) (fun _ => ?_)
  refine lv_iload_n hx hb dX12_rests_10 rfl (lv_at hl 1 rfl) ?_
  refine lv_iload_n hx hb dX12_rests_11 rfl (lv_at hl 0 rfl) ?_
  refine lv_iconst (v := 4) hx hb dX12_rests_12 (by decide) ?_
  refine z_idiv (v := 0) hx hb dX12_rests_13 (by decide) (by decide) ?_
  refine lv_iload_n hx hb dX12_rests_14 rfl (lv_at hl 0 rfl) ?_
  refine lv_iconst (v := 4) hx hb dX12_rests_15 (by decide) ?_
  refine z_irem (v := 0) hx hb dX12_rests_16 (by decide) (by decide) ?_
  refine rosi (As := [.int 0, .int 0]) (rest := [.int 0]) ⟨hx, hb, hml, hown, hts⟩ (k_soundsBy l D cB cI cJ cZ cS cT 0 0 ) (csB (n := 2) (inr62 _ (List.mem_of_getElem? (i := 23) rfl)) (inr63 _ (List.mem_of_getElem? (i := 0) rfl)) (inr1 _ (List.mem_of_getElem? (i := 5) rfl)) (inr63 _ (List.mem_of_getElem? (i := 1) rfl)) (by decide +kernel) hts rfl rfl ⟨Nat.le_of_ble_eq_true rfl, Nat.le_of_ble_eq_true rfl⟩) (hP.sub [] rfl) hK rfl hl.1 rfl (Nat.le_of_ble_eq_true rfl) ⟨Nat.le_of_ble_eq_true rfl, Nat.le_of_ble_eq_true rfl⟩ dX12_rests_17 (fun r_1 h_2 => ?_)
  obtain rfl : r_1 = 4 := h_2.trans (by decide)
  refine lv_iload_n hx hb dX12_rests_20 rfl (lv_at hl 0 rfl) ?_
  refine lv_iconst (v := 4) hx hb dX12_rests_21 (by decide) ?_
  refine z_irem (v := 0) hx hb dX12_rests_22 (by decide) (by decide) ?_
  refine rosi (As := [.int 0]) (rest := [.int 4, .int 0]) ⟨hx, hb, hml, hown, hts⟩ (k_bestBy0 l D cB cI cJ cZ cS cT  ) (csB (n := 1) (inr63 _ (List.mem_of_getElem? (i := 2) rfl)) (inr63 _ (List.mem_of_getElem? (i := 3) rfl)) (inr1 _ (List.mem_of_getElem? (i := 5) rfl)) (inr63 _ (List.mem_of_getElem? (i := 4) rfl)) (by decide +kernel) hts rfl rfl ⟨Nat.le_of_ble_eq_true rfl, Nat.le_of_ble_eq_true rfl⟩) (hP.sub [] rfl) hK rfl hl.1 rfl (Nat.le_of_ble_eq_true rfl) ⟨Nat.le_of_ble_eq_true rfl, Nat.le_of_ble_eq_true rfl⟩ dX12_rests_23 (fun r_3 h_4 => ?_)
  obtain rfl := h_4
  refine lv_iload_n hx hb dX12_rests_26 rfl (lv_at hl 0 rfl) ?_
  refine lv_iconst (v := 4) hx hb dX12_rests_27 (by decide) ?_
  refine z_irem (v := 0) hx hb dX12_rests_28 (by decide) (by decide) ?_
  refine rosi (As := [.int 1, .int 0]) (rest := [.int 4, .int 0]) ⟨hx, hb, hml, hown, hts⟩ (k_soundsBy l D cB cI cJ cZ cS cT 1 0 ) (csB (n := 2) (inr62 _ (List.mem_of_getElem? (i := 23) rfl)) (inr63 _ (List.mem_of_getElem? (i := 0) rfl)) (inr1 _ (List.mem_of_getElem? (i := 5) rfl)) (inr63 _ (List.mem_of_getElem? (i := 1) rfl)) (by decide +kernel) hts rfl rfl ⟨Nat.le_of_ble_eq_true rfl, Nat.le_of_ble_eq_true rfl⟩) (hP.sub [] rfl) hK rfl hl.1 rfl (Nat.le_of_ble_eq_true rfl) ⟨Nat.le_of_ble_eq_true rfl, Nat.le_of_ble_eq_true rfl⟩ dX12_rests_29 (fun r_5 h_6 => ?_)
  obtain rfl : r_5 = 9 := h_6.trans (by decide)
  refine lv_icmp_ne (tgt := 63) hx hb dX12_rests_32 (by decide) (fun _ => ?_) (fun c0 => absurd c0 (by decide))
  refine lv_iconst (v := 0) hx hb dX12_rests_63 (by decide) ?_
  refine z_iadd (v := 0) hx hb dX12_rests_64 (by decide) ?_
  refine lv_istore_n (lv' := [(1, .int 0), (2, .int 0), (0, .ref m0)]) hx hb dX12_rests_65 rfl hl (by decide) rfl (fun ls hl => ?_)
  refine lv_iinc (v := 1) (lv' := [(2, .int 1), (1, .int 0), (0, .ref m0)]) hx hb dX12_rests_66 hl (k := 1) rfl (by decide) (by decide) rfl (fun ls hl => ?_)
  refine lv_goto (tgt := 4) hx hb dX12_rests_69 (by decide) ?_
  refine lv_iload_n hx hb dX12_rests_4 rfl (lv_at hl 0 rfl) ?_
  refine lv_bipush (v := 16) hx hb dX12_rests_5 (by decide) ?_
  refine lv_icmp_ge (tgt := 72) hx hb dX12_rests_7 (by decide) (fun c0 => absurd c0 (by decide)) (fun _ => ?_)
  refine lv_iload_n hx hb dX12_rests_10 rfl (lv_at hl 1 rfl) ?_
  refine lv_iload_n hx hb dX12_rests_11 rfl (lv_at hl 0 rfl) ?_
  refine lv_iconst (v := 4) hx hb dX12_rests_12 (by decide) ?_
  refine z_idiv (v := 0) hx hb dX12_rests_13 (by decide) (by decide) ?_
  refine lv_iload_n hx hb dX12_rests_14 rfl (lv_at hl 0 rfl) ?_
  refine lv_iconst (v := 4) hx hb dX12_rests_15 (by decide) ?_
  refine z_irem (v := 1) hx hb dX12_rests_16 (by decide) (by decide) ?_
  refine rosi (As := [.int 0, .int 1]) (rest := [.int 0]) ⟨hx, hb, hml, hown, hts⟩ (k_soundsBy l D cB cI cJ cZ cS cT 0 1 ) (csB (n := 2) (inr62 _ (List.mem_of_getElem? (i := 23) rfl)) (inr63 _ (List.mem_of_getElem? (i := 0) rfl)) (inr1 _ (List.mem_of_getElem? (i := 5) rfl)) (inr63 _ (List.mem_of_getElem? (i := 1) rfl)) (by decide +kernel) hts rfl rfl ⟨Nat.le_of_ble_eq_true rfl, Nat.le_of_ble_eq_true rfl⟩) (hP.sub [] rfl) hK rfl hl.1 rfl (Nat.le_of_ble_eq_true rfl) ⟨Nat.le_of_ble_eq_true rfl, Nat.le_of_ble_eq_true rfl⟩ dX12_rests_17 (fun r_7 h_8 => ?_)
  obtain rfl : r_7 = 0 := h_8.trans (by decide)
  refine lv_iload_n hx hb dX12_rests_20 rfl (lv_at hl 0 rfl) ?_
  refine lv_iconst (v := 4) hx hb dX12_rests_21 (by decide) ?_
  refine z_irem (v := 1) hx hb dX12_rests_22 (by decide) (by decide) ?_
  refine rosi (As := [.int 1]) (rest := [.int 0, .int 0]) ⟨hx, hb, hml, hown, hts⟩ (k_bestBy1 l D cB cI cJ cZ cS cT  ) (csB (n := 1) (inr63 _ (List.mem_of_getElem? (i := 2) rfl)) (inr63 _ (List.mem_of_getElem? (i := 3) rfl)) (inr1 _ (List.mem_of_getElem? (i := 5) rfl)) (inr63 _ (List.mem_of_getElem? (i := 4) rfl)) (by decide +kernel) hts rfl rfl ⟨Nat.le_of_ble_eq_true rfl, Nat.le_of_ble_eq_true rfl⟩) (hP.sub [] rfl) hK rfl hl.1 rfl (Nat.le_of_ble_eq_true rfl) ⟨Nat.le_of_ble_eq_true rfl, Nat.le_of_ble_eq_true rfl⟩ dX12_rests_23 (fun r_9 h_10 => ?_)
  obtain rfl := h_10
  refine lv_iload_n hx hb dX12_rests_26 rfl (lv_at hl 0 rfl) ?_
  refine lv_iconst (v := 4) hx hb dX12_rests_27 (by decide) ?_
  refine z_irem (v := 1) hx hb dX12_rests_28 (by decide) (by decide) ?_
  refine rosi (As := [.int 2, .int 1]) (rest := [.int 0, .int 0]) ⟨hx, hb, hml, hown, hts⟩ (k_soundsBy l D cB cI cJ cZ cS cT 2 1 ) (csB (n := 2) (inr62 _ (List.mem_of_getElem? (i := 23) rfl)) (inr63 _ (List.mem_of_getElem? (i := 0) rfl)) (inr1 _ (List.mem_of_getElem? (i := 5) rfl)) (inr63 _ (List.mem_of_getElem? (i := 1) rfl)) (by decide +kernel) hts rfl rfl ⟨Nat.le_of_ble_eq_true rfl, Nat.le_of_ble_eq_true rfl⟩) (hP.sub [] rfl) hK rfl hl.1 rfl (Nat.le_of_ble_eq_true rfl) ⟨Nat.le_of_ble_eq_true rfl, Nat.le_of_ble_eq_true rfl⟩ dX12_rests_29 (fun r_11 h_12 => ?_)
  obtain rfl : r_11 = 6 := h_12.trans (by decide)
  refine lv_icmp_ne (tgt := 63) hx hb dX12_rests_32 (by decide) (fun _ => ?_) (fun c0 => absurd c0 (by decide))
  refine lv_iconst (v := 0) hx hb dX12_rests_63 (by decide) ?_
  refine z_iadd (v := 0) hx hb dX12_rests_64 (by decide) ?_
  refine lv_istore_n (lv' := [(1, .int 0), (2, .int 1), (0, .ref m0)]) hx hb dX12_rests_65 rfl hl (by decide) rfl (fun ls hl => ?_)
  refine lv_iinc (v := 2) (lv' := [(2, .int 2), (1, .int 0), (0, .ref m0)]) hx hb dX12_rests_66 hl (k := 1) rfl (by decide) (by decide) rfl (fun ls hl => ?_)
  refine lv_goto (tgt := 4) hx hb dX12_rests_69 (by decide) ?_
  refine lv_iload_n hx hb dX12_rests_4 rfl (lv_at hl 0 rfl) ?_
  refine lv_bipush (v := 16) hx hb dX12_rests_5 (by decide) ?_
  refine lv_icmp_ge (tgt := 72) hx hb dX12_rests_7 (by decide) (fun c0 => absurd c0 (by decide)) (fun _ => ?_)
  refine lv_iload_n hx hb dX12_rests_10 rfl (lv_at hl 1 rfl) ?_
  refine lv_iload_n hx hb dX12_rests_11 rfl (lv_at hl 0 rfl) ?_
  refine lv_iconst (v := 4) hx hb dX12_rests_12 (by decide) ?_
  refine z_idiv (v := 0) hx hb dX12_rests_13 (by decide) (by decide) ?_
  refine lv_iload_n hx hb dX12_rests_14 rfl (lv_at hl 0 rfl) ?_
  refine lv_iconst (v := 4) hx hb dX12_rests_15 (by decide) ?_
  refine z_irem (v := 2) hx hb dX12_rests_16 (by decide) (by decide) ?_
  refine rosi (As := [.int 0, .int 2]) (rest := [.int 0]) ⟨hx, hb, hml, hown, hts⟩ (k_soundsBy l D cB cI cJ cZ cS cT 0 2 ) (csB (n := 2) (inr62 _ (List.mem_of_getElem? (i := 23) rfl)) (inr63 _ (List.mem_of_getElem? (i := 0) rfl)) (inr1 _ (List.mem_of_getElem? (i := 5) rfl)) (inr63 _ (List.mem_of_getElem? (i := 1) rfl)) (by decide +kernel) hts rfl rfl ⟨Nat.le_of_ble_eq_true rfl, Nat.le_of_ble_eq_true rfl⟩) (hP.sub [] rfl) hK rfl hl.1 rfl (Nat.le_of_ble_eq_true rfl) ⟨Nat.le_of_ble_eq_true rfl, Nat.le_of_ble_eq_true rfl⟩ dX12_rests_17 (fun r_13 h_14 => ?_)
  obtain rfl : r_13 = 0 := h_14.trans (by decide)
  refine lv_iload_n hx hb dX12_rests_20 rfl (lv_at hl 0 rfl) ?_
  refine lv_iconst (v := 4) hx hb dX12_rests_21 (by decide) ?_
  refine z_irem (v := 2) hx hb dX12_rests_22 (by decide) (by decide) ?_
  refine rosi (As := [.int 2]) (rest := [.int 0, .int 0]) ⟨hx, hb, hml, hown, hts⟩ (k_bestBy2 l D cB cI cJ cZ cS cT  ) (csB (n := 1) (inr63 _ (List.mem_of_getElem? (i := 2) rfl)) (inr63 _ (List.mem_of_getElem? (i := 3) rfl)) (inr1 _ (List.mem_of_getElem? (i := 5) rfl)) (inr63 _ (List.mem_of_getElem? (i := 4) rfl)) (by decide +kernel) hts rfl rfl ⟨Nat.le_of_ble_eq_true rfl, Nat.le_of_ble_eq_true rfl⟩) (hP.sub [] rfl) hK rfl hl.1 rfl (Nat.le_of_ble_eq_true rfl) ⟨Nat.le_of_ble_eq_true rfl, Nat.le_of_ble_eq_true rfl⟩ dX12_rests_23 (fun r_15 h_16 => ?_)
  obtain rfl := h_16
  refine lv_iload_n hx hb dX12_rests_26 rfl (lv_at hl 0 rfl) ?_
  refine lv_iconst (v := 4) hx hb dX12_rests_27 (by decide) ?_
  refine z_irem (v := 2) hx hb dX12_rests_28 (by decide) (by decide) ?_
  refine rosi (As := [.int 3, .int 2]) (rest := [.int 0, .int 0]) ⟨hx, hb, hml, hown, hts⟩ (k_soundsBy l D cB cI cJ cZ cS cT 3 2 ) (csB (n := 2) (inr62 _ (List.mem_of_getElem? (i := 23) rfl)) (inr63 _ (List.mem_of_getElem? (i := 0) rfl)) (inr1 _ (List.mem_of_getElem? (i := 5) rfl)) (inr63 _ (List.mem_of_getElem? (i := 1) rfl)) (by decide +kernel) hts rfl rfl ⟨Nat.le_of_ble_eq_true rfl, Nat.le_of_ble_eq_true rfl⟩) (hP.sub [] rfl) hK rfl hl.1 rfl (Nat.le_of_ble_eq_true rfl) ⟨Nat.le_of_ble_eq_true rfl, Nat.le_of_ble_eq_true rfl⟩ dX12_rests_29 (fun r_17 h_18 => ?_)
  obtain rfl : r_17 = 1 := h_18.trans (by decide)
  refine lv_icmp_ne (tgt := 63) hx hb dX12_rests_32 (by decide) (fun _ => ?_) (fun c0 => absurd c0 (by decide))
  refine lv_iconst (v := 0) hx hb dX12_rests_63 (by decide) ?_
  refine z_iadd (v := 0) hx hb dX12_rests_64 (by decide) ?_
  refine lv_istore_n (lv' := [(1, .int 0), (2, .int 2), (0, .ref m0)]) hx hb dX12_rests_65 rfl hl (by decide) rfl (fun ls hl => ?_)
  refine lv_iinc (v := 3) (lv' := [(2, .int 3), (1, .int 0), (0, .ref m0)]) hx hb dX12_rests_66 hl (k := 1) rfl (by decide) (by decide) rfl (fun ls hl => ?_)
  refine lv_goto (tgt := 4) hx hb dX12_rests_69 (by decide) ?_
  refine lv_iload_n hx hb dX12_rests_4 rfl (lv_at hl 0 rfl) ?_
  refine lv_bipush (v := 16) hx hb dX12_rests_5 (by decide) ?_
  refine lv_icmp_ge (tgt := 72) hx hb dX12_rests_7 (by decide) (fun c0 => absurd c0 (by decide)) (fun _ => ?_)
  refine lv_iload_n hx hb dX12_rests_10 rfl (lv_at hl 1 rfl) ?_
  refine lv_iload_n hx hb dX12_rests_11 rfl (lv_at hl 0 rfl) ?_
  refine lv_iconst (v := 4) hx hb dX12_rests_12 (by decide) ?_
  refine z_idiv (v := 0) hx hb dX12_rests_13 (by decide) (by decide) ?_
  refine lv_iload_n hx hb dX12_rests_14 rfl (lv_at hl 0 rfl) ?_
  refine lv_iconst (v := 4) hx hb dX12_rests_15 (by decide) ?_
  refine z_irem (v := 3) hx hb dX12_rests_16 (by decide) (by decide) ?_
  refine rosi (As := [.int 0, .int 3]) (rest := [.int 0]) ⟨hx, hb, hml, hown, hts⟩ (k_soundsBy l D cB cI cJ cZ cS cT 0 3 ) (csB (n := 2) (inr62 _ (List.mem_of_getElem? (i := 23) rfl)) (inr63 _ (List.mem_of_getElem? (i := 0) rfl)) (inr1 _ (List.mem_of_getElem? (i := 5) rfl)) (inr63 _ (List.mem_of_getElem? (i := 1) rfl)) (by decide +kernel) hts rfl rfl ⟨Nat.le_of_ble_eq_true rfl, Nat.le_of_ble_eq_true rfl⟩) (hP.sub [] rfl) hK rfl hl.1 rfl (Nat.le_of_ble_eq_true rfl) ⟨Nat.le_of_ble_eq_true rfl, Nat.le_of_ble_eq_true rfl⟩ dX12_rests_17 (fun r_19 h_20 => ?_)
  obtain rfl : r_19 = 0 := h_20.trans (by decide)
  refine lv_iload_n hx hb dX12_rests_20 rfl (lv_at hl 0 rfl) ?_
  refine lv_iconst (v := 4) hx hb dX12_rests_21 (by decide) ?_
  refine z_irem (v := 3) hx hb dX12_rests_22 (by decide) (by decide) ?_
  refine rosi (As := [.int 3]) (rest := [.int 0, .int 0]) ⟨hx, hb, hml, hown, hts⟩ (k_bestBy3 l D cB cI cJ cZ cS cT  ) (csB (n := 1) (inr63 _ (List.mem_of_getElem? (i := 2) rfl)) (inr63 _ (List.mem_of_getElem? (i := 3) rfl)) (inr1 _ (List.mem_of_getElem? (i := 5) rfl)) (inr63 _ (List.mem_of_getElem? (i := 4) rfl)) (by decide +kernel) hts rfl rfl ⟨Nat.le_of_ble_eq_true rfl, Nat.le_of_ble_eq_true rfl⟩) (hP.sub [] rfl) hK rfl hl.1 rfl (Nat.le_of_ble_eq_true rfl) ⟨Nat.le_of_ble_eq_true rfl, Nat.le_of_ble_eq_true rfl⟩ dX12_rests_23 (fun r_21 h_22 => ?_)
  obtain rfl := h_22
  refine lv_iload_n hx hb dX12_rests_26 rfl (lv_at hl 0 rfl) ?_
  refine lv_iconst (v := 4) hx hb dX12_rests_27 (by decide) ?_
  refine z_irem (v := 3) hx hb dX12_rests_28 (by decide) (by decide) ?_
  refine rosi (As := [.int 0, .int 3]) (rest := [.int 0, .int 0]) ⟨hx, hb, hml, hown, hts⟩ (k_soundsBy l D cB cI cJ cZ cS cT 0 3 ) (csB (n := 2) (inr62 _ (List.mem_of_getElem? (i := 23) rfl)) (inr63 _ (List.mem_of_getElem? (i := 0) rfl)) (inr1 _ (List.mem_of_getElem? (i := 5) rfl)) (inr63 _ (List.mem_of_getElem? (i := 1) rfl)) (by decide +kernel) hts rfl rfl ⟨Nat.le_of_ble_eq_true rfl, Nat.le_of_ble_eq_true rfl⟩) (hP.sub [] rfl) hK rfl hl.1 rfl (Nat.le_of_ble_eq_true rfl) ⟨Nat.le_of_ble_eq_true rfl, Nat.le_of_ble_eq_true rfl⟩ dX12_rests_29 (fun r_23 h_24 => ?_)
  obtain rfl : r_23 = 0 := h_24.trans (by decide)
  refine lv_icmp_ne (tgt := 63) hx hb dX12_rests_32 (by decide) (fun c0 => absurd c0 (by decide)) (fun _ => ?_)
  refine lv_iload_n hx hb dX12_rests_35 rfl (lv_at hl 0 rfl) ?_
  refine lv_iconst (v := 4) hx hb dX12_rests_36 (by decide) ?_
  refine z_irem (v := 3) hx hb dX12_rests_37 (by decide) (by decide) ?_
  refine lv_iload_n hx hb dX12_rests_38 rfl (lv_at hl 0 rfl) ?_
  refine lv_iconst (v := 4) hx hb dX12_rests_39 (by decide) ?_
  refine z_idiv (v := 0) hx hb dX12_rests_40 (by decide) (by decide) ?_
  refine rosi (As := [.int 3, .int 0]) (rest := [.int 0]) ⟨hx, hb, hml, hown, hts⟩ (k_soundsBy l D cB cI cJ cZ cS cT 3 0 ) (csB (n := 2) (inr62 _ (List.mem_of_getElem? (i := 23) rfl)) (inr63 _ (List.mem_of_getElem? (i := 0) rfl)) (inr1 _ (List.mem_of_getElem? (i := 5) rfl)) (inr63 _ (List.mem_of_getElem? (i := 1) rfl)) (by decide +kernel) hts rfl rfl ⟨Nat.le_of_ble_eq_true rfl, Nat.le_of_ble_eq_true rfl⟩) (hP.sub [] rfl) hK rfl hl.1 rfl (Nat.le_of_ble_eq_true rfl) ⟨Nat.le_of_ble_eq_true rfl, Nat.le_of_ble_eq_true rfl⟩ dX12_rests_41 (fun r_25 h_26 => ?_)
  obtain rfl : r_25 = 1 := h_26.trans (by decide)
  refine lv_iload_n hx hb dX12_rests_44 rfl (lv_at hl 0 rfl) ?_
  refine lv_iconst (v := 4) hx hb dX12_rests_45 (by decide) ?_
  refine z_idiv (v := 0) hx hb dX12_rests_46 (by decide) (by decide) ?_
  refine rosi (As := [.int 0]) (rest := [.int 1, .int 0]) ⟨hx, hb, hml, hown, hts⟩ (k_bestBy0 l D cB cI cJ cZ cS cT  ) (csB (n := 1) (inr63 _ (List.mem_of_getElem? (i := 2) rfl)) (inr63 _ (List.mem_of_getElem? (i := 3) rfl)) (inr1 _ (List.mem_of_getElem? (i := 5) rfl)) (inr63 _ (List.mem_of_getElem? (i := 4) rfl)) (by decide +kernel) hts rfl rfl ⟨Nat.le_of_ble_eq_true rfl, Nat.le_of_ble_eq_true rfl⟩) (hP.sub [] rfl) hK rfl hl.1 rfl (Nat.le_of_ble_eq_true rfl) ⟨Nat.le_of_ble_eq_true rfl, Nat.le_of_ble_eq_true rfl⟩ dX12_rests_47 (fun r_27 h_28 => ?_)
  obtain rfl := h_28
  refine lv_iload_n hx hb dX12_rests_50 rfl (lv_at hl 0 rfl) ?_
  refine lv_iconst (v := 4) hx hb dX12_rests_51 (by decide) ?_
  refine z_idiv (v := 0) hx hb dX12_rests_52 (by decide) (by decide) ?_
  refine rosi (As := [.int 1, .int 0]) (rest := [.int 1, .int 0]) ⟨hx, hb, hml, hown, hts⟩ (k_soundsBy l D cB cI cJ cZ cS cT 1 0 ) (csB (n := 2) (inr62 _ (List.mem_of_getElem? (i := 23) rfl)) (inr63 _ (List.mem_of_getElem? (i := 0) rfl)) (inr1 _ (List.mem_of_getElem? (i := 5) rfl)) (inr63 _ (List.mem_of_getElem? (i := 1) rfl)) (by decide +kernel) hts rfl rfl ⟨Nat.le_of_ble_eq_true rfl, Nat.le_of_ble_eq_true rfl⟩) (hP.sub [] rfl) hK rfl hl.1 rfl (Nat.le_of_ble_eq_true rfl) ⟨Nat.le_of_ble_eq_true rfl, Nat.le_of_ble_eq_true rfl⟩ dX12_rests_53 (fun r_29 h_30 => ?_)
  obtain rfl : r_29 = 9 := h_30.trans (by decide)
  refine lv_icmp_ne (tgt := 63) hx hb dX12_rests_56 (by decide) (fun _ => ?_) (fun c0 => absurd c0 (by decide))
  refine lv_iconst (v := 0) hx hb dX12_rests_63 (by decide) ?_
  refine z_iadd (v := 0) hx hb dX12_rests_64 (by decide) ?_
  refine lv_istore_n (lv' := [(1, .int 0), (2, .int 3), (0, .ref m0)]) hx hb dX12_rests_65 rfl hl (by decide) rfl (fun ls hl => ?_)
  refine lv_iinc (v := 4) (lv' := [(2, .int 4), (1, .int 0), (0, .ref m0)]) hx hb dX12_rests_66 hl (k := 1) rfl (by decide) (by decide) rfl (fun ls hl => ?_)
  refine lv_goto (tgt := 4) hx hb dX12_rests_69 (by decide) ?_
  refine lv_iload_n hx hb dX12_rests_4 rfl (lv_at hl 0 rfl) ?_
  refine lv_bipush (v := 16) hx hb dX12_rests_5 (by decide) ?_
  refine lv_icmp_ge (tgt := 72) hx hb dX12_rests_7 (by decide) (fun c0 => absurd c0 (by decide)) (fun _ => ?_)
  refine lv_iload_n hx hb dX12_rests_10 rfl (lv_at hl 1 rfl) ?_
  refine lv_iload_n hx hb dX12_rests_11 rfl (lv_at hl 0 rfl) ?_
  refine lv_iconst (v := 4) hx hb dX12_rests_12 (by decide) ?_
  refine z_idiv (v := 1) hx hb dX12_rests_13 (by decide) (by decide) ?_
  refine lv_iload_n hx hb dX12_rests_14 rfl (lv_at hl 0 rfl) ?_
  refine lv_iconst (v := 4) hx hb dX12_rests_15 (by decide) ?_
  refine z_irem (v := 0) hx hb dX12_rests_16 (by decide) (by decide) ?_
  refine rosi (As := [.int 1, .int 0]) (rest := [.int 0]) ⟨hx, hb, hml, hown, hts⟩ (k_soundsBy l D cB cI cJ cZ cS cT 1 0 ) (csB (n := 2) (inr62 _ (List.mem_of_getElem? (i := 23) rfl)) (inr63 _ (List.mem_of_getElem? (i := 0) rfl)) (inr1 _ (List.mem_of_getElem? (i := 5) rfl)) (inr63 _ (List.mem_of_getElem? (i := 1) rfl)) (by decide +kernel) hts rfl rfl ⟨Nat.le_of_ble_eq_true rfl, Nat.le_of_ble_eq_true rfl⟩) (hP.sub [] rfl) hK rfl hl.1 rfl (Nat.le_of_ble_eq_true rfl) ⟨Nat.le_of_ble_eq_true rfl, Nat.le_of_ble_eq_true rfl⟩ dX12_rests_17 (fun r_31 h_32 => ?_)
  obtain rfl : r_31 = 9 := h_32.trans (by decide)
  refine lv_iload_n hx hb dX12_rests_20 rfl (lv_at hl 0 rfl) ?_
  refine lv_iconst (v := 4) hx hb dX12_rests_21 (by decide) ?_
  refine z_irem (v := 0) hx hb dX12_rests_22 (by decide) (by decide) ?_
  refine rosi (As := [.int 0]) (rest := [.int 9, .int 0]) ⟨hx, hb, hml, hown, hts⟩ (k_bestBy0 l D cB cI cJ cZ cS cT  ) (csB (n := 1) (inr63 _ (List.mem_of_getElem? (i := 2) rfl)) (inr63 _ (List.mem_of_getElem? (i := 3) rfl)) (inr1 _ (List.mem_of_getElem? (i := 5) rfl)) (inr63 _ (List.mem_of_getElem? (i := 4) rfl)) (by decide +kernel) hts rfl rfl ⟨Nat.le_of_ble_eq_true rfl, Nat.le_of_ble_eq_true rfl⟩) (hP.sub [] rfl) hK rfl hl.1 rfl (Nat.le_of_ble_eq_true rfl) ⟨Nat.le_of_ble_eq_true rfl, Nat.le_of_ble_eq_true rfl⟩ dX12_rests_23 (fun r_33 h_34 => ?_)
  obtain rfl := h_34
  refine lv_iload_n hx hb dX12_rests_26 rfl (lv_at hl 0 rfl) ?_
  refine lv_iconst (v := 4) hx hb dX12_rests_27 (by decide) ?_
  refine z_irem (v := 0) hx hb dX12_rests_28 (by decide) (by decide) ?_
  refine rosi (As := [.int 1, .int 0]) (rest := [.int 9, .int 0]) ⟨hx, hb, hml, hown, hts⟩ (k_soundsBy l D cB cI cJ cZ cS cT 1 0 ) (csB (n := 2) (inr62 _ (List.mem_of_getElem? (i := 23) rfl)) (inr63 _ (List.mem_of_getElem? (i := 0) rfl)) (inr1 _ (List.mem_of_getElem? (i := 5) rfl)) (inr63 _ (List.mem_of_getElem? (i := 1) rfl)) (by decide +kernel) hts rfl rfl ⟨Nat.le_of_ble_eq_true rfl, Nat.le_of_ble_eq_true rfl⟩) (hP.sub [] rfl) hK rfl hl.1 rfl (Nat.le_of_ble_eq_true rfl) ⟨Nat.le_of_ble_eq_true rfl, Nat.le_of_ble_eq_true rfl⟩ dX12_rests_29 (fun r_35 h_36 => ?_)
  obtain rfl : r_35 = 9 := h_36.trans (by decide)
  refine lv_icmp_ne (tgt := 63) hx hb dX12_rests_32 (by decide) (fun c0 => absurd c0 (by decide)) (fun _ => ?_)
  refine lv_iload_n hx hb dX12_rests_35 rfl (lv_at hl 0 rfl) ?_
  refine lv_iconst (v := 4) hx hb dX12_rests_36 (by decide) ?_
  refine z_irem (v := 0) hx hb dX12_rests_37 (by decide) (by decide) ?_
  refine lv_iload_n hx hb dX12_rests_38 rfl (lv_at hl 0 rfl) ?_
  refine lv_iconst (v := 4) hx hb dX12_rests_39 (by decide) ?_
  refine z_idiv (v := 1) hx hb dX12_rests_40 (by decide) (by decide) ?_
  refine rosi (As := [.int 0, .int 1]) (rest := [.int 0]) ⟨hx, hb, hml, hown, hts⟩ (k_soundsBy l D cB cI cJ cZ cS cT 0 1 ) (csB (n := 2) (inr62 _ (List.mem_of_getElem? (i := 23) rfl)) (inr63 _ (List.mem_of_getElem? (i := 0) rfl)) (inr1 _ (List.mem_of_getElem? (i := 5) rfl)) (inr63 _ (List.mem_of_getElem? (i := 1) rfl)) (by decide +kernel) hts rfl rfl ⟨Nat.le_of_ble_eq_true rfl, Nat.le_of_ble_eq_true rfl⟩) (hP.sub [] rfl) hK rfl hl.1 rfl (Nat.le_of_ble_eq_true rfl) ⟨Nat.le_of_ble_eq_true rfl, Nat.le_of_ble_eq_true rfl⟩ dX12_rests_41 (fun r_37 h_38 => ?_)
  obtain rfl : r_37 = 0 := h_38.trans (by decide)
  refine lv_iload_n hx hb dX12_rests_44 rfl (lv_at hl 0 rfl) ?_
  refine lv_iconst (v := 4) hx hb dX12_rests_45 (by decide) ?_
  refine z_idiv (v := 1) hx hb dX12_rests_46 (by decide) (by decide) ?_
  refine rosi (As := [.int 1]) (rest := [.int 0, .int 0]) ⟨hx, hb, hml, hown, hts⟩ (k_bestBy1 l D cB cI cJ cZ cS cT  ) (csB (n := 1) (inr63 _ (List.mem_of_getElem? (i := 2) rfl)) (inr63 _ (List.mem_of_getElem? (i := 3) rfl)) (inr1 _ (List.mem_of_getElem? (i := 5) rfl)) (inr63 _ (List.mem_of_getElem? (i := 4) rfl)) (by decide +kernel) hts rfl rfl ⟨Nat.le_of_ble_eq_true rfl, Nat.le_of_ble_eq_true rfl⟩) (hP.sub [] rfl) hK rfl hl.1 rfl (Nat.le_of_ble_eq_true rfl) ⟨Nat.le_of_ble_eq_true rfl, Nat.le_of_ble_eq_true rfl⟩ dX12_rests_47 (fun r_39 h_40 => ?_)
  obtain rfl := h_40
  refine lv_iload_n hx hb dX12_rests_50 rfl (lv_at hl 0 rfl) ?_
  refine lv_iconst (v := 4) hx hb dX12_rests_51 (by decide) ?_
  refine z_idiv (v := 1) hx hb dX12_rests_52 (by decide) (by decide) ?_
  refine rosi (As := [.int 2, .int 1]) (rest := [.int 0, .int 0]) ⟨hx, hb, hml, hown, hts⟩ (k_soundsBy l D cB cI cJ cZ cS cT 2 1 ) (csB (n := 2) (inr62 _ (List.mem_of_getElem? (i := 23) rfl)) (inr63 _ (List.mem_of_getElem? (i := 0) rfl)) (inr1 _ (List.mem_of_getElem? (i := 5) rfl)) (inr63 _ (List.mem_of_getElem? (i := 1) rfl)) (by decide +kernel) hts rfl rfl ⟨Nat.le_of_ble_eq_true rfl, Nat.le_of_ble_eq_true rfl⟩) (hP.sub [] rfl) hK rfl hl.1 rfl (Nat.le_of_ble_eq_true rfl) ⟨Nat.le_of_ble_eq_true rfl, Nat.le_of_ble_eq_true rfl⟩ dX12_rests_53 (fun r_41 h_42 => ?_)
  obtain rfl : r_41 = 6 := h_42.trans (by decide)
  refine lv_icmp_ne (tgt := 63) hx hb dX12_rests_56 (by decide) (fun _ => ?_) (fun c0 => absurd c0 (by decide))
  refine lv_iconst (v := 0) hx hb dX12_rests_63 (by decide) ?_
  refine z_iadd (v := 0) hx hb dX12_rests_64 (by decide) ?_
  refine lv_istore_n (lv' := [(1, .int 0), (2, .int 4), (0, .ref m0)]) hx hb dX12_rests_65 rfl hl (by decide) rfl (fun ls hl => ?_)
  refine lv_iinc (v := 5) (lv' := [(2, .int 5), (1, .int 0), (0, .ref m0)]) hx hb dX12_rests_66 hl (k := 1) rfl (by decide) (by decide) rfl (fun ls hl => ?_)
  refine lv_goto (tgt := 4) hx hb dX12_rests_69 (by decide) ?_
  refine lv_iload_n hx hb dX12_rests_4 rfl (lv_at hl 0 rfl) ?_
  refine lv_bipush (v := 16) hx hb dX12_rests_5 (by decide) ?_
  refine lv_icmp_ge (tgt := 72) hx hb dX12_rests_7 (by decide) (fun c0 => absurd c0 (by decide)) (fun _ => ?_)
  refine lv_iload_n hx hb dX12_rests_10 rfl (lv_at hl 1 rfl) ?_
  refine lv_iload_n hx hb dX12_rests_11 rfl (lv_at hl 0 rfl) ?_
  refine lv_iconst (v := 4) hx hb dX12_rests_12 (by decide) ?_
  refine z_idiv (v := 1) hx hb dX12_rests_13 (by decide) (by decide) ?_
  refine lv_iload_n hx hb dX12_rests_14 rfl (lv_at hl 0 rfl) ?_
  refine lv_iconst (v := 4) hx hb dX12_rests_15 (by decide) ?_
  refine z_irem (v := 1) hx hb dX12_rests_16 (by decide) (by decide) ?_
  refine rosi (As := [.int 1, .int 1]) (rest := [.int 0]) ⟨hx, hb, hml, hown, hts⟩ (k_soundsBy l D cB cI cJ cZ cS cT 1 1 ) (csB (n := 2) (inr62 _ (List.mem_of_getElem? (i := 23) rfl)) (inr63 _ (List.mem_of_getElem? (i := 0) rfl)) (inr1 _ (List.mem_of_getElem? (i := 5) rfl)) (inr63 _ (List.mem_of_getElem? (i := 1) rfl)) (by decide +kernel) hts rfl rfl ⟨Nat.le_of_ble_eq_true rfl, Nat.le_of_ble_eq_true rfl⟩) (hP.sub [] rfl) hK rfl hl.1 rfl (Nat.le_of_ble_eq_true rfl) ⟨Nat.le_of_ble_eq_true rfl, Nat.le_of_ble_eq_true rfl⟩ dX12_rests_17 (fun r_43 h_44 => ?_)
  obtain rfl : r_43 = 3 := h_44.trans (by decide)
  refine lv_iload_n hx hb dX12_rests_20 rfl (lv_at hl 0 rfl) ?_
  refine lv_iconst (v := 4) hx hb dX12_rests_21 (by decide) ?_
  refine z_irem (v := 1) hx hb dX12_rests_22 (by decide) (by decide) ?_
  refine rosi (As := [.int 1]) (rest := [.int 3, .int 0]) ⟨hx, hb, hml, hown, hts⟩ (k_bestBy1 l D cB cI cJ cZ cS cT  ) (csB (n := 1) (inr63 _ (List.mem_of_getElem? (i := 2) rfl)) (inr63 _ (List.mem_of_getElem? (i := 3) rfl)) (inr1 _ (List.mem_of_getElem? (i := 5) rfl)) (inr63 _ (List.mem_of_getElem? (i := 4) rfl)) (by decide +kernel) hts rfl rfl ⟨Nat.le_of_ble_eq_true rfl, Nat.le_of_ble_eq_true rfl⟩) (hP.sub [] rfl) hK rfl hl.1 rfl (Nat.le_of_ble_eq_true rfl) ⟨Nat.le_of_ble_eq_true rfl, Nat.le_of_ble_eq_true rfl⟩ dX12_rests_23 (fun r_45 h_46 => ?_)
  obtain rfl := h_46
  refine lv_iload_n hx hb dX12_rests_26 rfl (lv_at hl 0 rfl) ?_
  refine lv_iconst (v := 4) hx hb dX12_rests_27 (by decide) ?_
  refine z_irem (v := 1) hx hb dX12_rests_28 (by decide) (by decide) ?_
  refine rosi (As := [.int 2, .int 1]) (rest := [.int 3, .int 0]) ⟨hx, hb, hml, hown, hts⟩ (k_soundsBy l D cB cI cJ cZ cS cT 2 1 ) (csB (n := 2) (inr62 _ (List.mem_of_getElem? (i := 23) rfl)) (inr63 _ (List.mem_of_getElem? (i := 0) rfl)) (inr1 _ (List.mem_of_getElem? (i := 5) rfl)) (inr63 _ (List.mem_of_getElem? (i := 1) rfl)) (by decide +kernel) hts rfl rfl ⟨Nat.le_of_ble_eq_true rfl, Nat.le_of_ble_eq_true rfl⟩) (hP.sub [] rfl) hK rfl hl.1 rfl (Nat.le_of_ble_eq_true rfl) ⟨Nat.le_of_ble_eq_true rfl, Nat.le_of_ble_eq_true rfl⟩ dX12_rests_29 (fun r_47 h_48 => ?_)
  obtain rfl : r_47 = 6 := h_48.trans (by decide)
  refine lv_icmp_ne (tgt := 63) hx hb dX12_rests_32 (by decide) (fun _ => ?_) (fun c0 => absurd c0 (by decide))
  refine lv_iconst (v := 0) hx hb dX12_rests_63 (by decide) ?_
  refine z_iadd (v := 0) hx hb dX12_rests_64 (by decide) ?_
  refine lv_istore_n (lv' := [(1, .int 0), (2, .int 5), (0, .ref m0)]) hx hb dX12_rests_65 rfl hl (by decide) rfl (fun ls hl => ?_)
  refine lv_iinc (v := 6) (lv' := [(2, .int 6), (1, .int 0), (0, .ref m0)]) hx hb dX12_rests_66 hl (k := 1) rfl (by decide) (by decide) rfl (fun ls hl => ?_)
  refine lv_goto (tgt := 4) hx hb dX12_rests_69 (by decide) ?_
  refine lv_iload_n hx hb dX12_rests_4 rfl (lv_at hl 0 rfl) ?_
  refine lv_bipush (v := 16) hx hb dX12_rests_5 (by decide) ?_
  refine lv_icmp_ge (tgt := 72) hx hb dX12_rests_7 (by decide) (fun c0 => absurd c0 (by decide)) (fun _ => ?_)
  refine lv_iload_n hx hb dX12_rests_10 rfl (lv_at hl 1 rfl) ?_
  refine lv_iload_n hx hb dX12_rests_11 rfl (lv_at hl 0 rfl) ?_
  refine lv_iconst (v := 4) hx hb dX12_rests_12 (by decide) ?_
  refine z_idiv (v := 1) hx hb dX12_rests_13 (by decide) (by decide) ?_
  refine lv_iload_n hx hb dX12_rests_14 rfl (lv_at hl 0 rfl) ?_
  refine lv_iconst (v := 4) hx hb dX12_rests_15 (by decide) ?_
  refine z_irem (v := 2) hx hb dX12_rests_16 (by decide) (by decide) ?_
  refine rosi (As := [.int 1, .int 2]) (rest := [.int 0]) ⟨hx, hb, hml, hown, hts⟩ (k_soundsBy l D cB cI cJ cZ cS cT 1 2 ) (csB (n := 2) (inr62 _ (List.mem_of_getElem? (i := 23) rfl)) (inr63 _ (List.mem_of_getElem? (i := 0) rfl)) (inr1 _ (List.mem_of_getElem? (i := 5) rfl)) (inr63 _ (List.mem_of_getElem? (i := 1) rfl)) (by decide +kernel) hts rfl rfl ⟨Nat.le_of_ble_eq_true rfl, Nat.le_of_ble_eq_true rfl⟩) (hP.sub [] rfl) hK rfl hl.1 rfl (Nat.le_of_ble_eq_true rfl) ⟨Nat.le_of_ble_eq_true rfl, Nat.le_of_ble_eq_true rfl⟩ dX12_rests_17 (fun r_49 h_50 => ?_)
  obtain rfl : r_49 = (-1) := h_50.trans (by decide)
  refine lv_iload_n hx hb dX12_rests_20 rfl (lv_at hl 0 rfl) ?_
  refine lv_iconst (v := 4) hx hb dX12_rests_21 (by decide) ?_
  refine z_irem (v := 2) hx hb dX12_rests_22 (by decide) (by decide) ?_
  refine rosi (As := [.int 2]) (rest := [.int (-1), .int 0]) ⟨hx, hb, hml, hown, hts⟩ (k_bestBy2 l D cB cI cJ cZ cS cT  ) (csB (n := 1) (inr63 _ (List.mem_of_getElem? (i := 2) rfl)) (inr63 _ (List.mem_of_getElem? (i := 3) rfl)) (inr1 _ (List.mem_of_getElem? (i := 5) rfl)) (inr63 _ (List.mem_of_getElem? (i := 4) rfl)) (by decide +kernel) hts rfl rfl ⟨Nat.le_of_ble_eq_true rfl, Nat.le_of_ble_eq_true rfl⟩) (hP.sub [] rfl) hK rfl hl.1 rfl (Nat.le_of_ble_eq_true rfl) ⟨Nat.le_of_ble_eq_true rfl, Nat.le_of_ble_eq_true rfl⟩ dX12_rests_23 (fun r_51 h_52 => ?_)
  obtain rfl := h_52
  refine lv_iload_n hx hb dX12_rests_26 rfl (lv_at hl 0 rfl) ?_
  refine lv_iconst (v := 4) hx hb dX12_rests_27 (by decide) ?_
  refine z_irem (v := 2) hx hb dX12_rests_28 (by decide) (by decide) ?_
  refine rosi (As := [.int 3, .int 2]) (rest := [.int (-1), .int 0]) ⟨hx, hb, hml, hown, hts⟩ (k_soundsBy l D cB cI cJ cZ cS cT 3 2 ) (csB (n := 2) (inr62 _ (List.mem_of_getElem? (i := 23) rfl)) (inr63 _ (List.mem_of_getElem? (i := 0) rfl)) (inr1 _ (List.mem_of_getElem? (i := 5) rfl)) (inr63 _ (List.mem_of_getElem? (i := 1) rfl)) (by decide +kernel) hts rfl rfl ⟨Nat.le_of_ble_eq_true rfl, Nat.le_of_ble_eq_true rfl⟩) (hP.sub [] rfl) hK rfl hl.1 rfl (Nat.le_of_ble_eq_true rfl) ⟨Nat.le_of_ble_eq_true rfl, Nat.le_of_ble_eq_true rfl⟩ dX12_rests_29 (fun r_53 h_54 => ?_)
  obtain rfl : r_53 = 1 := h_54.trans (by decide)
  refine lv_icmp_ne (tgt := 63) hx hb dX12_rests_32 (by decide) (fun _ => ?_) (fun c0 => absurd c0 (by decide))
  refine lv_iconst (v := 0) hx hb dX12_rests_63 (by decide) ?_
  refine z_iadd (v := 0) hx hb dX12_rests_64 (by decide) ?_
  refine lv_istore_n (lv' := [(1, .int 0), (2, .int 6), (0, .ref m0)]) hx hb dX12_rests_65 rfl hl (by decide) rfl (fun ls hl => ?_)
  refine lv_iinc (v := 7) (lv' := [(2, .int 7), (1, .int 0), (0, .ref m0)]) hx hb dX12_rests_66 hl (k := 1) rfl (by decide) (by decide) rfl (fun ls hl => ?_)
  refine lv_goto (tgt := 4) hx hb dX12_rests_69 (by decide) ?_
  refine lv_iload_n hx hb dX12_rests_4 rfl (lv_at hl 0 rfl) ?_
  refine lv_bipush (v := 16) hx hb dX12_rests_5 (by decide) ?_
  refine lv_icmp_ge (tgt := 72) hx hb dX12_rests_7 (by decide) (fun c0 => absurd c0 (by decide)) (fun _ => ?_)
  refine lv_iload_n hx hb dX12_rests_10 rfl (lv_at hl 1 rfl) ?_
  refine lv_iload_n hx hb dX12_rests_11 rfl (lv_at hl 0 rfl) ?_
  refine lv_iconst (v := 4) hx hb dX12_rests_12 (by decide) ?_
  refine z_idiv (v := 1) hx hb dX12_rests_13 (by decide) (by decide) ?_
  refine lv_iload_n hx hb dX12_rests_14 rfl (lv_at hl 0 rfl) ?_
  refine lv_iconst (v := 4) hx hb dX12_rests_15 (by decide) ?_
  refine z_irem (v := 3) hx hb dX12_rests_16 (by decide) (by decide) ?_
  refine rosi (As := [.int 1, .int 3]) (rest := [.int 0]) ⟨hx, hb, hml, hown, hts⟩ (k_soundsBy l D cB cI cJ cZ cS cT 1 3 ) (csB (n := 2) (inr62 _ (List.mem_of_getElem? (i := 23) rfl)) (inr63 _ (List.mem_of_getElem? (i := 0) rfl)) (inr1 _ (List.mem_of_getElem? (i := 5) rfl)) (inr63 _ (List.mem_of_getElem? (i := 1) rfl)) (by decide +kernel) hts rfl rfl ⟨Nat.le_of_ble_eq_true rfl, Nat.le_of_ble_eq_true rfl⟩) (hP.sub [] rfl) hK rfl hl.1 rfl (Nat.le_of_ble_eq_true rfl) ⟨Nat.le_of_ble_eq_true rfl, Nat.le_of_ble_eq_true rfl⟩ dX12_rests_17 (fun r_55 h_56 => ?_)
  obtain rfl : r_55 = (-1) := h_56.trans (by decide)
  refine lv_iload_n hx hb dX12_rests_20 rfl (lv_at hl 0 rfl) ?_
  refine lv_iconst (v := 4) hx hb dX12_rests_21 (by decide) ?_
  refine z_irem (v := 3) hx hb dX12_rests_22 (by decide) (by decide) ?_
  refine rosi (As := [.int 3]) (rest := [.int (-1), .int 0]) ⟨hx, hb, hml, hown, hts⟩ (k_bestBy3 l D cB cI cJ cZ cS cT  ) (csB (n := 1) (inr63 _ (List.mem_of_getElem? (i := 2) rfl)) (inr63 _ (List.mem_of_getElem? (i := 3) rfl)) (inr1 _ (List.mem_of_getElem? (i := 5) rfl)) (inr63 _ (List.mem_of_getElem? (i := 4) rfl)) (by decide +kernel) hts rfl rfl ⟨Nat.le_of_ble_eq_true rfl, Nat.le_of_ble_eq_true rfl⟩) (hP.sub [] rfl) hK rfl hl.1 rfl (Nat.le_of_ble_eq_true rfl) ⟨Nat.le_of_ble_eq_true rfl, Nat.le_of_ble_eq_true rfl⟩ dX12_rests_23 (fun r_57 h_58 => ?_)
  obtain rfl := h_58
  refine lv_iload_n hx hb dX12_rests_26 rfl (lv_at hl 0 rfl) ?_
  refine lv_iconst (v := 4) hx hb dX12_rests_27 (by decide) ?_
  refine z_irem (v := 3) hx hb dX12_rests_28 (by decide) (by decide) ?_
  refine rosi (As := [.int 0, .int 3]) (rest := [.int (-1), .int 0]) ⟨hx, hb, hml, hown, hts⟩ (k_soundsBy l D cB cI cJ cZ cS cT 0 3 ) (csB (n := 2) (inr62 _ (List.mem_of_getElem? (i := 23) rfl)) (inr63 _ (List.mem_of_getElem? (i := 0) rfl)) (inr1 _ (List.mem_of_getElem? (i := 5) rfl)) (inr63 _ (List.mem_of_getElem? (i := 1) rfl)) (by decide +kernel) hts rfl rfl ⟨Nat.le_of_ble_eq_true rfl, Nat.le_of_ble_eq_true rfl⟩) (hP.sub [] rfl) hK rfl hl.1 rfl (Nat.le_of_ble_eq_true rfl) ⟨Nat.le_of_ble_eq_true rfl, Nat.le_of_ble_eq_true rfl⟩ dX12_rests_29 (fun r_59 h_60 => ?_)
  obtain rfl : r_59 = 0 := h_60.trans (by decide)
  refine lv_icmp_ne (tgt := 63) hx hb dX12_rests_32 (by decide) (fun _ => ?_) (fun c0 => absurd c0 (by decide))
  refine lv_iconst (v := 0) hx hb dX12_rests_63 (by decide) ?_
  refine z_iadd (v := 0) hx hb dX12_rests_64 (by decide) ?_
  refine lv_istore_n (lv' := [(1, .int 0), (2, .int 7), (0, .ref m0)]) hx hb dX12_rests_65 rfl hl (by decide) rfl (fun ls hl => ?_)
  refine lv_iinc (v := 8) (lv' := [(2, .int 8), (1, .int 0), (0, .ref m0)]) hx hb dX12_rests_66 hl (k := 1) rfl (by decide) (by decide) rfl (fun ls hl => ?_)
  refine lv_goto (tgt := 4) hx hb dX12_rests_69 (by decide) ?_
  refine lv_iload_n hx hb dX12_rests_4 rfl (lv_at hl 0 rfl) ?_
  refine lv_bipush (v := 16) hx hb dX12_rests_5 (by decide) ?_
  refine lv_icmp_ge (tgt := 72) hx hb dX12_rests_7 (by decide) (fun c0 => absurd c0 (by decide)) (fun _ => ?_)
  refine lv_iload_n hx hb dX12_rests_10 rfl (lv_at hl 1 rfl) ?_
  refine lv_iload_n hx hb dX12_rests_11 rfl (lv_at hl 0 rfl) ?_
  refine lv_iconst (v := 4) hx hb dX12_rests_12 (by decide) ?_
  refine z_idiv (v := 2) hx hb dX12_rests_13 (by decide) (by decide) ?_
  refine lv_iload_n hx hb dX12_rests_14 rfl (lv_at hl 0 rfl) ?_
  refine lv_iconst (v := 4) hx hb dX12_rests_15 (by decide) ?_
  refine z_irem (v := 0) hx hb dX12_rests_16 (by decide) (by decide) ?_
  refine rosi (As := [.int 2, .int 0]) (rest := [.int 0]) ⟨hx, hb, hml, hown, hts⟩ (k_soundsBy l D cB cI cJ cZ cS cT 2 0 ) (csB (n := 2) (inr62 _ (List.mem_of_getElem? (i := 23) rfl)) (inr63 _ (List.mem_of_getElem? (i := 0) rfl)) (inr1 _ (List.mem_of_getElem? (i := 5) rfl)) (inr63 _ (List.mem_of_getElem? (i := 1) rfl)) (by decide +kernel) hts rfl rfl ⟨Nat.le_of_ble_eq_true rfl, Nat.le_of_ble_eq_true rfl⟩) (hP.sub [] rfl) hK rfl hl.1 rfl (Nat.le_of_ble_eq_true rfl) ⟨Nat.le_of_ble_eq_true rfl, Nat.le_of_ble_eq_true rfl⟩ dX12_rests_17 (fun r_61 h_62 => ?_)
  obtain rfl : r_61 = 6 := h_62.trans (by decide)
  refine lv_iload_n hx hb dX12_rests_20 rfl (lv_at hl 0 rfl) ?_
  refine lv_iconst (v := 4) hx hb dX12_rests_21 (by decide) ?_
  refine z_irem (v := 0) hx hb dX12_rests_22 (by decide) (by decide) ?_
  refine rosi (As := [.int 0]) (rest := [.int 6, .int 0]) ⟨hx, hb, hml, hown, hts⟩ (k_bestBy0 l D cB cI cJ cZ cS cT  ) (csB (n := 1) (inr63 _ (List.mem_of_getElem? (i := 2) rfl)) (inr63 _ (List.mem_of_getElem? (i := 3) rfl)) (inr1 _ (List.mem_of_getElem? (i := 5) rfl)) (inr63 _ (List.mem_of_getElem? (i := 4) rfl)) (by decide +kernel) hts rfl rfl ⟨Nat.le_of_ble_eq_true rfl, Nat.le_of_ble_eq_true rfl⟩) (hP.sub [] rfl) hK rfl hl.1 rfl (Nat.le_of_ble_eq_true rfl) ⟨Nat.le_of_ble_eq_true rfl, Nat.le_of_ble_eq_true rfl⟩ dX12_rests_23 (fun r_63 h_64 => ?_)
  obtain rfl := h_64
  refine lv_iload_n hx hb dX12_rests_26 rfl (lv_at hl 0 rfl) ?_
  refine lv_iconst (v := 4) hx hb dX12_rests_27 (by decide) ?_
  refine z_irem (v := 0) hx hb dX12_rests_28 (by decide) (by decide) ?_
  refine rosi (As := [.int 1, .int 0]) (rest := [.int 6, .int 0]) ⟨hx, hb, hml, hown, hts⟩ (k_soundsBy l D cB cI cJ cZ cS cT 1 0 ) (csB (n := 2) (inr62 _ (List.mem_of_getElem? (i := 23) rfl)) (inr63 _ (List.mem_of_getElem? (i := 0) rfl)) (inr1 _ (List.mem_of_getElem? (i := 5) rfl)) (inr63 _ (List.mem_of_getElem? (i := 1) rfl)) (by decide +kernel) hts rfl rfl ⟨Nat.le_of_ble_eq_true rfl, Nat.le_of_ble_eq_true rfl⟩) (hP.sub [] rfl) hK rfl hl.1 rfl (Nat.le_of_ble_eq_true rfl) ⟨Nat.le_of_ble_eq_true rfl, Nat.le_of_ble_eq_true rfl⟩ dX12_rests_29 (fun r_65 h_66 => ?_)
  obtain rfl : r_65 = 9 := h_66.trans (by decide)
  refine lv_icmp_ne (tgt := 63) hx hb dX12_rests_32 (by decide) (fun _ => ?_) (fun c0 => absurd c0 (by decide))
  refine lv_iconst (v := 0) hx hb dX12_rests_63 (by decide) ?_
  refine z_iadd (v := 0) hx hb dX12_rests_64 (by decide) ?_
  refine lv_istore_n (lv' := [(1, .int 0), (2, .int 8), (0, .ref m0)]) hx hb dX12_rests_65 rfl hl (by decide) rfl (fun ls hl => ?_)
  refine lv_iinc (v := 9) (lv' := [(2, .int 9), (1, .int 0), (0, .ref m0)]) hx hb dX12_rests_66 hl (k := 1) rfl (by decide) (by decide) rfl (fun ls hl => ?_)
  refine lv_goto (tgt := 4) hx hb dX12_rests_69 (by decide) ?_
  refine lv_iload_n hx hb dX12_rests_4 rfl (lv_at hl 0 rfl) ?_
  refine lv_bipush (v := 16) hx hb dX12_rests_5 (by decide) ?_
  refine lv_icmp_ge (tgt := 72) hx hb dX12_rests_7 (by decide) (fun c0 => absurd c0 (by decide)) (fun _ => ?_)
  refine lv_iload_n hx hb dX12_rests_10 rfl (lv_at hl 1 rfl) ?_
  refine lv_iload_n hx hb dX12_rests_11 rfl (lv_at hl 0 rfl) ?_
  refine lv_iconst (v := 4) hx hb dX12_rests_12 (by decide) ?_
  refine z_idiv (v := 2) hx hb dX12_rests_13 (by decide) (by decide) ?_
  refine lv_iload_n hx hb dX12_rests_14 rfl (lv_at hl 0 rfl) ?_
  refine lv_iconst (v := 4) hx hb dX12_rests_15 (by decide) ?_
  refine z_irem (v := 1) hx hb dX12_rests_16 (by decide) (by decide) ?_
  refine rosi (As := [.int 2, .int 1]) (rest := [.int 0]) ⟨hx, hb, hml, hown, hts⟩ (k_soundsBy l D cB cI cJ cZ cS cT 2 1 ) (csB (n := 2) (inr62 _ (List.mem_of_getElem? (i := 23) rfl)) (inr63 _ (List.mem_of_getElem? (i := 0) rfl)) (inr1 _ (List.mem_of_getElem? (i := 5) rfl)) (inr63 _ (List.mem_of_getElem? (i := 1) rfl)) (by decide +kernel) hts rfl rfl ⟨Nat.le_of_ble_eq_true rfl, Nat.le_of_ble_eq_true rfl⟩) (hP.sub [] rfl) hK rfl hl.1 rfl (Nat.le_of_ble_eq_true rfl) ⟨Nat.le_of_ble_eq_true rfl, Nat.le_of_ble_eq_true rfl⟩ dX12_rests_17 (fun r_67 h_68 => ?_)
  obtain rfl : r_67 = 6 := h_68.trans (by decide)
  refine lv_iload_n hx hb dX12_rests_20 rfl (lv_at hl 0 rfl) ?_
  refine lv_iconst (v := 4) hx hb dX12_rests_21 (by decide) ?_
  refine z_irem (v := 1) hx hb dX12_rests_22 (by decide) (by decide) ?_
  refine rosi (As := [.int 1]) (rest := [.int 6, .int 0]) ⟨hx, hb, hml, hown, hts⟩ (k_bestBy1 l D cB cI cJ cZ cS cT  ) (csB (n := 1) (inr63 _ (List.mem_of_getElem? (i := 2) rfl)) (inr63 _ (List.mem_of_getElem? (i := 3) rfl)) (inr1 _ (List.mem_of_getElem? (i := 5) rfl)) (inr63 _ (List.mem_of_getElem? (i := 4) rfl)) (by decide +kernel) hts rfl rfl ⟨Nat.le_of_ble_eq_true rfl, Nat.le_of_ble_eq_true rfl⟩) (hP.sub [] rfl) hK rfl hl.1 rfl (Nat.le_of_ble_eq_true rfl) ⟨Nat.le_of_ble_eq_true rfl, Nat.le_of_ble_eq_true rfl⟩ dX12_rests_23 (fun r_69 h_70 => ?_)
  obtain rfl := h_70
  refine lv_iload_n hx hb dX12_rests_26 rfl (lv_at hl 0 rfl) ?_
  refine lv_iconst (v := 4) hx hb dX12_rests_27 (by decide) ?_
  refine z_irem (v := 1) hx hb dX12_rests_28 (by decide) (by decide) ?_
  refine rosi (As := [.int 2, .int 1]) (rest := [.int 6, .int 0]) ⟨hx, hb, hml, hown, hts⟩ (k_soundsBy l D cB cI cJ cZ cS cT 2 1 ) (csB (n := 2) (inr62 _ (List.mem_of_getElem? (i := 23) rfl)) (inr63 _ (List.mem_of_getElem? (i := 0) rfl)) (inr1 _ (List.mem_of_getElem? (i := 5) rfl)) (inr63 _ (List.mem_of_getElem? (i := 1) rfl)) (by decide +kernel) hts rfl rfl ⟨Nat.le_of_ble_eq_true rfl, Nat.le_of_ble_eq_true rfl⟩) (hP.sub [] rfl) hK rfl hl.1 rfl (Nat.le_of_ble_eq_true rfl) ⟨Nat.le_of_ble_eq_true rfl, Nat.le_of_ble_eq_true rfl⟩ dX12_rests_29 (fun r_71 h_72 => ?_)
  obtain rfl : r_71 = 6 := h_72.trans (by decide)
  refine lv_icmp_ne (tgt := 63) hx hb dX12_rests_32 (by decide) (fun c0 => absurd c0 (by decide)) (fun _ => ?_)
  refine lv_iload_n hx hb dX12_rests_35 rfl (lv_at hl 0 rfl) ?_
  refine lv_iconst (v := 4) hx hb dX12_rests_36 (by decide) ?_
  refine z_irem (v := 1) hx hb dX12_rests_37 (by decide) (by decide) ?_
  refine lv_iload_n hx hb dX12_rests_38 rfl (lv_at hl 0 rfl) ?_
  refine lv_iconst (v := 4) hx hb dX12_rests_39 (by decide) ?_
  refine z_idiv (v := 2) hx hb dX12_rests_40 (by decide) (by decide) ?_
  refine rosi (As := [.int 1, .int 2]) (rest := [.int 0]) ⟨hx, hb, hml, hown, hts⟩ (k_soundsBy l D cB cI cJ cZ cS cT 1 2 ) (csB (n := 2) (inr62 _ (List.mem_of_getElem? (i := 23) rfl)) (inr63 _ (List.mem_of_getElem? (i := 0) rfl)) (inr1 _ (List.mem_of_getElem? (i := 5) rfl)) (inr63 _ (List.mem_of_getElem? (i := 1) rfl)) (by decide +kernel) hts rfl rfl ⟨Nat.le_of_ble_eq_true rfl, Nat.le_of_ble_eq_true rfl⟩) (hP.sub [] rfl) hK rfl hl.1 rfl (Nat.le_of_ble_eq_true rfl) ⟨Nat.le_of_ble_eq_true rfl, Nat.le_of_ble_eq_true rfl⟩ dX12_rests_41 (fun r_73 h_74 => ?_)
  obtain rfl : r_73 = (-1) := h_74.trans (by decide)
  refine lv_iload_n hx hb dX12_rests_44 rfl (lv_at hl 0 rfl) ?_
  refine lv_iconst (v := 4) hx hb dX12_rests_45 (by decide) ?_
  refine z_idiv (v := 2) hx hb dX12_rests_46 (by decide) (by decide) ?_
  refine rosi (As := [.int 2]) (rest := [.int (-1), .int 0]) ⟨hx, hb, hml, hown, hts⟩ (k_bestBy2 l D cB cI cJ cZ cS cT  ) (csB (n := 1) (inr63 _ (List.mem_of_getElem? (i := 2) rfl)) (inr63 _ (List.mem_of_getElem? (i := 3) rfl)) (inr1 _ (List.mem_of_getElem? (i := 5) rfl)) (inr63 _ (List.mem_of_getElem? (i := 4) rfl)) (by decide +kernel) hts rfl rfl ⟨Nat.le_of_ble_eq_true rfl, Nat.le_of_ble_eq_true rfl⟩) (hP.sub [] rfl) hK rfl hl.1 rfl (Nat.le_of_ble_eq_true rfl) ⟨Nat.le_of_ble_eq_true rfl, Nat.le_of_ble_eq_true rfl⟩ dX12_rests_47 (fun r_75 h_76 => ?_)
  obtain rfl := h_76
  refine lv_iload_n hx hb dX12_rests_50 rfl (lv_at hl 0 rfl) ?_
  refine lv_iconst (v := 4) hx hb dX12_rests_51 (by decide) ?_
  refine z_idiv (v := 2) hx hb dX12_rests_52 (by decide) (by decide) ?_
  refine rosi (As := [.int 3, .int 2]) (rest := [.int (-1), .int 0]) ⟨hx, hb, hml, hown, hts⟩ (k_soundsBy l D cB cI cJ cZ cS cT 3 2 ) (csB (n := 2) (inr62 _ (List.mem_of_getElem? (i := 23) rfl)) (inr63 _ (List.mem_of_getElem? (i := 0) rfl)) (inr1 _ (List.mem_of_getElem? (i := 5) rfl)) (inr63 _ (List.mem_of_getElem? (i := 1) rfl)) (by decide +kernel) hts rfl rfl ⟨Nat.le_of_ble_eq_true rfl, Nat.le_of_ble_eq_true rfl⟩) (hP.sub [] rfl) hK rfl hl.1 rfl (Nat.le_of_ble_eq_true rfl) ⟨Nat.le_of_ble_eq_true rfl, Nat.le_of_ble_eq_true rfl⟩ dX12_rests_53 (fun r_77 h_78 => ?_)
  obtain rfl : r_77 = 1 := h_78.trans (by decide)
  refine lv_icmp_ne (tgt := 63) hx hb dX12_rests_56 (by decide) (fun _ => ?_) (fun c0 => absurd c0 (by decide))
  refine lv_iconst (v := 0) hx hb dX12_rests_63 (by decide) ?_
  refine z_iadd (v := 0) hx hb dX12_rests_64 (by decide) ?_
  refine lv_istore_n (lv' := [(1, .int 0), (2, .int 9), (0, .ref m0)]) hx hb dX12_rests_65 rfl hl (by decide) rfl (fun ls hl => ?_)
  refine lv_iinc (v := 10) (lv' := [(2, .int 10), (1, .int 0), (0, .ref m0)]) hx hb dX12_rests_66 hl (k := 1) rfl (by decide) (by decide) rfl (fun ls hl => ?_)
  refine lv_goto (tgt := 4) hx hb dX12_rests_69 (by decide) ?_
  refine lv_iload_n hx hb dX12_rests_4 rfl (lv_at hl 0 rfl) ?_
  refine lv_bipush (v := 16) hx hb dX12_rests_5 (by decide) ?_
  refine lv_icmp_ge (tgt := 72) hx hb dX12_rests_7 (by decide) (fun c0 => absurd c0 (by decide)) (fun _ => ?_)
  refine lv_iload_n hx hb dX12_rests_10 rfl (lv_at hl 1 rfl) ?_
  refine lv_iload_n hx hb dX12_rests_11 rfl (lv_at hl 0 rfl) ?_
  refine lv_iconst (v := 4) hx hb dX12_rests_12 (by decide) ?_
  refine z_idiv (v := 2) hx hb dX12_rests_13 (by decide) (by decide) ?_
  refine lv_iload_n hx hb dX12_rests_14 rfl (lv_at hl 0 rfl) ?_
  refine lv_iconst (v := 4) hx hb dX12_rests_15 (by decide) ?_
  refine z_irem (v := 2) hx hb dX12_rests_16 (by decide) (by decide) ?_
  refine rosi (As := [.int 2, .int 2]) (rest := [.int 0]) ⟨hx, hb, hml, hown, hts⟩ (k_soundsBy l D cB cI cJ cZ cS cT 2 2 ) (csB (n := 2) (inr62 _ (List.mem_of_getElem? (i := 23) rfl)) (inr63 _ (List.mem_of_getElem? (i := 0) rfl)) (inr1 _ (List.mem_of_getElem? (i := 5) rfl)) (inr63 _ (List.mem_of_getElem? (i := 1) rfl)) (by decide +kernel) hts rfl rfl ⟨Nat.le_of_ble_eq_true rfl, Nat.le_of_ble_eq_true rfl⟩) (hP.sub [] rfl) hK rfl hl.1 rfl (Nat.le_of_ble_eq_true rfl) ⟨Nat.le_of_ble_eq_true rfl, Nat.le_of_ble_eq_true rfl⟩ dX12_rests_17 (fun r_79 h_80 => ?_)
  obtain rfl : r_79 = 0 := h_80.trans (by decide)
  refine lv_iload_n hx hb dX12_rests_20 rfl (lv_at hl 0 rfl) ?_
  refine lv_iconst (v := 4) hx hb dX12_rests_21 (by decide) ?_
  refine z_irem (v := 2) hx hb dX12_rests_22 (by decide) (by decide) ?_
  refine rosi (As := [.int 2]) (rest := [.int 0, .int 0]) ⟨hx, hb, hml, hown, hts⟩ (k_bestBy2 l D cB cI cJ cZ cS cT  ) (csB (n := 1) (inr63 _ (List.mem_of_getElem? (i := 2) rfl)) (inr63 _ (List.mem_of_getElem? (i := 3) rfl)) (inr1 _ (List.mem_of_getElem? (i := 5) rfl)) (inr63 _ (List.mem_of_getElem? (i := 4) rfl)) (by decide +kernel) hts rfl rfl ⟨Nat.le_of_ble_eq_true rfl, Nat.le_of_ble_eq_true rfl⟩) (hP.sub [] rfl) hK rfl hl.1 rfl (Nat.le_of_ble_eq_true rfl) ⟨Nat.le_of_ble_eq_true rfl, Nat.le_of_ble_eq_true rfl⟩ dX12_rests_23 (fun r_81 h_82 => ?_)
  obtain rfl := h_82
  refine lv_iload_n hx hb dX12_rests_26 rfl (lv_at hl 0 rfl) ?_
  refine lv_iconst (v := 4) hx hb dX12_rests_27 (by decide) ?_
  refine z_irem (v := 2) hx hb dX12_rests_28 (by decide) (by decide) ?_
  refine rosi (As := [.int 3, .int 2]) (rest := [.int 0, .int 0]) ⟨hx, hb, hml, hown, hts⟩ (k_soundsBy l D cB cI cJ cZ cS cT 3 2 ) (csB (n := 2) (inr62 _ (List.mem_of_getElem? (i := 23) rfl)) (inr63 _ (List.mem_of_getElem? (i := 0) rfl)) (inr1 _ (List.mem_of_getElem? (i := 5) rfl)) (inr63 _ (List.mem_of_getElem? (i := 1) rfl)) (by decide +kernel) hts rfl rfl ⟨Nat.le_of_ble_eq_true rfl, Nat.le_of_ble_eq_true rfl⟩) (hP.sub [] rfl) hK rfl hl.1 rfl (Nat.le_of_ble_eq_true rfl) ⟨Nat.le_of_ble_eq_true rfl, Nat.le_of_ble_eq_true rfl⟩ dX12_rests_29 (fun r_83 h_84 => ?_)
  obtain rfl : r_83 = 1 := h_84.trans (by decide)
  refine lv_icmp_ne (tgt := 63) hx hb dX12_rests_32 (by decide) (fun _ => ?_) (fun c0 => absurd c0 (by decide))
  refine lv_iconst (v := 0) hx hb dX12_rests_63 (by decide) ?_
  refine z_iadd (v := 0) hx hb dX12_rests_64 (by decide) ?_
  refine lv_istore_n (lv' := [(1, .int 0), (2, .int 10), (0, .ref m0)]) hx hb dX12_rests_65 rfl hl (by decide) rfl (fun ls hl => ?_)
  refine lv_iinc (v := 11) (lv' := [(2, .int 11), (1, .int 0), (0, .ref m0)]) hx hb dX12_rests_66 hl (k := 1) rfl (by decide) (by decide) rfl (fun ls hl => ?_)
  refine lv_goto (tgt := 4) hx hb dX12_rests_69 (by decide) ?_
  refine lv_iload_n hx hb dX12_rests_4 rfl (lv_at hl 0 rfl) ?_
  refine lv_bipush (v := 16) hx hb dX12_rests_5 (by decide) ?_
  refine lv_icmp_ge (tgt := 72) hx hb dX12_rests_7 (by decide) (fun c0 => absurd c0 (by decide)) (fun _ => ?_)
  refine lv_iload_n hx hb dX12_rests_10 rfl (lv_at hl 1 rfl) ?_
  refine lv_iload_n hx hb dX12_rests_11 rfl (lv_at hl 0 rfl) ?_
  refine lv_iconst (v := 4) hx hb dX12_rests_12 (by decide) ?_
  refine z_idiv (v := 2) hx hb dX12_rests_13 (by decide) (by decide) ?_
  refine lv_iload_n hx hb dX12_rests_14 rfl (lv_at hl 0 rfl) ?_
  refine lv_iconst (v := 4) hx hb dX12_rests_15 (by decide) ?_
  refine z_irem (v := 3) hx hb dX12_rests_16 (by decide) (by decide) ?_
  refine rosi (As := [.int 2, .int 3]) (rest := [.int 0]) ⟨hx, hb, hml, hown, hts⟩ (k_soundsBy l D cB cI cJ cZ cS cT 2 3 ) (csB (n := 2) (inr62 _ (List.mem_of_getElem? (i := 23) rfl)) (inr63 _ (List.mem_of_getElem? (i := 0) rfl)) (inr1 _ (List.mem_of_getElem? (i := 5) rfl)) (inr63 _ (List.mem_of_getElem? (i := 1) rfl)) (by decide +kernel) hts rfl rfl ⟨Nat.le_of_ble_eq_true rfl, Nat.le_of_ble_eq_true rfl⟩) (hP.sub [] rfl) hK rfl hl.1 rfl (Nat.le_of_ble_eq_true rfl) ⟨Nat.le_of_ble_eq_true rfl, Nat.le_of_ble_eq_true rfl⟩ dX12_rests_17 (fun r_85 h_86 => ?_)
  obtain rfl : r_85 = (-4) := h_86.trans (by decide)
  refine lv_iload_n hx hb dX12_rests_20 rfl (lv_at hl 0 rfl) ?_
  refine lv_iconst (v := 4) hx hb dX12_rests_21 (by decide) ?_
  refine z_irem (v := 3) hx hb dX12_rests_22 (by decide) (by decide) ?_
  refine rosi (As := [.int 3]) (rest := [.int (-4), .int 0]) ⟨hx, hb, hml, hown, hts⟩ (k_bestBy3 l D cB cI cJ cZ cS cT  ) (csB (n := 1) (inr63 _ (List.mem_of_getElem? (i := 2) rfl)) (inr63 _ (List.mem_of_getElem? (i := 3) rfl)) (inr1 _ (List.mem_of_getElem? (i := 5) rfl)) (inr63 _ (List.mem_of_getElem? (i := 4) rfl)) (by decide +kernel) hts rfl rfl ⟨Nat.le_of_ble_eq_true rfl, Nat.le_of_ble_eq_true rfl⟩) (hP.sub [] rfl) hK rfl hl.1 rfl (Nat.le_of_ble_eq_true rfl) ⟨Nat.le_of_ble_eq_true rfl, Nat.le_of_ble_eq_true rfl⟩ dX12_rests_23 (fun r_87 h_88 => ?_)
  obtain rfl := h_88
  refine lv_iload_n hx hb dX12_rests_26 rfl (lv_at hl 0 rfl) ?_
  refine lv_iconst (v := 4) hx hb dX12_rests_27 (by decide) ?_
  refine z_irem (v := 3) hx hb dX12_rests_28 (by decide) (by decide) ?_
  refine rosi (As := [.int 0, .int 3]) (rest := [.int (-4), .int 0]) ⟨hx, hb, hml, hown, hts⟩ (k_soundsBy l D cB cI cJ cZ cS cT 0 3 ) (csB (n := 2) (inr62 _ (List.mem_of_getElem? (i := 23) rfl)) (inr63 _ (List.mem_of_getElem? (i := 0) rfl)) (inr1 _ (List.mem_of_getElem? (i := 5) rfl)) (inr63 _ (List.mem_of_getElem? (i := 1) rfl)) (by decide +kernel) hts rfl rfl ⟨Nat.le_of_ble_eq_true rfl, Nat.le_of_ble_eq_true rfl⟩) (hP.sub [] rfl) hK rfl hl.1 rfl (Nat.le_of_ble_eq_true rfl) ⟨Nat.le_of_ble_eq_true rfl, Nat.le_of_ble_eq_true rfl⟩ dX12_rests_29 (fun r_89 h_90 => ?_)
  obtain rfl : r_89 = 0 := h_90.trans (by decide)
  refine lv_icmp_ne (tgt := 63) hx hb dX12_rests_32 (by decide) (fun _ => ?_) (fun c0 => absurd c0 (by decide))
  refine lv_iconst (v := 0) hx hb dX12_rests_63 (by decide) ?_
  refine z_iadd (v := 0) hx hb dX12_rests_64 (by decide) ?_
  refine lv_istore_n (lv' := [(1, .int 0), (2, .int 11), (0, .ref m0)]) hx hb dX12_rests_65 rfl hl (by decide) rfl (fun ls hl => ?_)
  refine lv_iinc (v := 12) (lv' := [(2, .int 12), (1, .int 0), (0, .ref m0)]) hx hb dX12_rests_66 hl (k := 1) rfl (by decide) (by decide) rfl (fun ls hl => ?_)
  refine lv_goto (tgt := 4) hx hb dX12_rests_69 (by decide) ?_
  refine lv_iload_n hx hb dX12_rests_4 rfl (lv_at hl 0 rfl) ?_
  refine lv_bipush (v := 16) hx hb dX12_rests_5 (by decide) ?_
  refine lv_icmp_ge (tgt := 72) hx hb dX12_rests_7 (by decide) (fun c0 => absurd c0 (by decide)) (fun _ => ?_)
  refine lv_iload_n hx hb dX12_rests_10 rfl (lv_at hl 1 rfl) ?_
  refine lv_iload_n hx hb dX12_rests_11 rfl (lv_at hl 0 rfl) ?_
  refine lv_iconst (v := 4) hx hb dX12_rests_12 (by decide) ?_
  refine z_idiv (v := 3) hx hb dX12_rests_13 (by decide) (by decide) ?_
  refine lv_iload_n hx hb dX12_rests_14 rfl (lv_at hl 0 rfl) ?_
  refine lv_iconst (v := 4) hx hb dX12_rests_15 (by decide) ?_
  refine z_irem (v := 0) hx hb dX12_rests_16 (by decide) (by decide) ?_
  refine rosi (As := [.int 3, .int 0]) (rest := [.int 0]) ⟨hx, hb, hml, hown, hts⟩ (k_soundsBy l D cB cI cJ cZ cS cT 3 0 ) (csB (n := 2) (inr62 _ (List.mem_of_getElem? (i := 23) rfl)) (inr63 _ (List.mem_of_getElem? (i := 0) rfl)) (inr1 _ (List.mem_of_getElem? (i := 5) rfl)) (inr63 _ (List.mem_of_getElem? (i := 1) rfl)) (by decide +kernel) hts rfl rfl ⟨Nat.le_of_ble_eq_true rfl, Nat.le_of_ble_eq_true rfl⟩) (hP.sub [] rfl) hK rfl hl.1 rfl (Nat.le_of_ble_eq_true rfl) ⟨Nat.le_of_ble_eq_true rfl, Nat.le_of_ble_eq_true rfl⟩ dX12_rests_17 (fun r_91 h_92 => ?_)
  obtain rfl : r_91 = 1 := h_92.trans (by decide)
  refine lv_iload_n hx hb dX12_rests_20 rfl (lv_at hl 0 rfl) ?_
  refine lv_iconst (v := 4) hx hb dX12_rests_21 (by decide) ?_
  refine z_irem (v := 0) hx hb dX12_rests_22 (by decide) (by decide) ?_
  refine rosi (As := [.int 0]) (rest := [.int 1, .int 0]) ⟨hx, hb, hml, hown, hts⟩ (k_bestBy0 l D cB cI cJ cZ cS cT  ) (csB (n := 1) (inr63 _ (List.mem_of_getElem? (i := 2) rfl)) (inr63 _ (List.mem_of_getElem? (i := 3) rfl)) (inr1 _ (List.mem_of_getElem? (i := 5) rfl)) (inr63 _ (List.mem_of_getElem? (i := 4) rfl)) (by decide +kernel) hts rfl rfl ⟨Nat.le_of_ble_eq_true rfl, Nat.le_of_ble_eq_true rfl⟩) (hP.sub [] rfl) hK rfl hl.1 rfl (Nat.le_of_ble_eq_true rfl) ⟨Nat.le_of_ble_eq_true rfl, Nat.le_of_ble_eq_true rfl⟩ dX12_rests_23 (fun r_93 h_94 => ?_)
  obtain rfl := h_94
  refine lv_iload_n hx hb dX12_rests_26 rfl (lv_at hl 0 rfl) ?_
  refine lv_iconst (v := 4) hx hb dX12_rests_27 (by decide) ?_
  refine z_irem (v := 0) hx hb dX12_rests_28 (by decide) (by decide) ?_
  refine rosi (As := [.int 1, .int 0]) (rest := [.int 1, .int 0]) ⟨hx, hb, hml, hown, hts⟩ (k_soundsBy l D cB cI cJ cZ cS cT 1 0 ) (csB (n := 2) (inr62 _ (List.mem_of_getElem? (i := 23) rfl)) (inr63 _ (List.mem_of_getElem? (i := 0) rfl)) (inr1 _ (List.mem_of_getElem? (i := 5) rfl)) (inr63 _ (List.mem_of_getElem? (i := 1) rfl)) (by decide +kernel) hts rfl rfl ⟨Nat.le_of_ble_eq_true rfl, Nat.le_of_ble_eq_true rfl⟩) (hP.sub [] rfl) hK rfl hl.1 rfl (Nat.le_of_ble_eq_true rfl) ⟨Nat.le_of_ble_eq_true rfl, Nat.le_of_ble_eq_true rfl⟩ dX12_rests_29 (fun r_95 h_96 => ?_)
  obtain rfl : r_95 = 9 := h_96.trans (by decide)
  refine lv_icmp_ne (tgt := 63) hx hb dX12_rests_32 (by decide) (fun _ => ?_) (fun c0 => absurd c0 (by decide))
  refine lv_iconst (v := 0) hx hb dX12_rests_63 (by decide) ?_
  refine z_iadd (v := 0) hx hb dX12_rests_64 (by decide) ?_
  refine lv_istore_n (lv' := [(1, .int 0), (2, .int 12), (0, .ref m0)]) hx hb dX12_rests_65 rfl hl (by decide) rfl (fun ls hl => ?_)
  refine lv_iinc (v := 13) (lv' := [(2, .int 13), (1, .int 0), (0, .ref m0)]) hx hb dX12_rests_66 hl (k := 1) rfl (by decide) (by decide) rfl (fun ls hl => ?_)
  refine lv_goto (tgt := 4) hx hb dX12_rests_69 (by decide) ?_
  refine lv_iload_n hx hb dX12_rests_4 rfl (lv_at hl 0 rfl) ?_
  refine lv_bipush (v := 16) hx hb dX12_rests_5 (by decide) ?_
  refine lv_icmp_ge (tgt := 72) hx hb dX12_rests_7 (by decide) (fun c0 => absurd c0 (by decide)) (fun _ => ?_)
  refine lv_iload_n hx hb dX12_rests_10 rfl (lv_at hl 1 rfl) ?_
  refine lv_iload_n hx hb dX12_rests_11 rfl (lv_at hl 0 rfl) ?_
  refine lv_iconst (v := 4) hx hb dX12_rests_12 (by decide) ?_
  refine z_idiv (v := 3) hx hb dX12_rests_13 (by decide) (by decide) ?_
  refine lv_iload_n hx hb dX12_rests_14 rfl (lv_at hl 0 rfl) ?_
  refine lv_iconst (v := 4) hx hb dX12_rests_15 (by decide) ?_
  refine z_irem (v := 1) hx hb dX12_rests_16 (by decide) (by decide) ?_
  refine rosi (As := [.int 3, .int 1]) (rest := [.int 0]) ⟨hx, hb, hml, hown, hts⟩ (k_soundsBy l D cB cI cJ cZ cS cT 3 1 ) (csB (n := 2) (inr62 _ (List.mem_of_getElem? (i := 23) rfl)) (inr63 _ (List.mem_of_getElem? (i := 0) rfl)) (inr1 _ (List.mem_of_getElem? (i := 5) rfl)) (inr63 _ (List.mem_of_getElem? (i := 1) rfl)) (by decide +kernel) hts rfl rfl ⟨Nat.le_of_ble_eq_true rfl, Nat.le_of_ble_eq_true rfl⟩) (hP.sub [] rfl) hK rfl hl.1 rfl (Nat.le_of_ble_eq_true rfl) ⟨Nat.le_of_ble_eq_true rfl, Nat.le_of_ble_eq_true rfl⟩ dX12_rests_17 (fun r_97 h_98 => ?_)
  obtain rfl : r_97 = 1 := h_98.trans (by decide)
  refine lv_iload_n hx hb dX12_rests_20 rfl (lv_at hl 0 rfl) ?_
  refine lv_iconst (v := 4) hx hb dX12_rests_21 (by decide) ?_
  refine z_irem (v := 1) hx hb dX12_rests_22 (by decide) (by decide) ?_
  refine rosi (As := [.int 1]) (rest := [.int 1, .int 0]) ⟨hx, hb, hml, hown, hts⟩ (k_bestBy1 l D cB cI cJ cZ cS cT  ) (csB (n := 1) (inr63 _ (List.mem_of_getElem? (i := 2) rfl)) (inr63 _ (List.mem_of_getElem? (i := 3) rfl)) (inr1 _ (List.mem_of_getElem? (i := 5) rfl)) (inr63 _ (List.mem_of_getElem? (i := 4) rfl)) (by decide +kernel) hts rfl rfl ⟨Nat.le_of_ble_eq_true rfl, Nat.le_of_ble_eq_true rfl⟩) (hP.sub [] rfl) hK rfl hl.1 rfl (Nat.le_of_ble_eq_true rfl) ⟨Nat.le_of_ble_eq_true rfl, Nat.le_of_ble_eq_true rfl⟩ dX12_rests_23 (fun r_99 h_100 => ?_)
  obtain rfl := h_100
  refine lv_iload_n hx hb dX12_rests_26 rfl (lv_at hl 0 rfl) ?_
  refine lv_iconst (v := 4) hx hb dX12_rests_27 (by decide) ?_
  refine z_irem (v := 1) hx hb dX12_rests_28 (by decide) (by decide) ?_
  refine rosi (As := [.int 2, .int 1]) (rest := [.int 1, .int 0]) ⟨hx, hb, hml, hown, hts⟩ (k_soundsBy l D cB cI cJ cZ cS cT 2 1 ) (csB (n := 2) (inr62 _ (List.mem_of_getElem? (i := 23) rfl)) (inr63 _ (List.mem_of_getElem? (i := 0) rfl)) (inr1 _ (List.mem_of_getElem? (i := 5) rfl)) (inr63 _ (List.mem_of_getElem? (i := 1) rfl)) (by decide +kernel) hts rfl rfl ⟨Nat.le_of_ble_eq_true rfl, Nat.le_of_ble_eq_true rfl⟩) (hP.sub [] rfl) hK rfl hl.1 rfl (Nat.le_of_ble_eq_true rfl) ⟨Nat.le_of_ble_eq_true rfl, Nat.le_of_ble_eq_true rfl⟩ dX12_rests_29 (fun r_101 h_102 => ?_)
  obtain rfl : r_101 = 6 := h_102.trans (by decide)
  refine lv_icmp_ne (tgt := 63) hx hb dX12_rests_32 (by decide) (fun _ => ?_) (fun c0 => absurd c0 (by decide))
  refine lv_iconst (v := 0) hx hb dX12_rests_63 (by decide) ?_
  refine z_iadd (v := 0) hx hb dX12_rests_64 (by decide) ?_
  refine lv_istore_n (lv' := [(1, .int 0), (2, .int 13), (0, .ref m0)]) hx hb dX12_rests_65 rfl hl (by decide) rfl (fun ls hl => ?_)
  refine lv_iinc (v := 14) (lv' := [(2, .int 14), (1, .int 0), (0, .ref m0)]) hx hb dX12_rests_66 hl (k := 1) rfl (by decide) (by decide) rfl (fun ls hl => ?_)
  refine lv_goto (tgt := 4) hx hb dX12_rests_69 (by decide) ?_
  refine lv_iload_n hx hb dX12_rests_4 rfl (lv_at hl 0 rfl) ?_
  refine lv_bipush (v := 16) hx hb dX12_rests_5 (by decide) ?_
  refine lv_icmp_ge (tgt := 72) hx hb dX12_rests_7 (by decide) (fun c0 => absurd c0 (by decide)) (fun _ => ?_)
  refine lv_iload_n hx hb dX12_rests_10 rfl (lv_at hl 1 rfl) ?_
  refine lv_iload_n hx hb dX12_rests_11 rfl (lv_at hl 0 rfl) ?_
  refine lv_iconst (v := 4) hx hb dX12_rests_12 (by decide) ?_
  refine z_idiv (v := 3) hx hb dX12_rests_13 (by decide) (by decide) ?_
  refine lv_iload_n hx hb dX12_rests_14 rfl (lv_at hl 0 rfl) ?_
  refine lv_iconst (v := 4) hx hb dX12_rests_15 (by decide) ?_
  refine z_irem (v := 2) hx hb dX12_rests_16 (by decide) (by decide) ?_
  refine rosi (As := [.int 3, .int 2]) (rest := [.int 0]) ⟨hx, hb, hml, hown, hts⟩ (k_soundsBy l D cB cI cJ cZ cS cT 3 2 ) (csB (n := 2) (inr62 _ (List.mem_of_getElem? (i := 23) rfl)) (inr63 _ (List.mem_of_getElem? (i := 0) rfl)) (inr1 _ (List.mem_of_getElem? (i := 5) rfl)) (inr63 _ (List.mem_of_getElem? (i := 1) rfl)) (by decide +kernel) hts rfl rfl ⟨Nat.le_of_ble_eq_true rfl, Nat.le_of_ble_eq_true rfl⟩) (hP.sub [] rfl) hK rfl hl.1 rfl (Nat.le_of_ble_eq_true rfl) ⟨Nat.le_of_ble_eq_true rfl, Nat.le_of_ble_eq_true rfl⟩ dX12_rests_17 (fun r_103 h_104 => ?_)
  obtain rfl : r_103 = 1 := h_104.trans (by decide)
  refine lv_iload_n hx hb dX12_rests_20 rfl (lv_at hl 0 rfl) ?_
  refine lv_iconst (v := 4) hx hb dX12_rests_21 (by decide) ?_
  refine z_irem (v := 2) hx hb dX12_rests_22 (by decide) (by decide) ?_
  refine rosi (As := [.int 2]) (rest := [.int 1, .int 0]) ⟨hx, hb, hml, hown, hts⟩ (k_bestBy2 l D cB cI cJ cZ cS cT  ) (csB (n := 1) (inr63 _ (List.mem_of_getElem? (i := 2) rfl)) (inr63 _ (List.mem_of_getElem? (i := 3) rfl)) (inr1 _ (List.mem_of_getElem? (i := 5) rfl)) (inr63 _ (List.mem_of_getElem? (i := 4) rfl)) (by decide +kernel) hts rfl rfl ⟨Nat.le_of_ble_eq_true rfl, Nat.le_of_ble_eq_true rfl⟩) (hP.sub [] rfl) hK rfl hl.1 rfl (Nat.le_of_ble_eq_true rfl) ⟨Nat.le_of_ble_eq_true rfl, Nat.le_of_ble_eq_true rfl⟩ dX12_rests_23 (fun r_105 h_106 => ?_)
  obtain rfl := h_106
  refine lv_iload_n hx hb dX12_rests_26 rfl (lv_at hl 0 rfl) ?_
  refine lv_iconst (v := 4) hx hb dX12_rests_27 (by decide) ?_
  refine z_irem (v := 2) hx hb dX12_rests_28 (by decide) (by decide) ?_
  refine rosi (As := [.int 3, .int 2]) (rest := [.int 1, .int 0]) ⟨hx, hb, hml, hown, hts⟩ (k_soundsBy l D cB cI cJ cZ cS cT 3 2 ) (csB (n := 2) (inr62 _ (List.mem_of_getElem? (i := 23) rfl)) (inr63 _ (List.mem_of_getElem? (i := 0) rfl)) (inr1 _ (List.mem_of_getElem? (i := 5) rfl)) (inr63 _ (List.mem_of_getElem? (i := 1) rfl)) (by decide +kernel) hts rfl rfl ⟨Nat.le_of_ble_eq_true rfl, Nat.le_of_ble_eq_true rfl⟩) (hP.sub [] rfl) hK rfl hl.1 rfl (Nat.le_of_ble_eq_true rfl) ⟨Nat.le_of_ble_eq_true rfl, Nat.le_of_ble_eq_true rfl⟩ dX12_rests_29 (fun r_107 h_108 => ?_)
  obtain rfl : r_107 = 1 := h_108.trans (by decide)
  refine lv_icmp_ne (tgt := 63) hx hb dX12_rests_32 (by decide) (fun c0 => absurd c0 (by decide)) (fun _ => ?_)
  refine lv_iload_n hx hb dX12_rests_35 rfl (lv_at hl 0 rfl) ?_
  refine lv_iconst (v := 4) hx hb dX12_rests_36 (by decide) ?_
  refine z_irem (v := 2) hx hb dX12_rests_37 (by decide) (by decide) ?_
  refine lv_iload_n hx hb dX12_rests_38 rfl (lv_at hl 0 rfl) ?_
  refine lv_iconst (v := 4) hx hb dX12_rests_39 (by decide) ?_
  refine z_idiv (v := 3) hx hb dX12_rests_40 (by decide) (by decide) ?_
  refine rosi (As := [.int 2, .int 3]) (rest := [.int 0]) ⟨hx, hb, hml, hown, hts⟩ (k_soundsBy l D cB cI cJ cZ cS cT 2 3 ) (csB (n := 2) (inr62 _ (List.mem_of_getElem? (i := 23) rfl)) (inr63 _ (List.mem_of_getElem? (i := 0) rfl)) (inr1 _ (List.mem_of_getElem? (i := 5) rfl)) (inr63 _ (List.mem_of_getElem? (i := 1) rfl)) (by decide +kernel) hts rfl rfl ⟨Nat.le_of_ble_eq_true rfl, Nat.le_of_ble_eq_true rfl⟩) (hP.sub [] rfl) hK rfl hl.1 rfl (Nat.le_of_ble_eq_true rfl) ⟨Nat.le_of_ble_eq_true rfl, Nat.le_of_ble_eq_true rfl⟩ dX12_rests_41 (fun r_109 h_110 => ?_)
  obtain rfl : r_109 = (-4) := h_110.trans (by decide)
  refine lv_iload_n hx hb dX12_rests_44 rfl (lv_at hl 0 rfl) ?_
  refine lv_iconst (v := 4) hx hb dX12_rests_45 (by decide) ?_
  refine z_idiv (v := 3) hx hb dX12_rests_46 (by decide) (by decide) ?_
  refine rosi (As := [.int 3]) (rest := [.int (-4), .int 0]) ⟨hx, hb, hml, hown, hts⟩ (k_bestBy3 l D cB cI cJ cZ cS cT  ) (csB (n := 1) (inr63 _ (List.mem_of_getElem? (i := 2) rfl)) (inr63 _ (List.mem_of_getElem? (i := 3) rfl)) (inr1 _ (List.mem_of_getElem? (i := 5) rfl)) (inr63 _ (List.mem_of_getElem? (i := 4) rfl)) (by decide +kernel) hts rfl rfl ⟨Nat.le_of_ble_eq_true rfl, Nat.le_of_ble_eq_true rfl⟩) (hP.sub [] rfl) hK rfl hl.1 rfl (Nat.le_of_ble_eq_true rfl) ⟨Nat.le_of_ble_eq_true rfl, Nat.le_of_ble_eq_true rfl⟩ dX12_rests_47 (fun r_111 h_112 => ?_)
  obtain rfl := h_112
  refine lv_iload_n hx hb dX12_rests_50 rfl (lv_at hl 0 rfl) ?_
  refine lv_iconst (v := 4) hx hb dX12_rests_51 (by decide) ?_
  refine z_idiv (v := 3) hx hb dX12_rests_52 (by decide) (by decide) ?_
  refine rosi (As := [.int 0, .int 3]) (rest := [.int (-4), .int 0]) ⟨hx, hb, hml, hown, hts⟩ (k_soundsBy l D cB cI cJ cZ cS cT 0 3 ) (csB (n := 2) (inr62 _ (List.mem_of_getElem? (i := 23) rfl)) (inr63 _ (List.mem_of_getElem? (i := 0) rfl)) (inr1 _ (List.mem_of_getElem? (i := 5) rfl)) (inr63 _ (List.mem_of_getElem? (i := 1) rfl)) (by decide +kernel) hts rfl rfl ⟨Nat.le_of_ble_eq_true rfl, Nat.le_of_ble_eq_true rfl⟩) (hP.sub [] rfl) hK rfl hl.1 rfl (Nat.le_of_ble_eq_true rfl) ⟨Nat.le_of_ble_eq_true rfl, Nat.le_of_ble_eq_true rfl⟩ dX12_rests_53 (fun r_113 h_114 => ?_)
  obtain rfl : r_113 = 0 := h_114.trans (by decide)
  refine lv_icmp_ne (tgt := 63) hx hb dX12_rests_56 (by decide) (fun _ => ?_) (fun c0 => absurd c0 (by decide))
  refine lv_iconst (v := 0) hx hb dX12_rests_63 (by decide) ?_
  refine z_iadd (v := 0) hx hb dX12_rests_64 (by decide) ?_
  refine lv_istore_n (lv' := [(1, .int 0), (2, .int 14), (0, .ref m0)]) hx hb dX12_rests_65 rfl hl (by decide) rfl (fun ls hl => ?_)
  refine lv_iinc (v := 15) (lv' := [(2, .int 15), (1, .int 0), (0, .ref m0)]) hx hb dX12_rests_66 hl (k := 1) rfl (by decide) (by decide) rfl (fun ls hl => ?_)
  refine lv_goto (tgt := 4) hx hb dX12_rests_69 (by decide) ?_
  refine lv_iload_n hx hb dX12_rests_4 rfl (lv_at hl 0 rfl) ?_
  refine lv_bipush (v := 16) hx hb dX12_rests_5 (by decide) ?_
  refine lv_icmp_ge (tgt := 72) hx hb dX12_rests_7 (by decide) (fun c0 => absurd c0 (by decide)) (fun _ => ?_)
  refine lv_iload_n hx hb dX12_rests_10 rfl (lv_at hl 1 rfl) ?_
  refine lv_iload_n hx hb dX12_rests_11 rfl (lv_at hl 0 rfl) ?_
  refine lv_iconst (v := 4) hx hb dX12_rests_12 (by decide) ?_
  refine z_idiv (v := 3) hx hb dX12_rests_13 (by decide) (by decide) ?_
  refine lv_iload_n hx hb dX12_rests_14 rfl (lv_at hl 0 rfl) ?_
  refine lv_iconst (v := 4) hx hb dX12_rests_15 (by decide) ?_
  refine z_irem (v := 3) hx hb dX12_rests_16 (by decide) (by decide) ?_
  refine rosi (As := [.int 3, .int 3]) (rest := [.int 0]) ⟨hx, hb, hml, hown, hts⟩ (k_soundsBy l D cB cI cJ cZ cS cT 3 3 ) (csB (n := 2) (inr62 _ (List.mem_of_getElem? (i := 23) rfl)) (inr63 _ (List.mem_of_getElem? (i := 0) rfl)) (inr1 _ (List.mem_of_getElem? (i := 5) rfl)) (inr63 _ (List.mem_of_getElem? (i := 1) rfl)) (by decide +kernel) hts rfl rfl ⟨Nat.le_of_ble_eq_true rfl, Nat.le_of_ble_eq_true rfl⟩) (hP.sub [] rfl) hK rfl hl.1 rfl (Nat.le_of_ble_eq_true rfl) ⟨Nat.le_of_ble_eq_true rfl, Nat.le_of_ble_eq_true rfl⟩ dX12_rests_17 (fun r_115 h_116 => ?_)
  obtain rfl : r_115 = (-5) := h_116.trans (by decide)
  refine lv_iload_n hx hb dX12_rests_20 rfl (lv_at hl 0 rfl) ?_
  refine lv_iconst (v := 4) hx hb dX12_rests_21 (by decide) ?_
  refine z_irem (v := 3) hx hb dX12_rests_22 (by decide) (by decide) ?_
  refine rosi (As := [.int 3]) (rest := [.int (-5), .int 0]) ⟨hx, hb, hml, hown, hts⟩ (k_bestBy3 l D cB cI cJ cZ cS cT  ) (csB (n := 1) (inr63 _ (List.mem_of_getElem? (i := 2) rfl)) (inr63 _ (List.mem_of_getElem? (i := 3) rfl)) (inr1 _ (List.mem_of_getElem? (i := 5) rfl)) (inr63 _ (List.mem_of_getElem? (i := 4) rfl)) (by decide +kernel) hts rfl rfl ⟨Nat.le_of_ble_eq_true rfl, Nat.le_of_ble_eq_true rfl⟩) (hP.sub [] rfl) hK rfl hl.1 rfl (Nat.le_of_ble_eq_true rfl) ⟨Nat.le_of_ble_eq_true rfl, Nat.le_of_ble_eq_true rfl⟩ dX12_rests_23 (fun r_117 h_118 => ?_)
  obtain rfl := h_118
  refine lv_iload_n hx hb dX12_rests_26 rfl (lv_at hl 0 rfl) ?_
  refine lv_iconst (v := 4) hx hb dX12_rests_27 (by decide) ?_
  refine z_irem (v := 3) hx hb dX12_rests_28 (by decide) (by decide) ?_
  refine rosi (As := [.int 0, .int 3]) (rest := [.int (-5), .int 0]) ⟨hx, hb, hml, hown, hts⟩ (k_soundsBy l D cB cI cJ cZ cS cT 0 3 ) (csB (n := 2) (inr62 _ (List.mem_of_getElem? (i := 23) rfl)) (inr63 _ (List.mem_of_getElem? (i := 0) rfl)) (inr1 _ (List.mem_of_getElem? (i := 5) rfl)) (inr63 _ (List.mem_of_getElem? (i := 1) rfl)) (by decide +kernel) hts rfl rfl ⟨Nat.le_of_ble_eq_true rfl, Nat.le_of_ble_eq_true rfl⟩) (hP.sub [] rfl) hK rfl hl.1 rfl (Nat.le_of_ble_eq_true rfl) ⟨Nat.le_of_ble_eq_true rfl, Nat.le_of_ble_eq_true rfl⟩ dX12_rests_29 (fun r_119 h_120 => ?_)
  obtain rfl : r_119 = 0 := h_120.trans (by decide)
  refine lv_icmp_ne (tgt := 63) hx hb dX12_rests_32 (by decide) (fun _ => ?_) (fun c0 => absurd c0 (by decide))
  refine lv_iconst (v := 0) hx hb dX12_rests_63 (by decide) ?_
  refine z_iadd (v := 0) hx hb dX12_rests_64 (by decide) ?_
  refine lv_istore_n (lv' := [(1, .int 0), (2, .int 15), (0, .ref m0)]) hx hb dX12_rests_65 rfl hl (by decide) rfl (fun ls hl => ?_)
  refine lv_iinc (v := 16) (lv' := [(2, .int 16), (1, .int 0), (0, .ref m0)]) hx hb dX12_rests_66 hl (k := 1) rfl (by decide) (by decide) rfl (fun ls hl => ?_)
  refine lv_goto (tgt := 4) hx hb dX12_rests_69 (by decide) ?_
  refine lv_iload_n hx hb dX12_rests_4 rfl (lv_at hl 0 rfl) ?_
  refine lv_bipush (v := 16) hx hb dX12_rests_5 (by decide) ?_
  refine lv_icmp_ge (tgt := 72) hx hb dX12_rests_7 (by decide) (fun _ => ?_) (fun c0 => absurd c0 (by decide))
  refine lv_iload_n hx hb dX12_rests_72 rfl (lv_at hl 1 rfl) ?_
  exact W.iret (v := 0) hx hb hr (fun t ht hW => ⟨_, rfl, rfl, ht⟩) (fun _ h => by cases h) dX12_rests_73

set_option maxHeartbeats 4000000 in
set_option maxRecDepth 100000 in
theorem km_sounds (l : Launch) (D : va_G) (cB cI cJ cZ cS cT : ClassId) (m0 : Nat) (m_world : Nat) (m_images : Nat) (m_hasImage : Nat) (m_tape : Nat) (m_five : Nat) (m_fresh : Nat) (m_spokenAt : Nat) (m_heardAt : Nat) (m_lastAt : Nat) (m_answerAt : Nat) (m_heardNow : Nat) (m_seenAt : Nat) (m_fewest : Nat) (m_costNow : Nat) (m_costThen : Nat) (m_lawsOf : Nat) (m_heardBy : Nat) (m_placesOf : Nat) (m_sentIn : Nat) (m_lostBy : Nat) (m_many : Nat) (m_width : Nat) (m_numbers : Nat) (m_moving : Nat) (a1 : Int32) (a2 : Int32)  : Met l yX12_sounds (Cond.code yX12_sounds cX12_sounds 3 (some .int) :: wsL_law) ({ frames := 1, cells := 0, slots := 0, locals := 25 }) (roP D (tyL cB cI cJ cZ cS cT) [(m0, .inr (12, [.int 0, .ref m_world, .ref m_images, .ref m_hasImage, .ref m_tape, .int 0, .ref m_five, .int 0, .int 0, .int 0, .int 0, .int 0, .int 0, .int (-1), .ref m_fresh, .ref m_spokenAt, .ref m_heardAt, .ref m_lastAt, .ref m_answerAt, .int 0, .int 0, .int 0, .long 0, .int 0, .int 0, .ref m_heardNow, .ref m_seenAt, .int 0, .int 0, .int 0, .int 0, .int 0, .ref m_fewest, .ref m_costNow, .ref m_costThen, .ref m_lawsOf, .ref m_heardBy, .int 0, .int 0, .ref m_placesOf, .ref m_sentIn, .int 0, .int 0, .ref m_lostBy, .ref m_many, .ref m_width, .ref m_numbers, .ref m_moving]))] [.ref m0, .int a1, .int a2]) (vp_Si (fun r : Int32 => r = S_sounds a1 a2)) 0 0 (fun _ => False) := by
  refine Met.ofW (cc := cX12_sounds) (maxL := 3) (ret := (some .int)) (by decide) rfl ?_
  intro p e s m args below meth c s₁ B hml hv
  obtain ⟨rfl, hP, hK⟩ := hv
  have hx := B.exec
  have hb := B.bytes
  have hr := B.returns
  have hts : ∀ w ∈ wsL_law, w.before ([.ref m0, .int a1, .int a2] : List Value).toArray s = true := fun w h => atoms_spec (ws := Cond.code yX12_sounds cX12_sounds 3 (some .int) :: wsL_law) B.pre w (List.mem_cons_of_mem _ h)
  have hown : s.vm.findClass RX12 = some m.cls := findClass_of_methodNamed B.named
  have hlocks := B.notSynchronized
  have hl := lv_entry ([.ref m0, .int a1, .int a2]) (n := 3) (Nat.le_of_ble_eq_true rfl)
  rw [lg_entry_eq]
  generalize (lg_sl ([.ref m0, .int a1, .int a2]) ++ List.replicate (3 - (lg_sl ([.ref m0, .int a1, .int a2])).length) Slot.unset).toArray = ls at hl ⊢
  have hl : lv_has ls 3 [(0, .ref m0), (1, .int a1), (2, .int a2)] := hl
  have hP : va_P D vwCl [(m0, .inr (12, [.int 0, .ref m_world, .ref m_images, .ref m_hasImage, .ref m_tape, .int 0, .ref m_five, .int 0, .int 0, .int 0, .int 0, .int 0, .int 0, .int (-1), .ref m_fresh, .ref m_spokenAt, .ref m_heardAt, .ref m_lastAt, .ref m_answerAt, .int 0, .int 0, .int 0, .long 0, .int 0, .int 0, .ref m_heardNow, .ref m_seenAt, .int 0, .int 0, .int 0, .int 0, .int 0, .ref m_fewest, .ref m_costNow, .ref m_costThen, .ref m_lawsOf, .ref m_heardBy, .int 0, .int 0, .ref m_placesOf, .ref m_sentIn, .int 0, .int 0, .ref m_lostBy, .ref m_many, .ref m_width, .ref m_numbers, .ref m_moving]))] s.heap := hP
  refine lv_iload_n hx hb dX12_sounds_0 rfl (lv_at hl 1 rfl) ?_
  obtain ⟨t_1, et_1⟩ : ∃ v9 : Int64, (a1 : Int32).toInt64 = v9 := ⟨_, rfl⟩
  refine lv_i2l (v := t_1) hx hb dX12_sounds_1 et_1 ?_
  have ft_1 : t_1.toInt = a1.toInt := by rw [← et_1]; exact Int32.toInt_toInt64 _
  refine lv_lconst (v := 0) hx hb dX12_sounds_2 (by decide) ?_
  refine lv_ldc2 hx hb hown (hts _ (inr54 _ (List.mem_of_getElem? (i := 7) rfl))) dX12_sounds_3 ?_
  refine rosi (As := [.long t_1, .long 0, .long 3]) (rest := []) ⟨hx, hb, hml, hown, hts⟩ (k_in l D cB cI cJ cZ cS cT t_1 0 3 ) (csB (n := 3) (inr9 _ (List.mem_of_getElem? (i := 3) rfl)) (inr9 _ (List.mem_of_getElem? (i := 4) rfl)) (inr1 _ (List.mem_of_getElem? (i := 5) rfl)) (inr9 _ (List.mem_of_getElem? (i := 5) rfl)) (by decide +kernel) hts rfl rfl ⟨Nat.le_of_ble_eq_true rfl, Nat.le_of_ble_eq_true rfl⟩) (hP.sub [] rfl) hK rfl hl.1 rfl (Nat.le_of_ble_eq_true rfl) ⟨Nat.le_of_ble_eq_true rfl, Nat.le_of_ble_eq_true rfl⟩ dX12_sounds_6 (fun r_2 h_3 => ?_)
  rcases h_3 with ⟨rfl, k_4⟩ | ⟨rfl, k_4⟩
  · have k_4 : t_1.toInt < 0 ∨ 3 < t_1.toInt := k_4
    refine lv_if_eq (tgt := 32) hx hb dX12_sounds_9 (by decide) (fun _ => ?_) (fun c0 => absurd c0 (by decide))
    refine lv_sipush (v := (-1000)) hx hb dX12_sounds_32 (by decide) ?_
    exact W.iret (v := (-1000)) hx hb hr (fun t ht hW => ⟨_, rfl, (by subst_vars; unfold S_sounds; split <;> first | rfl | (exfalso; omega)), ht⟩) (fun _ h => by cases h) dX12_sounds_35
  · have k_4 : 0 ≤ t_1.toInt ∧ t_1.toInt ≤ 3 := k_4
    refine lv_if_eq (tgt := 32) hx hb dX12_sounds_9 (by decide) (fun c0 => absurd c0 (by decide)) (fun _ => ?_)
    refine lv_iload_n hx hb dX12_sounds_12 rfl (lv_at hl 2 rfl) ?_
    obtain ⟨t_5, et_5⟩ : ∃ v9 : Int64, (a2 : Int32).toInt64 = v9 := ⟨_, rfl⟩
    refine lv_i2l (v := t_5) hx hb dX12_sounds_13 et_5 ?_
    have ft_5 : t_5.toInt = a2.toInt := by rw [← et_5]; exact Int32.toInt_toInt64 _
    refine lv_lconst (v := 0) hx hb dX12_sounds_14 (by decide) ?_
    refine lv_ldc2 hx hb hown (hts _ (inr54 _ (List.mem_of_getElem? (i := 7) rfl))) dX12_sounds_15 ?_
    refine rosi (As := [.long t_5, .long 0, .long 3]) (rest := []) ⟨hx, hb, hml, hown, hts⟩ (k_in l D cB cI cJ cZ cS cT t_5 0 3 ) (csB (n := 3) (inr9 _ (List.mem_of_getElem? (i := 3) rfl)) (inr9 _ (List.mem_of_getElem? (i := 4) rfl)) (inr1 _ (List.mem_of_getElem? (i := 5) rfl)) (inr9 _ (List.mem_of_getElem? (i := 5) rfl)) (by decide +kernel) hts rfl rfl ⟨Nat.le_of_ble_eq_true rfl, Nat.le_of_ble_eq_true rfl⟩) (hP.sub [] rfl) hK rfl hl.1 rfl (Nat.le_of_ble_eq_true rfl) ⟨Nat.le_of_ble_eq_true rfl, Nat.le_of_ble_eq_true rfl⟩ dX12_sounds_18 (fun r_6 h_7 => ?_)
    rcases h_7 with ⟨rfl, k_8⟩ | ⟨rfl, k_8⟩
    · have k_8 : t_5.toInt < 0 ∨ 3 < t_5.toInt := k_8
      refine lv_if_eq (tgt := 32) hx hb dX12_sounds_21 (by decide) (fun _ => ?_) (fun c0 => absurd c0 (by decide))
      refine lv_sipush (v := (-1000)) hx hb dX12_sounds_32 (by decide) ?_
      exact W.iret (v := (-1000)) hx hb hr (fun t ht hW => ⟨_, rfl, (by subst_vars; unfold S_sounds; split <;> first | rfl | (exfalso; omega)), ht⟩) (fun _ h => by cases h) dX12_sounds_35
    · have k_8 : 0 ≤ t_5.toInt ∧ t_5.toInt ≤ 3 := k_8
      refine lv_if_eq (tgt := 32) hx hb dX12_sounds_21 (by decide) (fun c0 => absurd c0 (by decide)) (fun _ => ?_)
      refine lv_iload_n hx hb dX12_sounds_24 rfl (lv_at hl 1 rfl) ?_
      refine lv_iload_n hx hb dX12_sounds_25 rfl (lv_at hl 2 rfl) ?_
      refine rosi (As := [.int a1, .int a2]) (rest := []) ⟨hx, hb, hml, hown, hts⟩ (k_soundsBy l D cB cI cJ cZ cS cT a1 a2 ) (csB (n := 2) (inr62 _ (List.mem_of_getElem? (i := 23) rfl)) (inr63 _ (List.mem_of_getElem? (i := 0) rfl)) (inr1 _ (List.mem_of_getElem? (i := 5) rfl)) (inr63 _ (List.mem_of_getElem? (i := 1) rfl)) (by decide +kernel) hts rfl rfl ⟨Nat.le_of_ble_eq_true rfl, Nat.le_of_ble_eq_true rfl⟩) (hP.sub [] rfl) hK rfl hl.1 rfl (Nat.le_of_ble_eq_true rfl) ⟨Nat.le_of_ble_eq_true rfl, Nat.le_of_ble_eq_true rfl⟩ dX12_sounds_26 (fun r_9 h_10 => ?_)
      refine lv_goto (tgt := 35) hx hb dX12_sounds_29 (by decide) ?_
      exact W.iret (v := r_9) hx hb hr (fun t ht hW => ⟨_, rfl, (by subst_vars; unfold S_sounds; split <;> first | rfl | (exfalso; omega)), ht⟩) (fun _ h => by cases h) dX12_sounds_35

set_option maxHeartbeats 4000000 in
set_option maxRecDepth 100000 in
theorem km_best (l : Launch) (D : va_G) (cB cI cJ cZ cS cT : ClassId) (m0 : Nat) (m_world : Nat) (m_images : Nat) (m_hasImage : Nat) (m_tape : Nat) (m_five : Nat) (m_fresh : Nat) (m_spokenAt : Nat) (m_heardAt : Nat) (m_lastAt : Nat) (m_answerAt : Nat) (m_heardNow : Nat) (m_seenAt : Nat) (m_fewest : Nat) (m_costNow : Nat) (m_costThen : Nat) (m_lawsOf : Nat) (m_heardBy : Nat) (m_placesOf : Nat) (m_sentIn : Nat) (m_lostBy : Nat) (m_many : Nat) (m_width : Nat) (m_numbers : Nat) (m_moving : Nat) (a1 : Int32)  : Met l yX12_best (Cond.code yX12_best cX12_best 2 (some .int) :: wsL_law) ({ frames := 2, cells := 0, slots := 0, locals := 43 }) (roP D (tyL cB cI cJ cZ cS cT) [(m0, .inr (12, [.int 0, .ref m_world, .ref m_images, .ref m_hasImage, .ref m_tape, .int 0, .ref m_five, .int 0, .int 0, .int 0, .int 0, .int 0, .int 0, .int (-1), .ref m_fresh, .ref m_spokenAt, .ref m_heardAt, .ref m_lastAt, .ref m_answerAt, .int 0, .int 0, .int 0, .long 0, .int 0, .int 0, .ref m_heardNow, .ref m_seenAt, .int 0, .int 0, .int 0, .int 0, .int 0, .ref m_fewest, .ref m_costNow, .ref m_costThen, .ref m_lawsOf, .ref m_heardBy, .int 0, .int 0, .ref m_placesOf, .ref m_sentIn, .int 0, .int 0, .ref m_lostBy, .ref m_many, .ref m_width, .ref m_numbers, .ref m_moving]))] [.ref m0, .int a1]) (vp_Si (fun r : Int32 => r = S_best a1)) 0 0 (fun _ => False) := by
  refine Met.ofW (cc := cX12_best) (maxL := 2) (ret := (some .int)) (by decide) rfl ?_
  intro p e s m args below meth c s₁ B hml hv
  obtain ⟨rfl, hP, hK⟩ := hv
  have hx := B.exec
  have hb := B.bytes
  have hr := B.returns
  have hts : ∀ w ∈ wsL_law, w.before ([.ref m0, .int a1] : List Value).toArray s = true := fun w h => atoms_spec (ws := Cond.code yX12_best cX12_best 2 (some .int) :: wsL_law) B.pre w (List.mem_cons_of_mem _ h)
  have hown : s.vm.findClass RX12 = some m.cls := findClass_of_methodNamed B.named
  have hlocks := B.notSynchronized
  have hl := lv_entry ([.ref m0, .int a1]) (n := 2) (Nat.le_of_ble_eq_true rfl)
  rw [lg_entry_eq]
  generalize (lg_sl ([.ref m0, .int a1]) ++ List.replicate (2 - (lg_sl ([.ref m0, .int a1])).length) Slot.unset).toArray = ls at hl ⊢
  have hl : lv_has ls 2 [(0, .ref m0), (1, .int a1)] := hl
  have hP : va_P D vwCl [(m0, .inr (12, [.int 0, .ref m_world, .ref m_images, .ref m_hasImage, .ref m_tape, .int 0, .ref m_five, .int 0, .int 0, .int 0, .int 0, .int 0, .int 0, .int (-1), .ref m_fresh, .ref m_spokenAt, .ref m_heardAt, .ref m_lastAt, .ref m_answerAt, .int 0, .int 0, .int 0, .long 0, .int 0, .int 0, .ref m_heardNow, .ref m_seenAt, .int 0, .int 0, .int 0, .int 0, .int 0, .ref m_fewest, .ref m_costNow, .ref m_costThen, .ref m_lawsOf, .ref m_heardBy, .int 0, .int 0, .ref m_placesOf, .ref m_sentIn, .int 0, .int 0, .ref m_lostBy, .ref m_many, .ref m_width, .ref m_numbers, .ref m_moving]))] s.heap := hP
  refine lv_iload_n hx hb dX12_best_0 rfl (lv_at hl 1 rfl) ?_
  obtain ⟨t_1, et_1⟩ : ∃ v9 : Int64, (a1 : Int32).toInt64 = v9 := ⟨_, rfl⟩
  refine lv_i2l (v := t_1) hx hb dX12_best_1 et_1 ?_
  have ft_1 : t_1.toInt = a1.toInt := by rw [← et_1]; exact Int32.toInt_toInt64 _
  refine lv_lconst (v := 0) hx hb dX12_best_2 (by decide) ?_
  refine lv_ldc2 hx hb hown (hts _ (inr54 _ (List.mem_of_getElem? (i := 7) rfl))) dX12_best_3 ?_
  refine rosi (As := [.long t_1, .long 0, .long 3]) (rest := []) ⟨hx, hb, hml, hown, hts⟩ (k_in l D cB cI cJ cZ cS cT t_1 0 3 ) (csB (n := 3) (inr9 _ (List.mem_of_getElem? (i := 3) rfl)) (inr9 _ (List.mem_of_getElem? (i := 4) rfl)) (inr1 _ (List.mem_of_getElem? (i := 5) rfl)) (inr9 _ (List.mem_of_getElem? (i := 5) rfl)) (by decide +kernel) hts rfl rfl ⟨Nat.le_of_ble_eq_true rfl, Nat.le_of_ble_eq_true rfl⟩) (hP.sub [] rfl) hK rfl hl.1 rfl (Nat.le_of_ble_eq_true rfl) ⟨Nat.le_of_ble_eq_true rfl, Nat.le_of_ble_eq_true rfl⟩ dX12_best_6 (fun r_2 h_3 => ?_)
  rcases h_3 with ⟨rfl, k_4⟩ | ⟨rfl, k_4⟩
  · have k_4 : t_1.toInt < 0 ∨ 3 < t_1.toInt := k_4
    refine lv_if_eq (tgt := 19) hx hb dX12_best_9 (by decide) (fun _ => ?_) (fun c0 => absurd c0 (by decide))
    refine lv_bipush (v := (-2)) hx hb dX12_best_19 (by decide) ?_
    exact W.iret (v := (-2)) hx hb hr (fun t ht hW => ⟨_, rfl, (by unfold S_best; repeat' split <;> first | rfl | (exfalso; omega)), ht⟩) (fun _ h => by cases h) dX12_best_21
  · have k_4 : 0 ≤ t_1.toInt ∧ t_1.toInt ≤ 3 := k_4
    refine lv_if_eq (tgt := 19) hx hb dX12_best_9 (by decide) (fun c0 => absurd c0 (by decide)) (fun _ => ?_)
    rcases in4 (x := a1) (by omega) (by omega) with rfl | rfl | rfl | rfl
    · have hl : lv_has ls 2 [(0, .ref m0), (1, .int 0)] := hl
      refine lv_iload_n hx hb dX12_best_12 rfl (lv_at hl 1 rfl) ?_
      refine rosi (As := [.int 0]) (rest := []) ⟨hx, hb, hml, hown, hts⟩ (k_bestBy0 l D cB cI cJ cZ cS cT  ) (csB (n := 1) (inr63 _ (List.mem_of_getElem? (i := 2) rfl)) (inr63 _ (List.mem_of_getElem? (i := 3) rfl)) (inr1 _ (List.mem_of_getElem? (i := 5) rfl)) (inr63 _ (List.mem_of_getElem? (i := 4) rfl)) (by decide +kernel) hts rfl rfl ⟨Nat.le_of_ble_eq_true rfl, Nat.le_of_ble_eq_true rfl⟩) (hP.sub [] rfl) hK rfl hl.1 rfl (Nat.le_of_ble_eq_true rfl) ⟨Nat.le_of_ble_eq_true rfl, Nat.le_of_ble_eq_true rfl⟩ dX12_best_13 (fun r_5 h_6 => ?_)
      obtain rfl := h_6
      refine lv_goto (tgt := 21) hx hb dX12_best_16 (by decide) ?_
      exact W.iret (v := 1) hx hb hr (fun t ht hW => ⟨_, rfl, (by decide), ht⟩) (fun _ h => by cases h) dX12_best_21
    · have hl : lv_has ls 2 [(0, .ref m0), (1, .int 1)] := hl
      refine lv_iload_n hx hb dX12_best_12 rfl (lv_at hl 1 rfl) ?_
      refine rosi (As := [.int 1]) (rest := []) ⟨hx, hb, hml, hown, hts⟩ (k_bestBy1 l D cB cI cJ cZ cS cT  ) (csB (n := 1) (inr63 _ (List.mem_of_getElem? (i := 2) rfl)) (inr63 _ (List.mem_of_getElem? (i := 3) rfl)) (inr1 _ (List.mem_of_getElem? (i := 5) rfl)) (inr63 _ (List.mem_of_getElem? (i := 4) rfl)) (by decide +kernel) hts rfl rfl ⟨Nat.le_of_ble_eq_true rfl, Nat.le_of_ble_eq_true rfl⟩) (hP.sub [] rfl) hK rfl hl.1 rfl (Nat.le_of_ble_eq_true rfl) ⟨Nat.le_of_ble_eq_true rfl, Nat.le_of_ble_eq_true rfl⟩ dX12_best_13 (fun r_7 h_8 => ?_)
      obtain rfl := h_8
      refine lv_goto (tgt := 21) hx hb dX12_best_16 (by decide) ?_
      exact W.iret (v := 2) hx hb hr (fun t ht hW => ⟨_, rfl, (by decide), ht⟩) (fun _ h => by cases h) dX12_best_21
    · have hl : lv_has ls 2 [(0, .ref m0), (1, .int 2)] := hl
      refine lv_iload_n hx hb dX12_best_12 rfl (lv_at hl 1 rfl) ?_
      refine rosi (As := [.int 2]) (rest := []) ⟨hx, hb, hml, hown, hts⟩ (k_bestBy2 l D cB cI cJ cZ cS cT  ) (csB (n := 1) (inr63 _ (List.mem_of_getElem? (i := 2) rfl)) (inr63 _ (List.mem_of_getElem? (i := 3) rfl)) (inr1 _ (List.mem_of_getElem? (i := 5) rfl)) (inr63 _ (List.mem_of_getElem? (i := 4) rfl)) (by decide +kernel) hts rfl rfl ⟨Nat.le_of_ble_eq_true rfl, Nat.le_of_ble_eq_true rfl⟩) (hP.sub [] rfl) hK rfl hl.1 rfl (Nat.le_of_ble_eq_true rfl) ⟨Nat.le_of_ble_eq_true rfl, Nat.le_of_ble_eq_true rfl⟩ dX12_best_13 (fun r_9 h_10 => ?_)
      obtain rfl := h_10
      refine lv_goto (tgt := 21) hx hb dX12_best_16 (by decide) ?_
      exact W.iret (v := 3) hx hb hr (fun t ht hW => ⟨_, rfl, (by decide), ht⟩) (fun _ h => by cases h) dX12_best_21
    · have hl : lv_has ls 2 [(0, .ref m0), (1, .int 3)] := hl
      refine lv_iload_n hx hb dX12_best_12 rfl (lv_at hl 1 rfl) ?_
      refine rosi (As := [.int 3]) (rest := []) ⟨hx, hb, hml, hown, hts⟩ (k_bestBy3 l D cB cI cJ cZ cS cT  ) (csB (n := 1) (inr63 _ (List.mem_of_getElem? (i := 2) rfl)) (inr63 _ (List.mem_of_getElem? (i := 3) rfl)) (inr1 _ (List.mem_of_getElem? (i := 5) rfl)) (inr63 _ (List.mem_of_getElem? (i := 4) rfl)) (by decide +kernel) hts rfl rfl ⟨Nat.le_of_ble_eq_true rfl, Nat.le_of_ble_eq_true rfl⟩) (hP.sub [] rfl) hK rfl hl.1 rfl (Nat.le_of_ble_eq_true rfl) ⟨Nat.le_of_ble_eq_true rfl, Nat.le_of_ble_eq_true rfl⟩ dX12_best_13 (fun r_11 h_12 => ?_)
      obtain rfl := h_12
      refine lv_goto (tgt := 21) hx hb dX12_best_16 (by decide) ?_
      exact W.iret (v := 0) hx hb hr (fun t ht hW => ⟨_, rfl, (by decide), ht⟩) (fun _ h => by cases h) dX12_best_21

set_option maxHeartbeats 4000000 in
set_option maxRecDepth 100000 in
theorem km_fault (l : Launch) (D : va_G) (cB cI cJ cZ cS cT : ClassId) (m0 : Nat) (m_world : Nat) (m_images : Nat) (m_hasImage : Nat) (m_tape : Nat) (m_five : Nat) (m_fresh : Nat) (m_spokenAt : Nat) (m_heardAt : Nat) (m_lastAt : Nat) (m_answerAt : Nat) (m_heardNow : Nat) (m_seenAt : Nat) (m_fewest : Nat) (m_costNow : Nat) (m_costThen : Nat) (m_lawsOf : Nat) (m_heardBy : Nat) (m_placesOf : Nat) (m_sentIn : Nat) (m_lostBy : Nat) (m_many : Nat) (m_width : Nat) (m_numbers : Nat) (m_moving : Nat) (a1 : Int32)  : Met l yX12_fault (Cond.code yX12_fault cX12_fault 2 (some .int) :: wsL_law) ({ frames := 0, cells := 0, slots := 0, locals := 0 }) (roP D (tyL cB cI cJ cZ cS cT) [(m0, .inr (12, [.int 0, .ref m_world, .ref m_images, .ref m_hasImage, .ref m_tape, .int 0, .ref m_five, .int 0, .int 0, .int 0, .int 0, .int 0, .int 0, .int (-1), .ref m_fresh, .ref m_spokenAt, .ref m_heardAt, .ref m_lastAt, .ref m_answerAt, .int 0, .int 0, .int 0, .long 0, .int 0, .int 0, .ref m_heardNow, .ref m_seenAt, .int 0, .int 0, .int 0, .int 0, .int 0, .ref m_fewest, .ref m_costNow, .ref m_costThen, .ref m_lawsOf, .ref m_heardBy, .int 0, .int 0, .ref m_placesOf, .ref m_sentIn, .int 0, .int 0, .ref m_lostBy, .ref m_many, .ref m_width, .ref m_numbers, .ref m_moving]))] [.ref m0, .int a1]) (vp_Si (fun r : Int32 => r = S_fault a1)) 0 0 (fun _ => False) := by
  refine Met.ofW (cc := cX12_fault) (maxL := 2) (ret := (some .int)) (by decide) rfl ?_
  intro p e s m args below meth c s₁ B hml hv
  obtain ⟨rfl, hP, hK⟩ := hv
  have hx := B.exec
  have hb := B.bytes
  have hr := B.returns
  have hts : ∀ w ∈ wsL_law, w.before ([.ref m0, .int a1] : List Value).toArray s = true := fun w h => atoms_spec (ws := Cond.code yX12_fault cX12_fault 2 (some .int) :: wsL_law) B.pre w (List.mem_cons_of_mem _ h)
  have hown : s.vm.findClass RX12 = some m.cls := findClass_of_methodNamed B.named
  have hlocks := B.notSynchronized
  have hl := lv_entry ([.ref m0, .int a1]) (n := 2) (Nat.le_of_ble_eq_true rfl)
  rw [lg_entry_eq]
  generalize (lg_sl ([.ref m0, .int a1]) ++ List.replicate (2 - (lg_sl ([.ref m0, .int a1])).length) Slot.unset).toArray = ls at hl ⊢
  have hl : lv_has ls 2 [(0, .ref m0), (1, .int a1)] := hl
  have hP : va_P D vwCl [(m0, .inr (12, [.int 0, .ref m_world, .ref m_images, .ref m_hasImage, .ref m_tape, .int 0, .ref m_five, .int 0, .int 0, .int 0, .int 0, .int 0, .int 0, .int (-1), .ref m_fresh, .ref m_spokenAt, .ref m_heardAt, .ref m_lastAt, .ref m_answerAt, .int 0, .int 0, .int 0, .long 0, .int 0, .int 0, .ref m_heardNow, .ref m_seenAt, .int 0, .int 0, .int 0, .int 0, .int 0, .ref m_fewest, .ref m_costNow, .ref m_costThen, .ref m_lawsOf, .ref m_heardBy, .int 0, .int 0, .ref m_placesOf, .ref m_sentIn, .int 0, .int 0, .ref m_lostBy, .ref m_many, .ref m_width, .ref m_numbers, .ref m_moving]))] s.heap := hP
  refine lv_iload_n hx hb dX12_fault_0 rfl (lv_at hl 1 rfl) ?_
  refine lv_if_ne (tgt := 11) hx hb dX12_fault_1 (by decide) (fun c_1 => ?_) (fun c_1 => ?_)
  · have c_1 : ¬ a1.toInt = 0 := ci_ne_t c_1
    refine lv_iload_n hx hb dX12_fault_11 rfl (lv_at hl 1 rfl) ?_
    refine lv_iconst (v := 1) hx hb dX12_fault_12 (by decide) ?_
    refine lv_icmp_ne (tgt := 23) hx hb dX12_fault_13 (by decide) (fun c_2 => ?_) (fun c_2 => ?_)
    · have c_2 : ¬ a1.toInt = 1 := ci_ne_t c_2
      refine lv_iconst (v := (-1)) hx hb dX12_fault_23 (by decide) ?_
      exact W.iret (v := (-1)) hx hb hr (fun t ht hW => ⟨_, rfl, (by unfold S_fault; simp only [← Int32.toInt_inj]; split <;> first | rfl | (exfalso; simp_all; omega) | (exfalso; simp_all)), ht⟩) (fun _ h => by cases h) dX12_fault_24
    · have c_2 : a1.toInt = 1 := ci_ne_f c_2
      refine lv_aload_n hx hb dX12_fault_16 rfl (lv_at hl 0 rfl) ?_
      refine va_get (D := D) (ci := 12) (v := .int (-1)) (C := RX12) (T := TX12) (N := 48) hx hb hts inlX12 hown hK hP 0 rfl rfl 13 (by decide) (hts _ (inr6 _ (List.mem_of_getElem? (i := 21) rfl))) (fun _ h9 => h9) rfl dX12_fault_17 ?_
      refine lv_goto (tgt := 24) hx hb dX12_fault_20 (by decide) ?_
      exact W.iret (v := (-1)) hx hb hr (fun t ht hW => ⟨_, rfl, (by unfold S_fault; simp only [← Int32.toInt_inj]; split <;> first | rfl | (exfalso; simp_all; omega) | (exfalso; simp_all)), ht⟩) (fun _ h => by cases h) dX12_fault_24
  · have c_1 : a1.toInt = 0 := ci_ne_f c_1
    refine lv_aload_n hx hb dX12_fault_4 rfl (lv_at hl 0 rfl) ?_
    refine va_get (D := D) (ci := 12) (v := .int 0) (C := RX12) (T := TX12) (N := 48) hx hb hts inlX12 hown hK hP 0 rfl rfl 12 (by decide) (hts _ (inr17 _ (List.mem_of_getElem? (i := 21) rfl))) (fun _ h9 => h9) rfl dX12_fault_5 ?_
    refine lv_goto (tgt := 24) hx hb dX12_fault_8 (by decide) ?_
    exact W.iret (v := 0) hx hb hr (fun t ht hW => ⟨_, rfl, (by unfold S_fault; simp only [← Int32.toInt_inj]; split <;> first | rfl | (exfalso; simp_all; omega) | (exfalso; simp_all)), ht⟩) (fun _ h => by cases h) dX12_fault_24

set_option maxHeartbeats 4000000 in
set_option maxRecDepth 100000 in
theorem km_count (l : Launch) (D : va_G) (cB cI cJ cZ cS cT : ClassId) (m0 : Nat) (m_world : Nat) (m_images : Nat) (m_hasImage : Nat) (m_tape : Nat) (m_five : Nat) (m_fresh : Nat) (m_spokenAt : Nat) (m_heardAt : Nat) (m_lastAt : Nat) (m_answerAt : Nat) (m_heardNow : Nat) (m_seenAt : Nat) (m_fewest : Nat) (m_costNow : Nat) (m_costThen : Nat) (m_lawsOf : Nat) (m_heardBy : Nat) (m_placesOf : Nat) (m_sentIn : Nat) (m_lostBy : Nat) (m_many : Nat) (m_width : Nat) (m_numbers : Nat) (m_moving : Nat) (a1 : Int32)  : Met l yX12_count (Cond.code yX12_count cX12_count 4 (some .int) :: wsL_law) ({ frames := 1, cells := 0, slots := 0, locals := 25 }) (roP D (tyL cB cI cJ cZ cS cT) [(m0, .inr (12, [.int 0, .ref m_world, .ref m_images, .ref m_hasImage, .ref m_tape, .int 0, .ref m_five, .int 0, .int 0, .int 0, .int 0, .int 0, .int 0, .int (-1), .ref m_fresh, .ref m_spokenAt, .ref m_heardAt, .ref m_lastAt, .ref m_answerAt, .int 0, .int 0, .int 0, .long 0, .int 0, .int 0, .ref m_heardNow, .ref m_seenAt, .int 0, .int 0, .int 0, .int 0, .int 0, .ref m_fewest, .ref m_costNow, .ref m_costThen, .ref m_lawsOf, .ref m_heardBy, .int 0, .int 0, .ref m_placesOf, .ref m_sentIn, .int 0, .int 0, .ref m_lostBy, .ref m_many, .ref m_width, .ref m_numbers, .ref m_moving])), (m_world, .inl (cI, 53, .inl (fun _ => 0))), (m_many, .inl (cI, 4, .inl (upd (upd (upd (upd (fun _ => 0) 0 (-1)) 1 (-1)) 2 (-1)) 3 (-1))))] [.ref m0, .int a1]) (vp_Si (fun r : Int32 => r = S_count a1)) 0 0 (fun _ => False) := by
  refine Met.ofW (cc := cX12_count) (maxL := 4) (ret := (some .int)) (by decide) rfl ?_
  intro p e s m args below meth c s₁ B hml hv
  obtain ⟨rfl, hP, hK⟩ := hv
  have hx := B.exec
  have hb := B.bytes
  have hr := B.returns
  have hts : ∀ w ∈ wsL_law, w.before ([.ref m0, .int a1] : List Value).toArray s = true := fun w h => atoms_spec (ws := Cond.code yX12_count cX12_count 4 (some .int) :: wsL_law) B.pre w (List.mem_cons_of_mem _ h)
  have hown : s.vm.findClass RX12 = some m.cls := findClass_of_methodNamed B.named
  have hlocks := B.notSynchronized
  have hl := lv_entry ([.ref m0, .int a1]) (n := 4) (Nat.le_of_ble_eq_true rfl)
  rw [lg_entry_eq]
  generalize (lg_sl ([.ref m0, .int a1]) ++ List.replicate (4 - (lg_sl ([.ref m0, .int a1])).length) Slot.unset).toArray = ls at hl ⊢
  have hl : lv_has ls 4 [(0, .ref m0), (1, .int a1)] := hl
  have hP : va_P D vwCl [(m0, .inr (12, [.int 0, .ref m_world, .ref m_images, .ref m_hasImage, .ref m_tape, .int 0, .ref m_five, .int 0, .int 0, .int 0, .int 0, .int 0, .int 0, .int (-1), .ref m_fresh, .ref m_spokenAt, .ref m_heardAt, .ref m_lastAt, .ref m_answerAt, .int 0, .int 0, .int 0, .long 0, .int 0, .int 0, .ref m_heardNow, .ref m_seenAt, .int 0, .int 0, .int 0, .int 0, .int 0, .ref m_fewest, .ref m_costNow, .ref m_costThen, .ref m_lawsOf, .ref m_heardBy, .int 0, .int 0, .ref m_placesOf, .ref m_sentIn, .int 0, .int 0, .ref m_lostBy, .ref m_many, .ref m_width, .ref m_numbers, .ref m_moving])), (m_world, .inl (cI, 53, .inl (fun _ => 0))), (m_many, .inl (cI, 4, .inl (upd (upd (upd (upd (fun _ => 0) 0 (-1)) 1 (-1)) 2 (-1)) 3 (-1))))] s.heap := hP
  refine lv_iload_n hx hb dX12_count_0 rfl (lv_at hl 1 rfl) ?_
  obtain ⟨t_1, et_1⟩ : ∃ v9 : Int64, (a1 : Int32).toInt64 = v9 := ⟨_, rfl⟩
  refine lv_i2l (v := t_1) hx hb dX12_count_1 et_1 ?_
  have ft_1 : t_1.toInt = a1.toInt := by rw [← et_1]; exact Int32.toInt_toInt64 _
  refine lv_lconst (v := 0) hx hb dX12_count_2 (by decide) ?_
  refine lv_ldc2 hx hb hown (hts _ (inr72 _ (List.mem_of_getElem? (i := 8) rfl))) dX12_count_3 ?_
  refine rosi (As := [.long t_1, .long 0, .long 9]) (rest := []) ⟨hx, hb, hml, hown, hts⟩ (k_in l D cB cI cJ cZ cS cT t_1 0 9 ) (csB (n := 3) (inr9 _ (List.mem_of_getElem? (i := 3) rfl)) (inr9 _ (List.mem_of_getElem? (i := 4) rfl)) (inr1 _ (List.mem_of_getElem? (i := 5) rfl)) (inr9 _ (List.mem_of_getElem? (i := 5) rfl)) (by decide +kernel) hts rfl rfl ⟨Nat.le_of_ble_eq_true rfl, Nat.le_of_ble_eq_true rfl⟩) (hP.sub [] rfl) hK rfl hl.1 rfl (Nat.le_of_ble_eq_true rfl) ⟨Nat.le_of_ble_eq_true rfl, Nat.le_of_ble_eq_true rfl⟩ dX12_count_6 (fun r_2 h_3 => ?_)
  rcases h_3 with ⟨rfl, k_4⟩ | ⟨rfl, k_4⟩
  · have k_4 : t_1.toInt < 0 ∨ 9 < t_1.toInt := k_4
    refine lv_if_eq (tgt := 19) hx hb dX12_count_9 (by decide) (fun _ => ?_) (fun c0 => absurd c0 (by decide))
    refine lv_iload_n hx hb dX12_count_19 rfl (lv_at hl 1 rfl) ?_
    refine lv_bipush (v := 10) hx hb dX12_count_20 (by decide) ?_
    refine lv_icmp_ne (tgt := 30) hx hb dX12_count_22 (by decide) (fun c_5 => ?_) (fun c_5 => ?_)
    · have c_5 : ¬ a1.toInt = 10 := ci_ne_t c_5
      refine lv_iload_n hx hb dX12_count_30 rfl (lv_at hl 1 rfl) ?_
      refine lv_bipush (v := 11) hx hb dX12_count_31 (by decide) ?_
      refine lv_icmp_eq (tgt := 38) hx hb dX12_count_33 (by decide) (fun c_6 => ?_) (fun c_6 => ?_)
      · have c_6 : a1.toInt = 11 := ci_eq_t c_6
        refine lv_iconst (v := 0) hx hb dX12_count_38 (by decide) ?_
        refine lv_istore_n (lv' := [(2, .int 0), (0, .ref m0), (1, .int a1)]) hx hb dX12_count_39 rfl hl (by decide) rfl (fun ls hl => ?_)
        refine lv_iconst (v := 0) hx hb dX12_count_40 (by decide) ?_
        refine lv_istore_n (lv' := [(3, .int 0), (2, .int 0), (0, .ref m0), (1, .int a1)]) hx hb dX12_count_41 rfl hl (by decide) rfl (fun ls hl => ?_)
        refine lv_iload_n hx hb dX12_count_42 rfl (lv_at hl 0 rfl) ?_
        refine lv_iconst (v := 4) hx hb dX12_count_43 (by decide) ?_
        refine lv_icmp_ge (tgt := 71) hx hb dX12_count_44 (by decide) (fun c0 => absurd c0 (by decide)) (fun _ => ?_)
        refine lv_iload_n hx hb dX12_count_47 rfl (lv_at hl 1 rfl) ?_
        refine lv_aload_n hx hb dX12_count_48 rfl (lv_at hl 2 rfl) ?_
        refine va_get (D := D) (ci := 12) (v := .ref m_many) (C := RX12) (T := TX12) (N := 48) hx hb hts inlX12 hown hK hP 0 rfl rfl 44 (by decide) (hts _ (inr7 _ (List.mem_of_getElem? (i := 14) rfl))) (fun _ h9 => h9) rfl dX12_count_49 ?_
        refine lv_iload_n hx hb dX12_count_52 rfl (lv_at hl 0 rfl) ?_
        refine z_iald (v := (-1)) hx hb hK hP 2 1 rfl rfl (by unfold vp_in; decide) rfl dX12_count_53 ?_
        refine lv_iconst (v := (-1)) hx hb dX12_count_54 (by decide) ?_
        refine lv_icmp_ne (tgt := 62) hx hb dX12_count_55 (by decide) (fun c0 => absurd c0 (by decide)) (fun _ => ?_)
        refine lv_iconst (v := 0) hx hb dX12_count_58 (by decide) ?_
        refine lv_goto (tgt := 63) hx hb dX12_count_59 (by decide) ?_
        refine z_iadd (v := 0) hx hb dX12_count_63 (by decide) ?_
        refine lv_istore_n (lv' := [(2, .int 0), (3, .int 0), (0, .ref m0), (1, .int a1)]) hx hb dX12_count_64 rfl hl (by decide) rfl (fun ls hl => ?_)
        refine lv_iinc (v := 1) (lv' := [(3, .int 1), (2, .int 0), (0, .ref m0), (1, .int a1)]) hx hb dX12_count_65 hl (k := 1) rfl (by decide) (by decide) rfl (fun ls hl => ?_)
        refine lv_goto (tgt := 42) hx hb dX12_count_68 (by decide) ?_
        refine lv_iload_n hx hb dX12_count_42 rfl (lv_at hl 0 rfl) ?_
        refine lv_iconst (v := 4) hx hb dX12_count_43 (by decide) ?_
        refine lv_icmp_ge (tgt := 71) hx hb dX12_count_44 (by decide) (fun c0 => absurd c0 (by decide)) (fun _ => ?_)
        refine lv_iload_n hx hb dX12_count_47 rfl (lv_at hl 1 rfl) ?_
        refine lv_aload_n hx hb dX12_count_48 rfl (lv_at hl 2 rfl) ?_
        refine va_get (D := D) (ci := 12) (v := .ref m_many) (C := RX12) (T := TX12) (N := 48) hx hb hts inlX12 hown hK hP 0 rfl rfl 44 (by decide) (hts _ (inr7 _ (List.mem_of_getElem? (i := 14) rfl))) (fun _ h9 => h9) rfl dX12_count_49 ?_
        refine lv_iload_n hx hb dX12_count_52 rfl (lv_at hl 0 rfl) ?_
        refine z_iald (v := (-1)) hx hb hK hP 2 1 rfl rfl (by unfold vp_in; decide) rfl dX12_count_53 ?_
        refine lv_iconst (v := (-1)) hx hb dX12_count_54 (by decide) ?_
        refine lv_icmp_ne (tgt := 62) hx hb dX12_count_55 (by decide) (fun c0 => absurd c0 (by decide)) (fun _ => ?_)
        refine lv_iconst (v := 0) hx hb dX12_count_58 (by decide) ?_
        refine lv_goto (tgt := 63) hx hb dX12_count_59 (by decide) ?_
        refine z_iadd (v := 0) hx hb dX12_count_63 (by decide) ?_
        refine lv_istore_n (lv' := [(2, .int 0), (3, .int 1), (0, .ref m0), (1, .int a1)]) hx hb dX12_count_64 rfl hl (by decide) rfl (fun ls hl => ?_)
        refine lv_iinc (v := 2) (lv' := [(3, .int 2), (2, .int 0), (0, .ref m0), (1, .int a1)]) hx hb dX12_count_65 hl (k := 1) rfl (by decide) (by decide) rfl (fun ls hl => ?_)
        refine lv_goto (tgt := 42) hx hb dX12_count_68 (by decide) ?_
        refine lv_iload_n hx hb dX12_count_42 rfl (lv_at hl 0 rfl) ?_
        refine lv_iconst (v := 4) hx hb dX12_count_43 (by decide) ?_
        refine lv_icmp_ge (tgt := 71) hx hb dX12_count_44 (by decide) (fun c0 => absurd c0 (by decide)) (fun _ => ?_)
        refine lv_iload_n hx hb dX12_count_47 rfl (lv_at hl 1 rfl) ?_
        refine lv_aload_n hx hb dX12_count_48 rfl (lv_at hl 2 rfl) ?_
        refine va_get (D := D) (ci := 12) (v := .ref m_many) (C := RX12) (T := TX12) (N := 48) hx hb hts inlX12 hown hK hP 0 rfl rfl 44 (by decide) (hts _ (inr7 _ (List.mem_of_getElem? (i := 14) rfl))) (fun _ h9 => h9) rfl dX12_count_49 ?_
        refine lv_iload_n hx hb dX12_count_52 rfl (lv_at hl 0 rfl) ?_
        refine z_iald (v := (-1)) hx hb hK hP 2 1 rfl rfl (by unfold vp_in; decide) rfl dX12_count_53 ?_
        refine lv_iconst (v := (-1)) hx hb dX12_count_54 (by decide) ?_
        refine lv_icmp_ne (tgt := 62) hx hb dX12_count_55 (by decide) (fun c0 => absurd c0 (by decide)) (fun _ => ?_)
        refine lv_iconst (v := 0) hx hb dX12_count_58 (by decide) ?_
        refine lv_goto (tgt := 63) hx hb dX12_count_59 (by decide) ?_
        refine z_iadd (v := 0) hx hb dX12_count_63 (by decide) ?_
        refine lv_istore_n (lv' := [(2, .int 0), (3, .int 2), (0, .ref m0), (1, .int a1)]) hx hb dX12_count_64 rfl hl (by decide) rfl (fun ls hl => ?_)
        refine lv_iinc (v := 3) (lv' := [(3, .int 3), (2, .int 0), (0, .ref m0), (1, .int a1)]) hx hb dX12_count_65 hl (k := 1) rfl (by decide) (by decide) rfl (fun ls hl => ?_)
        refine lv_goto (tgt := 42) hx hb dX12_count_68 (by decide) ?_
        refine lv_iload_n hx hb dX12_count_42 rfl (lv_at hl 0 rfl) ?_
        refine lv_iconst (v := 4) hx hb dX12_count_43 (by decide) ?_
        refine lv_icmp_ge (tgt := 71) hx hb dX12_count_44 (by decide) (fun c0 => absurd c0 (by decide)) (fun _ => ?_)
        refine lv_iload_n hx hb dX12_count_47 rfl (lv_at hl 1 rfl) ?_
        refine lv_aload_n hx hb dX12_count_48 rfl (lv_at hl 2 rfl) ?_
        refine va_get (D := D) (ci := 12) (v := .ref m_many) (C := RX12) (T := TX12) (N := 48) hx hb hts inlX12 hown hK hP 0 rfl rfl 44 (by decide) (hts _ (inr7 _ (List.mem_of_getElem? (i := 14) rfl))) (fun _ h9 => h9) rfl dX12_count_49 ?_
        refine lv_iload_n hx hb dX12_count_52 rfl (lv_at hl 0 rfl) ?_
        refine z_iald (v := (-1)) hx hb hK hP 2 1 rfl rfl (by unfold vp_in; decide) rfl dX12_count_53 ?_
        refine lv_iconst (v := (-1)) hx hb dX12_count_54 (by decide) ?_
        refine lv_icmp_ne (tgt := 62) hx hb dX12_count_55 (by decide) (fun c0 => absurd c0 (by decide)) (fun _ => ?_)
        refine lv_iconst (v := 0) hx hb dX12_count_58 (by decide) ?_
        refine lv_goto (tgt := 63) hx hb dX12_count_59 (by decide) ?_
        refine z_iadd (v := 0) hx hb dX12_count_63 (by decide) ?_
        refine lv_istore_n (lv' := [(2, .int 0), (3, .int 3), (0, .ref m0), (1, .int a1)]) hx hb dX12_count_64 rfl hl (by decide) rfl (fun ls hl => ?_)
        refine lv_iinc (v := 4) (lv' := [(3, .int 4), (2, .int 0), (0, .ref m0), (1, .int a1)]) hx hb dX12_count_65 hl (k := 1) rfl (by decide) (by decide) rfl (fun ls hl => ?_)
        refine lv_goto (tgt := 42) hx hb dX12_count_68 (by decide) ?_
        refine lv_iload_n hx hb dX12_count_42 rfl (lv_at hl 0 rfl) ?_
        refine lv_iconst (v := 4) hx hb dX12_count_43 (by decide) ?_
        refine lv_icmp_ge (tgt := 71) hx hb dX12_count_44 (by decide) (fun _ => ?_) (fun c0 => absurd c0 (by decide))
        refine lv_iload_n hx hb dX12_count_71 rfl (lv_at hl 1 rfl) ?_
        exact W.iret (v := 0) hx hb hr (fun t ht hW => ⟨_, rfl, (by unfold S_count; repeat' split <;> first | rfl | (exfalso; omega)), ht⟩) (fun _ h => by cases h) dX12_count_72
      · have c_6 : ¬ a1.toInt = 11 := ci_eq_f c_6
        refine lv_iconst (v := (-1)) hx hb dX12_count_36 (by decide) ?_
        exact W.iret (v := (-1)) hx hb hr (fun t ht hW => ⟨_, rfl, (by unfold S_count; repeat' split <;> first | rfl | (exfalso; omega)), ht⟩) (fun _ h => by cases h) dX12_count_37
    · have c_5 : a1.toInt = 10 := ci_ne_f c_5
      refine lv_aload_n hx hb dX12_count_25 rfl (lv_at hl 0 rfl) ?_
      refine va_get (D := D) (ci := 12) (v := .int 0) (C := RX12) (T := TX12) (N := 48) hx hb hts inlX12 hown hK hP 0 rfl rfl 5 (by decide) (hts _ (inr8 _ (List.mem_of_getElem? (i := 11) rfl))) (fun _ h9 => h9) rfl dX12_count_26 ?_
      exact W.iret (v := 0) hx hb hr (fun t ht hW => ⟨_, rfl, (by unfold S_count; repeat' split <;> first | rfl | (exfalso; omega)), ht⟩) (fun _ h => by cases h) dX12_count_29
  · have k_4 : 0 ≤ t_1.toInt ∧ t_1.toInt ≤ 9 := k_4
    refine lv_if_eq (tgt := 19) hx hb dX12_count_9 (by decide) (fun c0 => absurd c0 (by decide)) (fun _ => ?_)
    refine lv_aload_n hx hb dX12_count_12 rfl (lv_at hl 0 rfl) ?_
    refine va_get (D := D) (ci := 12) (v := .ref m_world) (C := RX12) (T := TX12) (N := 48) hx hb hts inlX12 hown hK hP 0 rfl rfl 1 (by decide) (hts _ (inr6 _ (List.mem_of_getElem? (i := 16) rfl))) (fun _ h9 => h9) rfl dX12_count_13 ?_
    refine lv_iload_n hx hb dX12_count_16 rfl (lv_at hl 1 rfl) ?_
    refine z_iald (v := 0) hx hb hK hP 1 1 rfl rfl (vin_nat (by omega) (by omega)) rfl dX12_count_17 ?_
    exact W.iret (v := 0) hx hb hr (fun t ht hW => ⟨_, rfl, (by unfold S_count; repeat' split <;> first | rfl | (exfalso; omega)), ht⟩) (fun _ h => by cases h) dX12_count_18

set_option maxHeartbeats 4000000 in
set_option maxRecDepth 100000 in
theorem km_back (l : Launch) (D : va_G) (cB cI cJ cZ cS cT : ClassId) (m0 : Nat) (m_world : Nat) (m_images : Nat) (m_hasImage : Nat) (m_tape : Nat) (m_five : Nat) (m_fresh : Nat) (m_spokenAt : Nat) (m_heardAt : Nat) (m_lastAt : Nat) (m_answerAt : Nat) (m_heardNow : Nat) (m_seenAt : Nat) (m_fewest : Nat) (m_costNow : Nat) (m_costThen : Nat) (m_lawsOf : Nat) (m_heardBy : Nat) (m_placesOf : Nat) (m_sentIn : Nat) (m_lostBy : Nat) (m_many : Nat) (m_width : Nat) (m_numbers : Nat) (m_moving : Nat) (a1 : Int32)  : Met l yX12_back (Cond.code yX12_back cX12_back 3 (some .int) :: wsL_law) ({ frames := 1, cells := 0, slots := 0, locals := 25 }) (roP D (tyL cB cI cJ cZ cS cT) [(m0, .inr (12, [.int 0, .ref m_world, .ref m_images, .ref m_hasImage, .ref m_tape, .int 0, .ref m_five, .int 0, .int 0, .int 0, .int 0, .int 0, .int 0, .int (-1), .ref m_fresh, .ref m_spokenAt, .ref m_heardAt, .ref m_lastAt, .ref m_answerAt, .int 0, .int 0, .int 0, .long 0, .int 0, .int 0, .ref m_heardNow, .ref m_seenAt, .int 0, .int 0, .int 0, .int 0, .int 0, .ref m_fewest, .ref m_costNow, .ref m_costThen, .ref m_lawsOf, .ref m_heardBy, .int 0, .int 0, .ref m_placesOf, .ref m_sentIn, .int 0, .int 0, .ref m_lostBy, .ref m_many, .ref m_width, .ref m_numbers, .ref m_moving])), (m_hasImage, .inl (cZ, 3, .inl (fun _ => 0)))] [.ref m0, .int a1]) (vp_Si (fun r : Int32 => r = S_back a1)) 0 0 (fun _ => False) := by
  refine Met.ofW (cc := cX12_back) (maxL := 3) (ret := (some .int)) (by decide) rfl ?_
  intro p e s m args below meth c s₁ B hml hv
  obtain ⟨rfl, hP, hK⟩ := hv
  have hx := B.exec
  have hb := B.bytes
  have hr := B.returns
  have hts : ∀ w ∈ wsL_law, w.before ([.ref m0, .int a1] : List Value).toArray s = true := fun w h => atoms_spec (ws := Cond.code yX12_back cX12_back 3 (some .int) :: wsL_law) B.pre w (List.mem_cons_of_mem _ h)
  have hown : s.vm.findClass RX12 = some m.cls := findClass_of_methodNamed B.named
  have hlocks := B.notSynchronized
  have hl := lv_entry ([.ref m0, .int a1]) (n := 3) (Nat.le_of_ble_eq_true rfl)
  rw [lg_entry_eq]
  generalize (lg_sl ([.ref m0, .int a1]) ++ List.replicate (3 - (lg_sl ([.ref m0, .int a1])).length) Slot.unset).toArray = ls at hl ⊢
  have hl : lv_has ls 3 [(0, .ref m0), (1, .int a1)] := hl
  have hP : va_P D vwCl [(m0, .inr (12, [.int 0, .ref m_world, .ref m_images, .ref m_hasImage, .ref m_tape, .int 0, .ref m_five, .int 0, .int 0, .int 0, .int 0, .int 0, .int 0, .int (-1), .ref m_fresh, .ref m_spokenAt, .ref m_heardAt, .ref m_lastAt, .ref m_answerAt, .int 0, .int 0, .int 0, .long 0, .int 0, .int 0, .ref m_heardNow, .ref m_seenAt, .int 0, .int 0, .int 0, .int 0, .int 0, .ref m_fewest, .ref m_costNow, .ref m_costThen, .ref m_lawsOf, .ref m_heardBy, .int 0, .int 0, .ref m_placesOf, .ref m_sentIn, .int 0, .int 0, .ref m_lostBy, .ref m_many, .ref m_width, .ref m_numbers, .ref m_moving])), (m_hasImage, .inl (cZ, 3, .inl (fun _ => 0)))] s.heap := hP
  refine lv_iload_n hx hb dX12_back_0 rfl (lv_at hl 1 rfl) ?_
  obtain ⟨t_1, et_1⟩ : ∃ v9 : Int64, (a1 : Int32).toInt64 = v9 := ⟨_, rfl⟩
  refine lv_i2l (v := t_1) hx hb dX12_back_1 et_1 ?_
  have ft_1 : t_1.toInt = a1.toInt := by rw [← et_1]; exact Int32.toInt_toInt64 _
  refine lv_lconst (v := 0) hx hb dX12_back_2 (by decide) ?_
  refine lv_ldc2 hx hb hown (hts _ (inr70 _ (List.mem_of_getElem? (i := 2) rfl))) dX12_back_3 ?_
  refine rosi (As := [.long t_1, .long 0, .long 2]) (rest := []) ⟨hx, hb, hml, hown, hts⟩ (k_in l D cB cI cJ cZ cS cT t_1 0 2 ) (csB (n := 3) (inr9 _ (List.mem_of_getElem? (i := 3) rfl)) (inr9 _ (List.mem_of_getElem? (i := 4) rfl)) (inr1 _ (List.mem_of_getElem? (i := 5) rfl)) (inr9 _ (List.mem_of_getElem? (i := 5) rfl)) (by decide +kernel) hts rfl rfl ⟨Nat.le_of_ble_eq_true rfl, Nat.le_of_ble_eq_true rfl⟩) (hP.sub [] rfl) hK rfl hl.1 rfl (Nat.le_of_ble_eq_true rfl) ⟨Nat.le_of_ble_eq_true rfl, Nat.le_of_ble_eq_true rfl⟩ dX12_back_6 (fun r_2 h_3 => ?_)
  rcases h_3 with ⟨rfl, k_4⟩ | ⟨rfl, k_4⟩
  · have k_4 : t_1.toInt < 0 ∨ 2 < t_1.toInt := k_4
    refine lv_if_ne (tgt := 15) hx hb dX12_back_9 (by decide) (fun c0 => absurd c0 (by decide)) (fun _ => ?_)
    refine lv_bipush (v := (-2)) hx hb dX12_back_12 (by decide) ?_
    exact W.iret (v := (-2)) hx hb hr (fun t ht hW => ⟨_, rfl, (by unfold S_back; repeat' split <;> first | rfl | (exfalso; omega)), ht⟩) (fun _ h => by cases h) dX12_back_14
  · have k_4 : 0 ≤ t_1.toInt ∧ t_1.toInt ≤ 2 := k_4
    refine lv_if_ne (tgt := 15) hx hb dX12_back_9 (by decide) (fun _ => ?_) (fun c0 => absurd c0 (by decide))
    rcases in3 (x := a1) (by omega) (by omega) with rfl | rfl | rfl
    · have hl : lv_has ls 3 [(0, .ref m0), (1, .int 0)] := hl
      refine lv_aload_n hx hb dX12_back_15 rfl (lv_at hl 0 rfl) ?_
      refine va_get (D := D) (ci := 12) (v := .ref m_hasImage) (C := RX12) (T := TX12) (N := 48) hx hb hts inlX12 hown hK hP 0 rfl rfl 3 (by decide) (hts _ (inr6 _ (List.mem_of_getElem? (i := 18) rfl))) (fun _ h9 => h9) rfl dX12_back_16 ?_
      refine lv_iload_n hx hb dX12_back_19 rfl (lv_at hl 1 rfl) ?_
      refine z_zald (v := 0) hx hb hK hP 1 3 rfl rfl (by unfold vp_in; decide) rfl dX12_back_20 ?_
      refine lv_if_ne (tgt := 27) hx hb dX12_back_21 (by decide) (fun c0 => absurd c0 (by decide)) (fun _ => ?_)
      refine lv_bipush (v := (-6)) hx hb dX12_back_24 (by decide) ?_
      exact W.iret (v := (-6)) hx hb hr (fun t ht hW => ⟨_, rfl, (by decide), ht⟩) (fun _ h => by cases h) dX12_back_26
    · have hl : lv_has ls 3 [(0, .ref m0), (1, .int 1)] := hl
      refine lv_aload_n hx hb dX12_back_15 rfl (lv_at hl 0 rfl) ?_
      refine va_get (D := D) (ci := 12) (v := .ref m_hasImage) (C := RX12) (T := TX12) (N := 48) hx hb hts inlX12 hown hK hP 0 rfl rfl 3 (by decide) (hts _ (inr6 _ (List.mem_of_getElem? (i := 18) rfl))) (fun _ h9 => h9) rfl dX12_back_16 ?_
      refine lv_iload_n hx hb dX12_back_19 rfl (lv_at hl 1 rfl) ?_
      refine z_zald (v := 0) hx hb hK hP 1 3 rfl rfl (by unfold vp_in; decide) rfl dX12_back_20 ?_
      refine lv_if_ne (tgt := 27) hx hb dX12_back_21 (by decide) (fun c0 => absurd c0 (by decide)) (fun _ => ?_)
      refine lv_bipush (v := (-6)) hx hb dX12_back_24 (by decide) ?_
      exact W.iret (v := (-6)) hx hb hr (fun t ht hW => ⟨_, rfl, (by decide), ht⟩) (fun _ h => by cases h) dX12_back_26
    · have hl : lv_has ls 3 [(0, .ref m0), (1, .int 2)] := hl
      refine lv_aload_n hx hb dX12_back_15 rfl (lv_at hl 0 rfl) ?_
      refine va_get (D := D) (ci := 12) (v := .ref m_hasImage) (C := RX12) (T := TX12) (N := 48) hx hb hts inlX12 hown hK hP 0 rfl rfl 3 (by decide) (hts _ (inr6 _ (List.mem_of_getElem? (i := 18) rfl))) (fun _ h9 => h9) rfl dX12_back_16 ?_
      refine lv_iload_n hx hb dX12_back_19 rfl (lv_at hl 1 rfl) ?_
      refine z_zald (v := 0) hx hb hK hP 1 3 rfl rfl (by unfold vp_in; decide) rfl dX12_back_20 ?_
      refine lv_if_ne (tgt := 27) hx hb dX12_back_21 (by decide) (fun c0 => absurd c0 (by decide)) (fun _ => ?_)
      refine lv_bipush (v := (-6)) hx hb dX12_back_24 (by decide) ?_
      exact W.iret (v := (-6)) hx hb hr (fun t ht hW => ⟨_, rfl, (by decide), ht⟩) (fun _ h => by cases h) dX12_back_26

set_option maxHeartbeats 4000000 in
set_option maxRecDepth 100000 in
theorem km_write (l : Launch) (D : va_G) (cB cI cJ cZ cS cT : ClassId) (m0 : Nat) (m_world : Nat) (m_images : Nat) (m_hasImage : Nat) (m_tape : Nat) (m_five : Nat) (m_fresh : Nat) (m_spokenAt : Nat) (m_heardAt : Nat) (m_lastAt : Nat) (m_answerAt : Nat) (m_heardNow : Nat) (m_seenAt : Nat) (m_fewest : Nat) (m_costNow : Nat) (m_costThen : Nat) (m_lawsOf : Nat) (m_heardBy : Nat) (m_placesOf : Nat) (m_sentIn : Nat) (m_lostBy : Nat) (m_many : Nat) (m_width : Nat) (m_numbers : Nat) (m_moving : Nat) (a1 : Int32) (a2 : Int32) (v3 : Int64)  : Met l yX12_write (Cond.code yX12_write cX12_write 5 (some .int) :: wsL_law) ({ frames := 2, cells := 0, slots := 0, locals := 45 }) (roP D (tyL cB cI cJ cZ cS cT) [(m0, .inr (12, [.int 0, .ref m_world, .ref m_images, .ref m_hasImage, .ref m_tape, .int 0, .ref m_five, .int 0, .int 0, .int 0, .int 0, .int 0, .int 0, .int (-1), .ref m_fresh, .ref m_spokenAt, .ref m_heardAt, .ref m_lastAt, .ref m_answerAt, .int 0, .int 0, .int 0, .long 0, .int 0, .int 0, .ref m_heardNow, .ref m_seenAt, .int 0, .int 0, .int 0, .int 0, .int 0, .ref m_fewest, .ref m_costNow, .ref m_costThen, .ref m_lawsOf, .ref m_heardBy, .int 0, .int 0, .ref m_placesOf, .ref m_sentIn, .int 0, .int 0, .ref m_lostBy, .ref m_many, .ref m_width, .ref m_numbers, .ref m_moving])), (m_many, .inl (cI, 4, .inl (upd (upd (upd (upd (fun _ => 0) 0 (-1)) 1 (-1)) 2 (-1)) 3 (-1))))] [.ref m0, .int a1, .int a2, .long v3]) (vp_Si (fun r : Int32 => r = S_write a1)) 0 0 (fun _ => False) := by
  refine Met.ofW (cc := cX12_write) (maxL := 5) (ret := (some .int)) (by decide) rfl ?_
  intro p e s m args below meth c s₁ B hml hv
  obtain ⟨rfl, hP, hK⟩ := hv
  have hx := B.exec
  have hb := B.bytes
  have hr := B.returns
  have hts : ∀ w ∈ wsL_law, w.before ([.ref m0, .int a1, .int a2, .long v3] : List Value).toArray s = true := fun w h => atoms_spec (ws := Cond.code yX12_write cX12_write 5 (some .int) :: wsL_law) B.pre w (List.mem_cons_of_mem _ h)
  have hown : s.vm.findClass RX12 = some m.cls := findClass_of_methodNamed B.named
  have hlocks := B.notSynchronized
  have hl := lv_entry ([.ref m0, .int a1, .int a2, .long v3]) (n := 5) (Nat.le_of_ble_eq_true rfl)
  rw [lg_entry_eq]
  generalize (lg_sl ([.ref m0, .int a1, .int a2, .long v3]) ++ List.replicate (5 - (lg_sl ([.ref m0, .int a1, .int a2, .long v3])).length) Slot.unset).toArray = ls at hl ⊢
  have hl : lv_has ls 5 [(0, .ref m0), (1, .int a1), (2, .int a2), (3, .long v3)] := hl
  have hP : va_P D vwCl [(m0, .inr (12, [.int 0, .ref m_world, .ref m_images, .ref m_hasImage, .ref m_tape, .int 0, .ref m_five, .int 0, .int 0, .int 0, .int 0, .int 0, .int 0, .int (-1), .ref m_fresh, .ref m_spokenAt, .ref m_heardAt, .ref m_lastAt, .ref m_answerAt, .int 0, .int 0, .int 0, .long 0, .int 0, .int 0, .ref m_heardNow, .ref m_seenAt, .int 0, .int 0, .int 0, .int 0, .int 0, .ref m_fewest, .ref m_costNow, .ref m_costThen, .ref m_lawsOf, .ref m_heardBy, .int 0, .int 0, .ref m_placesOf, .ref m_sentIn, .int 0, .int 0, .ref m_lostBy, .ref m_many, .ref m_width, .ref m_numbers, .ref m_moving])), (m_many, .inl (cI, 4, .inl (upd (upd (upd (upd (fun _ => 0) 0 (-1)) 1 (-1)) 2 (-1)) 3 (-1))))] s.heap := hP
  refine lv_iload_n hx hb dX12_write_0 rfl (lv_at hl 1 rfl) ?_
  refine rosi (As := [.int a1]) (rest := []) ⟨hx, hb, hml, hown, hts⟩ (k_isSlot l D cB cI cJ cZ cS cT a1 ) (csB (n := 1) (inr54 _ (List.mem_of_getElem? (i := 4) rfl)) (inr54 _ (List.mem_of_getElem? (i := 5) rfl)) (inr1 _ (List.mem_of_getElem? (i := 5) rfl)) (inr54 _ (List.mem_of_getElem? (i := 6) rfl)) (by decide +kernel) hts rfl rfl ⟨Nat.le_of_ble_eq_true rfl, Nat.le_of_ble_eq_true rfl⟩) (hP.sub [] rfl) hK rfl hl.1 rfl (Nat.le_of_ble_eq_true rfl) ⟨Nat.le_of_ble_eq_true rfl, Nat.le_of_ble_eq_true rfl⟩ dX12_write_1 (fun r_1 h_2 => ?_)
  rcases h_2 with ⟨rfl, k_3⟩ | ⟨rfl, k_3⟩
  · have k_3 : a1.toInt < 0 ∨ 3 < a1.toInt := k_3
    refine lv_if_ne (tgt := 10) hx hb dX12_write_4 (by decide) (fun c0 => absurd c0 (by decide)) (fun _ => ?_)
    refine lv_bipush (v := (-2)) hx hb dX12_write_7 (by decide) ?_
    exact W.iret (v := (-2)) hx hb hr (fun t ht hW => ⟨_, rfl, (by unfold S_write; repeat' split <;> first | rfl | (exfalso; omega)), ht⟩) (fun _ h => by cases h) dX12_write_9
  · have k_3 : 0 ≤ a1.toInt ∧ a1.toInt ≤ 3 := k_3
    refine lv_if_ne (tgt := 10) hx hb dX12_write_4 (by decide) (fun _ => ?_) (fun c0 => absurd c0 (by decide))
    rcases in4 (x := a1) (by omega) (by omega) with rfl | rfl | rfl | rfl
    · have hl : lv_has ls 5 [(0, .ref m0), (1, .int 0), (2, .int a2), (3, .long v3)] := hl
      refine lv_aload_n hx hb dX12_write_10 rfl (lv_at hl 0 rfl) ?_
      refine va_get (D := D) (ci := 12) (v := .ref m_many) (C := RX12) (T := TX12) (N := 48) hx hb hts inlX12 hown hK hP 0 rfl rfl 44 (by decide) (hts _ (inr7 _ (List.mem_of_getElem? (i := 14) rfl))) (fun _ h9 => h9) rfl dX12_write_11 ?_
      refine lv_iload_n hx hb dX12_write_14 rfl (lv_at hl 1 rfl) ?_
      refine z_iald (v := (-1)) hx hb hK hP 1 1 rfl rfl (by unfold vp_in; decide) rfl dX12_write_15 ?_
      refine lv_iconst (v := (-1)) hx hb dX12_write_16 (by decide) ?_
      refine lv_icmp_ne (tgt := 23) hx hb dX12_write_17 (by decide) (fun c0 => absurd c0 (by decide)) (fun _ => ?_)
      refine lv_bipush (v := (-6)) hx hb dX12_write_20 (by decide) ?_
      exact W.iret (v := (-6)) hx hb hr (fun t ht hW => ⟨_, rfl, (by decide), ht⟩) (fun _ h => by cases h) dX12_write_22
    · have hl : lv_has ls 5 [(0, .ref m0), (1, .int 1), (2, .int a2), (3, .long v3)] := hl
      refine lv_aload_n hx hb dX12_write_10 rfl (lv_at hl 0 rfl) ?_
      refine va_get (D := D) (ci := 12) (v := .ref m_many) (C := RX12) (T := TX12) (N := 48) hx hb hts inlX12 hown hK hP 0 rfl rfl 44 (by decide) (hts _ (inr7 _ (List.mem_of_getElem? (i := 14) rfl))) (fun _ h9 => h9) rfl dX12_write_11 ?_
      refine lv_iload_n hx hb dX12_write_14 rfl (lv_at hl 1 rfl) ?_
      refine z_iald (v := (-1)) hx hb hK hP 1 1 rfl rfl (by unfold vp_in; decide) rfl dX12_write_15 ?_
      refine lv_iconst (v := (-1)) hx hb dX12_write_16 (by decide) ?_
      refine lv_icmp_ne (tgt := 23) hx hb dX12_write_17 (by decide) (fun c0 => absurd c0 (by decide)) (fun _ => ?_)
      refine lv_bipush (v := (-6)) hx hb dX12_write_20 (by decide) ?_
      exact W.iret (v := (-6)) hx hb hr (fun t ht hW => ⟨_, rfl, (by decide), ht⟩) (fun _ h => by cases h) dX12_write_22
    · have hl : lv_has ls 5 [(0, .ref m0), (1, .int 2), (2, .int a2), (3, .long v3)] := hl
      refine lv_aload_n hx hb dX12_write_10 rfl (lv_at hl 0 rfl) ?_
      refine va_get (D := D) (ci := 12) (v := .ref m_many) (C := RX12) (T := TX12) (N := 48) hx hb hts inlX12 hown hK hP 0 rfl rfl 44 (by decide) (hts _ (inr7 _ (List.mem_of_getElem? (i := 14) rfl))) (fun _ h9 => h9) rfl dX12_write_11 ?_
      refine lv_iload_n hx hb dX12_write_14 rfl (lv_at hl 1 rfl) ?_
      refine z_iald (v := (-1)) hx hb hK hP 1 1 rfl rfl (by unfold vp_in; decide) rfl dX12_write_15 ?_
      refine lv_iconst (v := (-1)) hx hb dX12_write_16 (by decide) ?_
      refine lv_icmp_ne (tgt := 23) hx hb dX12_write_17 (by decide) (fun c0 => absurd c0 (by decide)) (fun _ => ?_)
      refine lv_bipush (v := (-6)) hx hb dX12_write_20 (by decide) ?_
      exact W.iret (v := (-6)) hx hb hr (fun t ht hW => ⟨_, rfl, (by decide), ht⟩) (fun _ h => by cases h) dX12_write_22
    · have hl : lv_has ls 5 [(0, .ref m0), (1, .int 3), (2, .int a2), (3, .long v3)] := hl
      refine lv_aload_n hx hb dX12_write_10 rfl (lv_at hl 0 rfl) ?_
      refine va_get (D := D) (ci := 12) (v := .ref m_many) (C := RX12) (T := TX12) (N := 48) hx hb hts inlX12 hown hK hP 0 rfl rfl 44 (by decide) (hts _ (inr7 _ (List.mem_of_getElem? (i := 14) rfl))) (fun _ h9 => h9) rfl dX12_write_11 ?_
      refine lv_iload_n hx hb dX12_write_14 rfl (lv_at hl 1 rfl) ?_
      refine z_iald (v := (-1)) hx hb hK hP 1 1 rfl rfl (by unfold vp_in; decide) rfl dX12_write_15 ?_
      refine lv_iconst (v := (-1)) hx hb dX12_write_16 (by decide) ?_
      refine lv_icmp_ne (tgt := 23) hx hb dX12_write_17 (by decide) (fun c0 => absurd c0 (by decide)) (fun _ => ?_)
      refine lv_bipush (v := (-6)) hx hb dX12_write_20 (by decide) ?_
      exact W.iret (v := (-6)) hx hb hr (fun t ht hW => ⟨_, rfl, (by decide), ht⟩) (fun _ h => by cases h) dX12_write_22

set_option maxHeartbeats 4000000 in
set_option maxRecDepth 100000 in
theorem km_paste (l : Launch) (D : va_G) (cB cI cJ cZ cS cT : ClassId) (m0 : Nat) (m_world : Nat) (m_images : Nat) (m_hasImage : Nat) (m_tape : Nat) (m_five : Nat) (m_fresh : Nat) (m_spokenAt : Nat) (m_heardAt : Nat) (m_lastAt : Nat) (m_answerAt : Nat) (m_heardNow : Nat) (m_seenAt : Nat) (m_fewest : Nat) (m_costNow : Nat) (m_costThen : Nat) (m_lawsOf : Nat) (m_heardBy : Nat) (m_placesOf : Nat) (m_sentIn : Nat) (m_lostBy : Nat) (m_many : Nat) (m_width : Nat) (m_numbers : Nat) (m_moving : Nat) (a1 : Int32) (a2 : Int32) (a3 : Int32) (a4 : Int32) (a5 : Int32)  : Met l yX12_paste (Cond.code yX12_paste cX12_paste 7 (some .int) :: wsL_law) ({ frames := 2, cells := 0, slots := 0, locals := 45 }) (roP D (tyL cB cI cJ cZ cS cT) [(m0, .inr (12, [.int 0, .ref m_world, .ref m_images, .ref m_hasImage, .ref m_tape, .int 0, .ref m_five, .int 0, .int 0, .int 0, .int 0, .int 0, .int 0, .int (-1), .ref m_fresh, .ref m_spokenAt, .ref m_heardAt, .ref m_lastAt, .ref m_answerAt, .int 0, .int 0, .int 0, .long 0, .int 0, .int 0, .ref m_heardNow, .ref m_seenAt, .int 0, .int 0, .int 0, .int 0, .int 0, .ref m_fewest, .ref m_costNow, .ref m_costThen, .ref m_lawsOf, .ref m_heardBy, .int 0, .int 0, .ref m_placesOf, .ref m_sentIn, .int 0, .int 0, .ref m_lostBy, .ref m_many, .ref m_width, .ref m_numbers, .ref m_moving])), (m_many, .inl (cI, 4, .inl (upd (upd (upd (upd (fun _ => 0) 0 (-1)) 1 (-1)) 2 (-1)) 3 (-1))))] [.ref m0, .int a1, .int a2, .int a3, .int a4, .int a5]) (vp_Si (fun r : Int32 => r = S_paste a1 a3)) 0 0 (fun _ => False) := by
  refine Met.ofW (cc := cX12_paste) (maxL := 7) (ret := (some .int)) (by decide) rfl ?_
  intro p e s m args below meth c s₁ B hml hv
  obtain ⟨rfl, hP, hK⟩ := hv
  have hx := B.exec
  have hb := B.bytes
  have hr := B.returns
  have hts : ∀ w ∈ wsL_law, w.before ([.ref m0, .int a1, .int a2, .int a3, .int a4, .int a5] : List Value).toArray s = true := fun w h => atoms_spec (ws := Cond.code yX12_paste cX12_paste 7 (some .int) :: wsL_law) B.pre w (List.mem_cons_of_mem _ h)
  have hown : s.vm.findClass RX12 = some m.cls := findClass_of_methodNamed B.named
  have hlocks := B.notSynchronized
  have hl := lv_entry ([.ref m0, .int a1, .int a2, .int a3, .int a4, .int a5]) (n := 7) (Nat.le_of_ble_eq_true rfl)
  rw [lg_entry_eq]
  generalize (lg_sl ([.ref m0, .int a1, .int a2, .int a3, .int a4, .int a5]) ++ List.replicate (7 - (lg_sl ([.ref m0, .int a1, .int a2, .int a3, .int a4, .int a5])).length) Slot.unset).toArray = ls at hl ⊢
  have hl : lv_has ls 7 [(0, .ref m0), (1, .int a1), (2, .int a2), (3, .int a3), (4, .int a4), (5, .int a5)] := hl
  have hP : va_P D vwCl [(m0, .inr (12, [.int 0, .ref m_world, .ref m_images, .ref m_hasImage, .ref m_tape, .int 0, .ref m_five, .int 0, .int 0, .int 0, .int 0, .int 0, .int 0, .int (-1), .ref m_fresh, .ref m_spokenAt, .ref m_heardAt, .ref m_lastAt, .ref m_answerAt, .int 0, .int 0, .int 0, .long 0, .int 0, .int 0, .ref m_heardNow, .ref m_seenAt, .int 0, .int 0, .int 0, .int 0, .int 0, .ref m_fewest, .ref m_costNow, .ref m_costThen, .ref m_lawsOf, .ref m_heardBy, .int 0, .int 0, .ref m_placesOf, .ref m_sentIn, .int 0, .int 0, .ref m_lostBy, .ref m_many, .ref m_width, .ref m_numbers, .ref m_moving])), (m_many, .inl (cI, 4, .inl (upd (upd (upd (upd (fun _ => 0) 0 (-1)) 1 (-1)) 2 (-1)) 3 (-1))))] s.heap := hP
  refine lv_iload_n hx hb dX12_paste_0 rfl (lv_at hl 1 rfl) ?_
  refine rosi (As := [.int a1]) (rest := []) ⟨hx, hb, hml, hown, hts⟩ (k_isSlot l D cB cI cJ cZ cS cT a1 ) (csB (n := 1) (inr54 _ (List.mem_of_getElem? (i := 4) rfl)) (inr54 _ (List.mem_of_getElem? (i := 5) rfl)) (inr1 _ (List.mem_of_getElem? (i := 5) rfl)) (inr54 _ (List.mem_of_getElem? (i := 6) rfl)) (by decide +kernel) hts rfl rfl ⟨Nat.le_of_ble_eq_true rfl, Nat.le_of_ble_eq_true rfl⟩) (hP.sub [] rfl) hK rfl hl.1 rfl (Nat.le_of_ble_eq_true rfl) ⟨Nat.le_of_ble_eq_true rfl, Nat.le_of_ble_eq_true rfl⟩ dX12_paste_1 (fun r_1 h_2 => ?_)
  rcases h_2 with ⟨rfl, k_3⟩ | ⟨rfl, k_3⟩
  · have k_3 : a1.toInt < 0 ∨ 3 < a1.toInt := k_3
    refine lv_if_eq (tgt := 14) hx hb dX12_paste_4 (by decide) (fun _ => ?_) (fun c0 => absurd c0 (by decide))
    refine lv_bipush (v := (-2)) hx hb dX12_paste_14 (by decide) ?_
    exact W.iret (v := (-2)) hx hb hr (fun t ht hW => ⟨_, rfl, (by unfold S_paste; repeat' split <;> first | rfl | (exfalso; omega)), ht⟩) (fun _ h => by cases h) dX12_paste_16
  · have k_3 : 0 ≤ a1.toInt ∧ a1.toInt ≤ 3 := k_3
    refine lv_if_eq (tgt := 14) hx hb dX12_paste_4 (by decide) (fun c0 => absurd c0 (by decide)) (fun _ => ?_)
    refine lv_iload_n hx hb dX12_paste_7 rfl (lv_at hl 3 rfl) ?_
    refine rosi (As := [.int a3]) (rest := []) ⟨hx, hb, hml, hown, hts⟩ (k_isSlot l D cB cI cJ cZ cS cT a3 ) (csB (n := 1) (inr54 _ (List.mem_of_getElem? (i := 4) rfl)) (inr54 _ (List.mem_of_getElem? (i := 5) rfl)) (inr1 _ (List.mem_of_getElem? (i := 5) rfl)) (inr54 _ (List.mem_of_getElem? (i := 6) rfl)) (by decide +kernel) hts rfl rfl ⟨Nat.le_of_ble_eq_true rfl, Nat.le_of_ble_eq_true rfl⟩) (hP.sub [] rfl) hK rfl hl.1 rfl (Nat.le_of_ble_eq_true rfl) ⟨Nat.le_of_ble_eq_true rfl, Nat.le_of_ble_eq_true rfl⟩ dX12_paste_8 (fun r_4 h_5 => ?_)
    rcases h_5 with ⟨rfl, k_6⟩ | ⟨rfl, k_6⟩
    · have k_6 : a3.toInt < 0 ∨ 3 < a3.toInt := k_6
      refine lv_if_ne (tgt := 17) hx hb dX12_paste_11 (by decide) (fun c0 => absurd c0 (by decide)) (fun _ => ?_)
      refine lv_bipush (v := (-2)) hx hb dX12_paste_14 (by decide) ?_
      exact W.iret (v := (-2)) hx hb hr (fun t ht hW => ⟨_, rfl, (by unfold S_paste; repeat' split <;> first | rfl | (exfalso; omega)), ht⟩) (fun _ h => by cases h) dX12_paste_16
    · have k_6 : 0 ≤ a3.toInt ∧ a3.toInt ≤ 3 := k_6
      refine lv_if_ne (tgt := 17) hx hb dX12_paste_11 (by decide) (fun _ => ?_) (fun c0 => absurd c0 (by decide))
      rcases in4 (x := a1) (by omega) (by omega) with rfl | rfl | rfl | rfl
      · have hl : lv_has ls 7 [(0, .ref m0), (1, .int 0), (2, .int a2), (3, .int a3), (4, .int a4), (5, .int a5)] := hl
        refine lv_aload_n hx hb dX12_paste_17 rfl (lv_at hl 0 rfl) ?_
        refine va_get (D := D) (ci := 12) (v := .ref m_many) (C := RX12) (T := TX12) (N := 48) hx hb hts inlX12 hown hK hP 0 rfl rfl 44 (by decide) (hts _ (inr7 _ (List.mem_of_getElem? (i := 14) rfl))) (fun _ h9 => h9) rfl dX12_paste_18 ?_
        refine lv_iload_n hx hb dX12_paste_21 rfl (lv_at hl 1 rfl) ?_
        refine z_iald (v := (-1)) hx hb hK hP 1 1 rfl rfl (by unfold vp_in; decide) rfl dX12_paste_22 ?_
        refine lv_iconst (v := (-1)) hx hb dX12_paste_23 (by decide) ?_
        refine lv_icmp_eq (tgt := 37) hx hb dX12_paste_24 (by decide) (fun _ => ?_) (fun c0 => absurd c0 (by decide))
        refine lv_bipush (v := (-6)) hx hb dX12_paste_37 (by decide) ?_
        exact W.iret (v := (-6)) hx hb hr (fun t ht hW => ⟨_, rfl, (by unfold S_paste; rw [if_pos ⟨by decide, by decide, by omega, by omega⟩]), ht⟩) (fun _ h => by cases h) dX12_paste_39
      · have hl : lv_has ls 7 [(0, .ref m0), (1, .int 1), (2, .int a2), (3, .int a3), (4, .int a4), (5, .int a5)] := hl
        refine lv_aload_n hx hb dX12_paste_17 rfl (lv_at hl 0 rfl) ?_
        refine va_get (D := D) (ci := 12) (v := .ref m_many) (C := RX12) (T := TX12) (N := 48) hx hb hts inlX12 hown hK hP 0 rfl rfl 44 (by decide) (hts _ (inr7 _ (List.mem_of_getElem? (i := 14) rfl))) (fun _ h9 => h9) rfl dX12_paste_18 ?_
        refine lv_iload_n hx hb dX12_paste_21 rfl (lv_at hl 1 rfl) ?_
        refine z_iald (v := (-1)) hx hb hK hP 1 1 rfl rfl (by unfold vp_in; decide) rfl dX12_paste_22 ?_
        refine lv_iconst (v := (-1)) hx hb dX12_paste_23 (by decide) ?_
        refine lv_icmp_eq (tgt := 37) hx hb dX12_paste_24 (by decide) (fun _ => ?_) (fun c0 => absurd c0 (by decide))
        refine lv_bipush (v := (-6)) hx hb dX12_paste_37 (by decide) ?_
        exact W.iret (v := (-6)) hx hb hr (fun t ht hW => ⟨_, rfl, (by unfold S_paste; rw [if_pos ⟨by decide, by decide, by omega, by omega⟩]), ht⟩) (fun _ h => by cases h) dX12_paste_39
      · have hl : lv_has ls 7 [(0, .ref m0), (1, .int 2), (2, .int a2), (3, .int a3), (4, .int a4), (5, .int a5)] := hl
        refine lv_aload_n hx hb dX12_paste_17 rfl (lv_at hl 0 rfl) ?_
        refine va_get (D := D) (ci := 12) (v := .ref m_many) (C := RX12) (T := TX12) (N := 48) hx hb hts inlX12 hown hK hP 0 rfl rfl 44 (by decide) (hts _ (inr7 _ (List.mem_of_getElem? (i := 14) rfl))) (fun _ h9 => h9) rfl dX12_paste_18 ?_
        refine lv_iload_n hx hb dX12_paste_21 rfl (lv_at hl 1 rfl) ?_
        refine z_iald (v := (-1)) hx hb hK hP 1 1 rfl rfl (by unfold vp_in; decide) rfl dX12_paste_22 ?_
        refine lv_iconst (v := (-1)) hx hb dX12_paste_23 (by decide) ?_
        refine lv_icmp_eq (tgt := 37) hx hb dX12_paste_24 (by decide) (fun _ => ?_) (fun c0 => absurd c0 (by decide))
        refine lv_bipush (v := (-6)) hx hb dX12_paste_37 (by decide) ?_
        exact W.iret (v := (-6)) hx hb hr (fun t ht hW => ⟨_, rfl, (by unfold S_paste; rw [if_pos ⟨by decide, by decide, by omega, by omega⟩]), ht⟩) (fun _ h => by cases h) dX12_paste_39
      · have hl : lv_has ls 7 [(0, .ref m0), (1, .int 3), (2, .int a2), (3, .int a3), (4, .int a4), (5, .int a5)] := hl
        refine lv_aload_n hx hb dX12_paste_17 rfl (lv_at hl 0 rfl) ?_
        refine va_get (D := D) (ci := 12) (v := .ref m_many) (C := RX12) (T := TX12) (N := 48) hx hb hts inlX12 hown hK hP 0 rfl rfl 44 (by decide) (hts _ (inr7 _ (List.mem_of_getElem? (i := 14) rfl))) (fun _ h9 => h9) rfl dX12_paste_18 ?_
        refine lv_iload_n hx hb dX12_paste_21 rfl (lv_at hl 1 rfl) ?_
        refine z_iald (v := (-1)) hx hb hK hP 1 1 rfl rfl (by unfold vp_in; decide) rfl dX12_paste_22 ?_
        refine lv_iconst (v := (-1)) hx hb dX12_paste_23 (by decide) ?_
        refine lv_icmp_eq (tgt := 37) hx hb dX12_paste_24 (by decide) (fun _ => ?_) (fun c0 => absurd c0 (by decide))
        refine lv_bipush (v := (-6)) hx hb dX12_paste_37 (by decide) ?_
        exact W.iret (v := (-6)) hx hb hr (fun t ht hW => ⟨_, rfl, (by unfold S_paste; rw [if_pos ⟨by decide, by decide, by omega, by omega⟩]), ht⟩) (fun _ h => by cases h) dX12_paste_39

set_option maxHeartbeats 4000000 in
set_option maxRecDepth 100000 in
theorem km_end (l : Launch) (D : va_G) (cB cI cJ cZ cS cT : ClassId) (sz : Nat) (m0 : Nat) (m_world : Nat) (m_images : Nat) (m_hasImage : Nat) (m_tape : Nat) (m_five : Nat) (m_fresh : Nat) (m_spokenAt : Nat) (m_heardAt : Nat) (m_lastAt : Nat) (m_answerAt : Nat) (m_heardNow : Nat) (m_seenAt : Nat) (m_fewest : Nat) (m_costNow : Nat) (m_costThen : Nat) (m_lawsOf : Nat) (m_heardBy : Nat) (m_placesOf : Nat) (m_sentIn : Nat) (m_lostBy : Nat) (m_many : Nat) (m_width : Nat) (m_numbers : Nat) (m_moving : Nat) (a1 : Int32)  : Met l yX12_end (Cond.code yX12_end cX12_end 2 (some .int) :: wsL_law) ({ frames := 1, cells := 0, slots := 0, locals := 25 }) (wrP D (tyL cB cI cJ cZ cS cT) [(m0, .inr (12, [.int 0, .ref m_world, .ref m_images, .ref m_hasImage, .ref m_tape, .int 0, .ref m_five, .int 0, .int 0, .int 0, .int 0, .int 0, .int 0, .int (-1), .ref m_fresh, .ref m_spokenAt, .ref m_heardAt, .ref m_lastAt, .ref m_answerAt, .int 0, .int 0, .int 0, .long 0, .int 0, .int 0, .ref m_heardNow, .ref m_seenAt, .int 0, .int 0, .int 0, .int 0, .int 0, .ref m_fewest, .ref m_costNow, .ref m_costThen, .ref m_lawsOf, .ref m_heardBy, .int 0, .int 0, .ref m_placesOf, .ref m_sentIn, .int 0, .int 0, .ref m_lostBy, .ref m_many, .ref m_width, .ref m_numbers, .ref m_moving]))] sz [.ref m0, .int a1]) (va_Qi (fun (r : Int32) (x : Unit) => r = S_end a1) (atW D (tyL cB cI cJ cZ cS cT) (va_A [(m0, .inr (12, [.int 0, .ref m_world, .ref m_images, .ref m_hasImage, .ref m_tape, .int 0, .ref m_five, .int 0, .int 0, .int 0, .int 0, .int 0, .int 0, .int (-1), .ref m_fresh, .ref m_spokenAt, .ref m_heardAt, .ref m_lastAt, .ref m_answerAt, .int 0, .int 0, .int 0, .long 0, .int 0, .int 0, .ref m_heardNow, .ref m_seenAt, .int 0, .int 0, .int 0, .int 0, .int 0, .ref m_fewest, .ref m_costNow, .ref m_costThen, .ref m_lawsOf, .ref m_heardBy, .int 0, .int 0, .ref m_placesOf, .ref m_sentIn, .int 0, .int 0, .ref m_lostBy, .ref m_many, .ref m_width, .ref m_numbers, .ref m_moving]))] sz) (fun x : Unit => [])) (va_A [(m0, .inr (12, [.int 0, .ref m_world, .ref m_images, .ref m_hasImage, .ref m_tape, .int 0, .ref m_five, .int 0, .int 0, .int 0, .int 0, .int 0, .int 0, .int (-1), .ref m_fresh, .ref m_spokenAt, .ref m_heardAt, .ref m_lastAt, .ref m_answerAt, .int 0, .int 0, .int 0, .long 0, .int 0, .int 0, .ref m_heardNow, .ref m_seenAt, .int 0, .int 0, .int 0, .int 0, .int 0, .ref m_fewest, .ref m_costNow, .ref m_costThen, .ref m_lawsOf, .ref m_heardBy, .int 0, .int 0, .ref m_placesOf, .ref m_sentIn, .int 0, .int 0, .ref m_lostBy, .ref m_many, .ref m_width, .ref m_numbers, .ref m_moving]))] sz)) 0 0 (va_A [(m0, .inr (12, [.int 0, .ref m_world, .ref m_images, .ref m_hasImage, .ref m_tape, .int 0, .ref m_five, .int 0, .int 0, .int 0, .int 0, .int 0, .int 0, .int (-1), .ref m_fresh, .ref m_spokenAt, .ref m_heardAt, .ref m_lastAt, .ref m_answerAt, .int 0, .int 0, .int 0, .long 0, .int 0, .int 0, .ref m_heardNow, .ref m_seenAt, .int 0, .int 0, .int 0, .int 0, .int 0, .ref m_fewest, .ref m_costNow, .ref m_costThen, .ref m_lawsOf, .ref m_heardBy, .int 0, .int 0, .ref m_placesOf, .ref m_sentIn, .int 0, .int 0, .ref m_lostBy, .ref m_many, .ref m_width, .ref m_numbers, .ref m_moving]))] sz) := by
  refine Met.ofW (cc := cX12_end) (maxL := 2) (ret := (some .int)) (by decide) rfl ?_
  intro p e s m args below meth c s₁ B hml hv
  obtain ⟨rfl, hsz, hP, hK, hD0, hN⟩ := hv
  have hx := B.exec
  have hb := B.bytes
  have hr := B.returns
  have hts : ∀ w ∈ wsL_law, w.before ([.ref m0, .int a1] : List Value).toArray s = true := fun w h => atoms_spec (ws := Cond.code yX12_end cX12_end 2 (some .int) :: wsL_law) B.pre w (List.mem_cons_of_mem _ h)
  have hown : s.vm.findClass RX12 = some m.cls := findClass_of_methodNamed B.named
  have hlocks := B.notSynchronized
  subst hsz
  have hD := hD0.self (sz := s.heap.size)
  generalize hAe : va_A [(m0, .inr (12, [.int 0, .ref m_world, .ref m_images, .ref m_hasImage, .ref m_tape, .int 0, .ref m_five, .int 0, .int 0, .int 0, .int 0, .int 0, .int 0, .int (-1), .ref m_fresh, .ref m_spokenAt, .ref m_heardAt, .ref m_lastAt, .ref m_answerAt, .int 0, .int 0, .int 0, .long 0, .int 0, .int 0, .ref m_heardNow, .ref m_seenAt, .int 0, .int 0, .int 0, .int 0, .int 0, .ref m_fewest, .ref m_costNow, .ref m_costThen, .ref m_lawsOf, .ref m_heardBy, .int 0, .int 0, .ref m_placesOf, .ref m_sentIn, .int 0, .int 0, .ref m_lostBy, .ref m_many, .ref m_width, .ref m_numbers, .ref m_moving]))] s.heap.size = A at hD ⊢
  have hA : ∀ q : Nat, s.heap.size ≤ q → A q := fun q h => by rw [← hAe]; exact Or.inr h
  have hS : va_S A s.heap s.heap [] := va_S.rf
  have hl := lv_entry ([.ref m0, .int a1]) (n := 2) (Nat.le_of_ble_eq_true rfl)
  rw [lg_entry_eq]
  generalize (lg_sl ([.ref m0, .int a1]) ++ List.replicate (2 - (lg_sl ([.ref m0, .int a1])).length) Slot.unset).toArray = ls at hl ⊢
  have hl : lv_has ls 2 [(0, .ref m0), (1, .int a1)] := hl
  have hP : va_P D vwCl [(m0, .inr (12, [.int 0, .ref m_world, .ref m_images, .ref m_hasImage, .ref m_tape, .int 0, .ref m_five, .int 0, .int 0, .int 0, .int 0, .int 0, .int 0, .int (-1), .ref m_fresh, .ref m_spokenAt, .ref m_heardAt, .ref m_lastAt, .ref m_answerAt, .int 0, .int 0, .int 0, .long 0, .int 0, .int 0, .ref m_heardNow, .ref m_seenAt, .int 0, .int 0, .int 0, .int 0, .int 0, .ref m_fewest, .ref m_costNow, .ref m_costThen, .ref m_lawsOf, .ref m_heardBy, .int 0, .int 0, .ref m_placesOf, .ref m_sentIn, .int 0, .int 0, .ref m_lostBy, .ref m_many, .ref m_width, .ref m_numbers, .ref m_moving]))] s.heap := hP
  refine lv_iload_n hx hb dX12_end_0 rfl (lv_at hl 1 rfl) ?_
  obtain ⟨t_1, et_1⟩ : ∃ v9 : Int64, (a1 : Int32).toInt64 = v9 := ⟨_, rfl⟩
  refine lv_i2l (v := t_1) hx hb dX12_end_1 et_1 ?_
  have ft_1 : t_1.toInt = a1.toInt := by rw [← et_1]; exact Int32.toInt_toInt64 _
  refine lv_lconst (v := 0) hx hb dX12_end_2 (by decide) ?_
  refine lv_aload_n hx hb dX12_end_3 rfl (lv_at hl 0 rfl) ?_
  refine va_get (D := D) (ci := 12) (v := .int 0) (C := RX12) (T := TX12) (N := 48) hx hb hts inlX12 hown hK hP 0 rfl rfl 5 (by decide) (hts _ (inr8 _ (List.mem_of_getElem? (i := 11) rfl))) (fun _ h9 => h9) rfl dX12_end_4 ?_
  refine lv_i2l (v := 0) hx hb dX12_end_7 (by decide) ?_
  refine rosi (As := [.long t_1, .long 0, .long 0]) (rest := []) ⟨hx, hb, hml, hown, hts⟩ (k_in l D cB cI cJ cZ cS cT t_1 0 0 ) (csB (n := 3) (inr9 _ (List.mem_of_getElem? (i := 3) rfl)) (inr9 _ (List.mem_of_getElem? (i := 4) rfl)) (inr1 _ (List.mem_of_getElem? (i := 5) rfl)) (inr9 _ (List.mem_of_getElem? (i := 5) rfl)) (by decide +kernel) hts rfl rfl ⟨Nat.le_of_ble_eq_true rfl, Nat.le_of_ble_eq_true rfl⟩) (hP.sub [] rfl) hK rfl hl.1 rfl (Nat.le_of_ble_eq_true rfl) ⟨Nat.le_of_ble_eq_true rfl, Nat.le_of_ble_eq_true rfl⟩ dX12_end_8 (fun r_2 h_3 => ?_)
  rcases h_3 with ⟨rfl, k_4⟩ | ⟨rfl, k_4⟩
  · have k_4 : t_1.toInt < 0 ∨ 0 < t_1.toInt := k_4
    refine lv_if_ne (tgt := 16) hx hb dX12_end_11 (by decide) (fun c0 => absurd c0 (by decide)) (fun _ => ?_)
    refine lv_iconst (v := (-1)) hx hb dX12_end_14 (by decide) ?_
    have hP9 := hP.sub (ws' := []) [] rfl
    have hD9 := hD.sub (ws' := []) [] (by decide) rfl
    exact W.iret (v := (-1)) hx hb hr (fun t ht hW => ⟨⟨(-1), (), rfl, (by unfold S_end; repeat' split <;> first | rfl | (exfalso; omega)), by rw [ht]; exact hP9, va_K.moved hW.alike hK, hD9⟩, hS.F ht⟩) hS.2.2 dX12_end_15
  · have k_4 : 0 ≤ t_1.toInt ∧ t_1.toInt ≤ 0 := k_4
    refine lv_if_ne (tgt := 16) hx hb dX12_end_11 (by decide) (fun _ => ?_) (fun c0 => absurd c0 (by decide))
    obtain rfl := in1 (x := a1) (by omega) (by omega)
    have hl : lv_has ls 2 [(0, .ref m0), (1, .int 0)] := hl
    refine lv_aload_n hx hb dX12_end_16 rfl (lv_at hl 0 rfl) ?_
    refine lv_iload_n hx hb dX12_end_17 rfl (lv_at hl 1 rfl) ?_
    refine va_put (D := D) (ci := 12) (v := .int 0) (ty := .int) (C := RX12) (T := TX12) (N := 48) hx hb hts inlX12 tyX12 tyX12_ok nmX12 hown hK hP hD hS 0 rfl rfl 5 (by decide) (hts _ (inr8 _ (List.mem_of_getElem? (i := 11) rfl))) (fun _ h9 => h9) rfl (by decide +kernel) rfl rfl (Nat.le_of_ble_eq_true rfl) dX12_end_18 (fun H locs hP hD hS => ?_)
    have hP : va_P D vwCl [(m0, .inr (12, [.int 0, .ref m_world, .ref m_images, .ref m_hasImage, .ref m_tape, .int 0, .ref m_five, .int 0, .int 0, .int 0, .int 0, .int 0, .int 0, .int (-1), .ref m_fresh, .ref m_spokenAt, .ref m_heardAt, .ref m_lastAt, .ref m_answerAt, .int 0, .int 0, .int 0, .long 0, .int 0, .int 0, .ref m_heardNow, .ref m_seenAt, .int 0, .int 0, .int 0, .int 0, .int 0, .ref m_fewest, .ref m_costNow, .ref m_costThen, .ref m_lawsOf, .ref m_heardBy, .int 0, .int 0, .ref m_placesOf, .ref m_sentIn, .int 0, .int 0, .ref m_lostBy, .ref m_many, .ref m_width, .ref m_numbers, .ref m_moving]))] H := hP
    have hD : va_D A [(m0, .inr (12, [.int 0, .ref m_world, .ref m_images, .ref m_hasImage, .ref m_tape, .int 0, .ref m_five, .int 0, .int 0, .int 0, .int 0, .int 0, .int 0, .int (-1), .ref m_fresh, .ref m_spokenAt, .ref m_heardAt, .ref m_lastAt, .ref m_answerAt, .int 0, .int 0, .int 0, .long 0, .int 0, .int 0, .ref m_heardNow, .ref m_seenAt, .int 0, .int 0, .int 0, .int 0, .int 0, .ref m_fewest, .ref m_costNow, .ref m_costThen, .ref m_lawsOf, .ref m_heardBy, .int 0, .int 0, .ref m_placesOf, .ref m_sentIn, .int 0, .int 0, .ref m_lostBy, .ref m_many, .ref m_width, .ref m_numbers, .ref m_moving]))] := hD
    refine lv_iload_n hx hb dX12_end_21 rfl (lv_at hl 1 rfl) ?_
    have hP9 := hP.sub (ws' := []) [] rfl
    have hD9 := hD.sub (ws' := []) [] (by decide) rfl
    exact W.iret (v := 0) hx hb hr (fun t ht hW => ⟨⟨0, (), rfl, (by decide), by rw [ht]; exact hP9, va_K.moved hW.alike hK, hD9⟩, hS.F ht⟩) hS.2.2 dX12_end_22

set_option maxHeartbeats 4000000 in
set_option maxRecDepth 100000 in
theorem km_feed (l : Launch) (D : va_G) (cB cI cJ cZ cS cT : ClassId) (sz : Nat) (m0 : Nat) (m_world : Nat) (m_images : Nat) (m_hasImage : Nat) (m_tape : Nat) (m_five : Nat) (m_fresh : Nat) (m_spokenAt : Nat) (m_heardAt : Nat) (m_lastAt : Nat) (m_answerAt : Nat) (m_heardNow : Nat) (m_seenAt : Nat) (m_fewest : Nat) (m_costNow : Nat) (m_costThen : Nat) (m_lawsOf : Nat) (m_heardBy : Nat) (m_placesOf : Nat) (m_sentIn : Nat) (m_lostBy : Nat) (m_many : Nat) (m_width : Nat) (m_numbers : Nat) (m_moving : Nat) (a1 : Int32) (a2 : Int32) (a3 : Int32) (a4 : Int32) (a5 : Int32)  : Met l yX12_feed (Cond.code yX12_feed cX12_feed 7 (some .int) :: wsL_law) ({ frames := 0, cells := 0, slots := 0, locals := 0 }) (wrP D (tyL cB cI cJ cZ cS cT) [(m0, .inr (12, [.int 0, .ref m_world, .ref m_images, .ref m_hasImage, .ref m_tape, .int 0, .ref m_five, .int 0, .int 0, .int 0, .int 0, .int 0, .int 0, .int (-1), .ref m_fresh, .ref m_spokenAt, .ref m_heardAt, .ref m_lastAt, .ref m_answerAt, .int 0, .int 0, .int 0, .long 0, .int 0, .int 0, .ref m_heardNow, .ref m_seenAt, .int 0, .int 0, .int 0, .int 0, .int 0, .ref m_fewest, .ref m_costNow, .ref m_costThen, .ref m_lawsOf, .ref m_heardBy, .int 0, .int 0, .ref m_placesOf, .ref m_sentIn, .int 0, .int 0, .ref m_lostBy, .ref m_many, .ref m_width, .ref m_numbers, .ref m_moving])), (m_tape, .inl (cB, 500, .inl (fun _ => 0))), (m_five, .inl (cI, 5, .inl (fun _ => 0)))] sz [.ref m0, .int a1, .int a2, .int a3, .int a4, .int a5]) (va_Qi (fun (r : Int32) (x : Unit) => r = 20) (atW D (tyL cB cI cJ cZ cS cT) (va_A [(m0, .inr (12, [.int 0, .ref m_world, .ref m_images, .ref m_hasImage, .ref m_tape, .int 0, .ref m_five, .int 0, .int 0, .int 0, .int 0, .int 0, .int 0, .int (-1), .ref m_fresh, .ref m_spokenAt, .ref m_heardAt, .ref m_lastAt, .ref m_answerAt, .int 0, .int 0, .int 0, .long 0, .int 0, .int 0, .ref m_heardNow, .ref m_seenAt, .int 0, .int 0, .int 0, .int 0, .int 0, .ref m_fewest, .ref m_costNow, .ref m_costThen, .ref m_lawsOf, .ref m_heardBy, .int 0, .int 0, .ref m_placesOf, .ref m_sentIn, .int 0, .int 0, .ref m_lostBy, .ref m_many, .ref m_width, .ref m_numbers, .ref m_moving])), (m_tape, .inl (cB, 500, .inl (fun _ => 0))), (m_five, .inl (cI, 5, .inl (fun _ => 0)))] sz) (fun x : Unit => [])) (va_A [(m0, .inr (12, [.int 0, .ref m_world, .ref m_images, .ref m_hasImage, .ref m_tape, .int 0, .ref m_five, .int 0, .int 0, .int 0, .int 0, .int 0, .int 0, .int (-1), .ref m_fresh, .ref m_spokenAt, .ref m_heardAt, .ref m_lastAt, .ref m_answerAt, .int 0, .int 0, .int 0, .long 0, .int 0, .int 0, .ref m_heardNow, .ref m_seenAt, .int 0, .int 0, .int 0, .int 0, .int 0, .ref m_fewest, .ref m_costNow, .ref m_costThen, .ref m_lawsOf, .ref m_heardBy, .int 0, .int 0, .ref m_placesOf, .ref m_sentIn, .int 0, .int 0, .ref m_lostBy, .ref m_many, .ref m_width, .ref m_numbers, .ref m_moving])), (m_tape, .inl (cB, 500, .inl (fun _ => 0))), (m_five, .inl (cI, 5, .inl (fun _ => 0)))] sz)) 0 0 (va_A [(m0, .inr (12, [.int 0, .ref m_world, .ref m_images, .ref m_hasImage, .ref m_tape, .int 0, .ref m_five, .int 0, .int 0, .int 0, .int 0, .int 0, .int 0, .int (-1), .ref m_fresh, .ref m_spokenAt, .ref m_heardAt, .ref m_lastAt, .ref m_answerAt, .int 0, .int 0, .int 0, .long 0, .int 0, .int 0, .ref m_heardNow, .ref m_seenAt, .int 0, .int 0, .int 0, .int 0, .int 0, .ref m_fewest, .ref m_costNow, .ref m_costThen, .ref m_lawsOf, .ref m_heardBy, .int 0, .int 0, .ref m_placesOf, .ref m_sentIn, .int 0, .int 0, .ref m_lostBy, .ref m_many, .ref m_width, .ref m_numbers, .ref m_moving])), (m_tape, .inl (cB, 500, .inl (fun _ => 0))), (m_five, .inl (cI, 5, .inl (fun _ => 0)))] sz) := by
  refine Met.ofW (cc := cX12_feed) (maxL := 7) (ret := (some .int)) (by decide) rfl ?_
  intro p e s m args below meth c s₁ B hml hv
  obtain ⟨rfl, hsz, hP, hK, hD0, hN⟩ := hv
  have hx := B.exec
  have hb := B.bytes
  have hr := B.returns
  have hts : ∀ w ∈ wsL_law, w.before ([.ref m0, .int a1, .int a2, .int a3, .int a4, .int a5] : List Value).toArray s = true := fun w h => atoms_spec (ws := Cond.code yX12_feed cX12_feed 7 (some .int) :: wsL_law) B.pre w (List.mem_cons_of_mem _ h)
  have hown : s.vm.findClass RX12 = some m.cls := findClass_of_methodNamed B.named
  have hlocks := B.notSynchronized
  subst hsz
  have hD := hD0.self (sz := s.heap.size)
  generalize hAe : va_A [(m0, .inr (12, [.int 0, .ref m_world, .ref m_images, .ref m_hasImage, .ref m_tape, .int 0, .ref m_five, .int 0, .int 0, .int 0, .int 0, .int 0, .int 0, .int (-1), .ref m_fresh, .ref m_spokenAt, .ref m_heardAt, .ref m_lastAt, .ref m_answerAt, .int 0, .int 0, .int 0, .long 0, .int 0, .int 0, .ref m_heardNow, .ref m_seenAt, .int 0, .int 0, .int 0, .int 0, .int 0, .ref m_fewest, .ref m_costNow, .ref m_costThen, .ref m_lawsOf, .ref m_heardBy, .int 0, .int 0, .ref m_placesOf, .ref m_sentIn, .int 0, .int 0, .ref m_lostBy, .ref m_many, .ref m_width, .ref m_numbers, .ref m_moving])), (m_tape, .inl (cB, 500, .inl (fun _ => 0))), (m_five, .inl (cI, 5, .inl (fun _ => 0)))] s.heap.size = A at hD ⊢
  have hA : ∀ q : Nat, s.heap.size ≤ q → A q := fun q h => by rw [← hAe]; exact Or.inr h
  have hS : va_S A s.heap s.heap [] := va_S.rf
  have hl := lv_entry ([.ref m0, .int a1, .int a2, .int a3, .int a4, .int a5]) (n := 7) (Nat.le_of_ble_eq_true rfl)
  rw [lg_entry_eq]
  generalize (lg_sl ([.ref m0, .int a1, .int a2, .int a3, .int a4, .int a5]) ++ List.replicate (7 - (lg_sl ([.ref m0, .int a1, .int a2, .int a3, .int a4, .int a5])).length) Slot.unset).toArray = ls at hl ⊢
  have hl : lv_has ls 7 [(0, .ref m0), (1, .int a1), (2, .int a2), (3, .int a3), (4, .int a4), (5, .int a5)] := hl
  have hP : va_P D vwCl [(m0, .inr (12, [.int 0, .ref m_world, .ref m_images, .ref m_hasImage, .ref m_tape, .int 0, .ref m_five, .int 0, .int 0, .int 0, .int 0, .int 0, .int 0, .int (-1), .ref m_fresh, .ref m_spokenAt, .ref m_heardAt, .ref m_lastAt, .ref m_answerAt, .int 0, .int 0, .int 0, .long 0, .int 0, .int 0, .ref m_heardNow, .ref m_seenAt, .int 0, .int 0, .int 0, .int 0, .int 0, .ref m_fewest, .ref m_costNow, .ref m_costThen, .ref m_lawsOf, .ref m_heardBy, .int 0, .int 0, .ref m_placesOf, .ref m_sentIn, .int 0, .int 0, .ref m_lostBy, .ref m_many, .ref m_width, .ref m_numbers, .ref m_moving])), (m_tape, .inl (cB, 500, .inl (fun _ => 0))), (m_five, .inl (cI, 5, .inl (fun _ => 0)))] s.heap := hP
  refine lv_aload_n hx hb dX12_feed_0 rfl (lv_at hl 0 rfl) ?_
  refine va_get (D := D) (ci := 12) (v := .int 0) (C := RX12) (T := TX12) (N := 48) hx hb hts inlX12 hown hK hP 0 rfl rfl 5 (by decide) (hts _ (inr8 _ (List.mem_of_getElem? (i := 11) rfl))) (fun _ h9 => h9) rfl dX12_feed_1 ?_
  refine lv_bipush (v := 20) hx hb dX12_feed_4 (by decide) ?_
  refine z_iadd (v := 20) hx hb dX12_feed_6 (by decide) ?_
  refine lv_sipush (v := 500) hx hb dX12_feed_7 (by decide) ?_
  refine lv_icmp_le (tgt := 15) hx hb dX12_feed_10 (by decide) (fun _ => ?_) (fun c0 => absurd c0 (by decide))
  refine lv_aload_n hx hb dX12_feed_15 rfl (lv_at hl 0 rfl) ?_
  refine va_get (D := D) (ci := 12) (v := .ref m_five) (C := RX12) (T := TX12) (N := 48) hx hb hts inlX12 hown hK hP 0 rfl rfl 6 (by decide) (hts _ (inr6 _ (List.mem_of_getElem? (i := 20) rfl))) (fun _ h9 => h9) rfl dX12_feed_16 ?_
  refine lv_iconst (v := 0) hx hb dX12_feed_19 (by decide) ?_
  refine lv_iload_n hx hb dX12_feed_20 rfl (lv_at hl 1 rfl) ?_
  refine va_iast hx hb hK hP hD hS 2 1 rfl rfl (by unfold vp_in; decide) dX12_feed_21 (fun H locs hP hD hS => ?_)
  have hP : va_P D vwCl [(m0, .inr (12, [.int 0, .ref m_world, .ref m_images, .ref m_hasImage, .ref m_tape, .int 0, .ref m_five, .int 0, .int 0, .int 0, .int 0, .int 0, .int 0, .int (-1), .ref m_fresh, .ref m_spokenAt, .ref m_heardAt, .ref m_lastAt, .ref m_answerAt, .int 0, .int 0, .int 0, .long 0, .int 0, .int 0, .ref m_heardNow, .ref m_seenAt, .int 0, .int 0, .int 0, .int 0, .int 0, .ref m_fewest, .ref m_costNow, .ref m_costThen, .ref m_lawsOf, .ref m_heardBy, .int 0, .int 0, .ref m_placesOf, .ref m_sentIn, .int 0, .int 0, .ref m_lostBy, .ref m_many, .ref m_width, .ref m_numbers, .ref m_moving])), (m_tape, .inl (cB, 500, .inl (fun _ => 0))), (m_five, .inl (cI, 5, .inl (upd (fun _ => 0) (0 : Int32).toNatClampNeg a1)))] H := hP
  have hD : va_D A [(m0, .inr (12, [.int 0, .ref m_world, .ref m_images, .ref m_hasImage, .ref m_tape, .int 0, .ref m_five, .int 0, .int 0, .int 0, .int 0, .int 0, .int 0, .int (-1), .ref m_fresh, .ref m_spokenAt, .ref m_heardAt, .ref m_lastAt, .ref m_answerAt, .int 0, .int 0, .int 0, .long 0, .int 0, .int 0, .ref m_heardNow, .ref m_seenAt, .int 0, .int 0, .int 0, .int 0, .int 0, .ref m_fewest, .ref m_costNow, .ref m_costThen, .ref m_lawsOf, .ref m_heardBy, .int 0, .int 0, .ref m_placesOf, .ref m_sentIn, .int 0, .int 0, .ref m_lostBy, .ref m_many, .ref m_width, .ref m_numbers, .ref m_moving])), (m_tape, .inl (cB, 500, .inl (fun _ => 0))), (m_five, .inl (cI, 5, .inl (upd (fun _ => 0) (0 : Int32).toNatClampNeg a1)))] := hD
  obtain ⟨g_1, eg_1⟩ : ∃ v9 : Nat → Int32, (upd (fun _ => 0) (0 : Int32).toNatClampNeg a1) = v9 := ⟨_, rfl⟩
  rw [eg_1] at hP hD
  have hP : va_P D vwCl [(m0, .inr (12, [.int 0, .ref m_world, .ref m_images, .ref m_hasImage, .ref m_tape, .int 0, .ref m_five, .int 0, .int 0, .int 0, .int 0, .int 0, .int 0, .int (-1), .ref m_fresh, .ref m_spokenAt, .ref m_heardAt, .ref m_lastAt, .ref m_answerAt, .int 0, .int 0, .int 0, .long 0, .int 0, .int 0, .ref m_heardNow, .ref m_seenAt, .int 0, .int 0, .int 0, .int 0, .int 0, .ref m_fewest, .ref m_costNow, .ref m_costThen, .ref m_lawsOf, .ref m_heardBy, .int 0, .int 0, .ref m_placesOf, .ref m_sentIn, .int 0, .int 0, .ref m_lostBy, .ref m_many, .ref m_width, .ref m_numbers, .ref m_moving])), (m_tape, .inl (cB, 500, .inl (fun _ => 0))), (m_five, .inl (cI, 5, .inl g_1))] H := hP
  have hD : va_D A [(m0, .inr (12, [.int 0, .ref m_world, .ref m_images, .ref m_hasImage, .ref m_tape, .int 0, .ref m_five, .int 0, .int 0, .int 0, .int 0, .int 0, .int 0, .int (-1), .ref m_fresh, .ref m_spokenAt, .ref m_heardAt, .ref m_lastAt, .ref m_answerAt, .int 0, .int 0, .int 0, .long 0, .int 0, .int 0, .ref m_heardNow, .ref m_seenAt, .int 0, .int 0, .int 0, .int 0, .int 0, .ref m_fewest, .ref m_costNow, .ref m_costThen, .ref m_lawsOf, .ref m_heardBy, .int 0, .int 0, .ref m_placesOf, .ref m_sentIn, .int 0, .int 0, .ref m_lostBy, .ref m_many, .ref m_width, .ref m_numbers, .ref m_moving])), (m_tape, .inl (cB, 500, .inl (fun _ => 0))), (m_five, .inl (cI, 5, .inl g_1))] := hD
  refine lv_aload_n hx hb dX12_feed_22 rfl (lv_at hl 0 rfl) ?_
  refine va_get (D := D) (ci := 12) (v := .ref m_five) (C := RX12) (T := TX12) (N := 48) hx hb hts inlX12 hown hK hP 0 rfl rfl 6 (by decide) (hts _ (inr6 _ (List.mem_of_getElem? (i := 20) rfl))) (fun _ h9 => h9) rfl dX12_feed_23 ?_
  refine lv_iconst (v := 1) hx hb dX12_feed_26 (by decide) ?_
  refine lv_iload_n hx hb dX12_feed_27 rfl (lv_at hl 2 rfl) ?_
  refine va_iast hx hb hK hP hD hS 2 1 rfl rfl (by unfold vp_in; decide) dX12_feed_28 (fun H locs hP hD hS => ?_)
  have hP : va_P D vwCl [(m0, .inr (12, [.int 0, .ref m_world, .ref m_images, .ref m_hasImage, .ref m_tape, .int 0, .ref m_five, .int 0, .int 0, .int 0, .int 0, .int 0, .int 0, .int (-1), .ref m_fresh, .ref m_spokenAt, .ref m_heardAt, .ref m_lastAt, .ref m_answerAt, .int 0, .int 0, .int 0, .long 0, .int 0, .int 0, .ref m_heardNow, .ref m_seenAt, .int 0, .int 0, .int 0, .int 0, .int 0, .ref m_fewest, .ref m_costNow, .ref m_costThen, .ref m_lawsOf, .ref m_heardBy, .int 0, .int 0, .ref m_placesOf, .ref m_sentIn, .int 0, .int 0, .ref m_lostBy, .ref m_many, .ref m_width, .ref m_numbers, .ref m_moving])), (m_tape, .inl (cB, 500, .inl (fun _ => 0))), (m_five, .inl (cI, 5, .inl (upd g_1 (1 : Int32).toNatClampNeg a2)))] H := hP
  have hD : va_D A [(m0, .inr (12, [.int 0, .ref m_world, .ref m_images, .ref m_hasImage, .ref m_tape, .int 0, .ref m_five, .int 0, .int 0, .int 0, .int 0, .int 0, .int 0, .int (-1), .ref m_fresh, .ref m_spokenAt, .ref m_heardAt, .ref m_lastAt, .ref m_answerAt, .int 0, .int 0, .int 0, .long 0, .int 0, .int 0, .ref m_heardNow, .ref m_seenAt, .int 0, .int 0, .int 0, .int 0, .int 0, .ref m_fewest, .ref m_costNow, .ref m_costThen, .ref m_lawsOf, .ref m_heardBy, .int 0, .int 0, .ref m_placesOf, .ref m_sentIn, .int 0, .int 0, .ref m_lostBy, .ref m_many, .ref m_width, .ref m_numbers, .ref m_moving])), (m_tape, .inl (cB, 500, .inl (fun _ => 0))), (m_five, .inl (cI, 5, .inl (upd g_1 (1 : Int32).toNatClampNeg a2)))] := hD
  obtain ⟨g_2, eg_2⟩ : ∃ v9 : Nat → Int32, (upd g_1 (1 : Int32).toNatClampNeg a2) = v9 := ⟨_, rfl⟩
  rw [eg_2] at hP hD
  have hP : va_P D vwCl [(m0, .inr (12, [.int 0, .ref m_world, .ref m_images, .ref m_hasImage, .ref m_tape, .int 0, .ref m_five, .int 0, .int 0, .int 0, .int 0, .int 0, .int 0, .int (-1), .ref m_fresh, .ref m_spokenAt, .ref m_heardAt, .ref m_lastAt, .ref m_answerAt, .int 0, .int 0, .int 0, .long 0, .int 0, .int 0, .ref m_heardNow, .ref m_seenAt, .int 0, .int 0, .int 0, .int 0, .int 0, .ref m_fewest, .ref m_costNow, .ref m_costThen, .ref m_lawsOf, .ref m_heardBy, .int 0, .int 0, .ref m_placesOf, .ref m_sentIn, .int 0, .int 0, .ref m_lostBy, .ref m_many, .ref m_width, .ref m_numbers, .ref m_moving])), (m_tape, .inl (cB, 500, .inl (fun _ => 0))), (m_five, .inl (cI, 5, .inl g_2))] H := hP
  have hD : va_D A [(m0, .inr (12, [.int 0, .ref m_world, .ref m_images, .ref m_hasImage, .ref m_tape, .int 0, .ref m_five, .int 0, .int 0, .int 0, .int 0, .int 0, .int 0, .int (-1), .ref m_fresh, .ref m_spokenAt, .ref m_heardAt, .ref m_lastAt, .ref m_answerAt, .int 0, .int 0, .int 0, .long 0, .int 0, .int 0, .ref m_heardNow, .ref m_seenAt, .int 0, .int 0, .int 0, .int 0, .int 0, .ref m_fewest, .ref m_costNow, .ref m_costThen, .ref m_lawsOf, .ref m_heardBy, .int 0, .int 0, .ref m_placesOf, .ref m_sentIn, .int 0, .int 0, .ref m_lostBy, .ref m_many, .ref m_width, .ref m_numbers, .ref m_moving])), (m_tape, .inl (cB, 500, .inl (fun _ => 0))), (m_five, .inl (cI, 5, .inl g_2))] := hD
  refine lv_aload_n hx hb dX12_feed_29 rfl (lv_at hl 0 rfl) ?_
  refine va_get (D := D) (ci := 12) (v := .ref m_five) (C := RX12) (T := TX12) (N := 48) hx hb hts inlX12 hown hK hP 0 rfl rfl 6 (by decide) (hts _ (inr6 _ (List.mem_of_getElem? (i := 20) rfl))) (fun _ h9 => h9) rfl dX12_feed_30 ?_
  refine lv_iconst (v := 2) hx hb dX12_feed_33 (by decide) ?_
  refine lv_iload_n hx hb dX12_feed_34 rfl (lv_at hl 3 rfl) ?_
  refine va_iast hx hb hK hP hD hS 2 1 rfl rfl (by unfold vp_in; decide) dX12_feed_35 (fun H locs hP hD hS => ?_)
  have hP : va_P D vwCl [(m0, .inr (12, [.int 0, .ref m_world, .ref m_images, .ref m_hasImage, .ref m_tape, .int 0, .ref m_five, .int 0, .int 0, .int 0, .int 0, .int 0, .int 0, .int (-1), .ref m_fresh, .ref m_spokenAt, .ref m_heardAt, .ref m_lastAt, .ref m_answerAt, .int 0, .int 0, .int 0, .long 0, .int 0, .int 0, .ref m_heardNow, .ref m_seenAt, .int 0, .int 0, .int 0, .int 0, .int 0, .ref m_fewest, .ref m_costNow, .ref m_costThen, .ref m_lawsOf, .ref m_heardBy, .int 0, .int 0, .ref m_placesOf, .ref m_sentIn, .int 0, .int 0, .ref m_lostBy, .ref m_many, .ref m_width, .ref m_numbers, .ref m_moving])), (m_tape, .inl (cB, 500, .inl (fun _ => 0))), (m_five, .inl (cI, 5, .inl (upd g_2 (2 : Int32).toNatClampNeg a3)))] H := hP
  have hD : va_D A [(m0, .inr (12, [.int 0, .ref m_world, .ref m_images, .ref m_hasImage, .ref m_tape, .int 0, .ref m_five, .int 0, .int 0, .int 0, .int 0, .int 0, .int 0, .int (-1), .ref m_fresh, .ref m_spokenAt, .ref m_heardAt, .ref m_lastAt, .ref m_answerAt, .int 0, .int 0, .int 0, .long 0, .int 0, .int 0, .ref m_heardNow, .ref m_seenAt, .int 0, .int 0, .int 0, .int 0, .int 0, .ref m_fewest, .ref m_costNow, .ref m_costThen, .ref m_lawsOf, .ref m_heardBy, .int 0, .int 0, .ref m_placesOf, .ref m_sentIn, .int 0, .int 0, .ref m_lostBy, .ref m_many, .ref m_width, .ref m_numbers, .ref m_moving])), (m_tape, .inl (cB, 500, .inl (fun _ => 0))), (m_five, .inl (cI, 5, .inl (upd g_2 (2 : Int32).toNatClampNeg a3)))] := hD
  obtain ⟨g_3, eg_3⟩ : ∃ v9 : Nat → Int32, (upd g_2 (2 : Int32).toNatClampNeg a3) = v9 := ⟨_, rfl⟩
  rw [eg_3] at hP hD
  have hP : va_P D vwCl [(m0, .inr (12, [.int 0, .ref m_world, .ref m_images, .ref m_hasImage, .ref m_tape, .int 0, .ref m_five, .int 0, .int 0, .int 0, .int 0, .int 0, .int 0, .int (-1), .ref m_fresh, .ref m_spokenAt, .ref m_heardAt, .ref m_lastAt, .ref m_answerAt, .int 0, .int 0, .int 0, .long 0, .int 0, .int 0, .ref m_heardNow, .ref m_seenAt, .int 0, .int 0, .int 0, .int 0, .int 0, .ref m_fewest, .ref m_costNow, .ref m_costThen, .ref m_lawsOf, .ref m_heardBy, .int 0, .int 0, .ref m_placesOf, .ref m_sentIn, .int 0, .int 0, .ref m_lostBy, .ref m_many, .ref m_width, .ref m_numbers, .ref m_moving])), (m_tape, .inl (cB, 500, .inl (fun _ => 0))), (m_five, .inl (cI, 5, .inl g_3))] H := hP
  have hD : va_D A [(m0, .inr (12, [.int 0, .ref m_world, .ref m_images, .ref m_hasImage, .ref m_tape, .int 0, .ref m_five, .int 0, .int 0, .int 0, .int 0, .int 0, .int 0, .int (-1), .ref m_fresh, .ref m_spokenAt, .ref m_heardAt, .ref m_lastAt, .ref m_answerAt, .int 0, .int 0, .int 0, .long 0, .int 0, .int 0, .ref m_heardNow, .ref m_seenAt, .int 0, .int 0, .int 0, .int 0, .int 0, .ref m_fewest, .ref m_costNow, .ref m_costThen, .ref m_lawsOf, .ref m_heardBy, .int 0, .int 0, .ref m_placesOf, .ref m_sentIn, .int 0, .int 0, .ref m_lostBy, .ref m_many, .ref m_width, .ref m_numbers, .ref m_moving])), (m_tape, .inl (cB, 500, .inl (fun _ => 0))), (m_five, .inl (cI, 5, .inl g_3))] := hD
  refine lv_aload_n hx hb dX12_feed_36 rfl (lv_at hl 0 rfl) ?_
  refine va_get (D := D) (ci := 12) (v := .ref m_five) (C := RX12) (T := TX12) (N := 48) hx hb hts inlX12 hown hK hP 0 rfl rfl 6 (by decide) (hts _ (inr6 _ (List.mem_of_getElem? (i := 20) rfl))) (fun _ h9 => h9) rfl dX12_feed_37 ?_
  refine lv_iconst (v := 3) hx hb dX12_feed_40 (by decide) ?_
  refine lv_iload hx hb dX12_feed_41 (lv_at hl 4 rfl) ?_
  refine va_iast hx hb hK hP hD hS 2 1 rfl rfl (by unfold vp_in; decide) dX12_feed_43 (fun H locs hP hD hS => ?_)
  have hP : va_P D vwCl [(m0, .inr (12, [.int 0, .ref m_world, .ref m_images, .ref m_hasImage, .ref m_tape, .int 0, .ref m_five, .int 0, .int 0, .int 0, .int 0, .int 0, .int 0, .int (-1), .ref m_fresh, .ref m_spokenAt, .ref m_heardAt, .ref m_lastAt, .ref m_answerAt, .int 0, .int 0, .int 0, .long 0, .int 0, .int 0, .ref m_heardNow, .ref m_seenAt, .int 0, .int 0, .int 0, .int 0, .int 0, .ref m_fewest, .ref m_costNow, .ref m_costThen, .ref m_lawsOf, .ref m_heardBy, .int 0, .int 0, .ref m_placesOf, .ref m_sentIn, .int 0, .int 0, .ref m_lostBy, .ref m_many, .ref m_width, .ref m_numbers, .ref m_moving])), (m_tape, .inl (cB, 500, .inl (fun _ => 0))), (m_five, .inl (cI, 5, .inl (upd g_3 (3 : Int32).toNatClampNeg a4)))] H := hP
  have hD : va_D A [(m0, .inr (12, [.int 0, .ref m_world, .ref m_images, .ref m_hasImage, .ref m_tape, .int 0, .ref m_five, .int 0, .int 0, .int 0, .int 0, .int 0, .int 0, .int (-1), .ref m_fresh, .ref m_spokenAt, .ref m_heardAt, .ref m_lastAt, .ref m_answerAt, .int 0, .int 0, .int 0, .long 0, .int 0, .int 0, .ref m_heardNow, .ref m_seenAt, .int 0, .int 0, .int 0, .int 0, .int 0, .ref m_fewest, .ref m_costNow, .ref m_costThen, .ref m_lawsOf, .ref m_heardBy, .int 0, .int 0, .ref m_placesOf, .ref m_sentIn, .int 0, .int 0, .ref m_lostBy, .ref m_many, .ref m_width, .ref m_numbers, .ref m_moving])), (m_tape, .inl (cB, 500, .inl (fun _ => 0))), (m_five, .inl (cI, 5, .inl (upd g_3 (3 : Int32).toNatClampNeg a4)))] := hD
  obtain ⟨g_4, eg_4⟩ : ∃ v9 : Nat → Int32, (upd g_3 (3 : Int32).toNatClampNeg a4) = v9 := ⟨_, rfl⟩
  rw [eg_4] at hP hD
  have hP : va_P D vwCl [(m0, .inr (12, [.int 0, .ref m_world, .ref m_images, .ref m_hasImage, .ref m_tape, .int 0, .ref m_five, .int 0, .int 0, .int 0, .int 0, .int 0, .int 0, .int (-1), .ref m_fresh, .ref m_spokenAt, .ref m_heardAt, .ref m_lastAt, .ref m_answerAt, .int 0, .int 0, .int 0, .long 0, .int 0, .int 0, .ref m_heardNow, .ref m_seenAt, .int 0, .int 0, .int 0, .int 0, .int 0, .ref m_fewest, .ref m_costNow, .ref m_costThen, .ref m_lawsOf, .ref m_heardBy, .int 0, .int 0, .ref m_placesOf, .ref m_sentIn, .int 0, .int 0, .ref m_lostBy, .ref m_many, .ref m_width, .ref m_numbers, .ref m_moving])), (m_tape, .inl (cB, 500, .inl (fun _ => 0))), (m_five, .inl (cI, 5, .inl g_4))] H := hP
  have hD : va_D A [(m0, .inr (12, [.int 0, .ref m_world, .ref m_images, .ref m_hasImage, .ref m_tape, .int 0, .ref m_five, .int 0, .int 0, .int 0, .int 0, .int 0, .int 0, .int (-1), .ref m_fresh, .ref m_spokenAt, .ref m_heardAt, .ref m_lastAt, .ref m_answerAt, .int 0, .int 0, .int 0, .long 0, .int 0, .int 0, .ref m_heardNow, .ref m_seenAt, .int 0, .int 0, .int 0, .int 0, .int 0, .ref m_fewest, .ref m_costNow, .ref m_costThen, .ref m_lawsOf, .ref m_heardBy, .int 0, .int 0, .ref m_placesOf, .ref m_sentIn, .int 0, .int 0, .ref m_lostBy, .ref m_many, .ref m_width, .ref m_numbers, .ref m_moving])), (m_tape, .inl (cB, 500, .inl (fun _ => 0))), (m_five, .inl (cI, 5, .inl g_4))] := hD
  refine lv_aload_n hx hb dX12_feed_44 rfl (lv_at hl 0 rfl) ?_
  refine va_get (D := D) (ci := 12) (v := .ref m_five) (C := RX12) (T := TX12) (N := 48) hx hb hts inlX12 hown hK hP 0 rfl rfl 6 (by decide) (hts _ (inr6 _ (List.mem_of_getElem? (i := 20) rfl))) (fun _ h9 => h9) rfl dX12_feed_45 ?_
  refine lv_iconst (v := 4) hx hb dX12_feed_48 (by decide) ?_
  refine lv_iload hx hb dX12_feed_49 (lv_at hl 5 rfl) ?_
  refine va_iast hx hb hK hP hD hS 2 1 rfl rfl (by unfold vp_in; decide) dX12_feed_51 (fun H locs hP hD hS => ?_)
  have hP : va_P D vwCl [(m0, .inr (12, [.int 0, .ref m_world, .ref m_images, .ref m_hasImage, .ref m_tape, .int 0, .ref m_five, .int 0, .int 0, .int 0, .int 0, .int 0, .int 0, .int (-1), .ref m_fresh, .ref m_spokenAt, .ref m_heardAt, .ref m_lastAt, .ref m_answerAt, .int 0, .int 0, .int 0, .long 0, .int 0, .int 0, .ref m_heardNow, .ref m_seenAt, .int 0, .int 0, .int 0, .int 0, .int 0, .ref m_fewest, .ref m_costNow, .ref m_costThen, .ref m_lawsOf, .ref m_heardBy, .int 0, .int 0, .ref m_placesOf, .ref m_sentIn, .int 0, .int 0, .ref m_lostBy, .ref m_many, .ref m_width, .ref m_numbers, .ref m_moving])), (m_tape, .inl (cB, 500, .inl (fun _ => 0))), (m_five, .inl (cI, 5, .inl (upd g_4 (4 : Int32).toNatClampNeg a5)))] H := hP
  have hD : va_D A [(m0, .inr (12, [.int 0, .ref m_world, .ref m_images, .ref m_hasImage, .ref m_tape, .int 0, .ref m_five, .int 0, .int 0, .int 0, .int 0, .int 0, .int 0, .int (-1), .ref m_fresh, .ref m_spokenAt, .ref m_heardAt, .ref m_lastAt, .ref m_answerAt, .int 0, .int 0, .int 0, .long 0, .int 0, .int 0, .ref m_heardNow, .ref m_seenAt, .int 0, .int 0, .int 0, .int 0, .int 0, .ref m_fewest, .ref m_costNow, .ref m_costThen, .ref m_lawsOf, .ref m_heardBy, .int 0, .int 0, .ref m_placesOf, .ref m_sentIn, .int 0, .int 0, .ref m_lostBy, .ref m_many, .ref m_width, .ref m_numbers, .ref m_moving])), (m_tape, .inl (cB, 500, .inl (fun _ => 0))), (m_five, .inl (cI, 5, .inl (upd g_4 (4 : Int32).toNatClampNeg a5)))] := hD
  obtain ⟨g_5, eg_5⟩ : ∃ v9 : Nat → Int32, (upd g_4 (4 : Int32).toNatClampNeg a5) = v9 := ⟨_, rfl⟩
  rw [eg_5] at hP hD
  have hP : va_P D vwCl [(m0, .inr (12, [.int 0, .ref m_world, .ref m_images, .ref m_hasImage, .ref m_tape, .int 0, .ref m_five, .int 0, .int 0, .int 0, .int 0, .int 0, .int 0, .int (-1), .ref m_fresh, .ref m_spokenAt, .ref m_heardAt, .ref m_lastAt, .ref m_answerAt, .int 0, .int 0, .int 0, .long 0, .int 0, .int 0, .ref m_heardNow, .ref m_seenAt, .int 0, .int 0, .int 0, .int 0, .int 0, .ref m_fewest, .ref m_costNow, .ref m_costThen, .ref m_lawsOf, .ref m_heardBy, .int 0, .int 0, .ref m_placesOf, .ref m_sentIn, .int 0, .int 0, .ref m_lostBy, .ref m_many, .ref m_width, .ref m_numbers, .ref m_moving])), (m_tape, .inl (cB, 500, .inl (fun _ => 0))), (m_five, .inl (cI, 5, .inl g_5))] H := hP
  have hD : va_D A [(m0, .inr (12, [.int 0, .ref m_world, .ref m_images, .ref m_hasImage, .ref m_tape, .int 0, .ref m_five, .int 0, .int 0, .int 0, .int 0, .int 0, .int 0, .int (-1), .ref m_fresh, .ref m_spokenAt, .ref m_heardAt, .ref m_lastAt, .ref m_answerAt, .int 0, .int 0, .int 0, .long 0, .int 0, .int 0, .ref m_heardNow, .ref m_seenAt, .int 0, .int 0, .int 0, .int 0, .int 0, .ref m_fewest, .ref m_costNow, .ref m_costThen, .ref m_lawsOf, .ref m_heardBy, .int 0, .int 0, .ref m_placesOf, .ref m_sentIn, .int 0, .int 0, .ref m_lostBy, .ref m_many, .ref m_width, .ref m_numbers, .ref m_moving])), (m_tape, .inl (cB, 500, .inl (fun _ => 0))), (m_five, .inl (cI, 5, .inl g_5))] := hD
  refine lv_iconst (v := 0) hx hb dX12_feed_52 (by decide) ?_
  refine lv_istore (lv' := [(6, .int 0), (0, .ref m0), (1, .int a1), (2, .int a2), (3, .int a3), (4, .int a4), (5, .int a5)]) hx hb dX12_feed_53 hl (by decide) rfl (fun ls hl => ?_)
  refine lv_iload hx hb dX12_feed_55 (lv_at hl 0 rfl) ?_
  refine lv_bipush (v := 20) hx hb dX12_feed_57 (by decide) ?_
  refine lv_icmp_ge (tgt := 101) hx hb dX12_feed_59 (by decide) (fun c0 => absurd c0 (by decide)) (fun _ => ?_)
  refine lv_aload_n hx hb dX12_feed_62 rfl (lv_at hl 1 rfl) ?_
  refine va_get (D := D) (ci := 12) (v := .ref m_tape) (C := RX12) (T := TX12) (N := 48) hx hb hts inlX12 hown hK hP 0 rfl rfl 4 (by decide) (hts _ (inr6 _ (List.mem_of_getElem? (i := 19) rfl))) (fun _ h9 => h9) rfl dX12_feed_63 ?_
  refine lv_aload_n hx hb dX12_feed_66 rfl (lv_at hl 1 rfl) ?_
  refine va_get (D := D) (ci := 12) (v := .int 0) (C := RX12) (T := TX12) (N := 48) hx hb hts inlX12 hown hK hP 0 rfl rfl 5 (by decide) (hts _ (inr8 _ (List.mem_of_getElem? (i := 11) rfl))) (fun _ h9 => h9) rfl dX12_feed_67 ?_
  refine lv_iload hx hb dX12_feed_70 (lv_at hl 0 rfl) ?_
  refine z_iadd (v := 0) hx hb dX12_feed_72 (by decide) ?_
  refine lv_aload_n hx hb dX12_feed_73 rfl (lv_at hl 1 rfl) ?_
  refine va_get (D := D) (ci := 12) (v := .ref m_five) (C := RX12) (T := TX12) (N := 48) hx hb hts inlX12 hown hK hP 0 rfl rfl 6 (by decide) (hts _ (inr6 _ (List.mem_of_getElem? (i := 20) rfl))) (fun _ h9 => h9) rfl dX12_feed_74 ?_
  refine lv_iload hx hb dX12_feed_77 (lv_at hl 0 rfl) ?_
  refine lv_iconst (v := 4) hx hb dX12_feed_79 (by decide) ?_
  refine z_idiv (v := 0) hx hb dX12_feed_80 (by decide) (by decide) ?_
  obtain ⟨t_6, et_6⟩ : ∃ v9 : Int32, g_5 (0 : Int32).toNatClampNeg = v9 := ⟨_, rfl⟩
  refine z_iald (v := t_6) hx hb hK hP 2 1 rfl rfl (by unfold vp_in; decide) et_6 dX12_feed_81 ?_
  refine lv_bipush (v := 24) hx hb dX12_feed_82 (by decide) ?_
  refine lv_bipush (v := 8) hx hb dX12_feed_84 (by decide) ?_
  refine lv_iload hx hb dX12_feed_86 (lv_at hl 0 rfl) ?_
  refine lv_iconst (v := 4) hx hb dX12_feed_88 (by decide) ?_
  refine z_irem (v := 0) hx hb dX12_feed_89 (by decide) (by decide) ?_
  refine z_imul (v := 0) hx hb dX12_feed_90 (by decide) ?_
  refine z_isub (v := 24) hx hb dX12_feed_91 (by decide) ?_
  obtain ⟨t_7, et_7⟩ : ∃ v9 : Int32, t_6 >>> (24 &&& 31) = v9 := ⟨_, rfl⟩
  refine z_ishr (v := t_7) hx hb dX12_feed_92 et_7 ?_
  obtain ⟨t_8, et_8⟩ : ∃ v9 : Int32, (t_7 : Int32).toInt8.toInt32 = v9 := ⟨_, rfl⟩
  refine lv_i2b (v := t_8) hx hb dX12_feed_93 et_8 ?_
  refine va_bast hx hb hK hP hD hS 1 0 rfl rfl (by unfold vp_in; decide) dX12_feed_94 (fun H locs hP hD hS => ?_)
  have hP : va_P D vwCl [(m0, .inr (12, [.int 0, .ref m_world, .ref m_images, .ref m_hasImage, .ref m_tape, .int 0, .ref m_five, .int 0, .int 0, .int 0, .int 0, .int 0, .int 0, .int (-1), .ref m_fresh, .ref m_spokenAt, .ref m_heardAt, .ref m_lastAt, .ref m_answerAt, .int 0, .int 0, .int 0, .long 0, .int 0, .int 0, .ref m_heardNow, .ref m_seenAt, .int 0, .int 0, .int 0, .int 0, .int 0, .ref m_fewest, .ref m_costNow, .ref m_costThen, .ref m_lawsOf, .ref m_heardBy, .int 0, .int 0, .ref m_placesOf, .ref m_sentIn, .int 0, .int 0, .ref m_lostBy, .ref m_many, .ref m_width, .ref m_numbers, .ref m_moving])), (m_tape, .inl (cB, 500, .inl (upd (fun _ => 0) (0 : Int32).toNatClampNeg (vp_nar .byte t_8)))), (m_five, .inl (cI, 5, .inl g_5))] H := hP
  have hD : va_D A [(m0, .inr (12, [.int 0, .ref m_world, .ref m_images, .ref m_hasImage, .ref m_tape, .int 0, .ref m_five, .int 0, .int 0, .int 0, .int 0, .int 0, .int 0, .int (-1), .ref m_fresh, .ref m_spokenAt, .ref m_heardAt, .ref m_lastAt, .ref m_answerAt, .int 0, .int 0, .int 0, .long 0, .int 0, .int 0, .ref m_heardNow, .ref m_seenAt, .int 0, .int 0, .int 0, .int 0, .int 0, .ref m_fewest, .ref m_costNow, .ref m_costThen, .ref m_lawsOf, .ref m_heardBy, .int 0, .int 0, .ref m_placesOf, .ref m_sentIn, .int 0, .int 0, .ref m_lostBy, .ref m_many, .ref m_width, .ref m_numbers, .ref m_moving])), (m_tape, .inl (cB, 500, .inl (upd (fun _ => 0) (0 : Int32).toNatClampNeg (vp_nar .byte t_8)))), (m_five, .inl (cI, 5, .inl g_5))] := hD
  obtain ⟨g_9, eg_9⟩ : ∃ v9 : Nat → Int32, (upd (fun _ => 0) (0 : Int32).toNatClampNeg (vp_nar .byte t_8)) = v9 := ⟨_, rfl⟩
  rw [eg_9] at hP hD
  have hP : va_P D vwCl [(m0, .inr (12, [.int 0, .ref m_world, .ref m_images, .ref m_hasImage, .ref m_tape, .int 0, .ref m_five, .int 0, .int 0, .int 0, .int 0, .int 0, .int 0, .int (-1), .ref m_fresh, .ref m_spokenAt, .ref m_heardAt, .ref m_lastAt, .ref m_answerAt, .int 0, .int 0, .int 0, .long 0, .int 0, .int 0, .ref m_heardNow, .ref m_seenAt, .int 0, .int 0, .int 0, .int 0, .int 0, .ref m_fewest, .ref m_costNow, .ref m_costThen, .ref m_lawsOf, .ref m_heardBy, .int 0, .int 0, .ref m_placesOf, .ref m_sentIn, .int 0, .int 0, .ref m_lostBy, .ref m_many, .ref m_width, .ref m_numbers, .ref m_moving])), (m_tape, .inl (cB, 500, .inl g_9)), (m_five, .inl (cI, 5, .inl g_5))] H := hP
  have hD : va_D A [(m0, .inr (12, [.int 0, .ref m_world, .ref m_images, .ref m_hasImage, .ref m_tape, .int 0, .ref m_five, .int 0, .int 0, .int 0, .int 0, .int 0, .int 0, .int (-1), .ref m_fresh, .ref m_spokenAt, .ref m_heardAt, .ref m_lastAt, .ref m_answerAt, .int 0, .int 0, .int 0, .long 0, .int 0, .int 0, .ref m_heardNow, .ref m_seenAt, .int 0, .int 0, .int 0, .int 0, .int 0, .ref m_fewest, .ref m_costNow, .ref m_costThen, .ref m_lawsOf, .ref m_heardBy, .int 0, .int 0, .ref m_placesOf, .ref m_sentIn, .int 0, .int 0, .ref m_lostBy, .ref m_many, .ref m_width, .ref m_numbers, .ref m_moving])), (m_tape, .inl (cB, 500, .inl g_9)), (m_five, .inl (cI, 5, .inl g_5))] := hD
  refine lv_iinc (v := 1) (lv' := [(6, .int 1), (0, .ref m0), (1, .int a1), (2, .int a2), (3, .int a3), (4, .int a4), (5, .int a5)]) hx hb dX12_feed_95 hl (k := 0) rfl (by decide) (by decide) rfl (fun ls hl => ?_)
  refine lv_goto (tgt := 55) hx hb dX12_feed_98 (by decide) ?_
  refine lv_iload hx hb dX12_feed_55 (lv_at hl 0 rfl) ?_
  refine lv_bipush (v := 20) hx hb dX12_feed_57 (by decide) ?_
  refine lv_icmp_ge (tgt := 101) hx hb dX12_feed_59 (by decide) (fun c0 => absurd c0 (by decide)) (fun _ => ?_)
  refine lv_aload_n hx hb dX12_feed_62 rfl (lv_at hl 1 rfl) ?_
  refine va_get (D := D) (ci := 12) (v := .ref m_tape) (C := RX12) (T := TX12) (N := 48) hx hb hts inlX12 hown hK hP 0 rfl rfl 4 (by decide) (hts _ (inr6 _ (List.mem_of_getElem? (i := 19) rfl))) (fun _ h9 => h9) rfl dX12_feed_63 ?_
  refine lv_aload_n hx hb dX12_feed_66 rfl (lv_at hl 1 rfl) ?_
  refine va_get (D := D) (ci := 12) (v := .int 0) (C := RX12) (T := TX12) (N := 48) hx hb hts inlX12 hown hK hP 0 rfl rfl 5 (by decide) (hts _ (inr8 _ (List.mem_of_getElem? (i := 11) rfl))) (fun _ h9 => h9) rfl dX12_feed_67 ?_
  refine lv_iload hx hb dX12_feed_70 (lv_at hl 0 rfl) ?_
  refine z_iadd (v := 1) hx hb dX12_feed_72 (by decide) ?_
  refine lv_aload_n hx hb dX12_feed_73 rfl (lv_at hl 1 rfl) ?_
  refine va_get (D := D) (ci := 12) (v := .ref m_five) (C := RX12) (T := TX12) (N := 48) hx hb hts inlX12 hown hK hP 0 rfl rfl 6 (by decide) (hts _ (inr6 _ (List.mem_of_getElem? (i := 20) rfl))) (fun _ h9 => h9) rfl dX12_feed_74 ?_
  refine lv_iload hx hb dX12_feed_77 (lv_at hl 0 rfl) ?_
  refine lv_iconst (v := 4) hx hb dX12_feed_79 (by decide) ?_
  refine z_idiv (v := 0) hx hb dX12_feed_80 (by decide) (by decide) ?_
  obtain ⟨t_10, et_10⟩ : ∃ v9 : Int32, g_5 (0 : Int32).toNatClampNeg = v9 := ⟨_, rfl⟩
  refine z_iald (v := t_10) hx hb hK hP 2 1 rfl rfl (by unfold vp_in; decide) et_10 dX12_feed_81 ?_
  refine lv_bipush (v := 24) hx hb dX12_feed_82 (by decide) ?_
  refine lv_bipush (v := 8) hx hb dX12_feed_84 (by decide) ?_
  refine lv_iload hx hb dX12_feed_86 (lv_at hl 0 rfl) ?_
  refine lv_iconst (v := 4) hx hb dX12_feed_88 (by decide) ?_
  refine z_irem (v := 1) hx hb dX12_feed_89 (by decide) (by decide) ?_
  refine z_imul (v := 8) hx hb dX12_feed_90 (by decide) ?_
  refine z_isub (v := 16) hx hb dX12_feed_91 (by decide) ?_
  obtain ⟨t_11, et_11⟩ : ∃ v9 : Int32, t_10 >>> (16 &&& 31) = v9 := ⟨_, rfl⟩
  refine z_ishr (v := t_11) hx hb dX12_feed_92 et_11 ?_
  obtain ⟨t_12, et_12⟩ : ∃ v9 : Int32, (t_11 : Int32).toInt8.toInt32 = v9 := ⟨_, rfl⟩
  refine lv_i2b (v := t_12) hx hb dX12_feed_93 et_12 ?_
  refine va_bast hx hb hK hP hD hS 1 0 rfl rfl (by unfold vp_in; decide) dX12_feed_94 (fun H locs hP hD hS => ?_)
  have hP : va_P D vwCl [(m0, .inr (12, [.int 0, .ref m_world, .ref m_images, .ref m_hasImage, .ref m_tape, .int 0, .ref m_five, .int 0, .int 0, .int 0, .int 0, .int 0, .int 0, .int (-1), .ref m_fresh, .ref m_spokenAt, .ref m_heardAt, .ref m_lastAt, .ref m_answerAt, .int 0, .int 0, .int 0, .long 0, .int 0, .int 0, .ref m_heardNow, .ref m_seenAt, .int 0, .int 0, .int 0, .int 0, .int 0, .ref m_fewest, .ref m_costNow, .ref m_costThen, .ref m_lawsOf, .ref m_heardBy, .int 0, .int 0, .ref m_placesOf, .ref m_sentIn, .int 0, .int 0, .ref m_lostBy, .ref m_many, .ref m_width, .ref m_numbers, .ref m_moving])), (m_tape, .inl (cB, 500, .inl (upd g_9 (1 : Int32).toNatClampNeg (vp_nar .byte t_12)))), (m_five, .inl (cI, 5, .inl g_5))] H := hP
  have hD : va_D A [(m0, .inr (12, [.int 0, .ref m_world, .ref m_images, .ref m_hasImage, .ref m_tape, .int 0, .ref m_five, .int 0, .int 0, .int 0, .int 0, .int 0, .int 0, .int (-1), .ref m_fresh, .ref m_spokenAt, .ref m_heardAt, .ref m_lastAt, .ref m_answerAt, .int 0, .int 0, .int 0, .long 0, .int 0, .int 0, .ref m_heardNow, .ref m_seenAt, .int 0, .int 0, .int 0, .int 0, .int 0, .ref m_fewest, .ref m_costNow, .ref m_costThen, .ref m_lawsOf, .ref m_heardBy, .int 0, .int 0, .ref m_placesOf, .ref m_sentIn, .int 0, .int 0, .ref m_lostBy, .ref m_many, .ref m_width, .ref m_numbers, .ref m_moving])), (m_tape, .inl (cB, 500, .inl (upd g_9 (1 : Int32).toNatClampNeg (vp_nar .byte t_12)))), (m_five, .inl (cI, 5, .inl g_5))] := hD
  obtain ⟨g_13, eg_13⟩ : ∃ v9 : Nat → Int32, (upd g_9 (1 : Int32).toNatClampNeg (vp_nar .byte t_12)) = v9 := ⟨_, rfl⟩
  rw [eg_13] at hP hD
  have hP : va_P D vwCl [(m0, .inr (12, [.int 0, .ref m_world, .ref m_images, .ref m_hasImage, .ref m_tape, .int 0, .ref m_five, .int 0, .int 0, .int 0, .int 0, .int 0, .int 0, .int (-1), .ref m_fresh, .ref m_spokenAt, .ref m_heardAt, .ref m_lastAt, .ref m_answerAt, .int 0, .int 0, .int 0, .long 0, .int 0, .int 0, .ref m_heardNow, .ref m_seenAt, .int 0, .int 0, .int 0, .int 0, .int 0, .ref m_fewest, .ref m_costNow, .ref m_costThen, .ref m_lawsOf, .ref m_heardBy, .int 0, .int 0, .ref m_placesOf, .ref m_sentIn, .int 0, .int 0, .ref m_lostBy, .ref m_many, .ref m_width, .ref m_numbers, .ref m_moving])), (m_tape, .inl (cB, 500, .inl g_13)), (m_five, .inl (cI, 5, .inl g_5))] H := hP
  have hD : va_D A [(m0, .inr (12, [.int 0, .ref m_world, .ref m_images, .ref m_hasImage, .ref m_tape, .int 0, .ref m_five, .int 0, .int 0, .int 0, .int 0, .int 0, .int 0, .int (-1), .ref m_fresh, .ref m_spokenAt, .ref m_heardAt, .ref m_lastAt, .ref m_answerAt, .int 0, .int 0, .int 0, .long 0, .int 0, .int 0, .ref m_heardNow, .ref m_seenAt, .int 0, .int 0, .int 0, .int 0, .int 0, .ref m_fewest, .ref m_costNow, .ref m_costThen, .ref m_lawsOf, .ref m_heardBy, .int 0, .int 0, .ref m_placesOf, .ref m_sentIn, .int 0, .int 0, .ref m_lostBy, .ref m_many, .ref m_width, .ref m_numbers, .ref m_moving])), (m_tape, .inl (cB, 500, .inl g_13)), (m_five, .inl (cI, 5, .inl g_5))] := hD
  refine lv_iinc (v := 2) (lv' := [(6, .int 2), (0, .ref m0), (1, .int a1), (2, .int a2), (3, .int a3), (4, .int a4), (5, .int a5)]) hx hb dX12_feed_95 hl (k := 0) rfl (by decide) (by decide) rfl (fun ls hl => ?_)
  refine lv_goto (tgt := 55) hx hb dX12_feed_98 (by decide) ?_
  refine lv_iload hx hb dX12_feed_55 (lv_at hl 0 rfl) ?_
  refine lv_bipush (v := 20) hx hb dX12_feed_57 (by decide) ?_
  refine lv_icmp_ge (tgt := 101) hx hb dX12_feed_59 (by decide) (fun c0 => absurd c0 (by decide)) (fun _ => ?_)
  refine lv_aload_n hx hb dX12_feed_62 rfl (lv_at hl 1 rfl) ?_
  refine va_get (D := D) (ci := 12) (v := .ref m_tape) (C := RX12) (T := TX12) (N := 48) hx hb hts inlX12 hown hK hP 0 rfl rfl 4 (by decide) (hts _ (inr6 _ (List.mem_of_getElem? (i := 19) rfl))) (fun _ h9 => h9) rfl dX12_feed_63 ?_
  refine lv_aload_n hx hb dX12_feed_66 rfl (lv_at hl 1 rfl) ?_
  refine va_get (D := D) (ci := 12) (v := .int 0) (C := RX12) (T := TX12) (N := 48) hx hb hts inlX12 hown hK hP 0 rfl rfl 5 (by decide) (hts _ (inr8 _ (List.mem_of_getElem? (i := 11) rfl))) (fun _ h9 => h9) rfl dX12_feed_67 ?_
  refine lv_iload hx hb dX12_feed_70 (lv_at hl 0 rfl) ?_
  refine z_iadd (v := 2) hx hb dX12_feed_72 (by decide) ?_
  refine lv_aload_n hx hb dX12_feed_73 rfl (lv_at hl 1 rfl) ?_
  refine va_get (D := D) (ci := 12) (v := .ref m_five) (C := RX12) (T := TX12) (N := 48) hx hb hts inlX12 hown hK hP 0 rfl rfl 6 (by decide) (hts _ (inr6 _ (List.mem_of_getElem? (i := 20) rfl))) (fun _ h9 => h9) rfl dX12_feed_74 ?_
  refine lv_iload hx hb dX12_feed_77 (lv_at hl 0 rfl) ?_
  refine lv_iconst (v := 4) hx hb dX12_feed_79 (by decide) ?_
  refine z_idiv (v := 0) hx hb dX12_feed_80 (by decide) (by decide) ?_
  obtain ⟨t_14, et_14⟩ : ∃ v9 : Int32, g_5 (0 : Int32).toNatClampNeg = v9 := ⟨_, rfl⟩
  refine z_iald (v := t_14) hx hb hK hP 2 1 rfl rfl (by unfold vp_in; decide) et_14 dX12_feed_81 ?_
  refine lv_bipush (v := 24) hx hb dX12_feed_82 (by decide) ?_
  refine lv_bipush (v := 8) hx hb dX12_feed_84 (by decide) ?_
  refine lv_iload hx hb dX12_feed_86 (lv_at hl 0 rfl) ?_
  refine lv_iconst (v := 4) hx hb dX12_feed_88 (by decide) ?_
  refine z_irem (v := 2) hx hb dX12_feed_89 (by decide) (by decide) ?_
  refine z_imul (v := 16) hx hb dX12_feed_90 (by decide) ?_
  refine z_isub (v := 8) hx hb dX12_feed_91 (by decide) ?_
  obtain ⟨t_15, et_15⟩ : ∃ v9 : Int32, t_14 >>> (8 &&& 31) = v9 := ⟨_, rfl⟩
  refine z_ishr (v := t_15) hx hb dX12_feed_92 et_15 ?_
  obtain ⟨t_16, et_16⟩ : ∃ v9 : Int32, (t_15 : Int32).toInt8.toInt32 = v9 := ⟨_, rfl⟩
  refine lv_i2b (v := t_16) hx hb dX12_feed_93 et_16 ?_
  refine va_bast hx hb hK hP hD hS 1 0 rfl rfl (by unfold vp_in; decide) dX12_feed_94 (fun H locs hP hD hS => ?_)
  have hP : va_P D vwCl [(m0, .inr (12, [.int 0, .ref m_world, .ref m_images, .ref m_hasImage, .ref m_tape, .int 0, .ref m_five, .int 0, .int 0, .int 0, .int 0, .int 0, .int 0, .int (-1), .ref m_fresh, .ref m_spokenAt, .ref m_heardAt, .ref m_lastAt, .ref m_answerAt, .int 0, .int 0, .int 0, .long 0, .int 0, .int 0, .ref m_heardNow, .ref m_seenAt, .int 0, .int 0, .int 0, .int 0, .int 0, .ref m_fewest, .ref m_costNow, .ref m_costThen, .ref m_lawsOf, .ref m_heardBy, .int 0, .int 0, .ref m_placesOf, .ref m_sentIn, .int 0, .int 0, .ref m_lostBy, .ref m_many, .ref m_width, .ref m_numbers, .ref m_moving])), (m_tape, .inl (cB, 500, .inl (upd g_13 (2 : Int32).toNatClampNeg (vp_nar .byte t_16)))), (m_five, .inl (cI, 5, .inl g_5))] H := hP
  have hD : va_D A [(m0, .inr (12, [.int 0, .ref m_world, .ref m_images, .ref m_hasImage, .ref m_tape, .int 0, .ref m_five, .int 0, .int 0, .int 0, .int 0, .int 0, .int 0, .int (-1), .ref m_fresh, .ref m_spokenAt, .ref m_heardAt, .ref m_lastAt, .ref m_answerAt, .int 0, .int 0, .int 0, .long 0, .int 0, .int 0, .ref m_heardNow, .ref m_seenAt, .int 0, .int 0, .int 0, .int 0, .int 0, .ref m_fewest, .ref m_costNow, .ref m_costThen, .ref m_lawsOf, .ref m_heardBy, .int 0, .int 0, .ref m_placesOf, .ref m_sentIn, .int 0, .int 0, .ref m_lostBy, .ref m_many, .ref m_width, .ref m_numbers, .ref m_moving])), (m_tape, .inl (cB, 500, .inl (upd g_13 (2 : Int32).toNatClampNeg (vp_nar .byte t_16)))), (m_five, .inl (cI, 5, .inl g_5))] := hD
  obtain ⟨g_17, eg_17⟩ : ∃ v9 : Nat → Int32, (upd g_13 (2 : Int32).toNatClampNeg (vp_nar .byte t_16)) = v9 := ⟨_, rfl⟩
  rw [eg_17] at hP hD
  have hP : va_P D vwCl [(m0, .inr (12, [.int 0, .ref m_world, .ref m_images, .ref m_hasImage, .ref m_tape, .int 0, .ref m_five, .int 0, .int 0, .int 0, .int 0, .int 0, .int 0, .int (-1), .ref m_fresh, .ref m_spokenAt, .ref m_heardAt, .ref m_lastAt, .ref m_answerAt, .int 0, .int 0, .int 0, .long 0, .int 0, .int 0, .ref m_heardNow, .ref m_seenAt, .int 0, .int 0, .int 0, .int 0, .int 0, .ref m_fewest, .ref m_costNow, .ref m_costThen, .ref m_lawsOf, .ref m_heardBy, .int 0, .int 0, .ref m_placesOf, .ref m_sentIn, .int 0, .int 0, .ref m_lostBy, .ref m_many, .ref m_width, .ref m_numbers, .ref m_moving])), (m_tape, .inl (cB, 500, .inl g_17)), (m_five, .inl (cI, 5, .inl g_5))] H := hP
  have hD : va_D A [(m0, .inr (12, [.int 0, .ref m_world, .ref m_images, .ref m_hasImage, .ref m_tape, .int 0, .ref m_five, .int 0, .int 0, .int 0, .int 0, .int 0, .int 0, .int (-1), .ref m_fresh, .ref m_spokenAt, .ref m_heardAt, .ref m_lastAt, .ref m_answerAt, .int 0, .int 0, .int 0, .long 0, .int 0, .int 0, .ref m_heardNow, .ref m_seenAt, .int 0, .int 0, .int 0, .int 0, .int 0, .ref m_fewest, .ref m_costNow, .ref m_costThen, .ref m_lawsOf, .ref m_heardBy, .int 0, .int 0, .ref m_placesOf, .ref m_sentIn, .int 0, .int 0, .ref m_lostBy, .ref m_many, .ref m_width, .ref m_numbers, .ref m_moving])), (m_tape, .inl (cB, 500, .inl g_17)), (m_five, .inl (cI, 5, .inl g_5))] := hD
  refine lv_iinc (v := 3) (lv' := [(6, .int 3), (0, .ref m0), (1, .int a1), (2, .int a2), (3, .int a3), (4, .int a4), (5, .int a5)]) hx hb dX12_feed_95 hl (k := 0) rfl (by decide) (by decide) rfl (fun ls hl => ?_)
  refine lv_goto (tgt := 55) hx hb dX12_feed_98 (by decide) ?_
  refine lv_iload hx hb dX12_feed_55 (lv_at hl 0 rfl) ?_
  refine lv_bipush (v := 20) hx hb dX12_feed_57 (by decide) ?_
  refine lv_icmp_ge (tgt := 101) hx hb dX12_feed_59 (by decide) (fun c0 => absurd c0 (by decide)) (fun _ => ?_)
  refine lv_aload_n hx hb dX12_feed_62 rfl (lv_at hl 1 rfl) ?_
  refine va_get (D := D) (ci := 12) (v := .ref m_tape) (C := RX12) (T := TX12) (N := 48) hx hb hts inlX12 hown hK hP 0 rfl rfl 4 (by decide) (hts _ (inr6 _ (List.mem_of_getElem? (i := 19) rfl))) (fun _ h9 => h9) rfl dX12_feed_63 ?_
  refine lv_aload_n hx hb dX12_feed_66 rfl (lv_at hl 1 rfl) ?_
  refine va_get (D := D) (ci := 12) (v := .int 0) (C := RX12) (T := TX12) (N := 48) hx hb hts inlX12 hown hK hP 0 rfl rfl 5 (by decide) (hts _ (inr8 _ (List.mem_of_getElem? (i := 11) rfl))) (fun _ h9 => h9) rfl dX12_feed_67 ?_
  refine lv_iload hx hb dX12_feed_70 (lv_at hl 0 rfl) ?_
  refine z_iadd (v := 3) hx hb dX12_feed_72 (by decide) ?_
  refine lv_aload_n hx hb dX12_feed_73 rfl (lv_at hl 1 rfl) ?_
  refine va_get (D := D) (ci := 12) (v := .ref m_five) (C := RX12) (T := TX12) (N := 48) hx hb hts inlX12 hown hK hP 0 rfl rfl 6 (by decide) (hts _ (inr6 _ (List.mem_of_getElem? (i := 20) rfl))) (fun _ h9 => h9) rfl dX12_feed_74 ?_
  refine lv_iload hx hb dX12_feed_77 (lv_at hl 0 rfl) ?_
  refine lv_iconst (v := 4) hx hb dX12_feed_79 (by decide) ?_
  refine z_idiv (v := 0) hx hb dX12_feed_80 (by decide) (by decide) ?_
  obtain ⟨t_18, et_18⟩ : ∃ v9 : Int32, g_5 (0 : Int32).toNatClampNeg = v9 := ⟨_, rfl⟩
  refine z_iald (v := t_18) hx hb hK hP 2 1 rfl rfl (by unfold vp_in; decide) et_18 dX12_feed_81 ?_
  refine lv_bipush (v := 24) hx hb dX12_feed_82 (by decide) ?_
  refine lv_bipush (v := 8) hx hb dX12_feed_84 (by decide) ?_
  refine lv_iload hx hb dX12_feed_86 (lv_at hl 0 rfl) ?_
  refine lv_iconst (v := 4) hx hb dX12_feed_88 (by decide) ?_
  refine z_irem (v := 3) hx hb dX12_feed_89 (by decide) (by decide) ?_
  refine z_imul (v := 24) hx hb dX12_feed_90 (by decide) ?_
  refine z_isub (v := 0) hx hb dX12_feed_91 (by decide) ?_
  obtain ⟨t_19, et_19⟩ : ∃ v9 : Int32, t_18 >>> (0 &&& 31) = v9 := ⟨_, rfl⟩
  refine z_ishr (v := t_19) hx hb dX12_feed_92 et_19 ?_
  obtain ⟨t_20, et_20⟩ : ∃ v9 : Int32, (t_19 : Int32).toInt8.toInt32 = v9 := ⟨_, rfl⟩
  refine lv_i2b (v := t_20) hx hb dX12_feed_93 et_20 ?_
  refine va_bast hx hb hK hP hD hS 1 0 rfl rfl (by unfold vp_in; decide) dX12_feed_94 (fun H locs hP hD hS => ?_)
  have hP : va_P D vwCl [(m0, .inr (12, [.int 0, .ref m_world, .ref m_images, .ref m_hasImage, .ref m_tape, .int 0, .ref m_five, .int 0, .int 0, .int 0, .int 0, .int 0, .int 0, .int (-1), .ref m_fresh, .ref m_spokenAt, .ref m_heardAt, .ref m_lastAt, .ref m_answerAt, .int 0, .int 0, .int 0, .long 0, .int 0, .int 0, .ref m_heardNow, .ref m_seenAt, .int 0, .int 0, .int 0, .int 0, .int 0, .ref m_fewest, .ref m_costNow, .ref m_costThen, .ref m_lawsOf, .ref m_heardBy, .int 0, .int 0, .ref m_placesOf, .ref m_sentIn, .int 0, .int 0, .ref m_lostBy, .ref m_many, .ref m_width, .ref m_numbers, .ref m_moving])), (m_tape, .inl (cB, 500, .inl (upd g_17 (3 : Int32).toNatClampNeg (vp_nar .byte t_20)))), (m_five, .inl (cI, 5, .inl g_5))] H := hP
  have hD : va_D A [(m0, .inr (12, [.int 0, .ref m_world, .ref m_images, .ref m_hasImage, .ref m_tape, .int 0, .ref m_five, .int 0, .int 0, .int 0, .int 0, .int 0, .int 0, .int (-1), .ref m_fresh, .ref m_spokenAt, .ref m_heardAt, .ref m_lastAt, .ref m_answerAt, .int 0, .int 0, .int 0, .long 0, .int 0, .int 0, .ref m_heardNow, .ref m_seenAt, .int 0, .int 0, .int 0, .int 0, .int 0, .ref m_fewest, .ref m_costNow, .ref m_costThen, .ref m_lawsOf, .ref m_heardBy, .int 0, .int 0, .ref m_placesOf, .ref m_sentIn, .int 0, .int 0, .ref m_lostBy, .ref m_many, .ref m_width, .ref m_numbers, .ref m_moving])), (m_tape, .inl (cB, 500, .inl (upd g_17 (3 : Int32).toNatClampNeg (vp_nar .byte t_20)))), (m_five, .inl (cI, 5, .inl g_5))] := hD
  obtain ⟨g_21, eg_21⟩ : ∃ v9 : Nat → Int32, (upd g_17 (3 : Int32).toNatClampNeg (vp_nar .byte t_20)) = v9 := ⟨_, rfl⟩
  rw [eg_21] at hP hD
  have hP : va_P D vwCl [(m0, .inr (12, [.int 0, .ref m_world, .ref m_images, .ref m_hasImage, .ref m_tape, .int 0, .ref m_five, .int 0, .int 0, .int 0, .int 0, .int 0, .int 0, .int (-1), .ref m_fresh, .ref m_spokenAt, .ref m_heardAt, .ref m_lastAt, .ref m_answerAt, .int 0, .int 0, .int 0, .long 0, .int 0, .int 0, .ref m_heardNow, .ref m_seenAt, .int 0, .int 0, .int 0, .int 0, .int 0, .ref m_fewest, .ref m_costNow, .ref m_costThen, .ref m_lawsOf, .ref m_heardBy, .int 0, .int 0, .ref m_placesOf, .ref m_sentIn, .int 0, .int 0, .ref m_lostBy, .ref m_many, .ref m_width, .ref m_numbers, .ref m_moving])), (m_tape, .inl (cB, 500, .inl g_21)), (m_five, .inl (cI, 5, .inl g_5))] H := hP
  have hD : va_D A [(m0, .inr (12, [.int 0, .ref m_world, .ref m_images, .ref m_hasImage, .ref m_tape, .int 0, .ref m_five, .int 0, .int 0, .int 0, .int 0, .int 0, .int 0, .int (-1), .ref m_fresh, .ref m_spokenAt, .ref m_heardAt, .ref m_lastAt, .ref m_answerAt, .int 0, .int 0, .int 0, .long 0, .int 0, .int 0, .ref m_heardNow, .ref m_seenAt, .int 0, .int 0, .int 0, .int 0, .int 0, .ref m_fewest, .ref m_costNow, .ref m_costThen, .ref m_lawsOf, .ref m_heardBy, .int 0, .int 0, .ref m_placesOf, .ref m_sentIn, .int 0, .int 0, .ref m_lostBy, .ref m_many, .ref m_width, .ref m_numbers, .ref m_moving])), (m_tape, .inl (cB, 500, .inl g_21)), (m_five, .inl (cI, 5, .inl g_5))] := hD
  refine lv_iinc (v := 4) (lv' := [(6, .int 4), (0, .ref m0), (1, .int a1), (2, .int a2), (3, .int a3), (4, .int a4), (5, .int a5)]) hx hb dX12_feed_95 hl (k := 0) rfl (by decide) (by decide) rfl (fun ls hl => ?_)
  refine lv_goto (tgt := 55) hx hb dX12_feed_98 (by decide) ?_
  refine lv_iload hx hb dX12_feed_55 (lv_at hl 0 rfl) ?_
  refine lv_bipush (v := 20) hx hb dX12_feed_57 (by decide) ?_
  refine lv_icmp_ge (tgt := 101) hx hb dX12_feed_59 (by decide) (fun c0 => absurd c0 (by decide)) (fun _ => ?_)
  refine lv_aload_n hx hb dX12_feed_62 rfl (lv_at hl 1 rfl) ?_
  refine va_get (D := D) (ci := 12) (v := .ref m_tape) (C := RX12) (T := TX12) (N := 48) hx hb hts inlX12 hown hK hP 0 rfl rfl 4 (by decide) (hts _ (inr6 _ (List.mem_of_getElem? (i := 19) rfl))) (fun _ h9 => h9) rfl dX12_feed_63 ?_
  refine lv_aload_n hx hb dX12_feed_66 rfl (lv_at hl 1 rfl) ?_
  refine va_get (D := D) (ci := 12) (v := .int 0) (C := RX12) (T := TX12) (N := 48) hx hb hts inlX12 hown hK hP 0 rfl rfl 5 (by decide) (hts _ (inr8 _ (List.mem_of_getElem? (i := 11) rfl))) (fun _ h9 => h9) rfl dX12_feed_67 ?_
  refine lv_iload hx hb dX12_feed_70 (lv_at hl 0 rfl) ?_
  refine z_iadd (v := 4) hx hb dX12_feed_72 (by decide) ?_
  refine lv_aload_n hx hb dX12_feed_73 rfl (lv_at hl 1 rfl) ?_
  refine va_get (D := D) (ci := 12) (v := .ref m_five) (C := RX12) (T := TX12) (N := 48) hx hb hts inlX12 hown hK hP 0 rfl rfl 6 (by decide) (hts _ (inr6 _ (List.mem_of_getElem? (i := 20) rfl))) (fun _ h9 => h9) rfl dX12_feed_74 ?_
  refine lv_iload hx hb dX12_feed_77 (lv_at hl 0 rfl) ?_
  refine lv_iconst (v := 4) hx hb dX12_feed_79 (by decide) ?_
  refine z_idiv (v := 1) hx hb dX12_feed_80 (by decide) (by decide) ?_
  obtain ⟨t_22, et_22⟩ : ∃ v9 : Int32, g_5 (1 : Int32).toNatClampNeg = v9 := ⟨_, rfl⟩
  refine z_iald (v := t_22) hx hb hK hP 2 1 rfl rfl (by unfold vp_in; decide) et_22 dX12_feed_81 ?_
  refine lv_bipush (v := 24) hx hb dX12_feed_82 (by decide) ?_
  refine lv_bipush (v := 8) hx hb dX12_feed_84 (by decide) ?_
  refine lv_iload hx hb dX12_feed_86 (lv_at hl 0 rfl) ?_
  refine lv_iconst (v := 4) hx hb dX12_feed_88 (by decide) ?_
  refine z_irem (v := 0) hx hb dX12_feed_89 (by decide) (by decide) ?_
  refine z_imul (v := 0) hx hb dX12_feed_90 (by decide) ?_
  refine z_isub (v := 24) hx hb dX12_feed_91 (by decide) ?_
  obtain ⟨t_23, et_23⟩ : ∃ v9 : Int32, t_22 >>> (24 &&& 31) = v9 := ⟨_, rfl⟩
  refine z_ishr (v := t_23) hx hb dX12_feed_92 et_23 ?_
  obtain ⟨t_24, et_24⟩ : ∃ v9 : Int32, (t_23 : Int32).toInt8.toInt32 = v9 := ⟨_, rfl⟩
  refine lv_i2b (v := t_24) hx hb dX12_feed_93 et_24 ?_
  refine va_bast hx hb hK hP hD hS 1 0 rfl rfl (by unfold vp_in; decide) dX12_feed_94 (fun H locs hP hD hS => ?_)
  have hP : va_P D vwCl [(m0, .inr (12, [.int 0, .ref m_world, .ref m_images, .ref m_hasImage, .ref m_tape, .int 0, .ref m_five, .int 0, .int 0, .int 0, .int 0, .int 0, .int 0, .int (-1), .ref m_fresh, .ref m_spokenAt, .ref m_heardAt, .ref m_lastAt, .ref m_answerAt, .int 0, .int 0, .int 0, .long 0, .int 0, .int 0, .ref m_heardNow, .ref m_seenAt, .int 0, .int 0, .int 0, .int 0, .int 0, .ref m_fewest, .ref m_costNow, .ref m_costThen, .ref m_lawsOf, .ref m_heardBy, .int 0, .int 0, .ref m_placesOf, .ref m_sentIn, .int 0, .int 0, .ref m_lostBy, .ref m_many, .ref m_width, .ref m_numbers, .ref m_moving])), (m_tape, .inl (cB, 500, .inl (upd g_21 (4 : Int32).toNatClampNeg (vp_nar .byte t_24)))), (m_five, .inl (cI, 5, .inl g_5))] H := hP
  have hD : va_D A [(m0, .inr (12, [.int 0, .ref m_world, .ref m_images, .ref m_hasImage, .ref m_tape, .int 0, .ref m_five, .int 0, .int 0, .int 0, .int 0, .int 0, .int 0, .int (-1), .ref m_fresh, .ref m_spokenAt, .ref m_heardAt, .ref m_lastAt, .ref m_answerAt, .int 0, .int 0, .int 0, .long 0, .int 0, .int 0, .ref m_heardNow, .ref m_seenAt, .int 0, .int 0, .int 0, .int 0, .int 0, .ref m_fewest, .ref m_costNow, .ref m_costThen, .ref m_lawsOf, .ref m_heardBy, .int 0, .int 0, .ref m_placesOf, .ref m_sentIn, .int 0, .int 0, .ref m_lostBy, .ref m_many, .ref m_width, .ref m_numbers, .ref m_moving])), (m_tape, .inl (cB, 500, .inl (upd g_21 (4 : Int32).toNatClampNeg (vp_nar .byte t_24)))), (m_five, .inl (cI, 5, .inl g_5))] := hD
  obtain ⟨g_25, eg_25⟩ : ∃ v9 : Nat → Int32, (upd g_21 (4 : Int32).toNatClampNeg (vp_nar .byte t_24)) = v9 := ⟨_, rfl⟩
  rw [eg_25] at hP hD
  have hP : va_P D vwCl [(m0, .inr (12, [.int 0, .ref m_world, .ref m_images, .ref m_hasImage, .ref m_tape, .int 0, .ref m_five, .int 0, .int 0, .int 0, .int 0, .int 0, .int 0, .int (-1), .ref m_fresh, .ref m_spokenAt, .ref m_heardAt, .ref m_lastAt, .ref m_answerAt, .int 0, .int 0, .int 0, .long 0, .int 0, .int 0, .ref m_heardNow, .ref m_seenAt, .int 0, .int 0, .int 0, .int 0, .int 0, .ref m_fewest, .ref m_costNow, .ref m_costThen, .ref m_lawsOf, .ref m_heardBy, .int 0, .int 0, .ref m_placesOf, .ref m_sentIn, .int 0, .int 0, .ref m_lostBy, .ref m_many, .ref m_width, .ref m_numbers, .ref m_moving])), (m_tape, .inl (cB, 500, .inl g_25)), (m_five, .inl (cI, 5, .inl g_5))] H := hP
  have hD : va_D A [(m0, .inr (12, [.int 0, .ref m_world, .ref m_images, .ref m_hasImage, .ref m_tape, .int 0, .ref m_five, .int 0, .int 0, .int 0, .int 0, .int 0, .int 0, .int (-1), .ref m_fresh, .ref m_spokenAt, .ref m_heardAt, .ref m_lastAt, .ref m_answerAt, .int 0, .int 0, .int 0, .long 0, .int 0, .int 0, .ref m_heardNow, .ref m_seenAt, .int 0, .int 0, .int 0, .int 0, .int 0, .ref m_fewest, .ref m_costNow, .ref m_costThen, .ref m_lawsOf, .ref m_heardBy, .int 0, .int 0, .ref m_placesOf, .ref m_sentIn, .int 0, .int 0, .ref m_lostBy, .ref m_many, .ref m_width, .ref m_numbers, .ref m_moving])), (m_tape, .inl (cB, 500, .inl g_25)), (m_five, .inl (cI, 5, .inl g_5))] := hD
  refine lv_iinc (v := 5) (lv' := [(6, .int 5), (0, .ref m0), (1, .int a1), (2, .int a2), (3, .int a3), (4, .int a4), (5, .int a5)]) hx hb dX12_feed_95 hl (k := 0) rfl (by decide) (by decide) rfl (fun ls hl => ?_)
  refine lv_goto (tgt := 55) hx hb dX12_feed_98 (by decide) ?_
  refine lv_iload hx hb dX12_feed_55 (lv_at hl 0 rfl) ?_
  refine lv_bipush (v := 20) hx hb dX12_feed_57 (by decide) ?_
  refine lv_icmp_ge (tgt := 101) hx hb dX12_feed_59 (by decide) (fun c0 => absurd c0 (by decide)) (fun _ => ?_)
  refine lv_aload_n hx hb dX12_feed_62 rfl (lv_at hl 1 rfl) ?_
  refine va_get (D := D) (ci := 12) (v := .ref m_tape) (C := RX12) (T := TX12) (N := 48) hx hb hts inlX12 hown hK hP 0 rfl rfl 4 (by decide) (hts _ (inr6 _ (List.mem_of_getElem? (i := 19) rfl))) (fun _ h9 => h9) rfl dX12_feed_63 ?_
  refine lv_aload_n hx hb dX12_feed_66 rfl (lv_at hl 1 rfl) ?_
  refine va_get (D := D) (ci := 12) (v := .int 0) (C := RX12) (T := TX12) (N := 48) hx hb hts inlX12 hown hK hP 0 rfl rfl 5 (by decide) (hts _ (inr8 _ (List.mem_of_getElem? (i := 11) rfl))) (fun _ h9 => h9) rfl dX12_feed_67 ?_
  refine lv_iload hx hb dX12_feed_70 (lv_at hl 0 rfl) ?_
  refine z_iadd (v := 5) hx hb dX12_feed_72 (by decide) ?_
  refine lv_aload_n hx hb dX12_feed_73 rfl (lv_at hl 1 rfl) ?_
  refine va_get (D := D) (ci := 12) (v := .ref m_five) (C := RX12) (T := TX12) (N := 48) hx hb hts inlX12 hown hK hP 0 rfl rfl 6 (by decide) (hts _ (inr6 _ (List.mem_of_getElem? (i := 20) rfl))) (fun _ h9 => h9) rfl dX12_feed_74 ?_
  refine lv_iload hx hb dX12_feed_77 (lv_at hl 0 rfl) ?_
  refine lv_iconst (v := 4) hx hb dX12_feed_79 (by decide) ?_
  refine z_idiv (v := 1) hx hb dX12_feed_80 (by decide) (by decide) ?_
  obtain ⟨t_26, et_26⟩ : ∃ v9 : Int32, g_5 (1 : Int32).toNatClampNeg = v9 := ⟨_, rfl⟩
  refine z_iald (v := t_26) hx hb hK hP 2 1 rfl rfl (by unfold vp_in; decide) et_26 dX12_feed_81 ?_
  refine lv_bipush (v := 24) hx hb dX12_feed_82 (by decide) ?_
  refine lv_bipush (v := 8) hx hb dX12_feed_84 (by decide) ?_
  refine lv_iload hx hb dX12_feed_86 (lv_at hl 0 rfl) ?_
  refine lv_iconst (v := 4) hx hb dX12_feed_88 (by decide) ?_
  refine z_irem (v := 1) hx hb dX12_feed_89 (by decide) (by decide) ?_
  refine z_imul (v := 8) hx hb dX12_feed_90 (by decide) ?_
  refine z_isub (v := 16) hx hb dX12_feed_91 (by decide) ?_
  obtain ⟨t_27, et_27⟩ : ∃ v9 : Int32, t_26 >>> (16 &&& 31) = v9 := ⟨_, rfl⟩
  refine z_ishr (v := t_27) hx hb dX12_feed_92 et_27 ?_
  obtain ⟨t_28, et_28⟩ : ∃ v9 : Int32, (t_27 : Int32).toInt8.toInt32 = v9 := ⟨_, rfl⟩
  refine lv_i2b (v := t_28) hx hb dX12_feed_93 et_28 ?_
  refine va_bast hx hb hK hP hD hS 1 0 rfl rfl (by unfold vp_in; decide) dX12_feed_94 (fun H locs hP hD hS => ?_)
  have hP : va_P D vwCl [(m0, .inr (12, [.int 0, .ref m_world, .ref m_images, .ref m_hasImage, .ref m_tape, .int 0, .ref m_five, .int 0, .int 0, .int 0, .int 0, .int 0, .int 0, .int (-1), .ref m_fresh, .ref m_spokenAt, .ref m_heardAt, .ref m_lastAt, .ref m_answerAt, .int 0, .int 0, .int 0, .long 0, .int 0, .int 0, .ref m_heardNow, .ref m_seenAt, .int 0, .int 0, .int 0, .int 0, .int 0, .ref m_fewest, .ref m_costNow, .ref m_costThen, .ref m_lawsOf, .ref m_heardBy, .int 0, .int 0, .ref m_placesOf, .ref m_sentIn, .int 0, .int 0, .ref m_lostBy, .ref m_many, .ref m_width, .ref m_numbers, .ref m_moving])), (m_tape, .inl (cB, 500, .inl (upd g_25 (5 : Int32).toNatClampNeg (vp_nar .byte t_28)))), (m_five, .inl (cI, 5, .inl g_5))] H := hP
  have hD : va_D A [(m0, .inr (12, [.int 0, .ref m_world, .ref m_images, .ref m_hasImage, .ref m_tape, .int 0, .ref m_five, .int 0, .int 0, .int 0, .int 0, .int 0, .int 0, .int (-1), .ref m_fresh, .ref m_spokenAt, .ref m_heardAt, .ref m_lastAt, .ref m_answerAt, .int 0, .int 0, .int 0, .long 0, .int 0, .int 0, .ref m_heardNow, .ref m_seenAt, .int 0, .int 0, .int 0, .int 0, .int 0, .ref m_fewest, .ref m_costNow, .ref m_costThen, .ref m_lawsOf, .ref m_heardBy, .int 0, .int 0, .ref m_placesOf, .ref m_sentIn, .int 0, .int 0, .ref m_lostBy, .ref m_many, .ref m_width, .ref m_numbers, .ref m_moving])), (m_tape, .inl (cB, 500, .inl (upd g_25 (5 : Int32).toNatClampNeg (vp_nar .byte t_28)))), (m_five, .inl (cI, 5, .inl g_5))] := hD
  obtain ⟨g_29, eg_29⟩ : ∃ v9 : Nat → Int32, (upd g_25 (5 : Int32).toNatClampNeg (vp_nar .byte t_28)) = v9 := ⟨_, rfl⟩
  rw [eg_29] at hP hD
  have hP : va_P D vwCl [(m0, .inr (12, [.int 0, .ref m_world, .ref m_images, .ref m_hasImage, .ref m_tape, .int 0, .ref m_five, .int 0, .int 0, .int 0, .int 0, .int 0, .int 0, .int (-1), .ref m_fresh, .ref m_spokenAt, .ref m_heardAt, .ref m_lastAt, .ref m_answerAt, .int 0, .int 0, .int 0, .long 0, .int 0, .int 0, .ref m_heardNow, .ref m_seenAt, .int 0, .int 0, .int 0, .int 0, .int 0, .ref m_fewest, .ref m_costNow, .ref m_costThen, .ref m_lawsOf, .ref m_heardBy, .int 0, .int 0, .ref m_placesOf, .ref m_sentIn, .int 0, .int 0, .ref m_lostBy, .ref m_many, .ref m_width, .ref m_numbers, .ref m_moving])), (m_tape, .inl (cB, 500, .inl g_29)), (m_five, .inl (cI, 5, .inl g_5))] H := hP
  have hD : va_D A [(m0, .inr (12, [.int 0, .ref m_world, .ref m_images, .ref m_hasImage, .ref m_tape, .int 0, .ref m_five, .int 0, .int 0, .int 0, .int 0, .int 0, .int 0, .int (-1), .ref m_fresh, .ref m_spokenAt, .ref m_heardAt, .ref m_lastAt, .ref m_answerAt, .int 0, .int 0, .int 0, .long 0, .int 0, .int 0, .ref m_heardNow, .ref m_seenAt, .int 0, .int 0, .int 0, .int 0, .int 0, .ref m_fewest, .ref m_costNow, .ref m_costThen, .ref m_lawsOf, .ref m_heardBy, .int 0, .int 0, .ref m_placesOf, .ref m_sentIn, .int 0, .int 0, .ref m_lostBy, .ref m_many, .ref m_width, .ref m_numbers, .ref m_moving])), (m_tape, .inl (cB, 500, .inl g_29)), (m_five, .inl (cI, 5, .inl g_5))] := hD
  refine lv_iinc (v := 6) (lv' := [(6, .int 6), (0, .ref m0), (1, .int a1), (2, .int a2), (3, .int a3), (4, .int a4), (5, .int a5)]) hx hb dX12_feed_95 hl (k := 0) rfl (by decide) (by decide) rfl (fun ls hl => ?_)
  refine lv_goto (tgt := 55) hx hb dX12_feed_98 (by decide) ?_
  refine lv_iload hx hb dX12_feed_55 (lv_at hl 0 rfl) ?_
  refine lv_bipush (v := 20) hx hb dX12_feed_57 (by decide) ?_
  refine lv_icmp_ge (tgt := 101) hx hb dX12_feed_59 (by decide) (fun c0 => absurd c0 (by decide)) (fun _ => ?_)
  refine lv_aload_n hx hb dX12_feed_62 rfl (lv_at hl 1 rfl) ?_
  refine va_get (D := D) (ci := 12) (v := .ref m_tape) (C := RX12) (T := TX12) (N := 48) hx hb hts inlX12 hown hK hP 0 rfl rfl 4 (by decide) (hts _ (inr6 _ (List.mem_of_getElem? (i := 19) rfl))) (fun _ h9 => h9) rfl dX12_feed_63 ?_
  refine lv_aload_n hx hb dX12_feed_66 rfl (lv_at hl 1 rfl) ?_
  refine va_get (D := D) (ci := 12) (v := .int 0) (C := RX12) (T := TX12) (N := 48) hx hb hts inlX12 hown hK hP 0 rfl rfl 5 (by decide) (hts _ (inr8 _ (List.mem_of_getElem? (i := 11) rfl))) (fun _ h9 => h9) rfl dX12_feed_67 ?_
  refine lv_iload hx hb dX12_feed_70 (lv_at hl 0 rfl) ?_
  refine z_iadd (v := 6) hx hb dX12_feed_72 (by decide) ?_
  refine lv_aload_n hx hb dX12_feed_73 rfl (lv_at hl 1 rfl) ?_
  refine va_get (D := D) (ci := 12) (v := .ref m_five) (C := RX12) (T := TX12) (N := 48) hx hb hts inlX12 hown hK hP 0 rfl rfl 6 (by decide) (hts _ (inr6 _ (List.mem_of_getElem? (i := 20) rfl))) (fun _ h9 => h9) rfl dX12_feed_74 ?_
  refine lv_iload hx hb dX12_feed_77 (lv_at hl 0 rfl) ?_
  refine lv_iconst (v := 4) hx hb dX12_feed_79 (by decide) ?_
  refine z_idiv (v := 1) hx hb dX12_feed_80 (by decide) (by decide) ?_
  obtain ⟨t_30, et_30⟩ : ∃ v9 : Int32, g_5 (1 : Int32).toNatClampNeg = v9 := ⟨_, rfl⟩
  refine z_iald (v := t_30) hx hb hK hP 2 1 rfl rfl (by unfold vp_in; decide) et_30 dX12_feed_81 ?_
  refine lv_bipush (v := 24) hx hb dX12_feed_82 (by decide) ?_
  refine lv_bipush (v := 8) hx hb dX12_feed_84 (by decide) ?_
  refine lv_iload hx hb dX12_feed_86 (lv_at hl 0 rfl) ?_
  refine lv_iconst (v := 4) hx hb dX12_feed_88 (by decide) ?_
  refine z_irem (v := 2) hx hb dX12_feed_89 (by decide) (by decide) ?_
  refine z_imul (v := 16) hx hb dX12_feed_90 (by decide) ?_
  refine z_isub (v := 8) hx hb dX12_feed_91 (by decide) ?_
  obtain ⟨t_31, et_31⟩ : ∃ v9 : Int32, t_30 >>> (8 &&& 31) = v9 := ⟨_, rfl⟩
  refine z_ishr (v := t_31) hx hb dX12_feed_92 et_31 ?_
  obtain ⟨t_32, et_32⟩ : ∃ v9 : Int32, (t_31 : Int32).toInt8.toInt32 = v9 := ⟨_, rfl⟩
  refine lv_i2b (v := t_32) hx hb dX12_feed_93 et_32 ?_
  refine va_bast hx hb hK hP hD hS 1 0 rfl rfl (by unfold vp_in; decide) dX12_feed_94 (fun H locs hP hD hS => ?_)
  have hP : va_P D vwCl [(m0, .inr (12, [.int 0, .ref m_world, .ref m_images, .ref m_hasImage, .ref m_tape, .int 0, .ref m_five, .int 0, .int 0, .int 0, .int 0, .int 0, .int 0, .int (-1), .ref m_fresh, .ref m_spokenAt, .ref m_heardAt, .ref m_lastAt, .ref m_answerAt, .int 0, .int 0, .int 0, .long 0, .int 0, .int 0, .ref m_heardNow, .ref m_seenAt, .int 0, .int 0, .int 0, .int 0, .int 0, .ref m_fewest, .ref m_costNow, .ref m_costThen, .ref m_lawsOf, .ref m_heardBy, .int 0, .int 0, .ref m_placesOf, .ref m_sentIn, .int 0, .int 0, .ref m_lostBy, .ref m_many, .ref m_width, .ref m_numbers, .ref m_moving])), (m_tape, .inl (cB, 500, .inl (upd g_29 (6 : Int32).toNatClampNeg (vp_nar .byte t_32)))), (m_five, .inl (cI, 5, .inl g_5))] H := hP
  have hD : va_D A [(m0, .inr (12, [.int 0, .ref m_world, .ref m_images, .ref m_hasImage, .ref m_tape, .int 0, .ref m_five, .int 0, .int 0, .int 0, .int 0, .int 0, .int 0, .int (-1), .ref m_fresh, .ref m_spokenAt, .ref m_heardAt, .ref m_lastAt, .ref m_answerAt, .int 0, .int 0, .int 0, .long 0, .int 0, .int 0, .ref m_heardNow, .ref m_seenAt, .int 0, .int 0, .int 0, .int 0, .int 0, .ref m_fewest, .ref m_costNow, .ref m_costThen, .ref m_lawsOf, .ref m_heardBy, .int 0, .int 0, .ref m_placesOf, .ref m_sentIn, .int 0, .int 0, .ref m_lostBy, .ref m_many, .ref m_width, .ref m_numbers, .ref m_moving])), (m_tape, .inl (cB, 500, .inl (upd g_29 (6 : Int32).toNatClampNeg (vp_nar .byte t_32)))), (m_five, .inl (cI, 5, .inl g_5))] := hD
  obtain ⟨g_33, eg_33⟩ : ∃ v9 : Nat → Int32, (upd g_29 (6 : Int32).toNatClampNeg (vp_nar .byte t_32)) = v9 := ⟨_, rfl⟩
  rw [eg_33] at hP hD
  have hP : va_P D vwCl [(m0, .inr (12, [.int 0, .ref m_world, .ref m_images, .ref m_hasImage, .ref m_tape, .int 0, .ref m_five, .int 0, .int 0, .int 0, .int 0, .int 0, .int 0, .int (-1), .ref m_fresh, .ref m_spokenAt, .ref m_heardAt, .ref m_lastAt, .ref m_answerAt, .int 0, .int 0, .int 0, .long 0, .int 0, .int 0, .ref m_heardNow, .ref m_seenAt, .int 0, .int 0, .int 0, .int 0, .int 0, .ref m_fewest, .ref m_costNow, .ref m_costThen, .ref m_lawsOf, .ref m_heardBy, .int 0, .int 0, .ref m_placesOf, .ref m_sentIn, .int 0, .int 0, .ref m_lostBy, .ref m_many, .ref m_width, .ref m_numbers, .ref m_moving])), (m_tape, .inl (cB, 500, .inl g_33)), (m_five, .inl (cI, 5, .inl g_5))] H := hP
  have hD : va_D A [(m0, .inr (12, [.int 0, .ref m_world, .ref m_images, .ref m_hasImage, .ref m_tape, .int 0, .ref m_five, .int 0, .int 0, .int 0, .int 0, .int 0, .int 0, .int (-1), .ref m_fresh, .ref m_spokenAt, .ref m_heardAt, .ref m_lastAt, .ref m_answerAt, .int 0, .int 0, .int 0, .long 0, .int 0, .int 0, .ref m_heardNow, .ref m_seenAt, .int 0, .int 0, .int 0, .int 0, .int 0, .ref m_fewest, .ref m_costNow, .ref m_costThen, .ref m_lawsOf, .ref m_heardBy, .int 0, .int 0, .ref m_placesOf, .ref m_sentIn, .int 0, .int 0, .ref m_lostBy, .ref m_many, .ref m_width, .ref m_numbers, .ref m_moving])), (m_tape, .inl (cB, 500, .inl g_33)), (m_five, .inl (cI, 5, .inl g_5))] := hD
  refine lv_iinc (v := 7) (lv' := [(6, .int 7), (0, .ref m0), (1, .int a1), (2, .int a2), (3, .int a3), (4, .int a4), (5, .int a5)]) hx hb dX12_feed_95 hl (k := 0) rfl (by decide) (by decide) rfl (fun ls hl => ?_)
  refine lv_goto (tgt := 55) hx hb dX12_feed_98 (by decide) ?_
  refine lv_iload hx hb dX12_feed_55 (lv_at hl 0 rfl) ?_
  refine lv_bipush (v := 20) hx hb dX12_feed_57 (by decide) ?_
  refine lv_icmp_ge (tgt := 101) hx hb dX12_feed_59 (by decide) (fun c0 => absurd c0 (by decide)) (fun _ => ?_)
  refine lv_aload_n hx hb dX12_feed_62 rfl (lv_at hl 1 rfl) ?_
  refine va_get (D := D) (ci := 12) (v := .ref m_tape) (C := RX12) (T := TX12) (N := 48) hx hb hts inlX12 hown hK hP 0 rfl rfl 4 (by decide) (hts _ (inr6 _ (List.mem_of_getElem? (i := 19) rfl))) (fun _ h9 => h9) rfl dX12_feed_63 ?_
  refine lv_aload_n hx hb dX12_feed_66 rfl (lv_at hl 1 rfl) ?_
  refine va_get (D := D) (ci := 12) (v := .int 0) (C := RX12) (T := TX12) (N := 48) hx hb hts inlX12 hown hK hP 0 rfl rfl 5 (by decide) (hts _ (inr8 _ (List.mem_of_getElem? (i := 11) rfl))) (fun _ h9 => h9) rfl dX12_feed_67 ?_
  refine lv_iload hx hb dX12_feed_70 (lv_at hl 0 rfl) ?_
  refine z_iadd (v := 7) hx hb dX12_feed_72 (by decide) ?_
  refine lv_aload_n hx hb dX12_feed_73 rfl (lv_at hl 1 rfl) ?_
  refine va_get (D := D) (ci := 12) (v := .ref m_five) (C := RX12) (T := TX12) (N := 48) hx hb hts inlX12 hown hK hP 0 rfl rfl 6 (by decide) (hts _ (inr6 _ (List.mem_of_getElem? (i := 20) rfl))) (fun _ h9 => h9) rfl dX12_feed_74 ?_
  refine lv_iload hx hb dX12_feed_77 (lv_at hl 0 rfl) ?_
  refine lv_iconst (v := 4) hx hb dX12_feed_79 (by decide) ?_
  refine z_idiv (v := 1) hx hb dX12_feed_80 (by decide) (by decide) ?_
  obtain ⟨t_34, et_34⟩ : ∃ v9 : Int32, g_5 (1 : Int32).toNatClampNeg = v9 := ⟨_, rfl⟩
  refine z_iald (v := t_34) hx hb hK hP 2 1 rfl rfl (by unfold vp_in; decide) et_34 dX12_feed_81 ?_
  refine lv_bipush (v := 24) hx hb dX12_feed_82 (by decide) ?_
  refine lv_bipush (v := 8) hx hb dX12_feed_84 (by decide) ?_
  refine lv_iload hx hb dX12_feed_86 (lv_at hl 0 rfl) ?_
  refine lv_iconst (v := 4) hx hb dX12_feed_88 (by decide) ?_
  refine z_irem (v := 3) hx hb dX12_feed_89 (by decide) (by decide) ?_
  refine z_imul (v := 24) hx hb dX12_feed_90 (by decide) ?_
  refine z_isub (v := 0) hx hb dX12_feed_91 (by decide) ?_
  obtain ⟨t_35, et_35⟩ : ∃ v9 : Int32, t_34 >>> (0 &&& 31) = v9 := ⟨_, rfl⟩
  refine z_ishr (v := t_35) hx hb dX12_feed_92 et_35 ?_
  obtain ⟨t_36, et_36⟩ : ∃ v9 : Int32, (t_35 : Int32).toInt8.toInt32 = v9 := ⟨_, rfl⟩
  refine lv_i2b (v := t_36) hx hb dX12_feed_93 et_36 ?_
  refine va_bast hx hb hK hP hD hS 1 0 rfl rfl (by unfold vp_in; decide) dX12_feed_94 (fun H locs hP hD hS => ?_)
  have hP : va_P D vwCl [(m0, .inr (12, [.int 0, .ref m_world, .ref m_images, .ref m_hasImage, .ref m_tape, .int 0, .ref m_five, .int 0, .int 0, .int 0, .int 0, .int 0, .int 0, .int (-1), .ref m_fresh, .ref m_spokenAt, .ref m_heardAt, .ref m_lastAt, .ref m_answerAt, .int 0, .int 0, .int 0, .long 0, .int 0, .int 0, .ref m_heardNow, .ref m_seenAt, .int 0, .int 0, .int 0, .int 0, .int 0, .ref m_fewest, .ref m_costNow, .ref m_costThen, .ref m_lawsOf, .ref m_heardBy, .int 0, .int 0, .ref m_placesOf, .ref m_sentIn, .int 0, .int 0, .ref m_lostBy, .ref m_many, .ref m_width, .ref m_numbers, .ref m_moving])), (m_tape, .inl (cB, 500, .inl (upd g_33 (7 : Int32).toNatClampNeg (vp_nar .byte t_36)))), (m_five, .inl (cI, 5, .inl g_5))] H := hP
  have hD : va_D A [(m0, .inr (12, [.int 0, .ref m_world, .ref m_images, .ref m_hasImage, .ref m_tape, .int 0, .ref m_five, .int 0, .int 0, .int 0, .int 0, .int 0, .int 0, .int (-1), .ref m_fresh, .ref m_spokenAt, .ref m_heardAt, .ref m_lastAt, .ref m_answerAt, .int 0, .int 0, .int 0, .long 0, .int 0, .int 0, .ref m_heardNow, .ref m_seenAt, .int 0, .int 0, .int 0, .int 0, .int 0, .ref m_fewest, .ref m_costNow, .ref m_costThen, .ref m_lawsOf, .ref m_heardBy, .int 0, .int 0, .ref m_placesOf, .ref m_sentIn, .int 0, .int 0, .ref m_lostBy, .ref m_many, .ref m_width, .ref m_numbers, .ref m_moving])), (m_tape, .inl (cB, 500, .inl (upd g_33 (7 : Int32).toNatClampNeg (vp_nar .byte t_36)))), (m_five, .inl (cI, 5, .inl g_5))] := hD
  obtain ⟨g_37, eg_37⟩ : ∃ v9 : Nat → Int32, (upd g_33 (7 : Int32).toNatClampNeg (vp_nar .byte t_36)) = v9 := ⟨_, rfl⟩
  rw [eg_37] at hP hD
  have hP : va_P D vwCl [(m0, .inr (12, [.int 0, .ref m_world, .ref m_images, .ref m_hasImage, .ref m_tape, .int 0, .ref m_five, .int 0, .int 0, .int 0, .int 0, .int 0, .int 0, .int (-1), .ref m_fresh, .ref m_spokenAt, .ref m_heardAt, .ref m_lastAt, .ref m_answerAt, .int 0, .int 0, .int 0, .long 0, .int 0, .int 0, .ref m_heardNow, .ref m_seenAt, .int 0, .int 0, .int 0, .int 0, .int 0, .ref m_fewest, .ref m_costNow, .ref m_costThen, .ref m_lawsOf, .ref m_heardBy, .int 0, .int 0, .ref m_placesOf, .ref m_sentIn, .int 0, .int 0, .ref m_lostBy, .ref m_many, .ref m_width, .ref m_numbers, .ref m_moving])), (m_tape, .inl (cB, 500, .inl g_37)), (m_five, .inl (cI, 5, .inl g_5))] H := hP
  have hD : va_D A [(m0, .inr (12, [.int 0, .ref m_world, .ref m_images, .ref m_hasImage, .ref m_tape, .int 0, .ref m_five, .int 0, .int 0, .int 0, .int 0, .int 0, .int 0, .int (-1), .ref m_fresh, .ref m_spokenAt, .ref m_heardAt, .ref m_lastAt, .ref m_answerAt, .int 0, .int 0, .int 0, .long 0, .int 0, .int 0, .ref m_heardNow, .ref m_seenAt, .int 0, .int 0, .int 0, .int 0, .int 0, .ref m_fewest, .ref m_costNow, .ref m_costThen, .ref m_lawsOf, .ref m_heardBy, .int 0, .int 0, .ref m_placesOf, .ref m_sentIn, .int 0, .int 0, .ref m_lostBy, .ref m_many, .ref m_width, .ref m_numbers, .ref m_moving])), (m_tape, .inl (cB, 500, .inl g_37)), (m_five, .inl (cI, 5, .inl g_5))] := hD
  refine lv_iinc (v := 8) (lv' := [(6, .int 8), (0, .ref m0), (1, .int a1), (2, .int a2), (3, .int a3), (4, .int a4), (5, .int a5)]) hx hb dX12_feed_95 hl (k := 0) rfl (by decide) (by decide) rfl (fun ls hl => ?_)
  refine lv_goto (tgt := 55) hx hb dX12_feed_98 (by decide) ?_
  refine lv_iload hx hb dX12_feed_55 (lv_at hl 0 rfl) ?_
  refine lv_bipush (v := 20) hx hb dX12_feed_57 (by decide) ?_
  refine lv_icmp_ge (tgt := 101) hx hb dX12_feed_59 (by decide) (fun c0 => absurd c0 (by decide)) (fun _ => ?_)
  refine lv_aload_n hx hb dX12_feed_62 rfl (lv_at hl 1 rfl) ?_
  refine va_get (D := D) (ci := 12) (v := .ref m_tape) (C := RX12) (T := TX12) (N := 48) hx hb hts inlX12 hown hK hP 0 rfl rfl 4 (by decide) (hts _ (inr6 _ (List.mem_of_getElem? (i := 19) rfl))) (fun _ h9 => h9) rfl dX12_feed_63 ?_
  refine lv_aload_n hx hb dX12_feed_66 rfl (lv_at hl 1 rfl) ?_
  refine va_get (D := D) (ci := 12) (v := .int 0) (C := RX12) (T := TX12) (N := 48) hx hb hts inlX12 hown hK hP 0 rfl rfl 5 (by decide) (hts _ (inr8 _ (List.mem_of_getElem? (i := 11) rfl))) (fun _ h9 => h9) rfl dX12_feed_67 ?_
  refine lv_iload hx hb dX12_feed_70 (lv_at hl 0 rfl) ?_
  refine z_iadd (v := 8) hx hb dX12_feed_72 (by decide) ?_
  refine lv_aload_n hx hb dX12_feed_73 rfl (lv_at hl 1 rfl) ?_
  refine va_get (D := D) (ci := 12) (v := .ref m_five) (C := RX12) (T := TX12) (N := 48) hx hb hts inlX12 hown hK hP 0 rfl rfl 6 (by decide) (hts _ (inr6 _ (List.mem_of_getElem? (i := 20) rfl))) (fun _ h9 => h9) rfl dX12_feed_74 ?_
  refine lv_iload hx hb dX12_feed_77 (lv_at hl 0 rfl) ?_
  refine lv_iconst (v := 4) hx hb dX12_feed_79 (by decide) ?_
  refine z_idiv (v := 2) hx hb dX12_feed_80 (by decide) (by decide) ?_
  obtain ⟨t_38, et_38⟩ : ∃ v9 : Int32, g_5 (2 : Int32).toNatClampNeg = v9 := ⟨_, rfl⟩
  refine z_iald (v := t_38) hx hb hK hP 2 1 rfl rfl (by unfold vp_in; decide) et_38 dX12_feed_81 ?_
  refine lv_bipush (v := 24) hx hb dX12_feed_82 (by decide) ?_
  refine lv_bipush (v := 8) hx hb dX12_feed_84 (by decide) ?_
  refine lv_iload hx hb dX12_feed_86 (lv_at hl 0 rfl) ?_
  refine lv_iconst (v := 4) hx hb dX12_feed_88 (by decide) ?_
  refine z_irem (v := 0) hx hb dX12_feed_89 (by decide) (by decide) ?_
  refine z_imul (v := 0) hx hb dX12_feed_90 (by decide) ?_
  refine z_isub (v := 24) hx hb dX12_feed_91 (by decide) ?_
  obtain ⟨t_39, et_39⟩ : ∃ v9 : Int32, t_38 >>> (24 &&& 31) = v9 := ⟨_, rfl⟩
  refine z_ishr (v := t_39) hx hb dX12_feed_92 et_39 ?_
  obtain ⟨t_40, et_40⟩ : ∃ v9 : Int32, (t_39 : Int32).toInt8.toInt32 = v9 := ⟨_, rfl⟩
  refine lv_i2b (v := t_40) hx hb dX12_feed_93 et_40 ?_
  refine va_bast hx hb hK hP hD hS 1 0 rfl rfl (by unfold vp_in; decide) dX12_feed_94 (fun H locs hP hD hS => ?_)
  have hP : va_P D vwCl [(m0, .inr (12, [.int 0, .ref m_world, .ref m_images, .ref m_hasImage, .ref m_tape, .int 0, .ref m_five, .int 0, .int 0, .int 0, .int 0, .int 0, .int 0, .int (-1), .ref m_fresh, .ref m_spokenAt, .ref m_heardAt, .ref m_lastAt, .ref m_answerAt, .int 0, .int 0, .int 0, .long 0, .int 0, .int 0, .ref m_heardNow, .ref m_seenAt, .int 0, .int 0, .int 0, .int 0, .int 0, .ref m_fewest, .ref m_costNow, .ref m_costThen, .ref m_lawsOf, .ref m_heardBy, .int 0, .int 0, .ref m_placesOf, .ref m_sentIn, .int 0, .int 0, .ref m_lostBy, .ref m_many, .ref m_width, .ref m_numbers, .ref m_moving])), (m_tape, .inl (cB, 500, .inl (upd g_37 (8 : Int32).toNatClampNeg (vp_nar .byte t_40)))), (m_five, .inl (cI, 5, .inl g_5))] H := hP
  have hD : va_D A [(m0, .inr (12, [.int 0, .ref m_world, .ref m_images, .ref m_hasImage, .ref m_tape, .int 0, .ref m_five, .int 0, .int 0, .int 0, .int 0, .int 0, .int 0, .int (-1), .ref m_fresh, .ref m_spokenAt, .ref m_heardAt, .ref m_lastAt, .ref m_answerAt, .int 0, .int 0, .int 0, .long 0, .int 0, .int 0, .ref m_heardNow, .ref m_seenAt, .int 0, .int 0, .int 0, .int 0, .int 0, .ref m_fewest, .ref m_costNow, .ref m_costThen, .ref m_lawsOf, .ref m_heardBy, .int 0, .int 0, .ref m_placesOf, .ref m_sentIn, .int 0, .int 0, .ref m_lostBy, .ref m_many, .ref m_width, .ref m_numbers, .ref m_moving])), (m_tape, .inl (cB, 500, .inl (upd g_37 (8 : Int32).toNatClampNeg (vp_nar .byte t_40)))), (m_five, .inl (cI, 5, .inl g_5))] := hD
  obtain ⟨g_41, eg_41⟩ : ∃ v9 : Nat → Int32, (upd g_37 (8 : Int32).toNatClampNeg (vp_nar .byte t_40)) = v9 := ⟨_, rfl⟩
  rw [eg_41] at hP hD
  have hP : va_P D vwCl [(m0, .inr (12, [.int 0, .ref m_world, .ref m_images, .ref m_hasImage, .ref m_tape, .int 0, .ref m_five, .int 0, .int 0, .int 0, .int 0, .int 0, .int 0, .int (-1), .ref m_fresh, .ref m_spokenAt, .ref m_heardAt, .ref m_lastAt, .ref m_answerAt, .int 0, .int 0, .int 0, .long 0, .int 0, .int 0, .ref m_heardNow, .ref m_seenAt, .int 0, .int 0, .int 0, .int 0, .int 0, .ref m_fewest, .ref m_costNow, .ref m_costThen, .ref m_lawsOf, .ref m_heardBy, .int 0, .int 0, .ref m_placesOf, .ref m_sentIn, .int 0, .int 0, .ref m_lostBy, .ref m_many, .ref m_width, .ref m_numbers, .ref m_moving])), (m_tape, .inl (cB, 500, .inl g_41)), (m_five, .inl (cI, 5, .inl g_5))] H := hP
  have hD : va_D A [(m0, .inr (12, [.int 0, .ref m_world, .ref m_images, .ref m_hasImage, .ref m_tape, .int 0, .ref m_five, .int 0, .int 0, .int 0, .int 0, .int 0, .int 0, .int (-1), .ref m_fresh, .ref m_spokenAt, .ref m_heardAt, .ref m_lastAt, .ref m_answerAt, .int 0, .int 0, .int 0, .long 0, .int 0, .int 0, .ref m_heardNow, .ref m_seenAt, .int 0, .int 0, .int 0, .int 0, .int 0, .ref m_fewest, .ref m_costNow, .ref m_costThen, .ref m_lawsOf, .ref m_heardBy, .int 0, .int 0, .ref m_placesOf, .ref m_sentIn, .int 0, .int 0, .ref m_lostBy, .ref m_many, .ref m_width, .ref m_numbers, .ref m_moving])), (m_tape, .inl (cB, 500, .inl g_41)), (m_five, .inl (cI, 5, .inl g_5))] := hD
  refine lv_iinc (v := 9) (lv' := [(6, .int 9), (0, .ref m0), (1, .int a1), (2, .int a2), (3, .int a3), (4, .int a4), (5, .int a5)]) hx hb dX12_feed_95 hl (k := 0) rfl (by decide) (by decide) rfl (fun ls hl => ?_)
  refine lv_goto (tgt := 55) hx hb dX12_feed_98 (by decide) ?_
  refine lv_iload hx hb dX12_feed_55 (lv_at hl 0 rfl) ?_
  refine lv_bipush (v := 20) hx hb dX12_feed_57 (by decide) ?_
  refine lv_icmp_ge (tgt := 101) hx hb dX12_feed_59 (by decide) (fun c0 => absurd c0 (by decide)) (fun _ => ?_)
  refine lv_aload_n hx hb dX12_feed_62 rfl (lv_at hl 1 rfl) ?_
  refine va_get (D := D) (ci := 12) (v := .ref m_tape) (C := RX12) (T := TX12) (N := 48) hx hb hts inlX12 hown hK hP 0 rfl rfl 4 (by decide) (hts _ (inr6 _ (List.mem_of_getElem? (i := 19) rfl))) (fun _ h9 => h9) rfl dX12_feed_63 ?_
  refine lv_aload_n hx hb dX12_feed_66 rfl (lv_at hl 1 rfl) ?_
  refine va_get (D := D) (ci := 12) (v := .int 0) (C := RX12) (T := TX12) (N := 48) hx hb hts inlX12 hown hK hP 0 rfl rfl 5 (by decide) (hts _ (inr8 _ (List.mem_of_getElem? (i := 11) rfl))) (fun _ h9 => h9) rfl dX12_feed_67 ?_
  refine lv_iload hx hb dX12_feed_70 (lv_at hl 0 rfl) ?_
  refine z_iadd (v := 9) hx hb dX12_feed_72 (by decide) ?_
  refine lv_aload_n hx hb dX12_feed_73 rfl (lv_at hl 1 rfl) ?_
  refine va_get (D := D) (ci := 12) (v := .ref m_five) (C := RX12) (T := TX12) (N := 48) hx hb hts inlX12 hown hK hP 0 rfl rfl 6 (by decide) (hts _ (inr6 _ (List.mem_of_getElem? (i := 20) rfl))) (fun _ h9 => h9) rfl dX12_feed_74 ?_
  refine lv_iload hx hb dX12_feed_77 (lv_at hl 0 rfl) ?_
  refine lv_iconst (v := 4) hx hb dX12_feed_79 (by decide) ?_
  refine z_idiv (v := 2) hx hb dX12_feed_80 (by decide) (by decide) ?_
  obtain ⟨t_42, et_42⟩ : ∃ v9 : Int32, g_5 (2 : Int32).toNatClampNeg = v9 := ⟨_, rfl⟩
  refine z_iald (v := t_42) hx hb hK hP 2 1 rfl rfl (by unfold vp_in; decide) et_42 dX12_feed_81 ?_
  refine lv_bipush (v := 24) hx hb dX12_feed_82 (by decide) ?_
  refine lv_bipush (v := 8) hx hb dX12_feed_84 (by decide) ?_
  refine lv_iload hx hb dX12_feed_86 (lv_at hl 0 rfl) ?_
  refine lv_iconst (v := 4) hx hb dX12_feed_88 (by decide) ?_
  refine z_irem (v := 1) hx hb dX12_feed_89 (by decide) (by decide) ?_
  refine z_imul (v := 8) hx hb dX12_feed_90 (by decide) ?_
  refine z_isub (v := 16) hx hb dX12_feed_91 (by decide) ?_
  obtain ⟨t_43, et_43⟩ : ∃ v9 : Int32, t_42 >>> (16 &&& 31) = v9 := ⟨_, rfl⟩
  refine z_ishr (v := t_43) hx hb dX12_feed_92 et_43 ?_
  obtain ⟨t_44, et_44⟩ : ∃ v9 : Int32, (t_43 : Int32).toInt8.toInt32 = v9 := ⟨_, rfl⟩
  refine lv_i2b (v := t_44) hx hb dX12_feed_93 et_44 ?_
  refine va_bast hx hb hK hP hD hS 1 0 rfl rfl (by unfold vp_in; decide) dX12_feed_94 (fun H locs hP hD hS => ?_)
  have hP : va_P D vwCl [(m0, .inr (12, [.int 0, .ref m_world, .ref m_images, .ref m_hasImage, .ref m_tape, .int 0, .ref m_five, .int 0, .int 0, .int 0, .int 0, .int 0, .int 0, .int (-1), .ref m_fresh, .ref m_spokenAt, .ref m_heardAt, .ref m_lastAt, .ref m_answerAt, .int 0, .int 0, .int 0, .long 0, .int 0, .int 0, .ref m_heardNow, .ref m_seenAt, .int 0, .int 0, .int 0, .int 0, .int 0, .ref m_fewest, .ref m_costNow, .ref m_costThen, .ref m_lawsOf, .ref m_heardBy, .int 0, .int 0, .ref m_placesOf, .ref m_sentIn, .int 0, .int 0, .ref m_lostBy, .ref m_many, .ref m_width, .ref m_numbers, .ref m_moving])), (m_tape, .inl (cB, 500, .inl (upd g_41 (9 : Int32).toNatClampNeg (vp_nar .byte t_44)))), (m_five, .inl (cI, 5, .inl g_5))] H := hP
  have hD : va_D A [(m0, .inr (12, [.int 0, .ref m_world, .ref m_images, .ref m_hasImage, .ref m_tape, .int 0, .ref m_five, .int 0, .int 0, .int 0, .int 0, .int 0, .int 0, .int (-1), .ref m_fresh, .ref m_spokenAt, .ref m_heardAt, .ref m_lastAt, .ref m_answerAt, .int 0, .int 0, .int 0, .long 0, .int 0, .int 0, .ref m_heardNow, .ref m_seenAt, .int 0, .int 0, .int 0, .int 0, .int 0, .ref m_fewest, .ref m_costNow, .ref m_costThen, .ref m_lawsOf, .ref m_heardBy, .int 0, .int 0, .ref m_placesOf, .ref m_sentIn, .int 0, .int 0, .ref m_lostBy, .ref m_many, .ref m_width, .ref m_numbers, .ref m_moving])), (m_tape, .inl (cB, 500, .inl (upd g_41 (9 : Int32).toNatClampNeg (vp_nar .byte t_44)))), (m_five, .inl (cI, 5, .inl g_5))] := hD
  obtain ⟨g_45, eg_45⟩ : ∃ v9 : Nat → Int32, (upd g_41 (9 : Int32).toNatClampNeg (vp_nar .byte t_44)) = v9 := ⟨_, rfl⟩
  rw [eg_45] at hP hD
  have hP : va_P D vwCl [(m0, .inr (12, [.int 0, .ref m_world, .ref m_images, .ref m_hasImage, .ref m_tape, .int 0, .ref m_five, .int 0, .int 0, .int 0, .int 0, .int 0, .int 0, .int (-1), .ref m_fresh, .ref m_spokenAt, .ref m_heardAt, .ref m_lastAt, .ref m_answerAt, .int 0, .int 0, .int 0, .long 0, .int 0, .int 0, .ref m_heardNow, .ref m_seenAt, .int 0, .int 0, .int 0, .int 0, .int 0, .ref m_fewest, .ref m_costNow, .ref m_costThen, .ref m_lawsOf, .ref m_heardBy, .int 0, .int 0, .ref m_placesOf, .ref m_sentIn, .int 0, .int 0, .ref m_lostBy, .ref m_many, .ref m_width, .ref m_numbers, .ref m_moving])), (m_tape, .inl (cB, 500, .inl g_45)), (m_five, .inl (cI, 5, .inl g_5))] H := hP
  have hD : va_D A [(m0, .inr (12, [.int 0, .ref m_world, .ref m_images, .ref m_hasImage, .ref m_tape, .int 0, .ref m_five, .int 0, .int 0, .int 0, .int 0, .int 0, .int 0, .int (-1), .ref m_fresh, .ref m_spokenAt, .ref m_heardAt, .ref m_lastAt, .ref m_answerAt, .int 0, .int 0, .int 0, .long 0, .int 0, .int 0, .ref m_heardNow, .ref m_seenAt, .int 0, .int 0, .int 0, .int 0, .int 0, .ref m_fewest, .ref m_costNow, .ref m_costThen, .ref m_lawsOf, .ref m_heardBy, .int 0, .int 0, .ref m_placesOf, .ref m_sentIn, .int 0, .int 0, .ref m_lostBy, .ref m_many, .ref m_width, .ref m_numbers, .ref m_moving])), (m_tape, .inl (cB, 500, .inl g_45)), (m_five, .inl (cI, 5, .inl g_5))] := hD
  refine lv_iinc (v := 10) (lv' := [(6, .int 10), (0, .ref m0), (1, .int a1), (2, .int a2), (3, .int a3), (4, .int a4), (5, .int a5)]) hx hb dX12_feed_95 hl (k := 0) rfl (by decide) (by decide) rfl (fun ls hl => ?_)
  refine lv_goto (tgt := 55) hx hb dX12_feed_98 (by decide) ?_
  refine lv_iload hx hb dX12_feed_55 (lv_at hl 0 rfl) ?_
  refine lv_bipush (v := 20) hx hb dX12_feed_57 (by decide) ?_
  refine lv_icmp_ge (tgt := 101) hx hb dX12_feed_59 (by decide) (fun c0 => absurd c0 (by decide)) (fun _ => ?_)
  refine lv_aload_n hx hb dX12_feed_62 rfl (lv_at hl 1 rfl) ?_
  refine va_get (D := D) (ci := 12) (v := .ref m_tape) (C := RX12) (T := TX12) (N := 48) hx hb hts inlX12 hown hK hP 0 rfl rfl 4 (by decide) (hts _ (inr6 _ (List.mem_of_getElem? (i := 19) rfl))) (fun _ h9 => h9) rfl dX12_feed_63 ?_
  refine lv_aload_n hx hb dX12_feed_66 rfl (lv_at hl 1 rfl) ?_
  refine va_get (D := D) (ci := 12) (v := .int 0) (C := RX12) (T := TX12) (N := 48) hx hb hts inlX12 hown hK hP 0 rfl rfl 5 (by decide) (hts _ (inr8 _ (List.mem_of_getElem? (i := 11) rfl))) (fun _ h9 => h9) rfl dX12_feed_67 ?_
  refine lv_iload hx hb dX12_feed_70 (lv_at hl 0 rfl) ?_
  refine z_iadd (v := 10) hx hb dX12_feed_72 (by decide) ?_
  refine lv_aload_n hx hb dX12_feed_73 rfl (lv_at hl 1 rfl) ?_
  refine va_get (D := D) (ci := 12) (v := .ref m_five) (C := RX12) (T := TX12) (N := 48) hx hb hts inlX12 hown hK hP 0 rfl rfl 6 (by decide) (hts _ (inr6 _ (List.mem_of_getElem? (i := 20) rfl))) (fun _ h9 => h9) rfl dX12_feed_74 ?_
  refine lv_iload hx hb dX12_feed_77 (lv_at hl 0 rfl) ?_
  refine lv_iconst (v := 4) hx hb dX12_feed_79 (by decide) ?_
  refine z_idiv (v := 2) hx hb dX12_feed_80 (by decide) (by decide) ?_
  obtain ⟨t_46, et_46⟩ : ∃ v9 : Int32, g_5 (2 : Int32).toNatClampNeg = v9 := ⟨_, rfl⟩
  refine z_iald (v := t_46) hx hb hK hP 2 1 rfl rfl (by unfold vp_in; decide) et_46 dX12_feed_81 ?_
  refine lv_bipush (v := 24) hx hb dX12_feed_82 (by decide) ?_
  refine lv_bipush (v := 8) hx hb dX12_feed_84 (by decide) ?_
  refine lv_iload hx hb dX12_feed_86 (lv_at hl 0 rfl) ?_
  refine lv_iconst (v := 4) hx hb dX12_feed_88 (by decide) ?_
  refine z_irem (v := 2) hx hb dX12_feed_89 (by decide) (by decide) ?_
  refine z_imul (v := 16) hx hb dX12_feed_90 (by decide) ?_
  refine z_isub (v := 8) hx hb dX12_feed_91 (by decide) ?_
  obtain ⟨t_47, et_47⟩ : ∃ v9 : Int32, t_46 >>> (8 &&& 31) = v9 := ⟨_, rfl⟩
  refine z_ishr (v := t_47) hx hb dX12_feed_92 et_47 ?_
  obtain ⟨t_48, et_48⟩ : ∃ v9 : Int32, (t_47 : Int32).toInt8.toInt32 = v9 := ⟨_, rfl⟩
  refine lv_i2b (v := t_48) hx hb dX12_feed_93 et_48 ?_
  refine va_bast hx hb hK hP hD hS 1 0 rfl rfl (by unfold vp_in; decide) dX12_feed_94 (fun H locs hP hD hS => ?_)
  have hP : va_P D vwCl [(m0, .inr (12, [.int 0, .ref m_world, .ref m_images, .ref m_hasImage, .ref m_tape, .int 0, .ref m_five, .int 0, .int 0, .int 0, .int 0, .int 0, .int 0, .int (-1), .ref m_fresh, .ref m_spokenAt, .ref m_heardAt, .ref m_lastAt, .ref m_answerAt, .int 0, .int 0, .int 0, .long 0, .int 0, .int 0, .ref m_heardNow, .ref m_seenAt, .int 0, .int 0, .int 0, .int 0, .int 0, .ref m_fewest, .ref m_costNow, .ref m_costThen, .ref m_lawsOf, .ref m_heardBy, .int 0, .int 0, .ref m_placesOf, .ref m_sentIn, .int 0, .int 0, .ref m_lostBy, .ref m_many, .ref m_width, .ref m_numbers, .ref m_moving])), (m_tape, .inl (cB, 500, .inl (upd g_45 (10 : Int32).toNatClampNeg (vp_nar .byte t_48)))), (m_five, .inl (cI, 5, .inl g_5))] H := hP
  have hD : va_D A [(m0, .inr (12, [.int 0, .ref m_world, .ref m_images, .ref m_hasImage, .ref m_tape, .int 0, .ref m_five, .int 0, .int 0, .int 0, .int 0, .int 0, .int 0, .int (-1), .ref m_fresh, .ref m_spokenAt, .ref m_heardAt, .ref m_lastAt, .ref m_answerAt, .int 0, .int 0, .int 0, .long 0, .int 0, .int 0, .ref m_heardNow, .ref m_seenAt, .int 0, .int 0, .int 0, .int 0, .int 0, .ref m_fewest, .ref m_costNow, .ref m_costThen, .ref m_lawsOf, .ref m_heardBy, .int 0, .int 0, .ref m_placesOf, .ref m_sentIn, .int 0, .int 0, .ref m_lostBy, .ref m_many, .ref m_width, .ref m_numbers, .ref m_moving])), (m_tape, .inl (cB, 500, .inl (upd g_45 (10 : Int32).toNatClampNeg (vp_nar .byte t_48)))), (m_five, .inl (cI, 5, .inl g_5))] := hD
  obtain ⟨g_49, eg_49⟩ : ∃ v9 : Nat → Int32, (upd g_45 (10 : Int32).toNatClampNeg (vp_nar .byte t_48)) = v9 := ⟨_, rfl⟩
  rw [eg_49] at hP hD
  have hP : va_P D vwCl [(m0, .inr (12, [.int 0, .ref m_world, .ref m_images, .ref m_hasImage, .ref m_tape, .int 0, .ref m_five, .int 0, .int 0, .int 0, .int 0, .int 0, .int 0, .int (-1), .ref m_fresh, .ref m_spokenAt, .ref m_heardAt, .ref m_lastAt, .ref m_answerAt, .int 0, .int 0, .int 0, .long 0, .int 0, .int 0, .ref m_heardNow, .ref m_seenAt, .int 0, .int 0, .int 0, .int 0, .int 0, .ref m_fewest, .ref m_costNow, .ref m_costThen, .ref m_lawsOf, .ref m_heardBy, .int 0, .int 0, .ref m_placesOf, .ref m_sentIn, .int 0, .int 0, .ref m_lostBy, .ref m_many, .ref m_width, .ref m_numbers, .ref m_moving])), (m_tape, .inl (cB, 500, .inl g_49)), (m_five, .inl (cI, 5, .inl g_5))] H := hP
  have hD : va_D A [(m0, .inr (12, [.int 0, .ref m_world, .ref m_images, .ref m_hasImage, .ref m_tape, .int 0, .ref m_five, .int 0, .int 0, .int 0, .int 0, .int 0, .int 0, .int (-1), .ref m_fresh, .ref m_spokenAt, .ref m_heardAt, .ref m_lastAt, .ref m_answerAt, .int 0, .int 0, .int 0, .long 0, .int 0, .int 0, .ref m_heardNow, .ref m_seenAt, .int 0, .int 0, .int 0, .int 0, .int 0, .ref m_fewest, .ref m_costNow, .ref m_costThen, .ref m_lawsOf, .ref m_heardBy, .int 0, .int 0, .ref m_placesOf, .ref m_sentIn, .int 0, .int 0, .ref m_lostBy, .ref m_many, .ref m_width, .ref m_numbers, .ref m_moving])), (m_tape, .inl (cB, 500, .inl g_49)), (m_five, .inl (cI, 5, .inl g_5))] := hD
  refine lv_iinc (v := 11) (lv' := [(6, .int 11), (0, .ref m0), (1, .int a1), (2, .int a2), (3, .int a3), (4, .int a4), (5, .int a5)]) hx hb dX12_feed_95 hl (k := 0) rfl (by decide) (by decide) rfl (fun ls hl => ?_)
  refine lv_goto (tgt := 55) hx hb dX12_feed_98 (by decide) ?_
  refine lv_iload hx hb dX12_feed_55 (lv_at hl 0 rfl) ?_
  refine lv_bipush (v := 20) hx hb dX12_feed_57 (by decide) ?_
  refine lv_icmp_ge (tgt := 101) hx hb dX12_feed_59 (by decide) (fun c0 => absurd c0 (by decide)) (fun _ => ?_)
  refine lv_aload_n hx hb dX12_feed_62 rfl (lv_at hl 1 rfl) ?_
  refine va_get (D := D) (ci := 12) (v := .ref m_tape) (C := RX12) (T := TX12) (N := 48) hx hb hts inlX12 hown hK hP 0 rfl rfl 4 (by decide) (hts _ (inr6 _ (List.mem_of_getElem? (i := 19) rfl))) (fun _ h9 => h9) rfl dX12_feed_63 ?_
  refine lv_aload_n hx hb dX12_feed_66 rfl (lv_at hl 1 rfl) ?_
  refine va_get (D := D) (ci := 12) (v := .int 0) (C := RX12) (T := TX12) (N := 48) hx hb hts inlX12 hown hK hP 0 rfl rfl 5 (by decide) (hts _ (inr8 _ (List.mem_of_getElem? (i := 11) rfl))) (fun _ h9 => h9) rfl dX12_feed_67 ?_
  refine lv_iload hx hb dX12_feed_70 (lv_at hl 0 rfl) ?_
  refine z_iadd (v := 11) hx hb dX12_feed_72 (by decide) ?_
  refine lv_aload_n hx hb dX12_feed_73 rfl (lv_at hl 1 rfl) ?_
  refine va_get (D := D) (ci := 12) (v := .ref m_five) (C := RX12) (T := TX12) (N := 48) hx hb hts inlX12 hown hK hP 0 rfl rfl 6 (by decide) (hts _ (inr6 _ (List.mem_of_getElem? (i := 20) rfl))) (fun _ h9 => h9) rfl dX12_feed_74 ?_
  refine lv_iload hx hb dX12_feed_77 (lv_at hl 0 rfl) ?_
  refine lv_iconst (v := 4) hx hb dX12_feed_79 (by decide) ?_
  refine z_idiv (v := 2) hx hb dX12_feed_80 (by decide) (by decide) ?_
  obtain ⟨t_50, et_50⟩ : ∃ v9 : Int32, g_5 (2 : Int32).toNatClampNeg = v9 := ⟨_, rfl⟩
  refine z_iald (v := t_50) hx hb hK hP 2 1 rfl rfl (by unfold vp_in; decide) et_50 dX12_feed_81 ?_
  refine lv_bipush (v := 24) hx hb dX12_feed_82 (by decide) ?_
  refine lv_bipush (v := 8) hx hb dX12_feed_84 (by decide) ?_
  refine lv_iload hx hb dX12_feed_86 (lv_at hl 0 rfl) ?_
  refine lv_iconst (v := 4) hx hb dX12_feed_88 (by decide) ?_
  refine z_irem (v := 3) hx hb dX12_feed_89 (by decide) (by decide) ?_
  refine z_imul (v := 24) hx hb dX12_feed_90 (by decide) ?_
  refine z_isub (v := 0) hx hb dX12_feed_91 (by decide) ?_
  obtain ⟨t_51, et_51⟩ : ∃ v9 : Int32, t_50 >>> (0 &&& 31) = v9 := ⟨_, rfl⟩
  refine z_ishr (v := t_51) hx hb dX12_feed_92 et_51 ?_
  obtain ⟨t_52, et_52⟩ : ∃ v9 : Int32, (t_51 : Int32).toInt8.toInt32 = v9 := ⟨_, rfl⟩
  refine lv_i2b (v := t_52) hx hb dX12_feed_93 et_52 ?_
  refine va_bast hx hb hK hP hD hS 1 0 rfl rfl (by unfold vp_in; decide) dX12_feed_94 (fun H locs hP hD hS => ?_)
  have hP : va_P D vwCl [(m0, .inr (12, [.int 0, .ref m_world, .ref m_images, .ref m_hasImage, .ref m_tape, .int 0, .ref m_five, .int 0, .int 0, .int 0, .int 0, .int 0, .int 0, .int (-1), .ref m_fresh, .ref m_spokenAt, .ref m_heardAt, .ref m_lastAt, .ref m_answerAt, .int 0, .int 0, .int 0, .long 0, .int 0, .int 0, .ref m_heardNow, .ref m_seenAt, .int 0, .int 0, .int 0, .int 0, .int 0, .ref m_fewest, .ref m_costNow, .ref m_costThen, .ref m_lawsOf, .ref m_heardBy, .int 0, .int 0, .ref m_placesOf, .ref m_sentIn, .int 0, .int 0, .ref m_lostBy, .ref m_many, .ref m_width, .ref m_numbers, .ref m_moving])), (m_tape, .inl (cB, 500, .inl (upd g_49 (11 : Int32).toNatClampNeg (vp_nar .byte t_52)))), (m_five, .inl (cI, 5, .inl g_5))] H := hP
  have hD : va_D A [(m0, .inr (12, [.int 0, .ref m_world, .ref m_images, .ref m_hasImage, .ref m_tape, .int 0, .ref m_five, .int 0, .int 0, .int 0, .int 0, .int 0, .int 0, .int (-1), .ref m_fresh, .ref m_spokenAt, .ref m_heardAt, .ref m_lastAt, .ref m_answerAt, .int 0, .int 0, .int 0, .long 0, .int 0, .int 0, .ref m_heardNow, .ref m_seenAt, .int 0, .int 0, .int 0, .int 0, .int 0, .ref m_fewest, .ref m_costNow, .ref m_costThen, .ref m_lawsOf, .ref m_heardBy, .int 0, .int 0, .ref m_placesOf, .ref m_sentIn, .int 0, .int 0, .ref m_lostBy, .ref m_many, .ref m_width, .ref m_numbers, .ref m_moving])), (m_tape, .inl (cB, 500, .inl (upd g_49 (11 : Int32).toNatClampNeg (vp_nar .byte t_52)))), (m_five, .inl (cI, 5, .inl g_5))] := hD
  obtain ⟨g_53, eg_53⟩ : ∃ v9 : Nat → Int32, (upd g_49 (11 : Int32).toNatClampNeg (vp_nar .byte t_52)) = v9 := ⟨_, rfl⟩
  rw [eg_53] at hP hD
  have hP : va_P D vwCl [(m0, .inr (12, [.int 0, .ref m_world, .ref m_images, .ref m_hasImage, .ref m_tape, .int 0, .ref m_five, .int 0, .int 0, .int 0, .int 0, .int 0, .int 0, .int (-1), .ref m_fresh, .ref m_spokenAt, .ref m_heardAt, .ref m_lastAt, .ref m_answerAt, .int 0, .int 0, .int 0, .long 0, .int 0, .int 0, .ref m_heardNow, .ref m_seenAt, .int 0, .int 0, .int 0, .int 0, .int 0, .ref m_fewest, .ref m_costNow, .ref m_costThen, .ref m_lawsOf, .ref m_heardBy, .int 0, .int 0, .ref m_placesOf, .ref m_sentIn, .int 0, .int 0, .ref m_lostBy, .ref m_many, .ref m_width, .ref m_numbers, .ref m_moving])), (m_tape, .inl (cB, 500, .inl g_53)), (m_five, .inl (cI, 5, .inl g_5))] H := hP
  have hD : va_D A [(m0, .inr (12, [.int 0, .ref m_world, .ref m_images, .ref m_hasImage, .ref m_tape, .int 0, .ref m_five, .int 0, .int 0, .int 0, .int 0, .int 0, .int 0, .int (-1), .ref m_fresh, .ref m_spokenAt, .ref m_heardAt, .ref m_lastAt, .ref m_answerAt, .int 0, .int 0, .int 0, .long 0, .int 0, .int 0, .ref m_heardNow, .ref m_seenAt, .int 0, .int 0, .int 0, .int 0, .int 0, .ref m_fewest, .ref m_costNow, .ref m_costThen, .ref m_lawsOf, .ref m_heardBy, .int 0, .int 0, .ref m_placesOf, .ref m_sentIn, .int 0, .int 0, .ref m_lostBy, .ref m_many, .ref m_width, .ref m_numbers, .ref m_moving])), (m_tape, .inl (cB, 500, .inl g_53)), (m_five, .inl (cI, 5, .inl g_5))] := hD
  refine lv_iinc (v := 12) (lv' := [(6, .int 12), (0, .ref m0), (1, .int a1), (2, .int a2), (3, .int a3), (4, .int a4), (5, .int a5)]) hx hb dX12_feed_95 hl (k := 0) rfl (by decide) (by decide) rfl (fun ls hl => ?_)
  refine lv_goto (tgt := 55) hx hb dX12_feed_98 (by decide) ?_
  refine lv_iload hx hb dX12_feed_55 (lv_at hl 0 rfl) ?_
  refine lv_bipush (v := 20) hx hb dX12_feed_57 (by decide) ?_
  refine lv_icmp_ge (tgt := 101) hx hb dX12_feed_59 (by decide) (fun c0 => absurd c0 (by decide)) (fun _ => ?_)
  refine lv_aload_n hx hb dX12_feed_62 rfl (lv_at hl 1 rfl) ?_
  refine va_get (D := D) (ci := 12) (v := .ref m_tape) (C := RX12) (T := TX12) (N := 48) hx hb hts inlX12 hown hK hP 0 rfl rfl 4 (by decide) (hts _ (inr6 _ (List.mem_of_getElem? (i := 19) rfl))) (fun _ h9 => h9) rfl dX12_feed_63 ?_
  refine lv_aload_n hx hb dX12_feed_66 rfl (lv_at hl 1 rfl) ?_
  refine va_get (D := D) (ci := 12) (v := .int 0) (C := RX12) (T := TX12) (N := 48) hx hb hts inlX12 hown hK hP 0 rfl rfl 5 (by decide) (hts _ (inr8 _ (List.mem_of_getElem? (i := 11) rfl))) (fun _ h9 => h9) rfl dX12_feed_67 ?_
  refine lv_iload hx hb dX12_feed_70 (lv_at hl 0 rfl) ?_
  refine z_iadd (v := 12) hx hb dX12_feed_72 (by decide) ?_
  refine lv_aload_n hx hb dX12_feed_73 rfl (lv_at hl 1 rfl) ?_
  refine va_get (D := D) (ci := 12) (v := .ref m_five) (C := RX12) (T := TX12) (N := 48) hx hb hts inlX12 hown hK hP 0 rfl rfl 6 (by decide) (hts _ (inr6 _ (List.mem_of_getElem? (i := 20) rfl))) (fun _ h9 => h9) rfl dX12_feed_74 ?_
  refine lv_iload hx hb dX12_feed_77 (lv_at hl 0 rfl) ?_
  refine lv_iconst (v := 4) hx hb dX12_feed_79 (by decide) ?_
  refine z_idiv (v := 3) hx hb dX12_feed_80 (by decide) (by decide) ?_
  obtain ⟨t_54, et_54⟩ : ∃ v9 : Int32, g_5 (3 : Int32).toNatClampNeg = v9 := ⟨_, rfl⟩
  refine z_iald (v := t_54) hx hb hK hP 2 1 rfl rfl (by unfold vp_in; decide) et_54 dX12_feed_81 ?_
  refine lv_bipush (v := 24) hx hb dX12_feed_82 (by decide) ?_
  refine lv_bipush (v := 8) hx hb dX12_feed_84 (by decide) ?_
  refine lv_iload hx hb dX12_feed_86 (lv_at hl 0 rfl) ?_
  refine lv_iconst (v := 4) hx hb dX12_feed_88 (by decide) ?_
  refine z_irem (v := 0) hx hb dX12_feed_89 (by decide) (by decide) ?_
  refine z_imul (v := 0) hx hb dX12_feed_90 (by decide) ?_
  refine z_isub (v := 24) hx hb dX12_feed_91 (by decide) ?_
  obtain ⟨t_55, et_55⟩ : ∃ v9 : Int32, t_54 >>> (24 &&& 31) = v9 := ⟨_, rfl⟩
  refine z_ishr (v := t_55) hx hb dX12_feed_92 et_55 ?_
  obtain ⟨t_56, et_56⟩ : ∃ v9 : Int32, (t_55 : Int32).toInt8.toInt32 = v9 := ⟨_, rfl⟩
  refine lv_i2b (v := t_56) hx hb dX12_feed_93 et_56 ?_
  refine va_bast hx hb hK hP hD hS 1 0 rfl rfl (by unfold vp_in; decide) dX12_feed_94 (fun H locs hP hD hS => ?_)
  have hP : va_P D vwCl [(m0, .inr (12, [.int 0, .ref m_world, .ref m_images, .ref m_hasImage, .ref m_tape, .int 0, .ref m_five, .int 0, .int 0, .int 0, .int 0, .int 0, .int 0, .int (-1), .ref m_fresh, .ref m_spokenAt, .ref m_heardAt, .ref m_lastAt, .ref m_answerAt, .int 0, .int 0, .int 0, .long 0, .int 0, .int 0, .ref m_heardNow, .ref m_seenAt, .int 0, .int 0, .int 0, .int 0, .int 0, .ref m_fewest, .ref m_costNow, .ref m_costThen, .ref m_lawsOf, .ref m_heardBy, .int 0, .int 0, .ref m_placesOf, .ref m_sentIn, .int 0, .int 0, .ref m_lostBy, .ref m_many, .ref m_width, .ref m_numbers, .ref m_moving])), (m_tape, .inl (cB, 500, .inl (upd g_53 (12 : Int32).toNatClampNeg (vp_nar .byte t_56)))), (m_five, .inl (cI, 5, .inl g_5))] H := hP
  have hD : va_D A [(m0, .inr (12, [.int 0, .ref m_world, .ref m_images, .ref m_hasImage, .ref m_tape, .int 0, .ref m_five, .int 0, .int 0, .int 0, .int 0, .int 0, .int 0, .int (-1), .ref m_fresh, .ref m_spokenAt, .ref m_heardAt, .ref m_lastAt, .ref m_answerAt, .int 0, .int 0, .int 0, .long 0, .int 0, .int 0, .ref m_heardNow, .ref m_seenAt, .int 0, .int 0, .int 0, .int 0, .int 0, .ref m_fewest, .ref m_costNow, .ref m_costThen, .ref m_lawsOf, .ref m_heardBy, .int 0, .int 0, .ref m_placesOf, .ref m_sentIn, .int 0, .int 0, .ref m_lostBy, .ref m_many, .ref m_width, .ref m_numbers, .ref m_moving])), (m_tape, .inl (cB, 500, .inl (upd g_53 (12 : Int32).toNatClampNeg (vp_nar .byte t_56)))), (m_five, .inl (cI, 5, .inl g_5))] := hD
  obtain ⟨g_57, eg_57⟩ : ∃ v9 : Nat → Int32, (upd g_53 (12 : Int32).toNatClampNeg (vp_nar .byte t_56)) = v9 := ⟨_, rfl⟩
  rw [eg_57] at hP hD
  have hP : va_P D vwCl [(m0, .inr (12, [.int 0, .ref m_world, .ref m_images, .ref m_hasImage, .ref m_tape, .int 0, .ref m_five, .int 0, .int 0, .int 0, .int 0, .int 0, .int 0, .int (-1), .ref m_fresh, .ref m_spokenAt, .ref m_heardAt, .ref m_lastAt, .ref m_answerAt, .int 0, .int 0, .int 0, .long 0, .int 0, .int 0, .ref m_heardNow, .ref m_seenAt, .int 0, .int 0, .int 0, .int 0, .int 0, .ref m_fewest, .ref m_costNow, .ref m_costThen, .ref m_lawsOf, .ref m_heardBy, .int 0, .int 0, .ref m_placesOf, .ref m_sentIn, .int 0, .int 0, .ref m_lostBy, .ref m_many, .ref m_width, .ref m_numbers, .ref m_moving])), (m_tape, .inl (cB, 500, .inl g_57)), (m_five, .inl (cI, 5, .inl g_5))] H := hP
  have hD : va_D A [(m0, .inr (12, [.int 0, .ref m_world, .ref m_images, .ref m_hasImage, .ref m_tape, .int 0, .ref m_five, .int 0, .int 0, .int 0, .int 0, .int 0, .int 0, .int (-1), .ref m_fresh, .ref m_spokenAt, .ref m_heardAt, .ref m_lastAt, .ref m_answerAt, .int 0, .int 0, .int 0, .long 0, .int 0, .int 0, .ref m_heardNow, .ref m_seenAt, .int 0, .int 0, .int 0, .int 0, .int 0, .ref m_fewest, .ref m_costNow, .ref m_costThen, .ref m_lawsOf, .ref m_heardBy, .int 0, .int 0, .ref m_placesOf, .ref m_sentIn, .int 0, .int 0, .ref m_lostBy, .ref m_many, .ref m_width, .ref m_numbers, .ref m_moving])), (m_tape, .inl (cB, 500, .inl g_57)), (m_five, .inl (cI, 5, .inl g_5))] := hD
  refine lv_iinc (v := 13) (lv' := [(6, .int 13), (0, .ref m0), (1, .int a1), (2, .int a2), (3, .int a3), (4, .int a4), (5, .int a5)]) hx hb dX12_feed_95 hl (k := 0) rfl (by decide) (by decide) rfl (fun ls hl => ?_)
  refine lv_goto (tgt := 55) hx hb dX12_feed_98 (by decide) ?_
  refine lv_iload hx hb dX12_feed_55 (lv_at hl 0 rfl) ?_
  refine lv_bipush (v := 20) hx hb dX12_feed_57 (by decide) ?_
  refine lv_icmp_ge (tgt := 101) hx hb dX12_feed_59 (by decide) (fun c0 => absurd c0 (by decide)) (fun _ => ?_)
  refine lv_aload_n hx hb dX12_feed_62 rfl (lv_at hl 1 rfl) ?_
  refine va_get (D := D) (ci := 12) (v := .ref m_tape) (C := RX12) (T := TX12) (N := 48) hx hb hts inlX12 hown hK hP 0 rfl rfl 4 (by decide) (hts _ (inr6 _ (List.mem_of_getElem? (i := 19) rfl))) (fun _ h9 => h9) rfl dX12_feed_63 ?_
  refine lv_aload_n hx hb dX12_feed_66 rfl (lv_at hl 1 rfl) ?_
  refine va_get (D := D) (ci := 12) (v := .int 0) (C := RX12) (T := TX12) (N := 48) hx hb hts inlX12 hown hK hP 0 rfl rfl 5 (by decide) (hts _ (inr8 _ (List.mem_of_getElem? (i := 11) rfl))) (fun _ h9 => h9) rfl dX12_feed_67 ?_
  refine lv_iload hx hb dX12_feed_70 (lv_at hl 0 rfl) ?_
  refine z_iadd (v := 13) hx hb dX12_feed_72 (by decide) ?_
  refine lv_aload_n hx hb dX12_feed_73 rfl (lv_at hl 1 rfl) ?_
  refine va_get (D := D) (ci := 12) (v := .ref m_five) (C := RX12) (T := TX12) (N := 48) hx hb hts inlX12 hown hK hP 0 rfl rfl 6 (by decide) (hts _ (inr6 _ (List.mem_of_getElem? (i := 20) rfl))) (fun _ h9 => h9) rfl dX12_feed_74 ?_
  refine lv_iload hx hb dX12_feed_77 (lv_at hl 0 rfl) ?_
  refine lv_iconst (v := 4) hx hb dX12_feed_79 (by decide) ?_
  refine z_idiv (v := 3) hx hb dX12_feed_80 (by decide) (by decide) ?_
  obtain ⟨t_58, et_58⟩ : ∃ v9 : Int32, g_5 (3 : Int32).toNatClampNeg = v9 := ⟨_, rfl⟩
  refine z_iald (v := t_58) hx hb hK hP 2 1 rfl rfl (by unfold vp_in; decide) et_58 dX12_feed_81 ?_
  refine lv_bipush (v := 24) hx hb dX12_feed_82 (by decide) ?_
  refine lv_bipush (v := 8) hx hb dX12_feed_84 (by decide) ?_
  refine lv_iload hx hb dX12_feed_86 (lv_at hl 0 rfl) ?_
  refine lv_iconst (v := 4) hx hb dX12_feed_88 (by decide) ?_
  refine z_irem (v := 1) hx hb dX12_feed_89 (by decide) (by decide) ?_
  refine z_imul (v := 8) hx hb dX12_feed_90 (by decide) ?_
  refine z_isub (v := 16) hx hb dX12_feed_91 (by decide) ?_
  obtain ⟨t_59, et_59⟩ : ∃ v9 : Int32, t_58 >>> (16 &&& 31) = v9 := ⟨_, rfl⟩
  refine z_ishr (v := t_59) hx hb dX12_feed_92 et_59 ?_
  obtain ⟨t_60, et_60⟩ : ∃ v9 : Int32, (t_59 : Int32).toInt8.toInt32 = v9 := ⟨_, rfl⟩
  refine lv_i2b (v := t_60) hx hb dX12_feed_93 et_60 ?_
  refine va_bast hx hb hK hP hD hS 1 0 rfl rfl (by unfold vp_in; decide) dX12_feed_94 (fun H locs hP hD hS => ?_)
  have hP : va_P D vwCl [(m0, .inr (12, [.int 0, .ref m_world, .ref m_images, .ref m_hasImage, .ref m_tape, .int 0, .ref m_five, .int 0, .int 0, .int 0, .int 0, .int 0, .int 0, .int (-1), .ref m_fresh, .ref m_spokenAt, .ref m_heardAt, .ref m_lastAt, .ref m_answerAt, .int 0, .int 0, .int 0, .long 0, .int 0, .int 0, .ref m_heardNow, .ref m_seenAt, .int 0, .int 0, .int 0, .int 0, .int 0, .ref m_fewest, .ref m_costNow, .ref m_costThen, .ref m_lawsOf, .ref m_heardBy, .int 0, .int 0, .ref m_placesOf, .ref m_sentIn, .int 0, .int 0, .ref m_lostBy, .ref m_many, .ref m_width, .ref m_numbers, .ref m_moving])), (m_tape, .inl (cB, 500, .inl (upd g_57 (13 : Int32).toNatClampNeg (vp_nar .byte t_60)))), (m_five, .inl (cI, 5, .inl g_5))] H := hP
  have hD : va_D A [(m0, .inr (12, [.int 0, .ref m_world, .ref m_images, .ref m_hasImage, .ref m_tape, .int 0, .ref m_five, .int 0, .int 0, .int 0, .int 0, .int 0, .int 0, .int (-1), .ref m_fresh, .ref m_spokenAt, .ref m_heardAt, .ref m_lastAt, .ref m_answerAt, .int 0, .int 0, .int 0, .long 0, .int 0, .int 0, .ref m_heardNow, .ref m_seenAt, .int 0, .int 0, .int 0, .int 0, .int 0, .ref m_fewest, .ref m_costNow, .ref m_costThen, .ref m_lawsOf, .ref m_heardBy, .int 0, .int 0, .ref m_placesOf, .ref m_sentIn, .int 0, .int 0, .ref m_lostBy, .ref m_many, .ref m_width, .ref m_numbers, .ref m_moving])), (m_tape, .inl (cB, 500, .inl (upd g_57 (13 : Int32).toNatClampNeg (vp_nar .byte t_60)))), (m_five, .inl (cI, 5, .inl g_5))] := hD
  obtain ⟨g_61, eg_61⟩ : ∃ v9 : Nat → Int32, (upd g_57 (13 : Int32).toNatClampNeg (vp_nar .byte t_60)) = v9 := ⟨_, rfl⟩
  rw [eg_61] at hP hD
  have hP : va_P D vwCl [(m0, .inr (12, [.int 0, .ref m_world, .ref m_images, .ref m_hasImage, .ref m_tape, .int 0, .ref m_five, .int 0, .int 0, .int 0, .int 0, .int 0, .int 0, .int (-1), .ref m_fresh, .ref m_spokenAt, .ref m_heardAt, .ref m_lastAt, .ref m_answerAt, .int 0, .int 0, .int 0, .long 0, .int 0, .int 0, .ref m_heardNow, .ref m_seenAt, .int 0, .int 0, .int 0, .int 0, .int 0, .ref m_fewest, .ref m_costNow, .ref m_costThen, .ref m_lawsOf, .ref m_heardBy, .int 0, .int 0, .ref m_placesOf, .ref m_sentIn, .int 0, .int 0, .ref m_lostBy, .ref m_many, .ref m_width, .ref m_numbers, .ref m_moving])), (m_tape, .inl (cB, 500, .inl g_61)), (m_five, .inl (cI, 5, .inl g_5))] H := hP
  have hD : va_D A [(m0, .inr (12, [.int 0, .ref m_world, .ref m_images, .ref m_hasImage, .ref m_tape, .int 0, .ref m_five, .int 0, .int 0, .int 0, .int 0, .int 0, .int 0, .int (-1), .ref m_fresh, .ref m_spokenAt, .ref m_heardAt, .ref m_lastAt, .ref m_answerAt, .int 0, .int 0, .int 0, .long 0, .int 0, .int 0, .ref m_heardNow, .ref m_seenAt, .int 0, .int 0, .int 0, .int 0, .int 0, .ref m_fewest, .ref m_costNow, .ref m_costThen, .ref m_lawsOf, .ref m_heardBy, .int 0, .int 0, .ref m_placesOf, .ref m_sentIn, .int 0, .int 0, .ref m_lostBy, .ref m_many, .ref m_width, .ref m_numbers, .ref m_moving])), (m_tape, .inl (cB, 500, .inl g_61)), (m_five, .inl (cI, 5, .inl g_5))] := hD
  refine lv_iinc (v := 14) (lv' := [(6, .int 14), (0, .ref m0), (1, .int a1), (2, .int a2), (3, .int a3), (4, .int a4), (5, .int a5)]) hx hb dX12_feed_95 hl (k := 0) rfl (by decide) (by decide) rfl (fun ls hl => ?_)
  refine lv_goto (tgt := 55) hx hb dX12_feed_98 (by decide) ?_
  refine lv_iload hx hb dX12_feed_55 (lv_at hl 0 rfl) ?_
  refine lv_bipush (v := 20) hx hb dX12_feed_57 (by decide) ?_
  refine lv_icmp_ge (tgt := 101) hx hb dX12_feed_59 (by decide) (fun c0 => absurd c0 (by decide)) (fun _ => ?_)
  refine lv_aload_n hx hb dX12_feed_62 rfl (lv_at hl 1 rfl) ?_
  refine va_get (D := D) (ci := 12) (v := .ref m_tape) (C := RX12) (T := TX12) (N := 48) hx hb hts inlX12 hown hK hP 0 rfl rfl 4 (by decide) (hts _ (inr6 _ (List.mem_of_getElem? (i := 19) rfl))) (fun _ h9 => h9) rfl dX12_feed_63 ?_
  refine lv_aload_n hx hb dX12_feed_66 rfl (lv_at hl 1 rfl) ?_
  refine va_get (D := D) (ci := 12) (v := .int 0) (C := RX12) (T := TX12) (N := 48) hx hb hts inlX12 hown hK hP 0 rfl rfl 5 (by decide) (hts _ (inr8 _ (List.mem_of_getElem? (i := 11) rfl))) (fun _ h9 => h9) rfl dX12_feed_67 ?_
  refine lv_iload hx hb dX12_feed_70 (lv_at hl 0 rfl) ?_
  refine z_iadd (v := 14) hx hb dX12_feed_72 (by decide) ?_
  refine lv_aload_n hx hb dX12_feed_73 rfl (lv_at hl 1 rfl) ?_
  refine va_get (D := D) (ci := 12) (v := .ref m_five) (C := RX12) (T := TX12) (N := 48) hx hb hts inlX12 hown hK hP 0 rfl rfl 6 (by decide) (hts _ (inr6 _ (List.mem_of_getElem? (i := 20) rfl))) (fun _ h9 => h9) rfl dX12_feed_74 ?_
  refine lv_iload hx hb dX12_feed_77 (lv_at hl 0 rfl) ?_
  refine lv_iconst (v := 4) hx hb dX12_feed_79 (by decide) ?_
  refine z_idiv (v := 3) hx hb dX12_feed_80 (by decide) (by decide) ?_
  obtain ⟨t_62, et_62⟩ : ∃ v9 : Int32, g_5 (3 : Int32).toNatClampNeg = v9 := ⟨_, rfl⟩
  refine z_iald (v := t_62) hx hb hK hP 2 1 rfl rfl (by unfold vp_in; decide) et_62 dX12_feed_81 ?_
  refine lv_bipush (v := 24) hx hb dX12_feed_82 (by decide) ?_
  refine lv_bipush (v := 8) hx hb dX12_feed_84 (by decide) ?_
  refine lv_iload hx hb dX12_feed_86 (lv_at hl 0 rfl) ?_
  refine lv_iconst (v := 4) hx hb dX12_feed_88 (by decide) ?_
  refine z_irem (v := 2) hx hb dX12_feed_89 (by decide) (by decide) ?_
  refine z_imul (v := 16) hx hb dX12_feed_90 (by decide) ?_
  refine z_isub (v := 8) hx hb dX12_feed_91 (by decide) ?_
  obtain ⟨t_63, et_63⟩ : ∃ v9 : Int32, t_62 >>> (8 &&& 31) = v9 := ⟨_, rfl⟩
  refine z_ishr (v := t_63) hx hb dX12_feed_92 et_63 ?_
  obtain ⟨t_64, et_64⟩ : ∃ v9 : Int32, (t_63 : Int32).toInt8.toInt32 = v9 := ⟨_, rfl⟩
  refine lv_i2b (v := t_64) hx hb dX12_feed_93 et_64 ?_
  refine va_bast hx hb hK hP hD hS 1 0 rfl rfl (by unfold vp_in; decide) dX12_feed_94 (fun H locs hP hD hS => ?_)
  have hP : va_P D vwCl [(m0, .inr (12, [.int 0, .ref m_world, .ref m_images, .ref m_hasImage, .ref m_tape, .int 0, .ref m_five, .int 0, .int 0, .int 0, .int 0, .int 0, .int 0, .int (-1), .ref m_fresh, .ref m_spokenAt, .ref m_heardAt, .ref m_lastAt, .ref m_answerAt, .int 0, .int 0, .int 0, .long 0, .int 0, .int 0, .ref m_heardNow, .ref m_seenAt, .int 0, .int 0, .int 0, .int 0, .int 0, .ref m_fewest, .ref m_costNow, .ref m_costThen, .ref m_lawsOf, .ref m_heardBy, .int 0, .int 0, .ref m_placesOf, .ref m_sentIn, .int 0, .int 0, .ref m_lostBy, .ref m_many, .ref m_width, .ref m_numbers, .ref m_moving])), (m_tape, .inl (cB, 500, .inl (upd g_61 (14 : Int32).toNatClampNeg (vp_nar .byte t_64)))), (m_five, .inl (cI, 5, .inl g_5))] H := hP
  have hD : va_D A [(m0, .inr (12, [.int 0, .ref m_world, .ref m_images, .ref m_hasImage, .ref m_tape, .int 0, .ref m_five, .int 0, .int 0, .int 0, .int 0, .int 0, .int 0, .int (-1), .ref m_fresh, .ref m_spokenAt, .ref m_heardAt, .ref m_lastAt, .ref m_answerAt, .int 0, .int 0, .int 0, .long 0, .int 0, .int 0, .ref m_heardNow, .ref m_seenAt, .int 0, .int 0, .int 0, .int 0, .int 0, .ref m_fewest, .ref m_costNow, .ref m_costThen, .ref m_lawsOf, .ref m_heardBy, .int 0, .int 0, .ref m_placesOf, .ref m_sentIn, .int 0, .int 0, .ref m_lostBy, .ref m_many, .ref m_width, .ref m_numbers, .ref m_moving])), (m_tape, .inl (cB, 500, .inl (upd g_61 (14 : Int32).toNatClampNeg (vp_nar .byte t_64)))), (m_five, .inl (cI, 5, .inl g_5))] := hD
  obtain ⟨g_65, eg_65⟩ : ∃ v9 : Nat → Int32, (upd g_61 (14 : Int32).toNatClampNeg (vp_nar .byte t_64)) = v9 := ⟨_, rfl⟩
  rw [eg_65] at hP hD
  have hP : va_P D vwCl [(m0, .inr (12, [.int 0, .ref m_world, .ref m_images, .ref m_hasImage, .ref m_tape, .int 0, .ref m_five, .int 0, .int 0, .int 0, .int 0, .int 0, .int 0, .int (-1), .ref m_fresh, .ref m_spokenAt, .ref m_heardAt, .ref m_lastAt, .ref m_answerAt, .int 0, .int 0, .int 0, .long 0, .int 0, .int 0, .ref m_heardNow, .ref m_seenAt, .int 0, .int 0, .int 0, .int 0, .int 0, .ref m_fewest, .ref m_costNow, .ref m_costThen, .ref m_lawsOf, .ref m_heardBy, .int 0, .int 0, .ref m_placesOf, .ref m_sentIn, .int 0, .int 0, .ref m_lostBy, .ref m_many, .ref m_width, .ref m_numbers, .ref m_moving])), (m_tape, .inl (cB, 500, .inl g_65)), (m_five, .inl (cI, 5, .inl g_5))] H := hP
  have hD : va_D A [(m0, .inr (12, [.int 0, .ref m_world, .ref m_images, .ref m_hasImage, .ref m_tape, .int 0, .ref m_five, .int 0, .int 0, .int 0, .int 0, .int 0, .int 0, .int (-1), .ref m_fresh, .ref m_spokenAt, .ref m_heardAt, .ref m_lastAt, .ref m_answerAt, .int 0, .int 0, .int 0, .long 0, .int 0, .int 0, .ref m_heardNow, .ref m_seenAt, .int 0, .int 0, .int 0, .int 0, .int 0, .ref m_fewest, .ref m_costNow, .ref m_costThen, .ref m_lawsOf, .ref m_heardBy, .int 0, .int 0, .ref m_placesOf, .ref m_sentIn, .int 0, .int 0, .ref m_lostBy, .ref m_many, .ref m_width, .ref m_numbers, .ref m_moving])), (m_tape, .inl (cB, 500, .inl g_65)), (m_five, .inl (cI, 5, .inl g_5))] := hD
  refine lv_iinc (v := 15) (lv' := [(6, .int 15), (0, .ref m0), (1, .int a1), (2, .int a2), (3, .int a3), (4, .int a4), (5, .int a5)]) hx hb dX12_feed_95 hl (k := 0) rfl (by decide) (by decide) rfl (fun ls hl => ?_)
  refine lv_goto (tgt := 55) hx hb dX12_feed_98 (by decide) ?_
  refine lv_iload hx hb dX12_feed_55 (lv_at hl 0 rfl) ?_
  refine lv_bipush (v := 20) hx hb dX12_feed_57 (by decide) ?_
  refine lv_icmp_ge (tgt := 101) hx hb dX12_feed_59 (by decide) (fun c0 => absurd c0 (by decide)) (fun _ => ?_)
  refine lv_aload_n hx hb dX12_feed_62 rfl (lv_at hl 1 rfl) ?_
  refine va_get (D := D) (ci := 12) (v := .ref m_tape) (C := RX12) (T := TX12) (N := 48) hx hb hts inlX12 hown hK hP 0 rfl rfl 4 (by decide) (hts _ (inr6 _ (List.mem_of_getElem? (i := 19) rfl))) (fun _ h9 => h9) rfl dX12_feed_63 ?_
  refine lv_aload_n hx hb dX12_feed_66 rfl (lv_at hl 1 rfl) ?_
  refine va_get (D := D) (ci := 12) (v := .int 0) (C := RX12) (T := TX12) (N := 48) hx hb hts inlX12 hown hK hP 0 rfl rfl 5 (by decide) (hts _ (inr8 _ (List.mem_of_getElem? (i := 11) rfl))) (fun _ h9 => h9) rfl dX12_feed_67 ?_
  refine lv_iload hx hb dX12_feed_70 (lv_at hl 0 rfl) ?_
  refine z_iadd (v := 15) hx hb dX12_feed_72 (by decide) ?_
  refine lv_aload_n hx hb dX12_feed_73 rfl (lv_at hl 1 rfl) ?_
  refine va_get (D := D) (ci := 12) (v := .ref m_five) (C := RX12) (T := TX12) (N := 48) hx hb hts inlX12 hown hK hP 0 rfl rfl 6 (by decide) (hts _ (inr6 _ (List.mem_of_getElem? (i := 20) rfl))) (fun _ h9 => h9) rfl dX12_feed_74 ?_
  refine lv_iload hx hb dX12_feed_77 (lv_at hl 0 rfl) ?_
  refine lv_iconst (v := 4) hx hb dX12_feed_79 (by decide) ?_
  refine z_idiv (v := 3) hx hb dX12_feed_80 (by decide) (by decide) ?_
  obtain ⟨t_66, et_66⟩ : ∃ v9 : Int32, g_5 (3 : Int32).toNatClampNeg = v9 := ⟨_, rfl⟩
  refine z_iald (v := t_66) hx hb hK hP 2 1 rfl rfl (by unfold vp_in; decide) et_66 dX12_feed_81 ?_
  refine lv_bipush (v := 24) hx hb dX12_feed_82 (by decide) ?_
  refine lv_bipush (v := 8) hx hb dX12_feed_84 (by decide) ?_
  refine lv_iload hx hb dX12_feed_86 (lv_at hl 0 rfl) ?_
  refine lv_iconst (v := 4) hx hb dX12_feed_88 (by decide) ?_
  refine z_irem (v := 3) hx hb dX12_feed_89 (by decide) (by decide) ?_
  refine z_imul (v := 24) hx hb dX12_feed_90 (by decide) ?_
  refine z_isub (v := 0) hx hb dX12_feed_91 (by decide) ?_
  obtain ⟨t_67, et_67⟩ : ∃ v9 : Int32, t_66 >>> (0 &&& 31) = v9 := ⟨_, rfl⟩
  refine z_ishr (v := t_67) hx hb dX12_feed_92 et_67 ?_
  obtain ⟨t_68, et_68⟩ : ∃ v9 : Int32, (t_67 : Int32).toInt8.toInt32 = v9 := ⟨_, rfl⟩
  refine lv_i2b (v := t_68) hx hb dX12_feed_93 et_68 ?_
  refine va_bast hx hb hK hP hD hS 1 0 rfl rfl (by unfold vp_in; decide) dX12_feed_94 (fun H locs hP hD hS => ?_)
  have hP : va_P D vwCl [(m0, .inr (12, [.int 0, .ref m_world, .ref m_images, .ref m_hasImage, .ref m_tape, .int 0, .ref m_five, .int 0, .int 0, .int 0, .int 0, .int 0, .int 0, .int (-1), .ref m_fresh, .ref m_spokenAt, .ref m_heardAt, .ref m_lastAt, .ref m_answerAt, .int 0, .int 0, .int 0, .long 0, .int 0, .int 0, .ref m_heardNow, .ref m_seenAt, .int 0, .int 0, .int 0, .int 0, .int 0, .ref m_fewest, .ref m_costNow, .ref m_costThen, .ref m_lawsOf, .ref m_heardBy, .int 0, .int 0, .ref m_placesOf, .ref m_sentIn, .int 0, .int 0, .ref m_lostBy, .ref m_many, .ref m_width, .ref m_numbers, .ref m_moving])), (m_tape, .inl (cB, 500, .inl (upd g_65 (15 : Int32).toNatClampNeg (vp_nar .byte t_68)))), (m_five, .inl (cI, 5, .inl g_5))] H := hP
  have hD : va_D A [(m0, .inr (12, [.int 0, .ref m_world, .ref m_images, .ref m_hasImage, .ref m_tape, .int 0, .ref m_five, .int 0, .int 0, .int 0, .int 0, .int 0, .int 0, .int (-1), .ref m_fresh, .ref m_spokenAt, .ref m_heardAt, .ref m_lastAt, .ref m_answerAt, .int 0, .int 0, .int 0, .long 0, .int 0, .int 0, .ref m_heardNow, .ref m_seenAt, .int 0, .int 0, .int 0, .int 0, .int 0, .ref m_fewest, .ref m_costNow, .ref m_costThen, .ref m_lawsOf, .ref m_heardBy, .int 0, .int 0, .ref m_placesOf, .ref m_sentIn, .int 0, .int 0, .ref m_lostBy, .ref m_many, .ref m_width, .ref m_numbers, .ref m_moving])), (m_tape, .inl (cB, 500, .inl (upd g_65 (15 : Int32).toNatClampNeg (vp_nar .byte t_68)))), (m_five, .inl (cI, 5, .inl g_5))] := hD
  obtain ⟨g_69, eg_69⟩ : ∃ v9 : Nat → Int32, (upd g_65 (15 : Int32).toNatClampNeg (vp_nar .byte t_68)) = v9 := ⟨_, rfl⟩
  rw [eg_69] at hP hD
  have hP : va_P D vwCl [(m0, .inr (12, [.int 0, .ref m_world, .ref m_images, .ref m_hasImage, .ref m_tape, .int 0, .ref m_five, .int 0, .int 0, .int 0, .int 0, .int 0, .int 0, .int (-1), .ref m_fresh, .ref m_spokenAt, .ref m_heardAt, .ref m_lastAt, .ref m_answerAt, .int 0, .int 0, .int 0, .long 0, .int 0, .int 0, .ref m_heardNow, .ref m_seenAt, .int 0, .int 0, .int 0, .int 0, .int 0, .ref m_fewest, .ref m_costNow, .ref m_costThen, .ref m_lawsOf, .ref m_heardBy, .int 0, .int 0, .ref m_placesOf, .ref m_sentIn, .int 0, .int 0, .ref m_lostBy, .ref m_many, .ref m_width, .ref m_numbers, .ref m_moving])), (m_tape, .inl (cB, 500, .inl g_69)), (m_five, .inl (cI, 5, .inl g_5))] H := hP
  have hD : va_D A [(m0, .inr (12, [.int 0, .ref m_world, .ref m_images, .ref m_hasImage, .ref m_tape, .int 0, .ref m_five, .int 0, .int 0, .int 0, .int 0, .int 0, .int 0, .int (-1), .ref m_fresh, .ref m_spokenAt, .ref m_heardAt, .ref m_lastAt, .ref m_answerAt, .int 0, .int 0, .int 0, .long 0, .int 0, .int 0, .ref m_heardNow, .ref m_seenAt, .int 0, .int 0, .int 0, .int 0, .int 0, .ref m_fewest, .ref m_costNow, .ref m_costThen, .ref m_lawsOf, .ref m_heardBy, .int 0, .int 0, .ref m_placesOf, .ref m_sentIn, .int 0, .int 0, .ref m_lostBy, .ref m_many, .ref m_width, .ref m_numbers, .ref m_moving])), (m_tape, .inl (cB, 500, .inl g_69)), (m_five, .inl (cI, 5, .inl g_5))] := hD
  refine lv_iinc (v := 16) (lv' := [(6, .int 16), (0, .ref m0), (1, .int a1), (2, .int a2), (3, .int a3), (4, .int a4), (5, .int a5)]) hx hb dX12_feed_95 hl (k := 0) rfl (by decide) (by decide) rfl (fun ls hl => ?_)
  refine lv_goto (tgt := 55) hx hb dX12_feed_98 (by decide) ?_
  refine lv_iload hx hb dX12_feed_55 (lv_at hl 0 rfl) ?_
  refine lv_bipush (v := 20) hx hb dX12_feed_57 (by decide) ?_
  refine lv_icmp_ge (tgt := 101) hx hb dX12_feed_59 (by decide) (fun c0 => absurd c0 (by decide)) (fun _ => ?_)
  refine lv_aload_n hx hb dX12_feed_62 rfl (lv_at hl 1 rfl) ?_
  refine va_get (D := D) (ci := 12) (v := .ref m_tape) (C := RX12) (T := TX12) (N := 48) hx hb hts inlX12 hown hK hP 0 rfl rfl 4 (by decide) (hts _ (inr6 _ (List.mem_of_getElem? (i := 19) rfl))) (fun _ h9 => h9) rfl dX12_feed_63 ?_
  refine lv_aload_n hx hb dX12_feed_66 rfl (lv_at hl 1 rfl) ?_
  refine va_get (D := D) (ci := 12) (v := .int 0) (C := RX12) (T := TX12) (N := 48) hx hb hts inlX12 hown hK hP 0 rfl rfl 5 (by decide) (hts _ (inr8 _ (List.mem_of_getElem? (i := 11) rfl))) (fun _ h9 => h9) rfl dX12_feed_67 ?_
  refine lv_iload hx hb dX12_feed_70 (lv_at hl 0 rfl) ?_
  refine z_iadd (v := 16) hx hb dX12_feed_72 (by decide) ?_
  refine lv_aload_n hx hb dX12_feed_73 rfl (lv_at hl 1 rfl) ?_
  refine va_get (D := D) (ci := 12) (v := .ref m_five) (C := RX12) (T := TX12) (N := 48) hx hb hts inlX12 hown hK hP 0 rfl rfl 6 (by decide) (hts _ (inr6 _ (List.mem_of_getElem? (i := 20) rfl))) (fun _ h9 => h9) rfl dX12_feed_74 ?_
  refine lv_iload hx hb dX12_feed_77 (lv_at hl 0 rfl) ?_
  refine lv_iconst (v := 4) hx hb dX12_feed_79 (by decide) ?_
  refine z_idiv (v := 4) hx hb dX12_feed_80 (by decide) (by decide) ?_
  obtain ⟨t_70, et_70⟩ : ∃ v9 : Int32, g_5 (4 : Int32).toNatClampNeg = v9 := ⟨_, rfl⟩
  refine z_iald (v := t_70) hx hb hK hP 2 1 rfl rfl (by unfold vp_in; decide) et_70 dX12_feed_81 ?_
  refine lv_bipush (v := 24) hx hb dX12_feed_82 (by decide) ?_
  refine lv_bipush (v := 8) hx hb dX12_feed_84 (by decide) ?_
  refine lv_iload hx hb dX12_feed_86 (lv_at hl 0 rfl) ?_
  refine lv_iconst (v := 4) hx hb dX12_feed_88 (by decide) ?_
  refine z_irem (v := 0) hx hb dX12_feed_89 (by decide) (by decide) ?_
  refine z_imul (v := 0) hx hb dX12_feed_90 (by decide) ?_
  refine z_isub (v := 24) hx hb dX12_feed_91 (by decide) ?_
  obtain ⟨t_71, et_71⟩ : ∃ v9 : Int32, t_70 >>> (24 &&& 31) = v9 := ⟨_, rfl⟩
  refine z_ishr (v := t_71) hx hb dX12_feed_92 et_71 ?_
  obtain ⟨t_72, et_72⟩ : ∃ v9 : Int32, (t_71 : Int32).toInt8.toInt32 = v9 := ⟨_, rfl⟩
  refine lv_i2b (v := t_72) hx hb dX12_feed_93 et_72 ?_
  refine va_bast hx hb hK hP hD hS 1 0 rfl rfl (by unfold vp_in; decide) dX12_feed_94 (fun H locs hP hD hS => ?_)
  have hP : va_P D vwCl [(m0, .inr (12, [.int 0, .ref m_world, .ref m_images, .ref m_hasImage, .ref m_tape, .int 0, .ref m_five, .int 0, .int 0, .int 0, .int 0, .int 0, .int 0, .int (-1), .ref m_fresh, .ref m_spokenAt, .ref m_heardAt, .ref m_lastAt, .ref m_answerAt, .int 0, .int 0, .int 0, .long 0, .int 0, .int 0, .ref m_heardNow, .ref m_seenAt, .int 0, .int 0, .int 0, .int 0, .int 0, .ref m_fewest, .ref m_costNow, .ref m_costThen, .ref m_lawsOf, .ref m_heardBy, .int 0, .int 0, .ref m_placesOf, .ref m_sentIn, .int 0, .int 0, .ref m_lostBy, .ref m_many, .ref m_width, .ref m_numbers, .ref m_moving])), (m_tape, .inl (cB, 500, .inl (upd g_69 (16 : Int32).toNatClampNeg (vp_nar .byte t_72)))), (m_five, .inl (cI, 5, .inl g_5))] H := hP
  have hD : va_D A [(m0, .inr (12, [.int 0, .ref m_world, .ref m_images, .ref m_hasImage, .ref m_tape, .int 0, .ref m_five, .int 0, .int 0, .int 0, .int 0, .int 0, .int 0, .int (-1), .ref m_fresh, .ref m_spokenAt, .ref m_heardAt, .ref m_lastAt, .ref m_answerAt, .int 0, .int 0, .int 0, .long 0, .int 0, .int 0, .ref m_heardNow, .ref m_seenAt, .int 0, .int 0, .int 0, .int 0, .int 0, .ref m_fewest, .ref m_costNow, .ref m_costThen, .ref m_lawsOf, .ref m_heardBy, .int 0, .int 0, .ref m_placesOf, .ref m_sentIn, .int 0, .int 0, .ref m_lostBy, .ref m_many, .ref m_width, .ref m_numbers, .ref m_moving])), (m_tape, .inl (cB, 500, .inl (upd g_69 (16 : Int32).toNatClampNeg (vp_nar .byte t_72)))), (m_five, .inl (cI, 5, .inl g_5))] := hD
  obtain ⟨g_73, eg_73⟩ : ∃ v9 : Nat → Int32, (upd g_69 (16 : Int32).toNatClampNeg (vp_nar .byte t_72)) = v9 := ⟨_, rfl⟩
  rw [eg_73] at hP hD
  have hP : va_P D vwCl [(m0, .inr (12, [.int 0, .ref m_world, .ref m_images, .ref m_hasImage, .ref m_tape, .int 0, .ref m_five, .int 0, .int 0, .int 0, .int 0, .int 0, .int 0, .int (-1), .ref m_fresh, .ref m_spokenAt, .ref m_heardAt, .ref m_lastAt, .ref m_answerAt, .int 0, .int 0, .int 0, .long 0, .int 0, .int 0, .ref m_heardNow, .ref m_seenAt, .int 0, .int 0, .int 0, .int 0, .int 0, .ref m_fewest, .ref m_costNow, .ref m_costThen, .ref m_lawsOf, .ref m_heardBy, .int 0, .int 0, .ref m_placesOf, .ref m_sentIn, .int 0, .int 0, .ref m_lostBy, .ref m_many, .ref m_width, .ref m_numbers, .ref m_moving])), (m_tape, .inl (cB, 500, .inl g_73)), (m_five, .inl (cI, 5, .inl g_5))] H := hP
  have hD : va_D A [(m0, .inr (12, [.int 0, .ref m_world, .ref m_images, .ref m_hasImage, .ref m_tape, .int 0, .ref m_five, .int 0, .int 0, .int 0, .int 0, .int 0, .int 0, .int (-1), .ref m_fresh, .ref m_spokenAt, .ref m_heardAt, .ref m_lastAt, .ref m_answerAt, .int 0, .int 0, .int 0, .long 0, .int 0, .int 0, .ref m_heardNow, .ref m_seenAt, .int 0, .int 0, .int 0, .int 0, .int 0, .ref m_fewest, .ref m_costNow, .ref m_costThen, .ref m_lawsOf, .ref m_heardBy, .int 0, .int 0, .ref m_placesOf, .ref m_sentIn, .int 0, .int 0, .ref m_lostBy, .ref m_many, .ref m_width, .ref m_numbers, .ref m_moving])), (m_tape, .inl (cB, 500, .inl g_73)), (m_five, .inl (cI, 5, .inl g_5))] := hD
  refine lv_iinc (v := 17) (lv' := [(6, .int 17), (0, .ref m0), (1, .int a1), (2, .int a2), (3, .int a3), (4, .int a4), (5, .int a5)]) hx hb dX12_feed_95 hl (k := 0) rfl (by decide) (by decide) rfl (fun ls hl => ?_)
  refine lv_goto (tgt := 55) hx hb dX12_feed_98 (by decide) ?_
  refine lv_iload hx hb dX12_feed_55 (lv_at hl 0 rfl) ?_
  refine lv_bipush (v := 20) hx hb dX12_feed_57 (by decide) ?_
  refine lv_icmp_ge (tgt := 101) hx hb dX12_feed_59 (by decide) (fun c0 => absurd c0 (by decide)) (fun _ => ?_)
  refine lv_aload_n hx hb dX12_feed_62 rfl (lv_at hl 1 rfl) ?_
  refine va_get (D := D) (ci := 12) (v := .ref m_tape) (C := RX12) (T := TX12) (N := 48) hx hb hts inlX12 hown hK hP 0 rfl rfl 4 (by decide) (hts _ (inr6 _ (List.mem_of_getElem? (i := 19) rfl))) (fun _ h9 => h9) rfl dX12_feed_63 ?_
  refine lv_aload_n hx hb dX12_feed_66 rfl (lv_at hl 1 rfl) ?_
  refine va_get (D := D) (ci := 12) (v := .int 0) (C := RX12) (T := TX12) (N := 48) hx hb hts inlX12 hown hK hP 0 rfl rfl 5 (by decide) (hts _ (inr8 _ (List.mem_of_getElem? (i := 11) rfl))) (fun _ h9 => h9) rfl dX12_feed_67 ?_
  refine lv_iload hx hb dX12_feed_70 (lv_at hl 0 rfl) ?_
  refine z_iadd (v := 17) hx hb dX12_feed_72 (by decide) ?_
  refine lv_aload_n hx hb dX12_feed_73 rfl (lv_at hl 1 rfl) ?_
  refine va_get (D := D) (ci := 12) (v := .ref m_five) (C := RX12) (T := TX12) (N := 48) hx hb hts inlX12 hown hK hP 0 rfl rfl 6 (by decide) (hts _ (inr6 _ (List.mem_of_getElem? (i := 20) rfl))) (fun _ h9 => h9) rfl dX12_feed_74 ?_
  refine lv_iload hx hb dX12_feed_77 (lv_at hl 0 rfl) ?_
  refine lv_iconst (v := 4) hx hb dX12_feed_79 (by decide) ?_
  refine z_idiv (v := 4) hx hb dX12_feed_80 (by decide) (by decide) ?_
  obtain ⟨t_74, et_74⟩ : ∃ v9 : Int32, g_5 (4 : Int32).toNatClampNeg = v9 := ⟨_, rfl⟩
  refine z_iald (v := t_74) hx hb hK hP 2 1 rfl rfl (by unfold vp_in; decide) et_74 dX12_feed_81 ?_
  refine lv_bipush (v := 24) hx hb dX12_feed_82 (by decide) ?_
  refine lv_bipush (v := 8) hx hb dX12_feed_84 (by decide) ?_
  refine lv_iload hx hb dX12_feed_86 (lv_at hl 0 rfl) ?_
  refine lv_iconst (v := 4) hx hb dX12_feed_88 (by decide) ?_
  refine z_irem (v := 1) hx hb dX12_feed_89 (by decide) (by decide) ?_
  refine z_imul (v := 8) hx hb dX12_feed_90 (by decide) ?_
  refine z_isub (v := 16) hx hb dX12_feed_91 (by decide) ?_
  obtain ⟨t_75, et_75⟩ : ∃ v9 : Int32, t_74 >>> (16 &&& 31) = v9 := ⟨_, rfl⟩
  refine z_ishr (v := t_75) hx hb dX12_feed_92 et_75 ?_
  obtain ⟨t_76, et_76⟩ : ∃ v9 : Int32, (t_75 : Int32).toInt8.toInt32 = v9 := ⟨_, rfl⟩
  refine lv_i2b (v := t_76) hx hb dX12_feed_93 et_76 ?_
  refine va_bast hx hb hK hP hD hS 1 0 rfl rfl (by unfold vp_in; decide) dX12_feed_94 (fun H locs hP hD hS => ?_)
  have hP : va_P D vwCl [(m0, .inr (12, [.int 0, .ref m_world, .ref m_images, .ref m_hasImage, .ref m_tape, .int 0, .ref m_five, .int 0, .int 0, .int 0, .int 0, .int 0, .int 0, .int (-1), .ref m_fresh, .ref m_spokenAt, .ref m_heardAt, .ref m_lastAt, .ref m_answerAt, .int 0, .int 0, .int 0, .long 0, .int 0, .int 0, .ref m_heardNow, .ref m_seenAt, .int 0, .int 0, .int 0, .int 0, .int 0, .ref m_fewest, .ref m_costNow, .ref m_costThen, .ref m_lawsOf, .ref m_heardBy, .int 0, .int 0, .ref m_placesOf, .ref m_sentIn, .int 0, .int 0, .ref m_lostBy, .ref m_many, .ref m_width, .ref m_numbers, .ref m_moving])), (m_tape, .inl (cB, 500, .inl (upd g_73 (17 : Int32).toNatClampNeg (vp_nar .byte t_76)))), (m_five, .inl (cI, 5, .inl g_5))] H := hP
  have hD : va_D A [(m0, .inr (12, [.int 0, .ref m_world, .ref m_images, .ref m_hasImage, .ref m_tape, .int 0, .ref m_five, .int 0, .int 0, .int 0, .int 0, .int 0, .int 0, .int (-1), .ref m_fresh, .ref m_spokenAt, .ref m_heardAt, .ref m_lastAt, .ref m_answerAt, .int 0, .int 0, .int 0, .long 0, .int 0, .int 0, .ref m_heardNow, .ref m_seenAt, .int 0, .int 0, .int 0, .int 0, .int 0, .ref m_fewest, .ref m_costNow, .ref m_costThen, .ref m_lawsOf, .ref m_heardBy, .int 0, .int 0, .ref m_placesOf, .ref m_sentIn, .int 0, .int 0, .ref m_lostBy, .ref m_many, .ref m_width, .ref m_numbers, .ref m_moving])), (m_tape, .inl (cB, 500, .inl (upd g_73 (17 : Int32).toNatClampNeg (vp_nar .byte t_76)))), (m_five, .inl (cI, 5, .inl g_5))] := hD
  obtain ⟨g_77, eg_77⟩ : ∃ v9 : Nat → Int32, (upd g_73 (17 : Int32).toNatClampNeg (vp_nar .byte t_76)) = v9 := ⟨_, rfl⟩
  rw [eg_77] at hP hD
  have hP : va_P D vwCl [(m0, .inr (12, [.int 0, .ref m_world, .ref m_images, .ref m_hasImage, .ref m_tape, .int 0, .ref m_five, .int 0, .int 0, .int 0, .int 0, .int 0, .int 0, .int (-1), .ref m_fresh, .ref m_spokenAt, .ref m_heardAt, .ref m_lastAt, .ref m_answerAt, .int 0, .int 0, .int 0, .long 0, .int 0, .int 0, .ref m_heardNow, .ref m_seenAt, .int 0, .int 0, .int 0, .int 0, .int 0, .ref m_fewest, .ref m_costNow, .ref m_costThen, .ref m_lawsOf, .ref m_heardBy, .int 0, .int 0, .ref m_placesOf, .ref m_sentIn, .int 0, .int 0, .ref m_lostBy, .ref m_many, .ref m_width, .ref m_numbers, .ref m_moving])), (m_tape, .inl (cB, 500, .inl g_77)), (m_five, .inl (cI, 5, .inl g_5))] H := hP
  have hD : va_D A [(m0, .inr (12, [.int 0, .ref m_world, .ref m_images, .ref m_hasImage, .ref m_tape, .int 0, .ref m_five, .int 0, .int 0, .int 0, .int 0, .int 0, .int 0, .int (-1), .ref m_fresh, .ref m_spokenAt, .ref m_heardAt, .ref m_lastAt, .ref m_answerAt, .int 0, .int 0, .int 0, .long 0, .int 0, .int 0, .ref m_heardNow, .ref m_seenAt, .int 0, .int 0, .int 0, .int 0, .int 0, .ref m_fewest, .ref m_costNow, .ref m_costThen, .ref m_lawsOf, .ref m_heardBy, .int 0, .int 0, .ref m_placesOf, .ref m_sentIn, .int 0, .int 0, .ref m_lostBy, .ref m_many, .ref m_width, .ref m_numbers, .ref m_moving])), (m_tape, .inl (cB, 500, .inl g_77)), (m_five, .inl (cI, 5, .inl g_5))] := hD
  refine lv_iinc (v := 18) (lv' := [(6, .int 18), (0, .ref m0), (1, .int a1), (2, .int a2), (3, .int a3), (4, .int a4), (5, .int a5)]) hx hb dX12_feed_95 hl (k := 0) rfl (by decide) (by decide) rfl (fun ls hl => ?_)
  refine lv_goto (tgt := 55) hx hb dX12_feed_98 (by decide) ?_
  refine lv_iload hx hb dX12_feed_55 (lv_at hl 0 rfl) ?_
  refine lv_bipush (v := 20) hx hb dX12_feed_57 (by decide) ?_
  refine lv_icmp_ge (tgt := 101) hx hb dX12_feed_59 (by decide) (fun c0 => absurd c0 (by decide)) (fun _ => ?_)
  refine lv_aload_n hx hb dX12_feed_62 rfl (lv_at hl 1 rfl) ?_
  refine va_get (D := D) (ci := 12) (v := .ref m_tape) (C := RX12) (T := TX12) (N := 48) hx hb hts inlX12 hown hK hP 0 rfl rfl 4 (by decide) (hts _ (inr6 _ (List.mem_of_getElem? (i := 19) rfl))) (fun _ h9 => h9) rfl dX12_feed_63 ?_
  refine lv_aload_n hx hb dX12_feed_66 rfl (lv_at hl 1 rfl) ?_
  refine va_get (D := D) (ci := 12) (v := .int 0) (C := RX12) (T := TX12) (N := 48) hx hb hts inlX12 hown hK hP 0 rfl rfl 5 (by decide) (hts _ (inr8 _ (List.mem_of_getElem? (i := 11) rfl))) (fun _ h9 => h9) rfl dX12_feed_67 ?_
  refine lv_iload hx hb dX12_feed_70 (lv_at hl 0 rfl) ?_
  refine z_iadd (v := 18) hx hb dX12_feed_72 (by decide) ?_
  refine lv_aload_n hx hb dX12_feed_73 rfl (lv_at hl 1 rfl) ?_
  refine va_get (D := D) (ci := 12) (v := .ref m_five) (C := RX12) (T := TX12) (N := 48) hx hb hts inlX12 hown hK hP 0 rfl rfl 6 (by decide) (hts _ (inr6 _ (List.mem_of_getElem? (i := 20) rfl))) (fun _ h9 => h9) rfl dX12_feed_74 ?_
  refine lv_iload hx hb dX12_feed_77 (lv_at hl 0 rfl) ?_
  refine lv_iconst (v := 4) hx hb dX12_feed_79 (by decide) ?_
  refine z_idiv (v := 4) hx hb dX12_feed_80 (by decide) (by decide) ?_
  obtain ⟨t_78, et_78⟩ : ∃ v9 : Int32, g_5 (4 : Int32).toNatClampNeg = v9 := ⟨_, rfl⟩
  refine z_iald (v := t_78) hx hb hK hP 2 1 rfl rfl (by unfold vp_in; decide) et_78 dX12_feed_81 ?_
  refine lv_bipush (v := 24) hx hb dX12_feed_82 (by decide) ?_
  refine lv_bipush (v := 8) hx hb dX12_feed_84 (by decide) ?_
  refine lv_iload hx hb dX12_feed_86 (lv_at hl 0 rfl) ?_
  refine lv_iconst (v := 4) hx hb dX12_feed_88 (by decide) ?_
  refine z_irem (v := 2) hx hb dX12_feed_89 (by decide) (by decide) ?_
  refine z_imul (v := 16) hx hb dX12_feed_90 (by decide) ?_
  refine z_isub (v := 8) hx hb dX12_feed_91 (by decide) ?_
  obtain ⟨t_79, et_79⟩ : ∃ v9 : Int32, t_78 >>> (8 &&& 31) = v9 := ⟨_, rfl⟩
  refine z_ishr (v := t_79) hx hb dX12_feed_92 et_79 ?_
  obtain ⟨t_80, et_80⟩ : ∃ v9 : Int32, (t_79 : Int32).toInt8.toInt32 = v9 := ⟨_, rfl⟩
  refine lv_i2b (v := t_80) hx hb dX12_feed_93 et_80 ?_
  refine va_bast hx hb hK hP hD hS 1 0 rfl rfl (by unfold vp_in; decide) dX12_feed_94 (fun H locs hP hD hS => ?_)
  have hP : va_P D vwCl [(m0, .inr (12, [.int 0, .ref m_world, .ref m_images, .ref m_hasImage, .ref m_tape, .int 0, .ref m_five, .int 0, .int 0, .int 0, .int 0, .int 0, .int 0, .int (-1), .ref m_fresh, .ref m_spokenAt, .ref m_heardAt, .ref m_lastAt, .ref m_answerAt, .int 0, .int 0, .int 0, .long 0, .int 0, .int 0, .ref m_heardNow, .ref m_seenAt, .int 0, .int 0, .int 0, .int 0, .int 0, .ref m_fewest, .ref m_costNow, .ref m_costThen, .ref m_lawsOf, .ref m_heardBy, .int 0, .int 0, .ref m_placesOf, .ref m_sentIn, .int 0, .int 0, .ref m_lostBy, .ref m_many, .ref m_width, .ref m_numbers, .ref m_moving])), (m_tape, .inl (cB, 500, .inl (upd g_77 (18 : Int32).toNatClampNeg (vp_nar .byte t_80)))), (m_five, .inl (cI, 5, .inl g_5))] H := hP
  have hD : va_D A [(m0, .inr (12, [.int 0, .ref m_world, .ref m_images, .ref m_hasImage, .ref m_tape, .int 0, .ref m_five, .int 0, .int 0, .int 0, .int 0, .int 0, .int 0, .int (-1), .ref m_fresh, .ref m_spokenAt, .ref m_heardAt, .ref m_lastAt, .ref m_answerAt, .int 0, .int 0, .int 0, .long 0, .int 0, .int 0, .ref m_heardNow, .ref m_seenAt, .int 0, .int 0, .int 0, .int 0, .int 0, .ref m_fewest, .ref m_costNow, .ref m_costThen, .ref m_lawsOf, .ref m_heardBy, .int 0, .int 0, .ref m_placesOf, .ref m_sentIn, .int 0, .int 0, .ref m_lostBy, .ref m_many, .ref m_width, .ref m_numbers, .ref m_moving])), (m_tape, .inl (cB, 500, .inl (upd g_77 (18 : Int32).toNatClampNeg (vp_nar .byte t_80)))), (m_five, .inl (cI, 5, .inl g_5))] := hD
  obtain ⟨g_81, eg_81⟩ : ∃ v9 : Nat → Int32, (upd g_77 (18 : Int32).toNatClampNeg (vp_nar .byte t_80)) = v9 := ⟨_, rfl⟩
  rw [eg_81] at hP hD
  have hP : va_P D vwCl [(m0, .inr (12, [.int 0, .ref m_world, .ref m_images, .ref m_hasImage, .ref m_tape, .int 0, .ref m_five, .int 0, .int 0, .int 0, .int 0, .int 0, .int 0, .int (-1), .ref m_fresh, .ref m_spokenAt, .ref m_heardAt, .ref m_lastAt, .ref m_answerAt, .int 0, .int 0, .int 0, .long 0, .int 0, .int 0, .ref m_heardNow, .ref m_seenAt, .int 0, .int 0, .int 0, .int 0, .int 0, .ref m_fewest, .ref m_costNow, .ref m_costThen, .ref m_lawsOf, .ref m_heardBy, .int 0, .int 0, .ref m_placesOf, .ref m_sentIn, .int 0, .int 0, .ref m_lostBy, .ref m_many, .ref m_width, .ref m_numbers, .ref m_moving])), (m_tape, .inl (cB, 500, .inl g_81)), (m_five, .inl (cI, 5, .inl g_5))] H := hP
  have hD : va_D A [(m0, .inr (12, [.int 0, .ref m_world, .ref m_images, .ref m_hasImage, .ref m_tape, .int 0, .ref m_five, .int 0, .int 0, .int 0, .int 0, .int 0, .int 0, .int (-1), .ref m_fresh, .ref m_spokenAt, .ref m_heardAt, .ref m_lastAt, .ref m_answerAt, .int 0, .int 0, .int 0, .long 0, .int 0, .int 0, .ref m_heardNow, .ref m_seenAt, .int 0, .int 0, .int 0, .int 0, .int 0, .ref m_fewest, .ref m_costNow, .ref m_costThen, .ref m_lawsOf, .ref m_heardBy, .int 0, .int 0, .ref m_placesOf, .ref m_sentIn, .int 0, .int 0, .ref m_lostBy, .ref m_many, .ref m_width, .ref m_numbers, .ref m_moving])), (m_tape, .inl (cB, 500, .inl g_81)), (m_five, .inl (cI, 5, .inl g_5))] := hD
  refine lv_iinc (v := 19) (lv' := [(6, .int 19), (0, .ref m0), (1, .int a1), (2, .int a2), (3, .int a3), (4, .int a4), (5, .int a5)]) hx hb dX12_feed_95 hl (k := 0) rfl (by decide) (by decide) rfl (fun ls hl => ?_)
  refine lv_goto (tgt := 55) hx hb dX12_feed_98 (by decide) ?_
  refine lv_iload hx hb dX12_feed_55 (lv_at hl 0 rfl) ?_
  refine lv_bipush (v := 20) hx hb dX12_feed_57 (by decide) ?_
  refine lv_icmp_ge (tgt := 101) hx hb dX12_feed_59 (by decide) (fun c0 => absurd c0 (by decide)) (fun _ => ?_)
  refine lv_aload_n hx hb dX12_feed_62 rfl (lv_at hl 1 rfl) ?_
  refine va_get (D := D) (ci := 12) (v := .ref m_tape) (C := RX12) (T := TX12) (N := 48) hx hb hts inlX12 hown hK hP 0 rfl rfl 4 (by decide) (hts _ (inr6 _ (List.mem_of_getElem? (i := 19) rfl))) (fun _ h9 => h9) rfl dX12_feed_63 ?_
  refine lv_aload_n hx hb dX12_feed_66 rfl (lv_at hl 1 rfl) ?_
  refine va_get (D := D) (ci := 12) (v := .int 0) (C := RX12) (T := TX12) (N := 48) hx hb hts inlX12 hown hK hP 0 rfl rfl 5 (by decide) (hts _ (inr8 _ (List.mem_of_getElem? (i := 11) rfl))) (fun _ h9 => h9) rfl dX12_feed_67 ?_
  refine lv_iload hx hb dX12_feed_70 (lv_at hl 0 rfl) ?_
  refine z_iadd (v := 19) hx hb dX12_feed_72 (by decide) ?_
  refine lv_aload_n hx hb dX12_feed_73 rfl (lv_at hl 1 rfl) ?_
  refine va_get (D := D) (ci := 12) (v := .ref m_five) (C := RX12) (T := TX12) (N := 48) hx hb hts inlX12 hown hK hP 0 rfl rfl 6 (by decide) (hts _ (inr6 _ (List.mem_of_getElem? (i := 20) rfl))) (fun _ h9 => h9) rfl dX12_feed_74 ?_
  refine lv_iload hx hb dX12_feed_77 (lv_at hl 0 rfl) ?_
  refine lv_iconst (v := 4) hx hb dX12_feed_79 (by decide) ?_
  refine z_idiv (v := 4) hx hb dX12_feed_80 (by decide) (by decide) ?_
  obtain ⟨t_82, et_82⟩ : ∃ v9 : Int32, g_5 (4 : Int32).toNatClampNeg = v9 := ⟨_, rfl⟩
  refine z_iald (v := t_82) hx hb hK hP 2 1 rfl rfl (by unfold vp_in; decide) et_82 dX12_feed_81 ?_
  refine lv_bipush (v := 24) hx hb dX12_feed_82 (by decide) ?_
  refine lv_bipush (v := 8) hx hb dX12_feed_84 (by decide) ?_
  refine lv_iload hx hb dX12_feed_86 (lv_at hl 0 rfl) ?_
  refine lv_iconst (v := 4) hx hb dX12_feed_88 (by decide) ?_
  refine z_irem (v := 3) hx hb dX12_feed_89 (by decide) (by decide) ?_
  refine z_imul (v := 24) hx hb dX12_feed_90 (by decide) ?_
  refine z_isub (v := 0) hx hb dX12_feed_91 (by decide) ?_
  obtain ⟨t_83, et_83⟩ : ∃ v9 : Int32, t_82 >>> (0 &&& 31) = v9 := ⟨_, rfl⟩
  refine z_ishr (v := t_83) hx hb dX12_feed_92 et_83 ?_
  obtain ⟨t_84, et_84⟩ : ∃ v9 : Int32, (t_83 : Int32).toInt8.toInt32 = v9 := ⟨_, rfl⟩
  refine lv_i2b (v := t_84) hx hb dX12_feed_93 et_84 ?_
  refine va_bast hx hb hK hP hD hS 1 0 rfl rfl (by unfold vp_in; decide) dX12_feed_94 (fun H locs hP hD hS => ?_)
  have hP : va_P D vwCl [(m0, .inr (12, [.int 0, .ref m_world, .ref m_images, .ref m_hasImage, .ref m_tape, .int 0, .ref m_five, .int 0, .int 0, .int 0, .int 0, .int 0, .int 0, .int (-1), .ref m_fresh, .ref m_spokenAt, .ref m_heardAt, .ref m_lastAt, .ref m_answerAt, .int 0, .int 0, .int 0, .long 0, .int 0, .int 0, .ref m_heardNow, .ref m_seenAt, .int 0, .int 0, .int 0, .int 0, .int 0, .ref m_fewest, .ref m_costNow, .ref m_costThen, .ref m_lawsOf, .ref m_heardBy, .int 0, .int 0, .ref m_placesOf, .ref m_sentIn, .int 0, .int 0, .ref m_lostBy, .ref m_many, .ref m_width, .ref m_numbers, .ref m_moving])), (m_tape, .inl (cB, 500, .inl (upd g_81 (19 : Int32).toNatClampNeg (vp_nar .byte t_84)))), (m_five, .inl (cI, 5, .inl g_5))] H := hP
  have hD : va_D A [(m0, .inr (12, [.int 0, .ref m_world, .ref m_images, .ref m_hasImage, .ref m_tape, .int 0, .ref m_five, .int 0, .int 0, .int 0, .int 0, .int 0, .int 0, .int (-1), .ref m_fresh, .ref m_spokenAt, .ref m_heardAt, .ref m_lastAt, .ref m_answerAt, .int 0, .int 0, .int 0, .long 0, .int 0, .int 0, .ref m_heardNow, .ref m_seenAt, .int 0, .int 0, .int 0, .int 0, .int 0, .ref m_fewest, .ref m_costNow, .ref m_costThen, .ref m_lawsOf, .ref m_heardBy, .int 0, .int 0, .ref m_placesOf, .ref m_sentIn, .int 0, .int 0, .ref m_lostBy, .ref m_many, .ref m_width, .ref m_numbers, .ref m_moving])), (m_tape, .inl (cB, 500, .inl (upd g_81 (19 : Int32).toNatClampNeg (vp_nar .byte t_84)))), (m_five, .inl (cI, 5, .inl g_5))] := hD
  obtain ⟨g_85, eg_85⟩ : ∃ v9 : Nat → Int32, (upd g_81 (19 : Int32).toNatClampNeg (vp_nar .byte t_84)) = v9 := ⟨_, rfl⟩
  rw [eg_85] at hP hD
  have hP : va_P D vwCl [(m0, .inr (12, [.int 0, .ref m_world, .ref m_images, .ref m_hasImage, .ref m_tape, .int 0, .ref m_five, .int 0, .int 0, .int 0, .int 0, .int 0, .int 0, .int (-1), .ref m_fresh, .ref m_spokenAt, .ref m_heardAt, .ref m_lastAt, .ref m_answerAt, .int 0, .int 0, .int 0, .long 0, .int 0, .int 0, .ref m_heardNow, .ref m_seenAt, .int 0, .int 0, .int 0, .int 0, .int 0, .ref m_fewest, .ref m_costNow, .ref m_costThen, .ref m_lawsOf, .ref m_heardBy, .int 0, .int 0, .ref m_placesOf, .ref m_sentIn, .int 0, .int 0, .ref m_lostBy, .ref m_many, .ref m_width, .ref m_numbers, .ref m_moving])), (m_tape, .inl (cB, 500, .inl g_85)), (m_five, .inl (cI, 5, .inl g_5))] H := hP
  have hD : va_D A [(m0, .inr (12, [.int 0, .ref m_world, .ref m_images, .ref m_hasImage, .ref m_tape, .int 0, .ref m_five, .int 0, .int 0, .int 0, .int 0, .int 0, .int 0, .int (-1), .ref m_fresh, .ref m_spokenAt, .ref m_heardAt, .ref m_lastAt, .ref m_answerAt, .int 0, .int 0, .int 0, .long 0, .int 0, .int 0, .ref m_heardNow, .ref m_seenAt, .int 0, .int 0, .int 0, .int 0, .int 0, .ref m_fewest, .ref m_costNow, .ref m_costThen, .ref m_lawsOf, .ref m_heardBy, .int 0, .int 0, .ref m_placesOf, .ref m_sentIn, .int 0, .int 0, .ref m_lostBy, .ref m_many, .ref m_width, .ref m_numbers, .ref m_moving])), (m_tape, .inl (cB, 500, .inl g_85)), (m_five, .inl (cI, 5, .inl g_5))] := hD
  refine lv_iinc (v := 20) (lv' := [(6, .int 20), (0, .ref m0), (1, .int a1), (2, .int a2), (3, .int a3), (4, .int a4), (5, .int a5)]) hx hb dX12_feed_95 hl (k := 0) rfl (by decide) (by decide) rfl (fun ls hl => ?_)
  refine lv_goto (tgt := 55) hx hb dX12_feed_98 (by decide) ?_
  refine lv_iload hx hb dX12_feed_55 (lv_at hl 0 rfl) ?_
  refine lv_bipush (v := 20) hx hb dX12_feed_57 (by decide) ?_
  refine lv_icmp_ge (tgt := 101) hx hb dX12_feed_59 (by decide) (fun _ => ?_) (fun c0 => absurd c0 (by decide))
  refine lv_aload_n hx hb dX12_feed_101 rfl (lv_at hl 1 rfl) ?_
  refine lv_dup hx hb dX12_feed_102 rfl ?_
  refine va_get (D := D) (ci := 12) (v := .int 0) (C := RX12) (T := TX12) (N := 48) hx hb hts inlX12 hown hK hP 0 rfl rfl 5 (by decide) (hts _ (inr8 _ (List.mem_of_getElem? (i := 11) rfl))) (fun _ h9 => h9) rfl dX12_feed_103 ?_
  refine lv_bipush (v := 20) hx hb dX12_feed_106 (by decide) ?_
  refine z_iadd (v := 20) hx hb dX12_feed_108 (by decide) ?_
  refine va_put (D := D) (ci := 12) (v := .int 20) (ty := .int) (C := RX12) (T := TX12) (N := 48) hx hb hts inlX12 tyX12 tyX12_ok nmX12 hown hK hP hD hS 0 rfl rfl 5 (by decide) (hts _ (inr8 _ (List.mem_of_getElem? (i := 11) rfl))) (fun _ h9 => h9) rfl (by decide +kernel) rfl rfl (Nat.le_of_ble_eq_true rfl) dX12_feed_109 (fun H locs hP hD hS => ?_)
  have hP : va_P D vwCl [(m0, .inr (12, [.int 0, .ref m_world, .ref m_images, .ref m_hasImage, .ref m_tape, .int 20, .ref m_five, .int 0, .int 0, .int 0, .int 0, .int 0, .int 0, .int (-1), .ref m_fresh, .ref m_spokenAt, .ref m_heardAt, .ref m_lastAt, .ref m_answerAt, .int 0, .int 0, .int 0, .long 0, .int 0, .int 0, .ref m_heardNow, .ref m_seenAt, .int 0, .int 0, .int 0, .int 0, .int 0, .ref m_fewest, .ref m_costNow, .ref m_costThen, .ref m_lawsOf, .ref m_heardBy, .int 0, .int 0, .ref m_placesOf, .ref m_sentIn, .int 0, .int 0, .ref m_lostBy, .ref m_many, .ref m_width, .ref m_numbers, .ref m_moving])), (m_tape, .inl (cB, 500, .inl g_85)), (m_five, .inl (cI, 5, .inl g_5))] H := hP
  have hD : va_D A [(m0, .inr (12, [.int 0, .ref m_world, .ref m_images, .ref m_hasImage, .ref m_tape, .int 20, .ref m_five, .int 0, .int 0, .int 0, .int 0, .int 0, .int 0, .int (-1), .ref m_fresh, .ref m_spokenAt, .ref m_heardAt, .ref m_lastAt, .ref m_answerAt, .int 0, .int 0, .int 0, .long 0, .int 0, .int 0, .ref m_heardNow, .ref m_seenAt, .int 0, .int 0, .int 0, .int 0, .int 0, .ref m_fewest, .ref m_costNow, .ref m_costThen, .ref m_lawsOf, .ref m_heardBy, .int 0, .int 0, .ref m_placesOf, .ref m_sentIn, .int 0, .int 0, .ref m_lostBy, .ref m_many, .ref m_width, .ref m_numbers, .ref m_moving])), (m_tape, .inl (cB, 500, .inl g_85)), (m_five, .inl (cI, 5, .inl g_5))] := hD
  refine lv_aload_n hx hb dX12_feed_112 rfl (lv_at hl 1 rfl) ?_
  refine va_get (D := D) (ci := 12) (v := .int 20) (C := RX12) (T := TX12) (N := 48) hx hb hts inlX12 hown hK hP 0 rfl rfl 5 (by decide) (hts _ (inr8 _ (List.mem_of_getElem? (i := 11) rfl))) (fun _ h9 => h9) rfl dX12_feed_113 ?_
  have hP9 := hP.sub (ws' := []) [] rfl
  have hD9 := hD.sub (ws' := []) [] (by decide) rfl
  exact W.iret (v := 20) hx hb hr (fun t ht hW => ⟨⟨20, (), rfl, rfl, by rw [ht]; exact hP9, va_K.moved hW.alike hK, hD9⟩, hS.F ht⟩) hS.2.2 dX12_feed_116

set_option maxHeartbeats 4000000 in
set_option maxRecDepth 100000 in
theorem lp_image1 {p : Program} {l : Launch} {e : Env} {R : Room} {s : State} {m : MethodId} {args : Array Value} {below : List Frame} {meth : Method} {c : Code} {cells slots : Nat} {Q : State → Prop} {D : va_G} {cB cI cJ cZ cS cT : ClassId} {A : Nat → Prop} {H0 : Heap} (m0 : Nat) (m_world : Nat) (m_images : Nat) (m_hasImage : Nat) (m_tape : Nat) (m_five : Nat) (m_fresh : Nat) (m_spokenAt : Nat) (m_heardAt : Nat) (m_lastAt : Nat) (m_answerAt : Nat) (m_heardNow : Nat) (m_seenAt : Nat) (m_fewest : Nat) (m_costNow : Nat) (m_costThen : Nat) (m_lawsOf : Nat) (m_heardBy : Nat) (m_placesOf : Nat) (m_sentIn : Nat) (m_lostBy : Nat) (m_many : Nat) (m_width : Nat) (m_numbers : Nat) (m_moving : Nat) (hx : p.tables.exec = Jvm.exec) (hb : c.code = cX12_image) (hts : ∀ w ∈ wsL_law, w.before args s = true) (hown : s.vm.findClass RX12 = some m.cls) (hK : va_K D vwCl (tyL cB cI cJ cZ cS cT) s) (exit : ∀  (H : Heap) (locs : List Loc) (ls : Array Slot), va_P D vwCl [(m0, .inr (12, [.int 0, .ref m_world, .ref m_images, .ref m_hasImage, .ref m_tape, .int 0, .ref m_five, .int 0, .int 0, .int 0, .int 0, .int 0, .int 0, .int (-1), .ref m_fresh, .ref m_spokenAt, .ref m_heardAt, .ref m_lastAt, .ref m_answerAt, .int 0, .int 0, .int 0, .long 0, .int 0, .int 0, .ref m_heardNow, .ref m_seenAt, .int 0, .int 0, .int 0, .int 0, .int 0, .ref m_fewest, .ref m_costNow, .ref m_costThen, .ref m_lawsOf, .ref m_heardBy, .int 0, .int 0, .ref m_placesOf, .ref m_sentIn, .int 0, .int 0, .ref m_lostBy, .ref m_many, .ref m_width, .ref m_numbers, .ref m_moving])), (m_world, .inl (cI, 53, .inl (fun _ => 0))), (m_images, .inl (cI, 159, .inl (fun _ => 0))), (m_hasImage, .inl (cZ, 3, .inl (fun _ => 0)))] H → va_D A [(m0, .inr (12, [.int 0, .ref m_world, .ref m_images, .ref m_hasImage, .ref m_tape, .int 0, .ref m_five, .int 0, .int 0, .int 0, .int 0, .int 0, .int 0, .int (-1), .ref m_fresh, .ref m_spokenAt, .ref m_heardAt, .ref m_lastAt, .ref m_answerAt, .int 0, .int 0, .int 0, .long 0, .int 0, .int 0, .ref m_heardNow, .ref m_seenAt, .int 0, .int 0, .int 0, .int 0, .int 0, .ref m_fewest, .ref m_costNow, .ref m_costThen, .ref m_lawsOf, .ref m_heardBy, .int 0, .int 0, .ref m_placesOf, .ref m_sentIn, .int 0, .int 0, .ref m_lostBy, .ref m_many, .ref m_width, .ref m_numbers, .ref m_moving])), (m_world, .inl (cI, 53, .inl (fun _ => 0))), (m_images, .inl (cI, 159, .inl (fun _ => 0))), (m_hasImage, .inl (cZ, 3, .inl (fun _ => 0)))] → va_S A H0 H locs → lv_has ls 3 [(0, .ref m0), (1, .int 0)] → W p l e R s m args below meth c H locs cells slots Q (F0 m 46 ls [])) :
    ∀ (N i : Nat)  (H : Heap) (locs : List Loc) (ls : Array Slot), i ≤ 53 → 53 - i < N → va_P D vwCl [(m0, .inr (12, [.int 0, .ref m_world, .ref m_images, .ref m_hasImage, .ref m_tape, .int 0, .ref m_five, .int 0, .int 0, .int 0, .int 0, .int 0, .int 0, .int (-1), .ref m_fresh, .ref m_spokenAt, .ref m_heardAt, .ref m_lastAt, .ref m_answerAt, .int 0, .int 0, .int 0, .long 0, .int 0, .int 0, .ref m_heardNow, .ref m_seenAt, .int 0, .int 0, .int 0, .int 0, .int 0, .ref m_fewest, .ref m_costNow, .ref m_costThen, .ref m_lawsOf, .ref m_heardBy, .int 0, .int 0, .ref m_placesOf, .ref m_sentIn, .int 0, .int 0, .ref m_lostBy, .ref m_many, .ref m_width, .ref m_numbers, .ref m_moving])), (m_world, .inl (cI, 53, .inl (fun _ => 0))), (m_images, .inl (cI, 159, .inl (fun _ => 0))), (m_hasImage, .inl (cZ, 3, .inl (fun _ => 0)))] H → va_D A [(m0, .inr (12, [.int 0, .ref m_world, .ref m_images, .ref m_hasImage, .ref m_tape, .int 0, .ref m_five, .int 0, .int 0, .int 0, .int 0, .int 0, .int 0, .int (-1), .ref m_fresh, .ref m_spokenAt, .ref m_heardAt, .ref m_lastAt, .ref m_answerAt, .int 0, .int 0, .int 0, .long 0, .int 0, .int 0, .ref m_heardNow, .ref m_seenAt, .int 0, .int 0, .int 0, .int 0, .int 0, .ref m_fewest, .ref m_costNow, .ref m_costThen, .ref m_lawsOf, .ref m_heardBy, .int 0, .int 0, .ref m_placesOf, .ref m_sentIn, .int 0, .int 0, .ref m_lostBy, .ref m_many, .ref m_width, .ref m_numbers, .ref m_moving])), (m_world, .inl (cI, 53, .inl (fun _ => 0))), (m_images, .inl (cI, 159, .inl (fun _ => 0))), (m_hasImage, .inl (cZ, 3, .inl (fun _ => 0)))] → va_S A H0 H locs → lv_has ls 3 [(2, .int (nI i)), (0, .ref m0), (1, .int 0)] → W p l e R s m args below meth c H locs cells slots Q (F0 m 17 ls []) := by
  intro N
  induction N with
  | zero =>
    intro i  H locs ls h1 h2
    omega
  | succ N ih =>
    intro i  H locs ls hi hN2 hP hD hS hl
    have hi0 : (nI i).toInt = (i : Int) := nI_toInt (by omega)
    refine lv_iload_n hx hb dX12_image_17 rfl (lv_at hl 0 rfl) ?_
    refine lv_bipush (v := 53) hx hb dX12_image_18 (by decide) ?_
    refine lv_icmp_ge (tgt := 46) hx hb dX12_image_20 (by decide) (fun c_1 => ?_) (fun c_1 => ?_)
    · have c_1 : 53 ≤ ((nI i)).toInt := ci_ge_t c_1
      exact exit  _ _ _ hP hD hS (lv_sub hl [1, 2] rfl)
    · have c_1 : ((nI i)).toInt < 53 := ci_ge_f c_1
      refine lv_aload_n hx hb dX12_image_23 rfl (lv_at hl 1 rfl) ?_
      refine va_get (D := D) (ci := 12) (v := .ref m_images) (C := RX12) (T := TX12) (N := 48) hx hb hts inlX12 hown hK hP 0 rfl rfl 2 (by decide) (hts _ (inr6 _ (List.mem_of_getElem? (i := 17) rfl))) (fun _ h9 => h9) rfl dX12_image_24 ?_
      refine lv_bipush (v := 53) hx hb dX12_image_27 (by decide) ?_
      refine lv_iload_n hx hb dX12_image_29 rfl (lv_at hl 2 rfl) ?_
      refine z_imul (v := 0) hx hb dX12_image_30 (by decide) ?_
      refine lv_iload_n hx hb dX12_image_31 rfl (lv_at hl 0 rfl) ?_
      obtain ⟨t_2, et_2⟩ : ∃ v9 : Int32, 0 + (nI i) = v9 := ⟨_, rfl⟩
      refine z_iadd (v := t_2) hx hb dX12_image_32 et_2 ?_
      have ft_2 : t_2.toInt = 0 + ((nI i)).toInt := addT (a := 0) (b := ((nI i)).toInt) (by decide) rfl et_2 (by omega) (by omega)
      refine lv_aload_n hx hb dX12_image_33 rfl (lv_at hl 1 rfl) ?_
      refine va_get (D := D) (ci := 12) (v := .ref m_world) (C := RX12) (T := TX12) (N := 48) hx hb hts inlX12 hown hK hP 0 rfl rfl 1 (by decide) (hts _ (inr6 _ (List.mem_of_getElem? (i := 16) rfl))) (fun _ h9 => h9) rfl dX12_image_34 ?_
      refine lv_iload_n hx hb dX12_image_37 rfl (lv_at hl 0 rfl) ?_
      refine z_iald (v := 0) hx hb hK hP 1 1 rfl rfl (vin_nat (by omega) (by omega)) rfl dX12_image_38 ?_
      refine va_iast hx hb hK hP hD hS 2 1 rfl rfl (vin_nat (by omega) (by omega)) dX12_image_39 (fun H locs hP hD hS => ?_)
      rw [updZ] at hP hD
      have hP : va_P D vwCl [(m0, .inr (12, [.int 0, .ref m_world, .ref m_images, .ref m_hasImage, .ref m_tape, .int 0, .ref m_five, .int 0, .int 0, .int 0, .int 0, .int 0, .int 0, .int (-1), .ref m_fresh, .ref m_spokenAt, .ref m_heardAt, .ref m_lastAt, .ref m_answerAt, .int 0, .int 0, .int 0, .long 0, .int 0, .int 0, .ref m_heardNow, .ref m_seenAt, .int 0, .int 0, .int 0, .int 0, .int 0, .ref m_fewest, .ref m_costNow, .ref m_costThen, .ref m_lawsOf, .ref m_heardBy, .int 0, .int 0, .ref m_placesOf, .ref m_sentIn, .int 0, .int 0, .ref m_lostBy, .ref m_many, .ref m_width, .ref m_numbers, .ref m_moving])), (m_world, .inl (cI, 53, .inl (fun _ => 0))), (m_images, .inl (cI, 159, .inl (fun _ => 0))), (m_hasImage, .inl (cZ, 3, .inl (fun _ => 0)))] H := hP
      have hD : va_D A [(m0, .inr (12, [.int 0, .ref m_world, .ref m_images, .ref m_hasImage, .ref m_tape, .int 0, .ref m_five, .int 0, .int 0, .int 0, .int 0, .int 0, .int 0, .int (-1), .ref m_fresh, .ref m_spokenAt, .ref m_heardAt, .ref m_lastAt, .ref m_answerAt, .int 0, .int 0, .int 0, .long 0, .int 0, .int 0, .ref m_heardNow, .ref m_seenAt, .int 0, .int 0, .int 0, .int 0, .int 0, .ref m_fewest, .ref m_costNow, .ref m_costThen, .ref m_lawsOf, .ref m_heardBy, .int 0, .int 0, .ref m_placesOf, .ref m_sentIn, .int 0, .int 0, .ref m_lostBy, .ref m_many, .ref m_width, .ref m_numbers, .ref m_moving])), (m_world, .inl (cI, 53, .inl (fun _ => 0))), (m_images, .inl (cI, 159, .inl (fun _ => 0))), (m_hasImage, .inl (cZ, 3, .inl (fun _ => 0)))] := hD
      obtain ⟨t_4, et_4⟩ : ∃ v9 : Int32, (nI i) + 1 = v9 := ⟨_, rfl⟩
      refine lv_iinc (v := t_4) (lv' := [(2, .int t_4), (0, .ref m0), (1, .int 0)]) hx hb dX12_image_40 hl (k := 0) rfl (by rw [← et_4]; rfl) (by decide) rfl (fun ls hl => ?_)
      refine lv_goto (tgt := 17) hx hb dX12_image_43 (by decide) ?_
      rw [nI_1] at et_4
      subst et_4
      exact ih (i + 1)  _ _ _ (by omega) (by omega) hP hD hS (lv_sub hl [0, 1, 2] rfl)

set_option maxHeartbeats 4000000 in
set_option maxRecDepth 100000 in
theorem lp_image2 {p : Program} {l : Launch} {e : Env} {R : Room} {s : State} {m : MethodId} {args : Array Value} {below : List Frame} {meth : Method} {c : Code} {cells slots : Nat} {Q : State → Prop} {D : va_G} {cB cI cJ cZ cS cT : ClassId} {A : Nat → Prop} {H0 : Heap} (m0 : Nat) (m_world : Nat) (m_images : Nat) (m_hasImage : Nat) (m_tape : Nat) (m_five : Nat) (m_fresh : Nat) (m_spokenAt : Nat) (m_heardAt : Nat) (m_lastAt : Nat) (m_answerAt : Nat) (m_heardNow : Nat) (m_seenAt : Nat) (m_fewest : Nat) (m_costNow : Nat) (m_costThen : Nat) (m_lawsOf : Nat) (m_heardBy : Nat) (m_placesOf : Nat) (m_sentIn : Nat) (m_lostBy : Nat) (m_many : Nat) (m_width : Nat) (m_numbers : Nat) (m_moving : Nat) (hx : p.tables.exec = Jvm.exec) (hb : c.code = cX12_image) (hts : ∀ w ∈ wsL_law, w.before args s = true) (hown : s.vm.findClass RX12 = some m.cls) (hK : va_K D vwCl (tyL cB cI cJ cZ cS cT) s) (exit : ∀  (H : Heap) (locs : List Loc) (ls : Array Slot), va_P D vwCl [(m0, .inr (12, [.int 0, .ref m_world, .ref m_images, .ref m_hasImage, .ref m_tape, .int 0, .ref m_five, .int 0, .int 0, .int 0, .int 0, .int 0, .int 0, .int (-1), .ref m_fresh, .ref m_spokenAt, .ref m_heardAt, .ref m_lastAt, .ref m_answerAt, .int 0, .int 0, .int 0, .long 0, .int 0, .int 0, .ref m_heardNow, .ref m_seenAt, .int 0, .int 0, .int 0, .int 0, .int 0, .ref m_fewest, .ref m_costNow, .ref m_costThen, .ref m_lawsOf, .ref m_heardBy, .int 0, .int 0, .ref m_placesOf, .ref m_sentIn, .int 0, .int 0, .ref m_lostBy, .ref m_many, .ref m_width, .ref m_numbers, .ref m_moving])), (m_world, .inl (cI, 53, .inl (fun _ => 0))), (m_images, .inl (cI, 159, .inl (fun _ => 0))), (m_hasImage, .inl (cZ, 3, .inl (fun _ => 0)))] H → va_D A [(m0, .inr (12, [.int 0, .ref m_world, .ref m_images, .ref m_hasImage, .ref m_tape, .int 0, .ref m_five, .int 0, .int 0, .int 0, .int 0, .int 0, .int 0, .int (-1), .ref m_fresh, .ref m_spokenAt, .ref m_heardAt, .ref m_lastAt, .ref m_answerAt, .int 0, .int 0, .int 0, .long 0, .int 0, .int 0, .ref m_heardNow, .ref m_seenAt, .int 0, .int 0, .int 0, .int 0, .int 0, .ref m_fewest, .ref m_costNow, .ref m_costThen, .ref m_lawsOf, .ref m_heardBy, .int 0, .int 0, .ref m_placesOf, .ref m_sentIn, .int 0, .int 0, .ref m_lostBy, .ref m_many, .ref m_width, .ref m_numbers, .ref m_moving])), (m_world, .inl (cI, 53, .inl (fun _ => 0))), (m_images, .inl (cI, 159, .inl (fun _ => 0))), (m_hasImage, .inl (cZ, 3, .inl (fun _ => 0)))] → va_S A H0 H locs → lv_has ls 3 [(0, .ref m0), (1, .int 1)] → W p l e R s m args below meth c H locs cells slots Q (F0 m 46 ls [])) :
    ∀ (N i : Nat)  (H : Heap) (locs : List Loc) (ls : Array Slot), i ≤ 53 → 53 - i < N → va_P D vwCl [(m0, .inr (12, [.int 0, .ref m_world, .ref m_images, .ref m_hasImage, .ref m_tape, .int 0, .ref m_five, .int 0, .int 0, .int 0, .int 0, .int 0, .int 0, .int (-1), .ref m_fresh, .ref m_spokenAt, .ref m_heardAt, .ref m_lastAt, .ref m_answerAt, .int 0, .int 0, .int 0, .long 0, .int 0, .int 0, .ref m_heardNow, .ref m_seenAt, .int 0, .int 0, .int 0, .int 0, .int 0, .ref m_fewest, .ref m_costNow, .ref m_costThen, .ref m_lawsOf, .ref m_heardBy, .int 0, .int 0, .ref m_placesOf, .ref m_sentIn, .int 0, .int 0, .ref m_lostBy, .ref m_many, .ref m_width, .ref m_numbers, .ref m_moving])), (m_world, .inl (cI, 53, .inl (fun _ => 0))), (m_images, .inl (cI, 159, .inl (fun _ => 0))), (m_hasImage, .inl (cZ, 3, .inl (fun _ => 0)))] H → va_D A [(m0, .inr (12, [.int 0, .ref m_world, .ref m_images, .ref m_hasImage, .ref m_tape, .int 0, .ref m_five, .int 0, .int 0, .int 0, .int 0, .int 0, .int 0, .int (-1), .ref m_fresh, .ref m_spokenAt, .ref m_heardAt, .ref m_lastAt, .ref m_answerAt, .int 0, .int 0, .int 0, .long 0, .int 0, .int 0, .ref m_heardNow, .ref m_seenAt, .int 0, .int 0, .int 0, .int 0, .int 0, .ref m_fewest, .ref m_costNow, .ref m_costThen, .ref m_lawsOf, .ref m_heardBy, .int 0, .int 0, .ref m_placesOf, .ref m_sentIn, .int 0, .int 0, .ref m_lostBy, .ref m_many, .ref m_width, .ref m_numbers, .ref m_moving])), (m_world, .inl (cI, 53, .inl (fun _ => 0))), (m_images, .inl (cI, 159, .inl (fun _ => 0))), (m_hasImage, .inl (cZ, 3, .inl (fun _ => 0)))] → va_S A H0 H locs → lv_has ls 3 [(2, .int (nI i)), (0, .ref m0), (1, .int 1)] → W p l e R s m args below meth c H locs cells slots Q (F0 m 17 ls []) := by
  intro N
  induction N with
  | zero =>
    intro i  H locs ls h1 h2
    omega
  | succ N ih =>
    intro i  H locs ls hi hN2 hP hD hS hl
    have hi0 : (nI i).toInt = (i : Int) := nI_toInt (by omega)
    refine lv_iload_n hx hb dX12_image_17 rfl (lv_at hl 0 rfl) ?_
    refine lv_bipush (v := 53) hx hb dX12_image_18 (by decide) ?_
    refine lv_icmp_ge (tgt := 46) hx hb dX12_image_20 (by decide) (fun c_1 => ?_) (fun c_1 => ?_)
    · have c_1 : 53 ≤ ((nI i)).toInt := ci_ge_t c_1
      exact exit  _ _ _ hP hD hS (lv_sub hl [1, 2] rfl)
    · have c_1 : ((nI i)).toInt < 53 := ci_ge_f c_1
      refine lv_aload_n hx hb dX12_image_23 rfl (lv_at hl 1 rfl) ?_
      refine va_get (D := D) (ci := 12) (v := .ref m_images) (C := RX12) (T := TX12) (N := 48) hx hb hts inlX12 hown hK hP 0 rfl rfl 2 (by decide) (hts _ (inr6 _ (List.mem_of_getElem? (i := 17) rfl))) (fun _ h9 => h9) rfl dX12_image_24 ?_
      refine lv_bipush (v := 53) hx hb dX12_image_27 (by decide) ?_
      refine lv_iload_n hx hb dX12_image_29 rfl (lv_at hl 2 rfl) ?_
      refine z_imul (v := 53) hx hb dX12_image_30 (by decide) ?_
      refine lv_iload_n hx hb dX12_image_31 rfl (lv_at hl 0 rfl) ?_
      obtain ⟨t_2, et_2⟩ : ∃ v9 : Int32, 53 + (nI i) = v9 := ⟨_, rfl⟩
      refine z_iadd (v := t_2) hx hb dX12_image_32 et_2 ?_
      have ft_2 : t_2.toInt = 53 + ((nI i)).toInt := addT (a := 53) (b := ((nI i)).toInt) (by decide) rfl et_2 (by omega) (by omega)
      refine lv_aload_n hx hb dX12_image_33 rfl (lv_at hl 1 rfl) ?_
      refine va_get (D := D) (ci := 12) (v := .ref m_world) (C := RX12) (T := TX12) (N := 48) hx hb hts inlX12 hown hK hP 0 rfl rfl 1 (by decide) (hts _ (inr6 _ (List.mem_of_getElem? (i := 16) rfl))) (fun _ h9 => h9) rfl dX12_image_34 ?_
      refine lv_iload_n hx hb dX12_image_37 rfl (lv_at hl 0 rfl) ?_
      refine z_iald (v := 0) hx hb hK hP 1 1 rfl rfl (vin_nat (by omega) (by omega)) rfl dX12_image_38 ?_
      refine va_iast hx hb hK hP hD hS 2 1 rfl rfl (vin_nat (by omega) (by omega)) dX12_image_39 (fun H locs hP hD hS => ?_)
      rw [updZ] at hP hD
      have hP : va_P D vwCl [(m0, .inr (12, [.int 0, .ref m_world, .ref m_images, .ref m_hasImage, .ref m_tape, .int 0, .ref m_five, .int 0, .int 0, .int 0, .int 0, .int 0, .int 0, .int (-1), .ref m_fresh, .ref m_spokenAt, .ref m_heardAt, .ref m_lastAt, .ref m_answerAt, .int 0, .int 0, .int 0, .long 0, .int 0, .int 0, .ref m_heardNow, .ref m_seenAt, .int 0, .int 0, .int 0, .int 0, .int 0, .ref m_fewest, .ref m_costNow, .ref m_costThen, .ref m_lawsOf, .ref m_heardBy, .int 0, .int 0, .ref m_placesOf, .ref m_sentIn, .int 0, .int 0, .ref m_lostBy, .ref m_many, .ref m_width, .ref m_numbers, .ref m_moving])), (m_world, .inl (cI, 53, .inl (fun _ => 0))), (m_images, .inl (cI, 159, .inl (fun _ => 0))), (m_hasImage, .inl (cZ, 3, .inl (fun _ => 0)))] H := hP
      have hD : va_D A [(m0, .inr (12, [.int 0, .ref m_world, .ref m_images, .ref m_hasImage, .ref m_tape, .int 0, .ref m_five, .int 0, .int 0, .int 0, .int 0, .int 0, .int 0, .int (-1), .ref m_fresh, .ref m_spokenAt, .ref m_heardAt, .ref m_lastAt, .ref m_answerAt, .int 0, .int 0, .int 0, .long 0, .int 0, .int 0, .ref m_heardNow, .ref m_seenAt, .int 0, .int 0, .int 0, .int 0, .int 0, .ref m_fewest, .ref m_costNow, .ref m_costThen, .ref m_lawsOf, .ref m_heardBy, .int 0, .int 0, .ref m_placesOf, .ref m_sentIn, .int 0, .int 0, .ref m_lostBy, .ref m_many, .ref m_width, .ref m_numbers, .ref m_moving])), (m_world, .inl (cI, 53, .inl (fun _ => 0))), (m_images, .inl (cI, 159, .inl (fun _ => 0))), (m_hasImage, .inl (cZ, 3, .inl (fun _ => 0)))] := hD
      obtain ⟨t_4, et_4⟩ : ∃ v9 : Int32, (nI i) + 1 = v9 := ⟨_, rfl⟩
      refine lv_iinc (v := t_4) (lv' := [(2, .int t_4), (0, .ref m0), (1, .int 1)]) hx hb dX12_image_40 hl (k := 0) rfl (by rw [← et_4]; rfl) (by decide) rfl (fun ls hl => ?_)
      refine lv_goto (tgt := 17) hx hb dX12_image_43 (by decide) ?_
      rw [nI_1] at et_4
      subst et_4
      exact ih (i + 1)  _ _ _ (by omega) (by omega) hP hD hS (lv_sub hl [0, 1, 2] rfl)

set_option maxHeartbeats 4000000 in
set_option maxRecDepth 100000 in
theorem lp_image3 {p : Program} {l : Launch} {e : Env} {R : Room} {s : State} {m : MethodId} {args : Array Value} {below : List Frame} {meth : Method} {c : Code} {cells slots : Nat} {Q : State → Prop} {D : va_G} {cB cI cJ cZ cS cT : ClassId} {A : Nat → Prop} {H0 : Heap} (m0 : Nat) (m_world : Nat) (m_images : Nat) (m_hasImage : Nat) (m_tape : Nat) (m_five : Nat) (m_fresh : Nat) (m_spokenAt : Nat) (m_heardAt : Nat) (m_lastAt : Nat) (m_answerAt : Nat) (m_heardNow : Nat) (m_seenAt : Nat) (m_fewest : Nat) (m_costNow : Nat) (m_costThen : Nat) (m_lawsOf : Nat) (m_heardBy : Nat) (m_placesOf : Nat) (m_sentIn : Nat) (m_lostBy : Nat) (m_many : Nat) (m_width : Nat) (m_numbers : Nat) (m_moving : Nat) (hx : p.tables.exec = Jvm.exec) (hb : c.code = cX12_image) (hts : ∀ w ∈ wsL_law, w.before args s = true) (hown : s.vm.findClass RX12 = some m.cls) (hK : va_K D vwCl (tyL cB cI cJ cZ cS cT) s) (exit : ∀  (H : Heap) (locs : List Loc) (ls : Array Slot), va_P D vwCl [(m0, .inr (12, [.int 0, .ref m_world, .ref m_images, .ref m_hasImage, .ref m_tape, .int 0, .ref m_five, .int 0, .int 0, .int 0, .int 0, .int 0, .int 0, .int (-1), .ref m_fresh, .ref m_spokenAt, .ref m_heardAt, .ref m_lastAt, .ref m_answerAt, .int 0, .int 0, .int 0, .long 0, .int 0, .int 0, .ref m_heardNow, .ref m_seenAt, .int 0, .int 0, .int 0, .int 0, .int 0, .ref m_fewest, .ref m_costNow, .ref m_costThen, .ref m_lawsOf, .ref m_heardBy, .int 0, .int 0, .ref m_placesOf, .ref m_sentIn, .int 0, .int 0, .ref m_lostBy, .ref m_many, .ref m_width, .ref m_numbers, .ref m_moving])), (m_world, .inl (cI, 53, .inl (fun _ => 0))), (m_images, .inl (cI, 159, .inl (fun _ => 0))), (m_hasImage, .inl (cZ, 3, .inl (fun _ => 0)))] H → va_D A [(m0, .inr (12, [.int 0, .ref m_world, .ref m_images, .ref m_hasImage, .ref m_tape, .int 0, .ref m_five, .int 0, .int 0, .int 0, .int 0, .int 0, .int 0, .int (-1), .ref m_fresh, .ref m_spokenAt, .ref m_heardAt, .ref m_lastAt, .ref m_answerAt, .int 0, .int 0, .int 0, .long 0, .int 0, .int 0, .ref m_heardNow, .ref m_seenAt, .int 0, .int 0, .int 0, .int 0, .int 0, .ref m_fewest, .ref m_costNow, .ref m_costThen, .ref m_lawsOf, .ref m_heardBy, .int 0, .int 0, .ref m_placesOf, .ref m_sentIn, .int 0, .int 0, .ref m_lostBy, .ref m_many, .ref m_width, .ref m_numbers, .ref m_moving])), (m_world, .inl (cI, 53, .inl (fun _ => 0))), (m_images, .inl (cI, 159, .inl (fun _ => 0))), (m_hasImage, .inl (cZ, 3, .inl (fun _ => 0)))] → va_S A H0 H locs → lv_has ls 3 [(0, .ref m0), (1, .int 2)] → W p l e R s m args below meth c H locs cells slots Q (F0 m 46 ls [])) :
    ∀ (N i : Nat)  (H : Heap) (locs : List Loc) (ls : Array Slot), i ≤ 53 → 53 - i < N → va_P D vwCl [(m0, .inr (12, [.int 0, .ref m_world, .ref m_images, .ref m_hasImage, .ref m_tape, .int 0, .ref m_five, .int 0, .int 0, .int 0, .int 0, .int 0, .int 0, .int (-1), .ref m_fresh, .ref m_spokenAt, .ref m_heardAt, .ref m_lastAt, .ref m_answerAt, .int 0, .int 0, .int 0, .long 0, .int 0, .int 0, .ref m_heardNow, .ref m_seenAt, .int 0, .int 0, .int 0, .int 0, .int 0, .ref m_fewest, .ref m_costNow, .ref m_costThen, .ref m_lawsOf, .ref m_heardBy, .int 0, .int 0, .ref m_placesOf, .ref m_sentIn, .int 0, .int 0, .ref m_lostBy, .ref m_many, .ref m_width, .ref m_numbers, .ref m_moving])), (m_world, .inl (cI, 53, .inl (fun _ => 0))), (m_images, .inl (cI, 159, .inl (fun _ => 0))), (m_hasImage, .inl (cZ, 3, .inl (fun _ => 0)))] H → va_D A [(m0, .inr (12, [.int 0, .ref m_world, .ref m_images, .ref m_hasImage, .ref m_tape, .int 0, .ref m_five, .int 0, .int 0, .int 0, .int 0, .int 0, .int 0, .int (-1), .ref m_fresh, .ref m_spokenAt, .ref m_heardAt, .ref m_lastAt, .ref m_answerAt, .int 0, .int 0, .int 0, .long 0, .int 0, .int 0, .ref m_heardNow, .ref m_seenAt, .int 0, .int 0, .int 0, .int 0, .int 0, .ref m_fewest, .ref m_costNow, .ref m_costThen, .ref m_lawsOf, .ref m_heardBy, .int 0, .int 0, .ref m_placesOf, .ref m_sentIn, .int 0, .int 0, .ref m_lostBy, .ref m_many, .ref m_width, .ref m_numbers, .ref m_moving])), (m_world, .inl (cI, 53, .inl (fun _ => 0))), (m_images, .inl (cI, 159, .inl (fun _ => 0))), (m_hasImage, .inl (cZ, 3, .inl (fun _ => 0)))] → va_S A H0 H locs → lv_has ls 3 [(2, .int (nI i)), (0, .ref m0), (1, .int 2)] → W p l e R s m args below meth c H locs cells slots Q (F0 m 17 ls []) := by
  intro N
  induction N with
  | zero =>
    intro i  H locs ls h1 h2
    omega
  | succ N ih =>
    intro i  H locs ls hi hN2 hP hD hS hl
    have hi0 : (nI i).toInt = (i : Int) := nI_toInt (by omega)
    refine lv_iload_n hx hb dX12_image_17 rfl (lv_at hl 0 rfl) ?_
    refine lv_bipush (v := 53) hx hb dX12_image_18 (by decide) ?_
    refine lv_icmp_ge (tgt := 46) hx hb dX12_image_20 (by decide) (fun c_1 => ?_) (fun c_1 => ?_)
    · have c_1 : 53 ≤ ((nI i)).toInt := ci_ge_t c_1
      exact exit  _ _ _ hP hD hS (lv_sub hl [1, 2] rfl)
    · have c_1 : ((nI i)).toInt < 53 := ci_ge_f c_1
      refine lv_aload_n hx hb dX12_image_23 rfl (lv_at hl 1 rfl) ?_
      refine va_get (D := D) (ci := 12) (v := .ref m_images) (C := RX12) (T := TX12) (N := 48) hx hb hts inlX12 hown hK hP 0 rfl rfl 2 (by decide) (hts _ (inr6 _ (List.mem_of_getElem? (i := 17) rfl))) (fun _ h9 => h9) rfl dX12_image_24 ?_
      refine lv_bipush (v := 53) hx hb dX12_image_27 (by decide) ?_
      refine lv_iload_n hx hb dX12_image_29 rfl (lv_at hl 2 rfl) ?_
      refine z_imul (v := 106) hx hb dX12_image_30 (by decide) ?_
      refine lv_iload_n hx hb dX12_image_31 rfl (lv_at hl 0 rfl) ?_
      obtain ⟨t_2, et_2⟩ : ∃ v9 : Int32, 106 + (nI i) = v9 := ⟨_, rfl⟩
      refine z_iadd (v := t_2) hx hb dX12_image_32 et_2 ?_
      have ft_2 : t_2.toInt = 106 + ((nI i)).toInt := addT (a := 106) (b := ((nI i)).toInt) (by decide) rfl et_2 (by omega) (by omega)
      refine lv_aload_n hx hb dX12_image_33 rfl (lv_at hl 1 rfl) ?_
      refine va_get (D := D) (ci := 12) (v := .ref m_world) (C := RX12) (T := TX12) (N := 48) hx hb hts inlX12 hown hK hP 0 rfl rfl 1 (by decide) (hts _ (inr6 _ (List.mem_of_getElem? (i := 16) rfl))) (fun _ h9 => h9) rfl dX12_image_34 ?_
      refine lv_iload_n hx hb dX12_image_37 rfl (lv_at hl 0 rfl) ?_
      refine z_iald (v := 0) hx hb hK hP 1 1 rfl rfl (vin_nat (by omega) (by omega)) rfl dX12_image_38 ?_
      refine va_iast hx hb hK hP hD hS 2 1 rfl rfl (vin_nat (by omega) (by omega)) dX12_image_39 (fun H locs hP hD hS => ?_)
      rw [updZ] at hP hD
      have hP : va_P D vwCl [(m0, .inr (12, [.int 0, .ref m_world, .ref m_images, .ref m_hasImage, .ref m_tape, .int 0, .ref m_five, .int 0, .int 0, .int 0, .int 0, .int 0, .int 0, .int (-1), .ref m_fresh, .ref m_spokenAt, .ref m_heardAt, .ref m_lastAt, .ref m_answerAt, .int 0, .int 0, .int 0, .long 0, .int 0, .int 0, .ref m_heardNow, .ref m_seenAt, .int 0, .int 0, .int 0, .int 0, .int 0, .ref m_fewest, .ref m_costNow, .ref m_costThen, .ref m_lawsOf, .ref m_heardBy, .int 0, .int 0, .ref m_placesOf, .ref m_sentIn, .int 0, .int 0, .ref m_lostBy, .ref m_many, .ref m_width, .ref m_numbers, .ref m_moving])), (m_world, .inl (cI, 53, .inl (fun _ => 0))), (m_images, .inl (cI, 159, .inl (fun _ => 0))), (m_hasImage, .inl (cZ, 3, .inl (fun _ => 0)))] H := hP
      have hD : va_D A [(m0, .inr (12, [.int 0, .ref m_world, .ref m_images, .ref m_hasImage, .ref m_tape, .int 0, .ref m_five, .int 0, .int 0, .int 0, .int 0, .int 0, .int 0, .int (-1), .ref m_fresh, .ref m_spokenAt, .ref m_heardAt, .ref m_lastAt, .ref m_answerAt, .int 0, .int 0, .int 0, .long 0, .int 0, .int 0, .ref m_heardNow, .ref m_seenAt, .int 0, .int 0, .int 0, .int 0, .int 0, .ref m_fewest, .ref m_costNow, .ref m_costThen, .ref m_lawsOf, .ref m_heardBy, .int 0, .int 0, .ref m_placesOf, .ref m_sentIn, .int 0, .int 0, .ref m_lostBy, .ref m_many, .ref m_width, .ref m_numbers, .ref m_moving])), (m_world, .inl (cI, 53, .inl (fun _ => 0))), (m_images, .inl (cI, 159, .inl (fun _ => 0))), (m_hasImage, .inl (cZ, 3, .inl (fun _ => 0)))] := hD
      obtain ⟨t_4, et_4⟩ : ∃ v9 : Int32, (nI i) + 1 = v9 := ⟨_, rfl⟩
      refine lv_iinc (v := t_4) (lv' := [(2, .int t_4), (0, .ref m0), (1, .int 2)]) hx hb dX12_image_40 hl (k := 0) rfl (by rw [← et_4]; rfl) (by decide) rfl (fun ls hl => ?_)
      refine lv_goto (tgt := 17) hx hb dX12_image_43 (by decide) ?_
      rw [nI_1] at et_4
      subst et_4
      exact ih (i + 1)  _ _ _ (by omega) (by omega) hP hD hS (lv_sub hl [0, 1, 2] rfl)

set_option maxHeartbeats 4000000 in
set_option maxRecDepth 100000 in
theorem km_image (l : Launch) (D : va_G) (cB cI cJ cZ cS cT : ClassId) (sz : Nat) (m0 : Nat) (m_world : Nat) (m_images : Nat) (m_hasImage : Nat) (m_tape : Nat) (m_five : Nat) (m_fresh : Nat) (m_spokenAt : Nat) (m_heardAt : Nat) (m_lastAt : Nat) (m_answerAt : Nat) (m_heardNow : Nat) (m_seenAt : Nat) (m_fewest : Nat) (m_costNow : Nat) (m_costThen : Nat) (m_lawsOf : Nat) (m_heardBy : Nat) (m_placesOf : Nat) (m_sentIn : Nat) (m_lostBy : Nat) (m_many : Nat) (m_width : Nat) (m_numbers : Nat) (m_moving : Nat) (a1 : Int32)  : Met l yX12_image (Cond.code yX12_image cX12_image 3 (some .int) :: wsL_law) ({ frames := 1, cells := 0, slots := 0, locals := 25 }) (wrP D (tyL cB cI cJ cZ cS cT) [(m0, .inr (12, [.int 0, .ref m_world, .ref m_images, .ref m_hasImage, .ref m_tape, .int 0, .ref m_five, .int 0, .int 0, .int 0, .int 0, .int 0, .int 0, .int (-1), .ref m_fresh, .ref m_spokenAt, .ref m_heardAt, .ref m_lastAt, .ref m_answerAt, .int 0, .int 0, .int 0, .long 0, .int 0, .int 0, .ref m_heardNow, .ref m_seenAt, .int 0, .int 0, .int 0, .int 0, .int 0, .ref m_fewest, .ref m_costNow, .ref m_costThen, .ref m_lawsOf, .ref m_heardBy, .int 0, .int 0, .ref m_placesOf, .ref m_sentIn, .int 0, .int 0, .ref m_lostBy, .ref m_many, .ref m_width, .ref m_numbers, .ref m_moving])), (m_world, .inl (cI, 53, .inl (fun _ => 0))), (m_images, .inl (cI, 159, .inl (fun _ => 0))), (m_hasImage, .inl (cZ, 3, .inl (fun _ => 0)))] sz [.ref m0, .int a1]) (va_Qi (fun (r : Int32) (x : Unit) => r = S_image a1) (atW D (tyL cB cI cJ cZ cS cT) (va_A [(m0, .inr (12, [.int 0, .ref m_world, .ref m_images, .ref m_hasImage, .ref m_tape, .int 0, .ref m_five, .int 0, .int 0, .int 0, .int 0, .int 0, .int 0, .int (-1), .ref m_fresh, .ref m_spokenAt, .ref m_heardAt, .ref m_lastAt, .ref m_answerAt, .int 0, .int 0, .int 0, .long 0, .int 0, .int 0, .ref m_heardNow, .ref m_seenAt, .int 0, .int 0, .int 0, .int 0, .int 0, .ref m_fewest, .ref m_costNow, .ref m_costThen, .ref m_lawsOf, .ref m_heardBy, .int 0, .int 0, .ref m_placesOf, .ref m_sentIn, .int 0, .int 0, .ref m_lostBy, .ref m_many, .ref m_width, .ref m_numbers, .ref m_moving])), (m_world, .inl (cI, 53, .inl (fun _ => 0))), (m_images, .inl (cI, 159, .inl (fun _ => 0))), (m_hasImage, .inl (cZ, 3, .inl (fun _ => 0)))] sz) (fun x : Unit => [])) (va_A [(m0, .inr (12, [.int 0, .ref m_world, .ref m_images, .ref m_hasImage, .ref m_tape, .int 0, .ref m_five, .int 0, .int 0, .int 0, .int 0, .int 0, .int 0, .int (-1), .ref m_fresh, .ref m_spokenAt, .ref m_heardAt, .ref m_lastAt, .ref m_answerAt, .int 0, .int 0, .int 0, .long 0, .int 0, .int 0, .ref m_heardNow, .ref m_seenAt, .int 0, .int 0, .int 0, .int 0, .int 0, .ref m_fewest, .ref m_costNow, .ref m_costThen, .ref m_lawsOf, .ref m_heardBy, .int 0, .int 0, .ref m_placesOf, .ref m_sentIn, .int 0, .int 0, .ref m_lostBy, .ref m_many, .ref m_width, .ref m_numbers, .ref m_moving])), (m_world, .inl (cI, 53, .inl (fun _ => 0))), (m_images, .inl (cI, 159, .inl (fun _ => 0))), (m_hasImage, .inl (cZ, 3, .inl (fun _ => 0)))] sz)) 0 0 (va_A [(m0, .inr (12, [.int 0, .ref m_world, .ref m_images, .ref m_hasImage, .ref m_tape, .int 0, .ref m_five, .int 0, .int 0, .int 0, .int 0, .int 0, .int 0, .int (-1), .ref m_fresh, .ref m_spokenAt, .ref m_heardAt, .ref m_lastAt, .ref m_answerAt, .int 0, .int 0, .int 0, .long 0, .int 0, .int 0, .ref m_heardNow, .ref m_seenAt, .int 0, .int 0, .int 0, .int 0, .int 0, .ref m_fewest, .ref m_costNow, .ref m_costThen, .ref m_lawsOf, .ref m_heardBy, .int 0, .int 0, .ref m_placesOf, .ref m_sentIn, .int 0, .int 0, .ref m_lostBy, .ref m_many, .ref m_width, .ref m_numbers, .ref m_moving])), (m_world, .inl (cI, 53, .inl (fun _ => 0))), (m_images, .inl (cI, 159, .inl (fun _ => 0))), (m_hasImage, .inl (cZ, 3, .inl (fun _ => 0)))] sz) := by
  refine Met.ofW (cc := cX12_image) (maxL := 3) (ret := (some .int)) (by decide) rfl ?_
  intro p e s m args below meth c s₁ B hml hv
  obtain ⟨rfl, hsz, hP, hK, hD0, hN⟩ := hv
  have hx := B.exec
  have hb := B.bytes
  have hr := B.returns
  have hts : ∀ w ∈ wsL_law, w.before ([.ref m0, .int a1] : List Value).toArray s = true := fun w h => atoms_spec (ws := Cond.code yX12_image cX12_image 3 (some .int) :: wsL_law) B.pre w (List.mem_cons_of_mem _ h)
  have hown : s.vm.findClass RX12 = some m.cls := findClass_of_methodNamed B.named
  have hlocks := B.notSynchronized
  subst hsz
  have hD := hD0.self (sz := s.heap.size)
  generalize hAe : va_A [(m0, .inr (12, [.int 0, .ref m_world, .ref m_images, .ref m_hasImage, .ref m_tape, .int 0, .ref m_five, .int 0, .int 0, .int 0, .int 0, .int 0, .int 0, .int (-1), .ref m_fresh, .ref m_spokenAt, .ref m_heardAt, .ref m_lastAt, .ref m_answerAt, .int 0, .int 0, .int 0, .long 0, .int 0, .int 0, .ref m_heardNow, .ref m_seenAt, .int 0, .int 0, .int 0, .int 0, .int 0, .ref m_fewest, .ref m_costNow, .ref m_costThen, .ref m_lawsOf, .ref m_heardBy, .int 0, .int 0, .ref m_placesOf, .ref m_sentIn, .int 0, .int 0, .ref m_lostBy, .ref m_many, .ref m_width, .ref m_numbers, .ref m_moving])), (m_world, .inl (cI, 53, .inl (fun _ => 0))), (m_images, .inl (cI, 159, .inl (fun _ => 0))), (m_hasImage, .inl (cZ, 3, .inl (fun _ => 0)))] s.heap.size = A at hD ⊢
  have hA : ∀ q : Nat, s.heap.size ≤ q → A q := fun q h => by rw [← hAe]; exact Or.inr h
  have hS : va_S A s.heap s.heap [] := va_S.rf
  have hl := lv_entry ([.ref m0, .int a1]) (n := 3) (Nat.le_of_ble_eq_true rfl)
  rw [lg_entry_eq]
  generalize (lg_sl ([.ref m0, .int a1]) ++ List.replicate (3 - (lg_sl ([.ref m0, .int a1])).length) Slot.unset).toArray = ls at hl ⊢
  have hl : lv_has ls 3 [(0, .ref m0), (1, .int a1)] := hl
  have hP : va_P D vwCl [(m0, .inr (12, [.int 0, .ref m_world, .ref m_images, .ref m_hasImage, .ref m_tape, .int 0, .ref m_five, .int 0, .int 0, .int 0, .int 0, .int 0, .int 0, .int (-1), .ref m_fresh, .ref m_spokenAt, .ref m_heardAt, .ref m_lastAt, .ref m_answerAt, .int 0, .int 0, .int 0, .long 0, .int 0, .int 0, .ref m_heardNow, .ref m_seenAt, .int 0, .int 0, .int 0, .int 0, .int 0, .ref m_fewest, .ref m_costNow, .ref m_costThen, .ref m_lawsOf, .ref m_heardBy, .int 0, .int 0, .ref m_placesOf, .ref m_sentIn, .int 0, .int 0, .ref m_lostBy, .ref m_many, .ref m_width, .ref m_numbers, .ref m_moving])), (m_world, .inl (cI, 53, .inl (fun _ => 0))), (m_images, .inl (cI, 159, .inl (fun _ => 0))), (m_hasImage, .inl (cZ, 3, .inl (fun _ => 0)))] s.heap := hP
  refine lv_iload_n hx hb dX12_image_0 rfl (lv_at hl 1 rfl) ?_
  obtain ⟨t_1, et_1⟩ : ∃ v9 : Int64, (a1 : Int32).toInt64 = v9 := ⟨_, rfl⟩
  refine lv_i2l (v := t_1) hx hb dX12_image_1 et_1 ?_
  have ft_1 : t_1.toInt = a1.toInt := by rw [← et_1]; exact Int32.toInt_toInt64 _
  refine lv_lconst (v := 0) hx hb dX12_image_2 (by decide) ?_
  refine lv_ldc2 hx hb hown (hts _ (inr70 _ (List.mem_of_getElem? (i := 2) rfl))) dX12_image_3 ?_
  refine rosi (As := [.long t_1, .long 0, .long 2]) (rest := []) ⟨hx, hb, hml, hown, hts⟩ (k_in l D cB cI cJ cZ cS cT t_1 0 2 ) (csB (n := 3) (inr9 _ (List.mem_of_getElem? (i := 3) rfl)) (inr9 _ (List.mem_of_getElem? (i := 4) rfl)) (inr1 _ (List.mem_of_getElem? (i := 5) rfl)) (inr9 _ (List.mem_of_getElem? (i := 5) rfl)) (by decide +kernel) hts rfl rfl ⟨Nat.le_of_ble_eq_true rfl, Nat.le_of_ble_eq_true rfl⟩) (hP.sub [] rfl) hK rfl hl.1 rfl (Nat.le_of_ble_eq_true rfl) ⟨Nat.le_of_ble_eq_true rfl, Nat.le_of_ble_eq_true rfl⟩ dX12_image_6 (fun r_2 h_3 => ?_)
  rcases h_3 with ⟨rfl, k_4⟩ | ⟨rfl, k_4⟩
  · have k_4 : t_1.toInt < 0 ∨ 2 < t_1.toInt := k_4
    refine lv_if_ne (tgt := 15) hx hb dX12_image_9 (by decide) (fun c0 => absurd c0 (by decide)) (fun _ => ?_)
    refine lv_bipush (v := (-2)) hx hb dX12_image_12 (by decide) ?_
    have hP9 := hP.sub (ws' := []) [] rfl
    have hD9 := hD.sub (ws' := []) [] (by decide) rfl
    exact W.iret (v := (-2)) hx hb hr (fun t ht hW => ⟨⟨(-2), (), rfl, (by unfold S_image; repeat' split <;> first | rfl | (exfalso; omega)), by rw [ht]; exact hP9, va_K.moved hW.alike hK, hD9⟩, hS.F ht⟩) hS.2.2 dX12_image_14
  · have k_4 : 0 ≤ t_1.toInt ∧ t_1.toInt ≤ 2 := k_4
    refine lv_if_ne (tgt := 15) hx hb dX12_image_9 (by decide) (fun _ => ?_) (fun c0 => absurd c0 (by decide))
    rcases in3 (x := a1) (by omega) (by omega) with rfl | rfl | rfl
    · have hl : lv_has ls 3 [(0, .ref m0), (1, .int 0)] := hl
      refine lv_iconst (v := 0) hx hb dX12_image_15 (by decide) ?_
      refine lv_istore_n (lv' := [(2, .int 0), (0, .ref m0), (1, .int 0)]) hx hb dX12_image_16 rfl hl (by decide) rfl (fun ls hl => ?_)
      refine lp_image1 m0 m_world m_images m_hasImage m_tape m_five m_fresh m_spokenAt m_heardAt m_lastAt m_answerAt m_heardNow m_seenAt m_fewest m_costNow m_costThen m_lawsOf m_heardBy m_placesOf m_sentIn m_lostBy m_many m_width m_numbers m_moving hx hb hts hown hK (fun  H locs ls hP hD hS hl => ?_) 54 0  _ _ _ (Nat.zero_le _) (by omega) hP hD hS (lv_sub hl [0, 1, 2] rfl)
      refine lv_aload_n hx hb dX12_image_46 rfl (lv_at hl 0 rfl) ?_
      refine va_get (D := D) (ci := 12) (v := .ref m_hasImage) (C := RX12) (T := TX12) (N := 48) hx hb hts inlX12 hown hK hP 0 rfl rfl 3 (by decide) (hts _ (inr6 _ (List.mem_of_getElem? (i := 18) rfl))) (fun _ h9 => h9) rfl dX12_image_47 ?_
      refine lv_iload_n hx hb dX12_image_50 rfl (lv_at hl 1 rfl) ?_
      refine lv_iconst (v := 1) hx hb dX12_image_51 (by decide) ?_
      refine va_zast hx hb hK hP hD hS 3 3 rfl rfl (by unfold vp_in; decide) dX12_image_52 (fun H locs hP hD hS => ?_)
      have hP : va_P D vwCl [(m0, .inr (12, [.int 0, .ref m_world, .ref m_images, .ref m_hasImage, .ref m_tape, .int 0, .ref m_five, .int 0, .int 0, .int 0, .int 0, .int 0, .int 0, .int (-1), .ref m_fresh, .ref m_spokenAt, .ref m_heardAt, .ref m_lastAt, .ref m_answerAt, .int 0, .int 0, .int 0, .long 0, .int 0, .int 0, .ref m_heardNow, .ref m_seenAt, .int 0, .int 0, .int 0, .int 0, .int 0, .ref m_fewest, .ref m_costNow, .ref m_costThen, .ref m_lawsOf, .ref m_heardBy, .int 0, .int 0, .ref m_placesOf, .ref m_sentIn, .int 0, .int 0, .ref m_lostBy, .ref m_many, .ref m_width, .ref m_numbers, .ref m_moving])), (m_world, .inl (cI, 53, .inl (fun _ => 0))), (m_images, .inl (cI, 159, .inl (fun _ => 0))), (m_hasImage, .inl (cZ, 3, .inl (upd (fun _ => 0) (0 : Int32).toNatClampNeg (vp_nar .boolean 1))))] H := hP
      have hD : va_D A [(m0, .inr (12, [.int 0, .ref m_world, .ref m_images, .ref m_hasImage, .ref m_tape, .int 0, .ref m_five, .int 0, .int 0, .int 0, .int 0, .int 0, .int 0, .int (-1), .ref m_fresh, .ref m_spokenAt, .ref m_heardAt, .ref m_lastAt, .ref m_answerAt, .int 0, .int 0, .int 0, .long 0, .int 0, .int 0, .ref m_heardNow, .ref m_seenAt, .int 0, .int 0, .int 0, .int 0, .int 0, .ref m_fewest, .ref m_costNow, .ref m_costThen, .ref m_lawsOf, .ref m_heardBy, .int 0, .int 0, .ref m_placesOf, .ref m_sentIn, .int 0, .int 0, .ref m_lostBy, .ref m_many, .ref m_width, .ref m_numbers, .ref m_moving])), (m_world, .inl (cI, 53, .inl (fun _ => 0))), (m_images, .inl (cI, 159, .inl (fun _ => 0))), (m_hasImage, .inl (cZ, 3, .inl (upd (fun _ => 0) (0 : Int32).toNatClampNeg (vp_nar .boolean 1))))] := hD
      obtain ⟨g_5, eg_5⟩ : ∃ v9 : Nat → Int32, (upd (fun _ => 0) (0 : Int32).toNatClampNeg (vp_nar .boolean 1)) = v9 := ⟨_, rfl⟩
      rw [eg_5] at hP hD
      have hP : va_P D vwCl [(m0, .inr (12, [.int 0, .ref m_world, .ref m_images, .ref m_hasImage, .ref m_tape, .int 0, .ref m_five, .int 0, .int 0, .int 0, .int 0, .int 0, .int 0, .int (-1), .ref m_fresh, .ref m_spokenAt, .ref m_heardAt, .ref m_lastAt, .ref m_answerAt, .int 0, .int 0, .int 0, .long 0, .int 0, .int 0, .ref m_heardNow, .ref m_seenAt, .int 0, .int 0, .int 0, .int 0, .int 0, .ref m_fewest, .ref m_costNow, .ref m_costThen, .ref m_lawsOf, .ref m_heardBy, .int 0, .int 0, .ref m_placesOf, .ref m_sentIn, .int 0, .int 0, .ref m_lostBy, .ref m_many, .ref m_width, .ref m_numbers, .ref m_moving])), (m_world, .inl (cI, 53, .inl (fun _ => 0))), (m_images, .inl (cI, 159, .inl (fun _ => 0))), (m_hasImage, .inl (cZ, 3, .inl g_5))] H := hP
      have hD : va_D A [(m0, .inr (12, [.int 0, .ref m_world, .ref m_images, .ref m_hasImage, .ref m_tape, .int 0, .ref m_five, .int 0, .int 0, .int 0, .int 0, .int 0, .int 0, .int (-1), .ref m_fresh, .ref m_spokenAt, .ref m_heardAt, .ref m_lastAt, .ref m_answerAt, .int 0, .int 0, .int 0, .long 0, .int 0, .int 0, .ref m_heardNow, .ref m_seenAt, .int 0, .int 0, .int 0, .int 0, .int 0, .ref m_fewest, .ref m_costNow, .ref m_costThen, .ref m_lawsOf, .ref m_heardBy, .int 0, .int 0, .ref m_placesOf, .ref m_sentIn, .int 0, .int 0, .ref m_lostBy, .ref m_many, .ref m_width, .ref m_numbers, .ref m_moving])), (m_world, .inl (cI, 53, .inl (fun _ => 0))), (m_images, .inl (cI, 159, .inl (fun _ => 0))), (m_hasImage, .inl (cZ, 3, .inl g_5))] := hD
      refine lv_iconst (v := 0) hx hb dX12_image_53 (by decide) ?_
      have hP9 := hP.sub (ws' := []) [] rfl
      have hD9 := hD.sub (ws' := []) [] (by decide) rfl
      exact W.iret (v := 0) hx hb hr (fun t ht hW => ⟨⟨0, (), rfl, (by decide), by rw [ht]; exact hP9, va_K.moved hW.alike hK, hD9⟩, hS.F ht⟩) hS.2.2 dX12_image_54
    · have hl : lv_has ls 3 [(0, .ref m0), (1, .int 1)] := hl
      refine lv_iconst (v := 0) hx hb dX12_image_15 (by decide) ?_
      refine lv_istore_n (lv' := [(2, .int 0), (0, .ref m0), (1, .int 1)]) hx hb dX12_image_16 rfl hl (by decide) rfl (fun ls hl => ?_)
      refine lp_image2 m0 m_world m_images m_hasImage m_tape m_five m_fresh m_spokenAt m_heardAt m_lastAt m_answerAt m_heardNow m_seenAt m_fewest m_costNow m_costThen m_lawsOf m_heardBy m_placesOf m_sentIn m_lostBy m_many m_width m_numbers m_moving hx hb hts hown hK (fun  H locs ls hP hD hS hl => ?_) 54 0  _ _ _ (Nat.zero_le _) (by omega) hP hD hS (lv_sub hl [0, 1, 2] rfl)
      refine lv_aload_n hx hb dX12_image_46 rfl (lv_at hl 0 rfl) ?_
      refine va_get (D := D) (ci := 12) (v := .ref m_hasImage) (C := RX12) (T := TX12) (N := 48) hx hb hts inlX12 hown hK hP 0 rfl rfl 3 (by decide) (hts _ (inr6 _ (List.mem_of_getElem? (i := 18) rfl))) (fun _ h9 => h9) rfl dX12_image_47 ?_
      refine lv_iload_n hx hb dX12_image_50 rfl (lv_at hl 1 rfl) ?_
      refine lv_iconst (v := 1) hx hb dX12_image_51 (by decide) ?_
      refine va_zast hx hb hK hP hD hS 3 3 rfl rfl (by unfold vp_in; decide) dX12_image_52 (fun H locs hP hD hS => ?_)
      have hP : va_P D vwCl [(m0, .inr (12, [.int 0, .ref m_world, .ref m_images, .ref m_hasImage, .ref m_tape, .int 0, .ref m_five, .int 0, .int 0, .int 0, .int 0, .int 0, .int 0, .int (-1), .ref m_fresh, .ref m_spokenAt, .ref m_heardAt, .ref m_lastAt, .ref m_answerAt, .int 0, .int 0, .int 0, .long 0, .int 0, .int 0, .ref m_heardNow, .ref m_seenAt, .int 0, .int 0, .int 0, .int 0, .int 0, .ref m_fewest, .ref m_costNow, .ref m_costThen, .ref m_lawsOf, .ref m_heardBy, .int 0, .int 0, .ref m_placesOf, .ref m_sentIn, .int 0, .int 0, .ref m_lostBy, .ref m_many, .ref m_width, .ref m_numbers, .ref m_moving])), (m_world, .inl (cI, 53, .inl (fun _ => 0))), (m_images, .inl (cI, 159, .inl (fun _ => 0))), (m_hasImage, .inl (cZ, 3, .inl (upd (fun _ => 0) (1 : Int32).toNatClampNeg (vp_nar .boolean 1))))] H := hP
      have hD : va_D A [(m0, .inr (12, [.int 0, .ref m_world, .ref m_images, .ref m_hasImage, .ref m_tape, .int 0, .ref m_five, .int 0, .int 0, .int 0, .int 0, .int 0, .int 0, .int (-1), .ref m_fresh, .ref m_spokenAt, .ref m_heardAt, .ref m_lastAt, .ref m_answerAt, .int 0, .int 0, .int 0, .long 0, .int 0, .int 0, .ref m_heardNow, .ref m_seenAt, .int 0, .int 0, .int 0, .int 0, .int 0, .ref m_fewest, .ref m_costNow, .ref m_costThen, .ref m_lawsOf, .ref m_heardBy, .int 0, .int 0, .ref m_placesOf, .ref m_sentIn, .int 0, .int 0, .ref m_lostBy, .ref m_many, .ref m_width, .ref m_numbers, .ref m_moving])), (m_world, .inl (cI, 53, .inl (fun _ => 0))), (m_images, .inl (cI, 159, .inl (fun _ => 0))), (m_hasImage, .inl (cZ, 3, .inl (upd (fun _ => 0) (1 : Int32).toNatClampNeg (vp_nar .boolean 1))))] := hD
      obtain ⟨g_6, eg_6⟩ : ∃ v9 : Nat → Int32, (upd (fun _ => 0) (1 : Int32).toNatClampNeg (vp_nar .boolean 1)) = v9 := ⟨_, rfl⟩
      rw [eg_6] at hP hD
      have hP : va_P D vwCl [(m0, .inr (12, [.int 0, .ref m_world, .ref m_images, .ref m_hasImage, .ref m_tape, .int 0, .ref m_five, .int 0, .int 0, .int 0, .int 0, .int 0, .int 0, .int (-1), .ref m_fresh, .ref m_spokenAt, .ref m_heardAt, .ref m_lastAt, .ref m_answerAt, .int 0, .int 0, .int 0, .long 0, .int 0, .int 0, .ref m_heardNow, .ref m_seenAt, .int 0, .int 0, .int 0, .int 0, .int 0, .ref m_fewest, .ref m_costNow, .ref m_costThen, .ref m_lawsOf, .ref m_heardBy, .int 0, .int 0, .ref m_placesOf, .ref m_sentIn, .int 0, .int 0, .ref m_lostBy, .ref m_many, .ref m_width, .ref m_numbers, .ref m_moving])), (m_world, .inl (cI, 53, .inl (fun _ => 0))), (m_images, .inl (cI, 159, .inl (fun _ => 0))), (m_hasImage, .inl (cZ, 3, .inl g_6))] H := hP
      have hD : va_D A [(m0, .inr (12, [.int 0, .ref m_world, .ref m_images, .ref m_hasImage, .ref m_tape, .int 0, .ref m_five, .int 0, .int 0, .int 0, .int 0, .int 0, .int 0, .int (-1), .ref m_fresh, .ref m_spokenAt, .ref m_heardAt, .ref m_lastAt, .ref m_answerAt, .int 0, .int 0, .int 0, .long 0, .int 0, .int 0, .ref m_heardNow, .ref m_seenAt, .int 0, .int 0, .int 0, .int 0, .int 0, .ref m_fewest, .ref m_costNow, .ref m_costThen, .ref m_lawsOf, .ref m_heardBy, .int 0, .int 0, .ref m_placesOf, .ref m_sentIn, .int 0, .int 0, .ref m_lostBy, .ref m_many, .ref m_width, .ref m_numbers, .ref m_moving])), (m_world, .inl (cI, 53, .inl (fun _ => 0))), (m_images, .inl (cI, 159, .inl (fun _ => 0))), (m_hasImage, .inl (cZ, 3, .inl g_6))] := hD
      refine lv_iconst (v := 0) hx hb dX12_image_53 (by decide) ?_
      have hP9 := hP.sub (ws' := []) [] rfl
      have hD9 := hD.sub (ws' := []) [] (by decide) rfl
      exact W.iret (v := 0) hx hb hr (fun t ht hW => ⟨⟨0, (), rfl, (by decide), by rw [ht]; exact hP9, va_K.moved hW.alike hK, hD9⟩, hS.F ht⟩) hS.2.2 dX12_image_54
    · have hl : lv_has ls 3 [(0, .ref m0), (1, .int 2)] := hl
      refine lv_iconst (v := 0) hx hb dX12_image_15 (by decide) ?_
      refine lv_istore_n (lv' := [(2, .int 0), (0, .ref m0), (1, .int 2)]) hx hb dX12_image_16 rfl hl (by decide) rfl (fun ls hl => ?_)
      refine lp_image3 m0 m_world m_images m_hasImage m_tape m_five m_fresh m_spokenAt m_heardAt m_lastAt m_answerAt m_heardNow m_seenAt m_fewest m_costNow m_costThen m_lawsOf m_heardBy m_placesOf m_sentIn m_lostBy m_many m_width m_numbers m_moving hx hb hts hown hK (fun  H locs ls hP hD hS hl => ?_) 54 0  _ _ _ (Nat.zero_le _) (by omega) hP hD hS (lv_sub hl [0, 1, 2] rfl)
      refine lv_aload_n hx hb dX12_image_46 rfl (lv_at hl 0 rfl) ?_
      refine va_get (D := D) (ci := 12) (v := .ref m_hasImage) (C := RX12) (T := TX12) (N := 48) hx hb hts inlX12 hown hK hP 0 rfl rfl 3 (by decide) (hts _ (inr6 _ (List.mem_of_getElem? (i := 18) rfl))) (fun _ h9 => h9) rfl dX12_image_47 ?_
      refine lv_iload_n hx hb dX12_image_50 rfl (lv_at hl 1 rfl) ?_
      refine lv_iconst (v := 1) hx hb dX12_image_51 (by decide) ?_
      refine va_zast hx hb hK hP hD hS 3 3 rfl rfl (by unfold vp_in; decide) dX12_image_52 (fun H locs hP hD hS => ?_)
      have hP : va_P D vwCl [(m0, .inr (12, [.int 0, .ref m_world, .ref m_images, .ref m_hasImage, .ref m_tape, .int 0, .ref m_five, .int 0, .int 0, .int 0, .int 0, .int 0, .int 0, .int (-1), .ref m_fresh, .ref m_spokenAt, .ref m_heardAt, .ref m_lastAt, .ref m_answerAt, .int 0, .int 0, .int 0, .long 0, .int 0, .int 0, .ref m_heardNow, .ref m_seenAt, .int 0, .int 0, .int 0, .int 0, .int 0, .ref m_fewest, .ref m_costNow, .ref m_costThen, .ref m_lawsOf, .ref m_heardBy, .int 0, .int 0, .ref m_placesOf, .ref m_sentIn, .int 0, .int 0, .ref m_lostBy, .ref m_many, .ref m_width, .ref m_numbers, .ref m_moving])), (m_world, .inl (cI, 53, .inl (fun _ => 0))), (m_images, .inl (cI, 159, .inl (fun _ => 0))), (m_hasImage, .inl (cZ, 3, .inl (upd (fun _ => 0) (2 : Int32).toNatClampNeg (vp_nar .boolean 1))))] H := hP
      have hD : va_D A [(m0, .inr (12, [.int 0, .ref m_world, .ref m_images, .ref m_hasImage, .ref m_tape, .int 0, .ref m_five, .int 0, .int 0, .int 0, .int 0, .int 0, .int 0, .int (-1), .ref m_fresh, .ref m_spokenAt, .ref m_heardAt, .ref m_lastAt, .ref m_answerAt, .int 0, .int 0, .int 0, .long 0, .int 0, .int 0, .ref m_heardNow, .ref m_seenAt, .int 0, .int 0, .int 0, .int 0, .int 0, .ref m_fewest, .ref m_costNow, .ref m_costThen, .ref m_lawsOf, .ref m_heardBy, .int 0, .int 0, .ref m_placesOf, .ref m_sentIn, .int 0, .int 0, .ref m_lostBy, .ref m_many, .ref m_width, .ref m_numbers, .ref m_moving])), (m_world, .inl (cI, 53, .inl (fun _ => 0))), (m_images, .inl (cI, 159, .inl (fun _ => 0))), (m_hasImage, .inl (cZ, 3, .inl (upd (fun _ => 0) (2 : Int32).toNatClampNeg (vp_nar .boolean 1))))] := hD
      obtain ⟨g_7, eg_7⟩ : ∃ v9 : Nat → Int32, (upd (fun _ => 0) (2 : Int32).toNatClampNeg (vp_nar .boolean 1)) = v9 := ⟨_, rfl⟩
      rw [eg_7] at hP hD
      have hP : va_P D vwCl [(m0, .inr (12, [.int 0, .ref m_world, .ref m_images, .ref m_hasImage, .ref m_tape, .int 0, .ref m_five, .int 0, .int 0, .int 0, .int 0, .int 0, .int 0, .int (-1), .ref m_fresh, .ref m_spokenAt, .ref m_heardAt, .ref m_lastAt, .ref m_answerAt, .int 0, .int 0, .int 0, .long 0, .int 0, .int 0, .ref m_heardNow, .ref m_seenAt, .int 0, .int 0, .int 0, .int 0, .int 0, .ref m_fewest, .ref m_costNow, .ref m_costThen, .ref m_lawsOf, .ref m_heardBy, .int 0, .int 0, .ref m_placesOf, .ref m_sentIn, .int 0, .int 0, .ref m_lostBy, .ref m_many, .ref m_width, .ref m_numbers, .ref m_moving])), (m_world, .inl (cI, 53, .inl (fun _ => 0))), (m_images, .inl (cI, 159, .inl (fun _ => 0))), (m_hasImage, .inl (cZ, 3, .inl g_7))] H := hP
      have hD : va_D A [(m0, .inr (12, [.int 0, .ref m_world, .ref m_images, .ref m_hasImage, .ref m_tape, .int 0, .ref m_five, .int 0, .int 0, .int 0, .int 0, .int 0, .int 0, .int (-1), .ref m_fresh, .ref m_spokenAt, .ref m_heardAt, .ref m_lastAt, .ref m_answerAt, .int 0, .int 0, .int 0, .long 0, .int 0, .int 0, .ref m_heardNow, .ref m_seenAt, .int 0, .int 0, .int 0, .int 0, .int 0, .ref m_fewest, .ref m_costNow, .ref m_costThen, .ref m_lawsOf, .ref m_heardBy, .int 0, .int 0, .ref m_placesOf, .ref m_sentIn, .int 0, .int 0, .ref m_lostBy, .ref m_many, .ref m_width, .ref m_numbers, .ref m_moving])), (m_world, .inl (cI, 53, .inl (fun _ => 0))), (m_images, .inl (cI, 159, .inl (fun _ => 0))), (m_hasImage, .inl (cZ, 3, .inl g_7))] := hD
      refine lv_iconst (v := 0) hx hb dX12_image_53 (by decide) ?_
      have hP9 := hP.sub (ws' := []) [] rfl
      have hD9 := hD.sub (ws' := []) [] (by decide) rfl
      exact W.iret (v := 0) hx hb hr (fun t ht hW => ⟨⟨0, (), rfl, (by decide), by rw [ht]; exact hP9, va_K.moved hW.alike hK, hD9⟩, hS.F ht⟩) hS.2.2 dX12_image_54

set_option maxHeartbeats 4000000 in
set_option maxRecDepth 100000 in
theorem lp_row4 {p : Program} {l : Launch} {e : Env} {R : Room} {s : State} {m : MethodId} {args : Array Value} {below : List Frame} {meth : Method} {c : Code} {cells slots : Nat} {Q : State → Prop} {D : va_G} {cB cI cJ cZ cS cT : ClassId} {A : Nat → Prop} {H0 : Heap} (m0 : Nat) (m_world : Nat) (m_images : Nat) (m_hasImage : Nat) (m_tape : Nat) (m_five : Nat) (m_fresh : Nat) (m_spokenAt : Nat) (m_heardAt : Nat) (m_lastAt : Nat) (m_answerAt : Nat) (m_heardNow : Nat) (m_seenAt : Nat) (m_fewest : Nat) (m_costNow : Nat) (m_costThen : Nat) (m_lawsOf : Nat) (m_heardBy : Nat) (m_placesOf : Nat) (m_sentIn : Nat) (m_lostBy : Nat) (m_many : Nat) (m_width : Nat) (m_numbers : Nat) (m_moving : Nat) (a2 : Int32) (a3 : Int32) (g_10 : Nat → Int32) (g_11 : Nat → Int32) (hx : p.tables.exec = Jvm.exec) (hb : c.code = cX12_row) (hts : ∀ w ∈ wsL_law, w.before args s = true) (hown : s.vm.findClass RX12 = some m.cls) (hK : va_K D vwCl (tyL cB cI cJ cZ cS cT) s) (exit : ∀  (H : Heap) (locs : List Loc) (ls : Array Slot), va_P D vwCl [(m0, .inr (12, [.int 0, .ref m_world, .ref m_images, .ref m_hasImage, .ref m_tape, .int 0, .ref m_five, .int 0, .int 0, .int 0, .int 0, .int 0, .int 0, .int (-1), .ref m_fresh, .ref m_spokenAt, .ref m_heardAt, .ref m_lastAt, .ref m_answerAt, .int 0, .int 0, .int 0, .long 0, .int 0, .int 0, .ref m_heardNow, .ref m_seenAt, .int 0, .int 0, .int 0, .int 0, .int 0, .ref m_fewest, .ref m_costNow, .ref m_costThen, .ref m_lawsOf, .ref m_heardBy, .int 0, .int 0, .ref m_placesOf, .ref m_sentIn, .int 0, .int 0, .ref m_lostBy, .ref m_many, .ref m_width, .ref m_numbers, .ref m_moving])), (m_many, .inl (cI, 4, .inl g_10)), (m_width, .inl (cI, 4, .inl g_11)), (m_numbers, .inl (cJ, 240, .inr (.inl (fun _ => 0))))] H → va_D A [(m0, .inr (12, [.int 0, .ref m_world, .ref m_images, .ref m_hasImage, .ref m_tape, .int 0, .ref m_five, .int 0, .int 0, .int 0, .int 0, .int 0, .int 0, .int (-1), .ref m_fresh, .ref m_spokenAt, .ref m_heardAt, .ref m_lastAt, .ref m_answerAt, .int 0, .int 0, .int 0, .long 0, .int 0, .int 0, .ref m_heardNow, .ref m_seenAt, .int 0, .int 0, .int 0, .int 0, .int 0, .ref m_fewest, .ref m_costNow, .ref m_costThen, .ref m_lawsOf, .ref m_heardBy, .int 0, .int 0, .ref m_placesOf, .ref m_sentIn, .int 0, .int 0, .ref m_lostBy, .ref m_many, .ref m_width, .ref m_numbers, .ref m_moving])), (m_many, .inl (cI, 4, .inl g_10)), (m_width, .inl (cI, 4, .inl g_11)), (m_numbers, .inl (cJ, 240, .inr (.inl (fun _ => 0))))] → va_S A H0 H locs → lv_has ls 5 [(0, .ref m0), (1, .int 0), (2, .int a2), (3, .int a3)] → W p l e R s m args below meth c H locs cells slots Q (F0 m 78 ls [])) :
    ∀ (N i : Nat)  (H : Heap) (locs : List Loc) (ls : Array Slot), i ≤ 60 → 60 - i < N → va_P D vwCl [(m0, .inr (12, [.int 0, .ref m_world, .ref m_images, .ref m_hasImage, .ref m_tape, .int 0, .ref m_five, .int 0, .int 0, .int 0, .int 0, .int 0, .int 0, .int (-1), .ref m_fresh, .ref m_spokenAt, .ref m_heardAt, .ref m_lastAt, .ref m_answerAt, .int 0, .int 0, .int 0, .long 0, .int 0, .int 0, .ref m_heardNow, .ref m_seenAt, .int 0, .int 0, .int 0, .int 0, .int 0, .ref m_fewest, .ref m_costNow, .ref m_costThen, .ref m_lawsOf, .ref m_heardBy, .int 0, .int 0, .ref m_placesOf, .ref m_sentIn, .int 0, .int 0, .ref m_lostBy, .ref m_many, .ref m_width, .ref m_numbers, .ref m_moving])), (m_many, .inl (cI, 4, .inl g_10)), (m_width, .inl (cI, 4, .inl g_11)), (m_numbers, .inl (cJ, 240, .inr (.inl (fun _ => 0))))] H → va_D A [(m0, .inr (12, [.int 0, .ref m_world, .ref m_images, .ref m_hasImage, .ref m_tape, .int 0, .ref m_five, .int 0, .int 0, .int 0, .int 0, .int 0, .int 0, .int (-1), .ref m_fresh, .ref m_spokenAt, .ref m_heardAt, .ref m_lastAt, .ref m_answerAt, .int 0, .int 0, .int 0, .long 0, .int 0, .int 0, .ref m_heardNow, .ref m_seenAt, .int 0, .int 0, .int 0, .int 0, .int 0, .ref m_fewest, .ref m_costNow, .ref m_costThen, .ref m_lawsOf, .ref m_heardBy, .int 0, .int 0, .ref m_placesOf, .ref m_sentIn, .int 0, .int 0, .ref m_lostBy, .ref m_many, .ref m_width, .ref m_numbers, .ref m_moving])), (m_many, .inl (cI, 4, .inl g_10)), (m_width, .inl (cI, 4, .inl g_11)), (m_numbers, .inl (cJ, 240, .inr (.inl (fun _ => 0))))] → va_S A H0 H locs → lv_has ls 5 [(4, .int (nI i)), (0, .ref m0), (1, .int 0), (2, .int a2), (3, .int a3)] → W p l e R s m args below meth c H locs cells slots Q (F0 m 52 ls []) := by
  intro N
  induction N with
  | zero =>
    intro i  H locs ls h1 h2
    omega
  | succ N ih =>
    intro i  H locs ls hi hN2 hP hD hS hl
    have hi0 : (nI i).toInt = (i : Int) := nI_toInt (by omega)
    refine lv_iload hx hb dX12_row_52 (lv_at hl 0 rfl) ?_
    refine lv_bipush (v := 60) hx hb dX12_row_54 (by decide) ?_
    refine lv_icmp_ge (tgt := 78) hx hb dX12_row_56 (by decide) (fun c_1 => ?_) (fun c_1 => ?_)
    · have c_1 : 60 ≤ ((nI i)).toInt := ci_ge_t c_1
      exact exit  _ _ _ hP hD hS (lv_sub hl [1, 2, 3, 4] rfl)
    · have c_1 : ((nI i)).toInt < 60 := ci_ge_f c_1
      refine lv_aload_n hx hb dX12_row_59 rfl (lv_at hl 1 rfl) ?_
      refine va_get (D := D) (ci := 12) (v := .ref m_numbers) (C := RX12) (T := TX12) (N := 48) hx hb hts inlX12 hown hK hP 0 rfl rfl 46 (by decide) (hts _ (inr7 _ (List.mem_of_getElem? (i := 16) rfl))) (fun _ h9 => h9) rfl dX12_row_60 ?_
      refine lv_bipush (v := 60) hx hb dX12_row_63 (by decide) ?_
      refine lv_iload_n hx hb dX12_row_65 rfl (lv_at hl 2 rfl) ?_
      refine z_imul (v := 0) hx hb dX12_row_66 (by decide) ?_
      refine lv_iload hx hb dX12_row_67 (lv_at hl 0 rfl) ?_
      obtain ⟨t_2, et_2⟩ : ∃ v9 : Int32, 0 + (nI i) = v9 := ⟨_, rfl⟩
      refine z_iadd (v := t_2) hx hb dX12_row_69 et_2 ?_
      have ft_2 : t_2.toInt = 0 + ((nI i)).toInt := addT (a := 0) (b := ((nI i)).toInt) (by decide) rfl et_2 (by omega) (by omega)
      refine lv_lconst (v := 0) hx hb dX12_row_70 (by decide) ?_
      refine va_last hx hb hK hP hD hS 3 2 rfl rfl (vin_nat (by omega) (by omega)) dX12_row_71 (fun H locs hP hD hS => ?_)
      rw [updZL] at hP hD
      have hP : va_P D vwCl [(m0, .inr (12, [.int 0, .ref m_world, .ref m_images, .ref m_hasImage, .ref m_tape, .int 0, .ref m_five, .int 0, .int 0, .int 0, .int 0, .int 0, .int 0, .int (-1), .ref m_fresh, .ref m_spokenAt, .ref m_heardAt, .ref m_lastAt, .ref m_answerAt, .int 0, .int 0, .int 0, .long 0, .int 0, .int 0, .ref m_heardNow, .ref m_seenAt, .int 0, .int 0, .int 0, .int 0, .int 0, .ref m_fewest, .ref m_costNow, .ref m_costThen, .ref m_lawsOf, .ref m_heardBy, .int 0, .int 0, .ref m_placesOf, .ref m_sentIn, .int 0, .int 0, .ref m_lostBy, .ref m_many, .ref m_width, .ref m_numbers, .ref m_moving])), (m_many, .inl (cI, 4, .inl g_10)), (m_width, .inl (cI, 4, .inl g_11)), (m_numbers, .inl (cJ, 240, .inr (.inl (fun _ => 0))))] H := hP
      have hD : va_D A [(m0, .inr (12, [.int 0, .ref m_world, .ref m_images, .ref m_hasImage, .ref m_tape, .int 0, .ref m_five, .int 0, .int 0, .int 0, .int 0, .int 0, .int 0, .int (-1), .ref m_fresh, .ref m_spokenAt, .ref m_heardAt, .ref m_lastAt, .ref m_answerAt, .int 0, .int 0, .int 0, .long 0, .int 0, .int 0, .ref m_heardNow, .ref m_seenAt, .int 0, .int 0, .int 0, .int 0, .int 0, .ref m_fewest, .ref m_costNow, .ref m_costThen, .ref m_lawsOf, .ref m_heardBy, .int 0, .int 0, .ref m_placesOf, .ref m_sentIn, .int 0, .int 0, .ref m_lostBy, .ref m_many, .ref m_width, .ref m_numbers, .ref m_moving])), (m_many, .inl (cI, 4, .inl g_10)), (m_width, .inl (cI, 4, .inl g_11)), (m_numbers, .inl (cJ, 240, .inr (.inl (fun _ => 0))))] := hD
      obtain ⟨t_4, et_4⟩ : ∃ v9 : Int32, (nI i) + 1 = v9 := ⟨_, rfl⟩
      refine lv_iinc (v := t_4) (lv' := [(4, .int t_4), (0, .ref m0), (1, .int 0), (2, .int a2), (3, .int a3)]) hx hb dX12_row_72 hl (k := 0) rfl (by rw [← et_4]; rfl) (by decide) rfl (fun ls hl => ?_)
      refine lv_goto (tgt := 52) hx hb dX12_row_75 (by decide) ?_
      rw [nI_1] at et_4
      subst et_4
      exact ih (i + 1)  _ _ _ (by omega) (by omega) hP hD hS (lv_sub hl [0, 1, 2, 3, 4] rfl)

set_option maxHeartbeats 4000000 in
set_option maxRecDepth 100000 in
theorem lp_row5 {p : Program} {l : Launch} {e : Env} {R : Room} {s : State} {m : MethodId} {args : Array Value} {below : List Frame} {meth : Method} {c : Code} {cells slots : Nat} {Q : State → Prop} {D : va_G} {cB cI cJ cZ cS cT : ClassId} {A : Nat → Prop} {H0 : Heap} (m0 : Nat) (m_world : Nat) (m_images : Nat) (m_hasImage : Nat) (m_tape : Nat) (m_five : Nat) (m_fresh : Nat) (m_spokenAt : Nat) (m_heardAt : Nat) (m_lastAt : Nat) (m_answerAt : Nat) (m_heardNow : Nat) (m_seenAt : Nat) (m_fewest : Nat) (m_costNow : Nat) (m_costThen : Nat) (m_lawsOf : Nat) (m_heardBy : Nat) (m_placesOf : Nat) (m_sentIn : Nat) (m_lostBy : Nat) (m_many : Nat) (m_width : Nat) (m_numbers : Nat) (m_moving : Nat) (a2 : Int32) (a3 : Int32) (g_12 : Nat → Int32) (g_13 : Nat → Int32) (hx : p.tables.exec = Jvm.exec) (hb : c.code = cX12_row) (hts : ∀ w ∈ wsL_law, w.before args s = true) (hown : s.vm.findClass RX12 = some m.cls) (hK : va_K D vwCl (tyL cB cI cJ cZ cS cT) s) (exit : ∀  (H : Heap) (locs : List Loc) (ls : Array Slot), va_P D vwCl [(m0, .inr (12, [.int 0, .ref m_world, .ref m_images, .ref m_hasImage, .ref m_tape, .int 0, .ref m_five, .int 0, .int 0, .int 0, .int 0, .int 0, .int 0, .int (-1), .ref m_fresh, .ref m_spokenAt, .ref m_heardAt, .ref m_lastAt, .ref m_answerAt, .int 0, .int 0, .int 0, .long 0, .int 0, .int 0, .ref m_heardNow, .ref m_seenAt, .int 0, .int 0, .int 0, .int 0, .int 0, .ref m_fewest, .ref m_costNow, .ref m_costThen, .ref m_lawsOf, .ref m_heardBy, .int 0, .int 0, .ref m_placesOf, .ref m_sentIn, .int 0, .int 0, .ref m_lostBy, .ref m_many, .ref m_width, .ref m_numbers, .ref m_moving])), (m_many, .inl (cI, 4, .inl g_12)), (m_width, .inl (cI, 4, .inl g_13)), (m_numbers, .inl (cJ, 240, .inr (.inl (fun _ => 0))))] H → va_D A [(m0, .inr (12, [.int 0, .ref m_world, .ref m_images, .ref m_hasImage, .ref m_tape, .int 0, .ref m_five, .int 0, .int 0, .int 0, .int 0, .int 0, .int 0, .int (-1), .ref m_fresh, .ref m_spokenAt, .ref m_heardAt, .ref m_lastAt, .ref m_answerAt, .int 0, .int 0, .int 0, .long 0, .int 0, .int 0, .ref m_heardNow, .ref m_seenAt, .int 0, .int 0, .int 0, .int 0, .int 0, .ref m_fewest, .ref m_costNow, .ref m_costThen, .ref m_lawsOf, .ref m_heardBy, .int 0, .int 0, .ref m_placesOf, .ref m_sentIn, .int 0, .int 0, .ref m_lostBy, .ref m_many, .ref m_width, .ref m_numbers, .ref m_moving])), (m_many, .inl (cI, 4, .inl g_12)), (m_width, .inl (cI, 4, .inl g_13)), (m_numbers, .inl (cJ, 240, .inr (.inl (fun _ => 0))))] → va_S A H0 H locs → lv_has ls 5 [(0, .ref m0), (1, .int 1), (2, .int a2), (3, .int a3)] → W p l e R s m args below meth c H locs cells slots Q (F0 m 78 ls [])) :
    ∀ (N i : Nat)  (H : Heap) (locs : List Loc) (ls : Array Slot), i ≤ 60 → 60 - i < N → va_P D vwCl [(m0, .inr (12, [.int 0, .ref m_world, .ref m_images, .ref m_hasImage, .ref m_tape, .int 0, .ref m_five, .int 0, .int 0, .int 0, .int 0, .int 0, .int 0, .int (-1), .ref m_fresh, .ref m_spokenAt, .ref m_heardAt, .ref m_lastAt, .ref m_answerAt, .int 0, .int 0, .int 0, .long 0, .int 0, .int 0, .ref m_heardNow, .ref m_seenAt, .int 0, .int 0, .int 0, .int 0, .int 0, .ref m_fewest, .ref m_costNow, .ref m_costThen, .ref m_lawsOf, .ref m_heardBy, .int 0, .int 0, .ref m_placesOf, .ref m_sentIn, .int 0, .int 0, .ref m_lostBy, .ref m_many, .ref m_width, .ref m_numbers, .ref m_moving])), (m_many, .inl (cI, 4, .inl g_12)), (m_width, .inl (cI, 4, .inl g_13)), (m_numbers, .inl (cJ, 240, .inr (.inl (fun _ => 0))))] H → va_D A [(m0, .inr (12, [.int 0, .ref m_world, .ref m_images, .ref m_hasImage, .ref m_tape, .int 0, .ref m_five, .int 0, .int 0, .int 0, .int 0, .int 0, .int 0, .int (-1), .ref m_fresh, .ref m_spokenAt, .ref m_heardAt, .ref m_lastAt, .ref m_answerAt, .int 0, .int 0, .int 0, .long 0, .int 0, .int 0, .ref m_heardNow, .ref m_seenAt, .int 0, .int 0, .int 0, .int 0, .int 0, .ref m_fewest, .ref m_costNow, .ref m_costThen, .ref m_lawsOf, .ref m_heardBy, .int 0, .int 0, .ref m_placesOf, .ref m_sentIn, .int 0, .int 0, .ref m_lostBy, .ref m_many, .ref m_width, .ref m_numbers, .ref m_moving])), (m_many, .inl (cI, 4, .inl g_12)), (m_width, .inl (cI, 4, .inl g_13)), (m_numbers, .inl (cJ, 240, .inr (.inl (fun _ => 0))))] → va_S A H0 H locs → lv_has ls 5 [(4, .int (nI i)), (0, .ref m0), (1, .int 1), (2, .int a2), (3, .int a3)] → W p l e R s m args below meth c H locs cells slots Q (F0 m 52 ls []) := by
  intro N
  induction N with
  | zero =>
    intro i  H locs ls h1 h2
    omega
  | succ N ih =>
    intro i  H locs ls hi hN2 hP hD hS hl
    have hi0 : (nI i).toInt = (i : Int) := nI_toInt (by omega)
    refine lv_iload hx hb dX12_row_52 (lv_at hl 0 rfl) ?_
    refine lv_bipush (v := 60) hx hb dX12_row_54 (by decide) ?_
    refine lv_icmp_ge (tgt := 78) hx hb dX12_row_56 (by decide) (fun c_1 => ?_) (fun c_1 => ?_)
    · have c_1 : 60 ≤ ((nI i)).toInt := ci_ge_t c_1
      exact exit  _ _ _ hP hD hS (lv_sub hl [1, 2, 3, 4] rfl)
    · have c_1 : ((nI i)).toInt < 60 := ci_ge_f c_1
      refine lv_aload_n hx hb dX12_row_59 rfl (lv_at hl 1 rfl) ?_
      refine va_get (D := D) (ci := 12) (v := .ref m_numbers) (C := RX12) (T := TX12) (N := 48) hx hb hts inlX12 hown hK hP 0 rfl rfl 46 (by decide) (hts _ (inr7 _ (List.mem_of_getElem? (i := 16) rfl))) (fun _ h9 => h9) rfl dX12_row_60 ?_
      refine lv_bipush (v := 60) hx hb dX12_row_63 (by decide) ?_
      refine lv_iload_n hx hb dX12_row_65 rfl (lv_at hl 2 rfl) ?_
      refine z_imul (v := 60) hx hb dX12_row_66 (by decide) ?_
      refine lv_iload hx hb dX12_row_67 (lv_at hl 0 rfl) ?_
      obtain ⟨t_2, et_2⟩ : ∃ v9 : Int32, 60 + (nI i) = v9 := ⟨_, rfl⟩
      refine z_iadd (v := t_2) hx hb dX12_row_69 et_2 ?_
      have ft_2 : t_2.toInt = 60 + ((nI i)).toInt := addT (a := 60) (b := ((nI i)).toInt) (by decide) rfl et_2 (by omega) (by omega)
      refine lv_lconst (v := 0) hx hb dX12_row_70 (by decide) ?_
      refine va_last hx hb hK hP hD hS 3 2 rfl rfl (vin_nat (by omega) (by omega)) dX12_row_71 (fun H locs hP hD hS => ?_)
      rw [updZL] at hP hD
      have hP : va_P D vwCl [(m0, .inr (12, [.int 0, .ref m_world, .ref m_images, .ref m_hasImage, .ref m_tape, .int 0, .ref m_five, .int 0, .int 0, .int 0, .int 0, .int 0, .int 0, .int (-1), .ref m_fresh, .ref m_spokenAt, .ref m_heardAt, .ref m_lastAt, .ref m_answerAt, .int 0, .int 0, .int 0, .long 0, .int 0, .int 0, .ref m_heardNow, .ref m_seenAt, .int 0, .int 0, .int 0, .int 0, .int 0, .ref m_fewest, .ref m_costNow, .ref m_costThen, .ref m_lawsOf, .ref m_heardBy, .int 0, .int 0, .ref m_placesOf, .ref m_sentIn, .int 0, .int 0, .ref m_lostBy, .ref m_many, .ref m_width, .ref m_numbers, .ref m_moving])), (m_many, .inl (cI, 4, .inl g_12)), (m_width, .inl (cI, 4, .inl g_13)), (m_numbers, .inl (cJ, 240, .inr (.inl (fun _ => 0))))] H := hP
      have hD : va_D A [(m0, .inr (12, [.int 0, .ref m_world, .ref m_images, .ref m_hasImage, .ref m_tape, .int 0, .ref m_five, .int 0, .int 0, .int 0, .int 0, .int 0, .int 0, .int (-1), .ref m_fresh, .ref m_spokenAt, .ref m_heardAt, .ref m_lastAt, .ref m_answerAt, .int 0, .int 0, .int 0, .long 0, .int 0, .int 0, .ref m_heardNow, .ref m_seenAt, .int 0, .int 0, .int 0, .int 0, .int 0, .ref m_fewest, .ref m_costNow, .ref m_costThen, .ref m_lawsOf, .ref m_heardBy, .int 0, .int 0, .ref m_placesOf, .ref m_sentIn, .int 0, .int 0, .ref m_lostBy, .ref m_many, .ref m_width, .ref m_numbers, .ref m_moving])), (m_many, .inl (cI, 4, .inl g_12)), (m_width, .inl (cI, 4, .inl g_13)), (m_numbers, .inl (cJ, 240, .inr (.inl (fun _ => 0))))] := hD
      obtain ⟨t_4, et_4⟩ : ∃ v9 : Int32, (nI i) + 1 = v9 := ⟨_, rfl⟩
      refine lv_iinc (v := t_4) (lv' := [(4, .int t_4), (0, .ref m0), (1, .int 1), (2, .int a2), (3, .int a3)]) hx hb dX12_row_72 hl (k := 0) rfl (by rw [← et_4]; rfl) (by decide) rfl (fun ls hl => ?_)
      refine lv_goto (tgt := 52) hx hb dX12_row_75 (by decide) ?_
      rw [nI_1] at et_4
      subst et_4
      exact ih (i + 1)  _ _ _ (by omega) (by omega) hP hD hS (lv_sub hl [0, 1, 2, 3, 4] rfl)

set_option maxHeartbeats 4000000 in
set_option maxRecDepth 100000 in
theorem lp_row6 {p : Program} {l : Launch} {e : Env} {R : Room} {s : State} {m : MethodId} {args : Array Value} {below : List Frame} {meth : Method} {c : Code} {cells slots : Nat} {Q : State → Prop} {D : va_G} {cB cI cJ cZ cS cT : ClassId} {A : Nat → Prop} {H0 : Heap} (m0 : Nat) (m_world : Nat) (m_images : Nat) (m_hasImage : Nat) (m_tape : Nat) (m_five : Nat) (m_fresh : Nat) (m_spokenAt : Nat) (m_heardAt : Nat) (m_lastAt : Nat) (m_answerAt : Nat) (m_heardNow : Nat) (m_seenAt : Nat) (m_fewest : Nat) (m_costNow : Nat) (m_costThen : Nat) (m_lawsOf : Nat) (m_heardBy : Nat) (m_placesOf : Nat) (m_sentIn : Nat) (m_lostBy : Nat) (m_many : Nat) (m_width : Nat) (m_numbers : Nat) (m_moving : Nat) (a2 : Int32) (a3 : Int32) (g_14 : Nat → Int32) (g_15 : Nat → Int32) (hx : p.tables.exec = Jvm.exec) (hb : c.code = cX12_row) (hts : ∀ w ∈ wsL_law, w.before args s = true) (hown : s.vm.findClass RX12 = some m.cls) (hK : va_K D vwCl (tyL cB cI cJ cZ cS cT) s) (exit : ∀  (H : Heap) (locs : List Loc) (ls : Array Slot), va_P D vwCl [(m0, .inr (12, [.int 0, .ref m_world, .ref m_images, .ref m_hasImage, .ref m_tape, .int 0, .ref m_five, .int 0, .int 0, .int 0, .int 0, .int 0, .int 0, .int (-1), .ref m_fresh, .ref m_spokenAt, .ref m_heardAt, .ref m_lastAt, .ref m_answerAt, .int 0, .int 0, .int 0, .long 0, .int 0, .int 0, .ref m_heardNow, .ref m_seenAt, .int 0, .int 0, .int 0, .int 0, .int 0, .ref m_fewest, .ref m_costNow, .ref m_costThen, .ref m_lawsOf, .ref m_heardBy, .int 0, .int 0, .ref m_placesOf, .ref m_sentIn, .int 0, .int 0, .ref m_lostBy, .ref m_many, .ref m_width, .ref m_numbers, .ref m_moving])), (m_many, .inl (cI, 4, .inl g_14)), (m_width, .inl (cI, 4, .inl g_15)), (m_numbers, .inl (cJ, 240, .inr (.inl (fun _ => 0))))] H → va_D A [(m0, .inr (12, [.int 0, .ref m_world, .ref m_images, .ref m_hasImage, .ref m_tape, .int 0, .ref m_five, .int 0, .int 0, .int 0, .int 0, .int 0, .int 0, .int (-1), .ref m_fresh, .ref m_spokenAt, .ref m_heardAt, .ref m_lastAt, .ref m_answerAt, .int 0, .int 0, .int 0, .long 0, .int 0, .int 0, .ref m_heardNow, .ref m_seenAt, .int 0, .int 0, .int 0, .int 0, .int 0, .ref m_fewest, .ref m_costNow, .ref m_costThen, .ref m_lawsOf, .ref m_heardBy, .int 0, .int 0, .ref m_placesOf, .ref m_sentIn, .int 0, .int 0, .ref m_lostBy, .ref m_many, .ref m_width, .ref m_numbers, .ref m_moving])), (m_many, .inl (cI, 4, .inl g_14)), (m_width, .inl (cI, 4, .inl g_15)), (m_numbers, .inl (cJ, 240, .inr (.inl (fun _ => 0))))] → va_S A H0 H locs → lv_has ls 5 [(0, .ref m0), (1, .int 2), (2, .int a2), (3, .int a3)] → W p l e R s m args below meth c H locs cells slots Q (F0 m 78 ls [])) :
    ∀ (N i : Nat)  (H : Heap) (locs : List Loc) (ls : Array Slot), i ≤ 60 → 60 - i < N → va_P D vwCl [(m0, .inr (12, [.int 0, .ref m_world, .ref m_images, .ref m_hasImage, .ref m_tape, .int 0, .ref m_five, .int 0, .int 0, .int 0, .int 0, .int 0, .int 0, .int (-1), .ref m_fresh, .ref m_spokenAt, .ref m_heardAt, .ref m_lastAt, .ref m_answerAt, .int 0, .int 0, .int 0, .long 0, .int 0, .int 0, .ref m_heardNow, .ref m_seenAt, .int 0, .int 0, .int 0, .int 0, .int 0, .ref m_fewest, .ref m_costNow, .ref m_costThen, .ref m_lawsOf, .ref m_heardBy, .int 0, .int 0, .ref m_placesOf, .ref m_sentIn, .int 0, .int 0, .ref m_lostBy, .ref m_many, .ref m_width, .ref m_numbers, .ref m_moving])), (m_many, .inl (cI, 4, .inl g_14)), (m_width, .inl (cI, 4, .inl g_15)), (m_numbers, .inl (cJ, 240, .inr (.inl (fun _ => 0))))] H → va_D A [(m0, .inr (12, [.int 0, .ref m_world, .ref m_images, .ref m_hasImage, .ref m_tape, .int 0, .ref m_five, .int 0, .int 0, .int 0, .int 0, .int 0, .int 0, .int (-1), .ref m_fresh, .ref m_spokenAt, .ref m_heardAt, .ref m_lastAt, .ref m_answerAt, .int 0, .int 0, .int 0, .long 0, .int 0, .int 0, .ref m_heardNow, .ref m_seenAt, .int 0, .int 0, .int 0, .int 0, .int 0, .ref m_fewest, .ref m_costNow, .ref m_costThen, .ref m_lawsOf, .ref m_heardBy, .int 0, .int 0, .ref m_placesOf, .ref m_sentIn, .int 0, .int 0, .ref m_lostBy, .ref m_many, .ref m_width, .ref m_numbers, .ref m_moving])), (m_many, .inl (cI, 4, .inl g_14)), (m_width, .inl (cI, 4, .inl g_15)), (m_numbers, .inl (cJ, 240, .inr (.inl (fun _ => 0))))] → va_S A H0 H locs → lv_has ls 5 [(4, .int (nI i)), (0, .ref m0), (1, .int 2), (2, .int a2), (3, .int a3)] → W p l e R s m args below meth c H locs cells slots Q (F0 m 52 ls []) := by
  intro N
  induction N with
  | zero =>
    intro i  H locs ls h1 h2
    omega
  | succ N ih =>
    intro i  H locs ls hi hN2 hP hD hS hl
    have hi0 : (nI i).toInt = (i : Int) := nI_toInt (by omega)
    refine lv_iload hx hb dX12_row_52 (lv_at hl 0 rfl) ?_
    refine lv_bipush (v := 60) hx hb dX12_row_54 (by decide) ?_
    refine lv_icmp_ge (tgt := 78) hx hb dX12_row_56 (by decide) (fun c_1 => ?_) (fun c_1 => ?_)
    · have c_1 : 60 ≤ ((nI i)).toInt := ci_ge_t c_1
      exact exit  _ _ _ hP hD hS (lv_sub hl [1, 2, 3, 4] rfl)
    · have c_1 : ((nI i)).toInt < 60 := ci_ge_f c_1
      refine lv_aload_n hx hb dX12_row_59 rfl (lv_at hl 1 rfl) ?_
      refine va_get (D := D) (ci := 12) (v := .ref m_numbers) (C := RX12) (T := TX12) (N := 48) hx hb hts inlX12 hown hK hP 0 rfl rfl 46 (by decide) (hts _ (inr7 _ (List.mem_of_getElem? (i := 16) rfl))) (fun _ h9 => h9) rfl dX12_row_60 ?_
      refine lv_bipush (v := 60) hx hb dX12_row_63 (by decide) ?_
      refine lv_iload_n hx hb dX12_row_65 rfl (lv_at hl 2 rfl) ?_
      refine z_imul (v := 120) hx hb dX12_row_66 (by decide) ?_
      refine lv_iload hx hb dX12_row_67 (lv_at hl 0 rfl) ?_
      obtain ⟨t_2, et_2⟩ : ∃ v9 : Int32, 120 + (nI i) = v9 := ⟨_, rfl⟩
      refine z_iadd (v := t_2) hx hb dX12_row_69 et_2 ?_
      have ft_2 : t_2.toInt = 120 + ((nI i)).toInt := addT (a := 120) (b := ((nI i)).toInt) (by decide) rfl et_2 (by omega) (by omega)
      refine lv_lconst (v := 0) hx hb dX12_row_70 (by decide) ?_
      refine va_last hx hb hK hP hD hS 3 2 rfl rfl (vin_nat (by omega) (by omega)) dX12_row_71 (fun H locs hP hD hS => ?_)
      rw [updZL] at hP hD
      have hP : va_P D vwCl [(m0, .inr (12, [.int 0, .ref m_world, .ref m_images, .ref m_hasImage, .ref m_tape, .int 0, .ref m_five, .int 0, .int 0, .int 0, .int 0, .int 0, .int 0, .int (-1), .ref m_fresh, .ref m_spokenAt, .ref m_heardAt, .ref m_lastAt, .ref m_answerAt, .int 0, .int 0, .int 0, .long 0, .int 0, .int 0, .ref m_heardNow, .ref m_seenAt, .int 0, .int 0, .int 0, .int 0, .int 0, .ref m_fewest, .ref m_costNow, .ref m_costThen, .ref m_lawsOf, .ref m_heardBy, .int 0, .int 0, .ref m_placesOf, .ref m_sentIn, .int 0, .int 0, .ref m_lostBy, .ref m_many, .ref m_width, .ref m_numbers, .ref m_moving])), (m_many, .inl (cI, 4, .inl g_14)), (m_width, .inl (cI, 4, .inl g_15)), (m_numbers, .inl (cJ, 240, .inr (.inl (fun _ => 0))))] H := hP
      have hD : va_D A [(m0, .inr (12, [.int 0, .ref m_world, .ref m_images, .ref m_hasImage, .ref m_tape, .int 0, .ref m_five, .int 0, .int 0, .int 0, .int 0, .int 0, .int 0, .int (-1), .ref m_fresh, .ref m_spokenAt, .ref m_heardAt, .ref m_lastAt, .ref m_answerAt, .int 0, .int 0, .int 0, .long 0, .int 0, .int 0, .ref m_heardNow, .ref m_seenAt, .int 0, .int 0, .int 0, .int 0, .int 0, .ref m_fewest, .ref m_costNow, .ref m_costThen, .ref m_lawsOf, .ref m_heardBy, .int 0, .int 0, .ref m_placesOf, .ref m_sentIn, .int 0, .int 0, .ref m_lostBy, .ref m_many, .ref m_width, .ref m_numbers, .ref m_moving])), (m_many, .inl (cI, 4, .inl g_14)), (m_width, .inl (cI, 4, .inl g_15)), (m_numbers, .inl (cJ, 240, .inr (.inl (fun _ => 0))))] := hD
      obtain ⟨t_4, et_4⟩ : ∃ v9 : Int32, (nI i) + 1 = v9 := ⟨_, rfl⟩
      refine lv_iinc (v := t_4) (lv' := [(4, .int t_4), (0, .ref m0), (1, .int 2), (2, .int a2), (3, .int a3)]) hx hb dX12_row_72 hl (k := 0) rfl (by rw [← et_4]; rfl) (by decide) rfl (fun ls hl => ?_)
      refine lv_goto (tgt := 52) hx hb dX12_row_75 (by decide) ?_
      rw [nI_1] at et_4
      subst et_4
      exact ih (i + 1)  _ _ _ (by omega) (by omega) hP hD hS (lv_sub hl [0, 1, 2, 3, 4] rfl)

set_option maxHeartbeats 4000000 in
set_option maxRecDepth 100000 in
theorem lp_row7 {p : Program} {l : Launch} {e : Env} {R : Room} {s : State} {m : MethodId} {args : Array Value} {below : List Frame} {meth : Method} {c : Code} {cells slots : Nat} {Q : State → Prop} {D : va_G} {cB cI cJ cZ cS cT : ClassId} {A : Nat → Prop} {H0 : Heap} (m0 : Nat) (m_world : Nat) (m_images : Nat) (m_hasImage : Nat) (m_tape : Nat) (m_five : Nat) (m_fresh : Nat) (m_spokenAt : Nat) (m_heardAt : Nat) (m_lastAt : Nat) (m_answerAt : Nat) (m_heardNow : Nat) (m_seenAt : Nat) (m_fewest : Nat) (m_costNow : Nat) (m_costThen : Nat) (m_lawsOf : Nat) (m_heardBy : Nat) (m_placesOf : Nat) (m_sentIn : Nat) (m_lostBy : Nat) (m_many : Nat) (m_width : Nat) (m_numbers : Nat) (m_moving : Nat) (a2 : Int32) (a3 : Int32) (g_16 : Nat → Int32) (g_17 : Nat → Int32) (hx : p.tables.exec = Jvm.exec) (hb : c.code = cX12_row) (hts : ∀ w ∈ wsL_law, w.before args s = true) (hown : s.vm.findClass RX12 = some m.cls) (hK : va_K D vwCl (tyL cB cI cJ cZ cS cT) s) (exit : ∀  (H : Heap) (locs : List Loc) (ls : Array Slot), va_P D vwCl [(m0, .inr (12, [.int 0, .ref m_world, .ref m_images, .ref m_hasImage, .ref m_tape, .int 0, .ref m_five, .int 0, .int 0, .int 0, .int 0, .int 0, .int 0, .int (-1), .ref m_fresh, .ref m_spokenAt, .ref m_heardAt, .ref m_lastAt, .ref m_answerAt, .int 0, .int 0, .int 0, .long 0, .int 0, .int 0, .ref m_heardNow, .ref m_seenAt, .int 0, .int 0, .int 0, .int 0, .int 0, .ref m_fewest, .ref m_costNow, .ref m_costThen, .ref m_lawsOf, .ref m_heardBy, .int 0, .int 0, .ref m_placesOf, .ref m_sentIn, .int 0, .int 0, .ref m_lostBy, .ref m_many, .ref m_width, .ref m_numbers, .ref m_moving])), (m_many, .inl (cI, 4, .inl g_16)), (m_width, .inl (cI, 4, .inl g_17)), (m_numbers, .inl (cJ, 240, .inr (.inl (fun _ => 0))))] H → va_D A [(m0, .inr (12, [.int 0, .ref m_world, .ref m_images, .ref m_hasImage, .ref m_tape, .int 0, .ref m_five, .int 0, .int 0, .int 0, .int 0, .int 0, .int 0, .int (-1), .ref m_fresh, .ref m_spokenAt, .ref m_heardAt, .ref m_lastAt, .ref m_answerAt, .int 0, .int 0, .int 0, .long 0, .int 0, .int 0, .ref m_heardNow, .ref m_seenAt, .int 0, .int 0, .int 0, .int 0, .int 0, .ref m_fewest, .ref m_costNow, .ref m_costThen, .ref m_lawsOf, .ref m_heardBy, .int 0, .int 0, .ref m_placesOf, .ref m_sentIn, .int 0, .int 0, .ref m_lostBy, .ref m_many, .ref m_width, .ref m_numbers, .ref m_moving])), (m_many, .inl (cI, 4, .inl g_16)), (m_width, .inl (cI, 4, .inl g_17)), (m_numbers, .inl (cJ, 240, .inr (.inl (fun _ => 0))))] → va_S A H0 H locs → lv_has ls 5 [(0, .ref m0), (1, .int 3), (2, .int a2), (3, .int a3)] → W p l e R s m args below meth c H locs cells slots Q (F0 m 78 ls [])) :
    ∀ (N i : Nat)  (H : Heap) (locs : List Loc) (ls : Array Slot), i ≤ 60 → 60 - i < N → va_P D vwCl [(m0, .inr (12, [.int 0, .ref m_world, .ref m_images, .ref m_hasImage, .ref m_tape, .int 0, .ref m_five, .int 0, .int 0, .int 0, .int 0, .int 0, .int 0, .int (-1), .ref m_fresh, .ref m_spokenAt, .ref m_heardAt, .ref m_lastAt, .ref m_answerAt, .int 0, .int 0, .int 0, .long 0, .int 0, .int 0, .ref m_heardNow, .ref m_seenAt, .int 0, .int 0, .int 0, .int 0, .int 0, .ref m_fewest, .ref m_costNow, .ref m_costThen, .ref m_lawsOf, .ref m_heardBy, .int 0, .int 0, .ref m_placesOf, .ref m_sentIn, .int 0, .int 0, .ref m_lostBy, .ref m_many, .ref m_width, .ref m_numbers, .ref m_moving])), (m_many, .inl (cI, 4, .inl g_16)), (m_width, .inl (cI, 4, .inl g_17)), (m_numbers, .inl (cJ, 240, .inr (.inl (fun _ => 0))))] H → va_D A [(m0, .inr (12, [.int 0, .ref m_world, .ref m_images, .ref m_hasImage, .ref m_tape, .int 0, .ref m_five, .int 0, .int 0, .int 0, .int 0, .int 0, .int 0, .int (-1), .ref m_fresh, .ref m_spokenAt, .ref m_heardAt, .ref m_lastAt, .ref m_answerAt, .int 0, .int 0, .int 0, .long 0, .int 0, .int 0, .ref m_heardNow, .ref m_seenAt, .int 0, .int 0, .int 0, .int 0, .int 0, .ref m_fewest, .ref m_costNow, .ref m_costThen, .ref m_lawsOf, .ref m_heardBy, .int 0, .int 0, .ref m_placesOf, .ref m_sentIn, .int 0, .int 0, .ref m_lostBy, .ref m_many, .ref m_width, .ref m_numbers, .ref m_moving])), (m_many, .inl (cI, 4, .inl g_16)), (m_width, .inl (cI, 4, .inl g_17)), (m_numbers, .inl (cJ, 240, .inr (.inl (fun _ => 0))))] → va_S A H0 H locs → lv_has ls 5 [(4, .int (nI i)), (0, .ref m0), (1, .int 3), (2, .int a2), (3, .int a3)] → W p l e R s m args below meth c H locs cells slots Q (F0 m 52 ls []) := by
  intro N
  induction N with
  | zero =>
    intro i  H locs ls h1 h2
    omega
  | succ N ih =>
    intro i  H locs ls hi hN2 hP hD hS hl
    have hi0 : (nI i).toInt = (i : Int) := nI_toInt (by omega)
    refine lv_iload hx hb dX12_row_52 (lv_at hl 0 rfl) ?_
    refine lv_bipush (v := 60) hx hb dX12_row_54 (by decide) ?_
    refine lv_icmp_ge (tgt := 78) hx hb dX12_row_56 (by decide) (fun c_1 => ?_) (fun c_1 => ?_)
    · have c_1 : 60 ≤ ((nI i)).toInt := ci_ge_t c_1
      exact exit  _ _ _ hP hD hS (lv_sub hl [1, 2, 3, 4] rfl)
    · have c_1 : ((nI i)).toInt < 60 := ci_ge_f c_1
      refine lv_aload_n hx hb dX12_row_59 rfl (lv_at hl 1 rfl) ?_
      refine va_get (D := D) (ci := 12) (v := .ref m_numbers) (C := RX12) (T := TX12) (N := 48) hx hb hts inlX12 hown hK hP 0 rfl rfl 46 (by decide) (hts _ (inr7 _ (List.mem_of_getElem? (i := 16) rfl))) (fun _ h9 => h9) rfl dX12_row_60 ?_
      refine lv_bipush (v := 60) hx hb dX12_row_63 (by decide) ?_
      refine lv_iload_n hx hb dX12_row_65 rfl (lv_at hl 2 rfl) ?_
      refine z_imul (v := 180) hx hb dX12_row_66 (by decide) ?_
      refine lv_iload hx hb dX12_row_67 (lv_at hl 0 rfl) ?_
      obtain ⟨t_2, et_2⟩ : ∃ v9 : Int32, 180 + (nI i) = v9 := ⟨_, rfl⟩
      refine z_iadd (v := t_2) hx hb dX12_row_69 et_2 ?_
      have ft_2 : t_2.toInt = 180 + ((nI i)).toInt := addT (a := 180) (b := ((nI i)).toInt) (by decide) rfl et_2 (by omega) (by omega)
      refine lv_lconst (v := 0) hx hb dX12_row_70 (by decide) ?_
      refine va_last hx hb hK hP hD hS 3 2 rfl rfl (vin_nat (by omega) (by omega)) dX12_row_71 (fun H locs hP hD hS => ?_)
      rw [updZL] at hP hD
      have hP : va_P D vwCl [(m0, .inr (12, [.int 0, .ref m_world, .ref m_images, .ref m_hasImage, .ref m_tape, .int 0, .ref m_five, .int 0, .int 0, .int 0, .int 0, .int 0, .int 0, .int (-1), .ref m_fresh, .ref m_spokenAt, .ref m_heardAt, .ref m_lastAt, .ref m_answerAt, .int 0, .int 0, .int 0, .long 0, .int 0, .int 0, .ref m_heardNow, .ref m_seenAt, .int 0, .int 0, .int 0, .int 0, .int 0, .ref m_fewest, .ref m_costNow, .ref m_costThen, .ref m_lawsOf, .ref m_heardBy, .int 0, .int 0, .ref m_placesOf, .ref m_sentIn, .int 0, .int 0, .ref m_lostBy, .ref m_many, .ref m_width, .ref m_numbers, .ref m_moving])), (m_many, .inl (cI, 4, .inl g_16)), (m_width, .inl (cI, 4, .inl g_17)), (m_numbers, .inl (cJ, 240, .inr (.inl (fun _ => 0))))] H := hP
      have hD : va_D A [(m0, .inr (12, [.int 0, .ref m_world, .ref m_images, .ref m_hasImage, .ref m_tape, .int 0, .ref m_five, .int 0, .int 0, .int 0, .int 0, .int 0, .int 0, .int (-1), .ref m_fresh, .ref m_spokenAt, .ref m_heardAt, .ref m_lastAt, .ref m_answerAt, .int 0, .int 0, .int 0, .long 0, .int 0, .int 0, .ref m_heardNow, .ref m_seenAt, .int 0, .int 0, .int 0, .int 0, .int 0, .ref m_fewest, .ref m_costNow, .ref m_costThen, .ref m_lawsOf, .ref m_heardBy, .int 0, .int 0, .ref m_placesOf, .ref m_sentIn, .int 0, .int 0, .ref m_lostBy, .ref m_many, .ref m_width, .ref m_numbers, .ref m_moving])), (m_many, .inl (cI, 4, .inl g_16)), (m_width, .inl (cI, 4, .inl g_17)), (m_numbers, .inl (cJ, 240, .inr (.inl (fun _ => 0))))] := hD
      obtain ⟨t_4, et_4⟩ : ∃ v9 : Int32, (nI i) + 1 = v9 := ⟨_, rfl⟩
      refine lv_iinc (v := t_4) (lv' := [(4, .int t_4), (0, .ref m0), (1, .int 3), (2, .int a2), (3, .int a3)]) hx hb dX12_row_72 hl (k := 0) rfl (by rw [← et_4]; rfl) (by decide) rfl (fun ls hl => ?_)
      refine lv_goto (tgt := 52) hx hb dX12_row_75 (by decide) ?_
      rw [nI_1] at et_4
      subst et_4
      exact ih (i + 1)  _ _ _ (by omega) (by omega) hP hD hS (lv_sub hl [0, 1, 2, 3, 4] rfl)

set_option maxHeartbeats 4000000 in
set_option maxRecDepth 100000 in
theorem km_row (l : Launch) (D : va_G) (cB cI cJ cZ cS cT : ClassId) (sz : Nat) (m0 : Nat) (m_world : Nat) (m_images : Nat) (m_hasImage : Nat) (m_tape : Nat) (m_five : Nat) (m_fresh : Nat) (m_spokenAt : Nat) (m_heardAt : Nat) (m_lastAt : Nat) (m_answerAt : Nat) (m_heardNow : Nat) (m_seenAt : Nat) (m_fewest : Nat) (m_costNow : Nat) (m_costThen : Nat) (m_lawsOf : Nat) (m_heardBy : Nat) (m_placesOf : Nat) (m_sentIn : Nat) (m_lostBy : Nat) (m_many : Nat) (m_width : Nat) (m_numbers : Nat) (m_moving : Nat) (a1 : Int32) (a2 : Int32) (a3 : Int32)  : Met l yX12_row (Cond.code yX12_row cX12_row 5 (some .int) :: wsL_law) ({ frames := 2, cells := 0, slots := 0, locals := 45 }) (wrP D (tyL cB cI cJ cZ cS cT) [(m0, .inr (12, [.int 0, .ref m_world, .ref m_images, .ref m_hasImage, .ref m_tape, .int 0, .ref m_five, .int 0, .int 0, .int 0, .int 0, .int 0, .int 0, .int (-1), .ref m_fresh, .ref m_spokenAt, .ref m_heardAt, .ref m_lastAt, .ref m_answerAt, .int 0, .int 0, .int 0, .long 0, .int 0, .int 0, .ref m_heardNow, .ref m_seenAt, .int 0, .int 0, .int 0, .int 0, .int 0, .ref m_fewest, .ref m_costNow, .ref m_costThen, .ref m_lawsOf, .ref m_heardBy, .int 0, .int 0, .ref m_placesOf, .ref m_sentIn, .int 0, .int 0, .ref m_lostBy, .ref m_many, .ref m_width, .ref m_numbers, .ref m_moving])), (m_many, .inl (cI, 4, .inl (upd (upd (upd (upd (fun _ => 0) 0 (-1)) 1 (-1)) 2 (-1)) 3 (-1)))), (m_width, .inl (cI, 4, .inl (fun _ => 0))), (m_numbers, .inl (cJ, 240, .inr (.inl (fun _ => 0))))] sz [.ref m0, .int a1, .int a2, .int a3]) (va_Qi (fun (r : Int32) (x : Unit) => r = S_row a1 a2 a3) (atW D (tyL cB cI cJ cZ cS cT) (va_A [(m0, .inr (12, [.int 0, .ref m_world, .ref m_images, .ref m_hasImage, .ref m_tape, .int 0, .ref m_five, .int 0, .int 0, .int 0, .int 0, .int 0, .int 0, .int (-1), .ref m_fresh, .ref m_spokenAt, .ref m_heardAt, .ref m_lastAt, .ref m_answerAt, .int 0, .int 0, .int 0, .long 0, .int 0, .int 0, .ref m_heardNow, .ref m_seenAt, .int 0, .int 0, .int 0, .int 0, .int 0, .ref m_fewest, .ref m_costNow, .ref m_costThen, .ref m_lawsOf, .ref m_heardBy, .int 0, .int 0, .ref m_placesOf, .ref m_sentIn, .int 0, .int 0, .ref m_lostBy, .ref m_many, .ref m_width, .ref m_numbers, .ref m_moving])), (m_many, .inl (cI, 4, .inl (upd (upd (upd (upd (fun _ => 0) 0 (-1)) 1 (-1)) 2 (-1)) 3 (-1)))), (m_width, .inl (cI, 4, .inl (fun _ => 0))), (m_numbers, .inl (cJ, 240, .inr (.inl (fun _ => 0))))] sz) (fun x : Unit => [])) (va_A [(m0, .inr (12, [.int 0, .ref m_world, .ref m_images, .ref m_hasImage, .ref m_tape, .int 0, .ref m_five, .int 0, .int 0, .int 0, .int 0, .int 0, .int 0, .int (-1), .ref m_fresh, .ref m_spokenAt, .ref m_heardAt, .ref m_lastAt, .ref m_answerAt, .int 0, .int 0, .int 0, .long 0, .int 0, .int 0, .ref m_heardNow, .ref m_seenAt, .int 0, .int 0, .int 0, .int 0, .int 0, .ref m_fewest, .ref m_costNow, .ref m_costThen, .ref m_lawsOf, .ref m_heardBy, .int 0, .int 0, .ref m_placesOf, .ref m_sentIn, .int 0, .int 0, .ref m_lostBy, .ref m_many, .ref m_width, .ref m_numbers, .ref m_moving])), (m_many, .inl (cI, 4, .inl (upd (upd (upd (upd (fun _ => 0) 0 (-1)) 1 (-1)) 2 (-1)) 3 (-1)))), (m_width, .inl (cI, 4, .inl (fun _ => 0))), (m_numbers, .inl (cJ, 240, .inr (.inl (fun _ => 0))))] sz)) 0 0 (va_A [(m0, .inr (12, [.int 0, .ref m_world, .ref m_images, .ref m_hasImage, .ref m_tape, .int 0, .ref m_five, .int 0, .int 0, .int 0, .int 0, .int 0, .int 0, .int (-1), .ref m_fresh, .ref m_spokenAt, .ref m_heardAt, .ref m_lastAt, .ref m_answerAt, .int 0, .int 0, .int 0, .long 0, .int 0, .int 0, .ref m_heardNow, .ref m_seenAt, .int 0, .int 0, .int 0, .int 0, .int 0, .ref m_fewest, .ref m_costNow, .ref m_costThen, .ref m_lawsOf, .ref m_heardBy, .int 0, .int 0, .ref m_placesOf, .ref m_sentIn, .int 0, .int 0, .ref m_lostBy, .ref m_many, .ref m_width, .ref m_numbers, .ref m_moving])), (m_many, .inl (cI, 4, .inl (upd (upd (upd (upd (fun _ => 0) 0 (-1)) 1 (-1)) 2 (-1)) 3 (-1)))), (m_width, .inl (cI, 4, .inl (fun _ => 0))), (m_numbers, .inl (cJ, 240, .inr (.inl (fun _ => 0))))] sz) := by
  refine Met.ofW (cc := cX12_row) (maxL := 5) (ret := (some .int)) (by decide) rfl ?_
  intro p e s m args below meth c s₁ B hml hv
  obtain ⟨rfl, hsz, hP, hK, hD0, hN⟩ := hv
  have hx := B.exec
  have hb := B.bytes
  have hr := B.returns
  have hts : ∀ w ∈ wsL_law, w.before ([.ref m0, .int a1, .int a2, .int a3] : List Value).toArray s = true := fun w h => atoms_spec (ws := Cond.code yX12_row cX12_row 5 (some .int) :: wsL_law) B.pre w (List.mem_cons_of_mem _ h)
  have hown : s.vm.findClass RX12 = some m.cls := findClass_of_methodNamed B.named
  have hlocks := B.notSynchronized
  subst hsz
  have hD := hD0.self (sz := s.heap.size)
  generalize hAe : va_A [(m0, .inr (12, [.int 0, .ref m_world, .ref m_images, .ref m_hasImage, .ref m_tape, .int 0, .ref m_five, .int 0, .int 0, .int 0, .int 0, .int 0, .int 0, .int (-1), .ref m_fresh, .ref m_spokenAt, .ref m_heardAt, .ref m_lastAt, .ref m_answerAt, .int 0, .int 0, .int 0, .long 0, .int 0, .int 0, .ref m_heardNow, .ref m_seenAt, .int 0, .int 0, .int 0, .int 0, .int 0, .ref m_fewest, .ref m_costNow, .ref m_costThen, .ref m_lawsOf, .ref m_heardBy, .int 0, .int 0, .ref m_placesOf, .ref m_sentIn, .int 0, .int 0, .ref m_lostBy, .ref m_many, .ref m_width, .ref m_numbers, .ref m_moving])), (m_many, .inl (cI, 4, .inl (upd (upd (upd (upd (fun _ => 0) 0 (-1)) 1 (-1)) 2 (-1)) 3 (-1)))), (m_width, .inl (cI, 4, .inl (fun _ => 0))), (m_numbers, .inl (cJ, 240, .inr (.inl (fun _ => 0))))] s.heap.size = A at hD ⊢
  have hA : ∀ q : Nat, s.heap.size ≤ q → A q := fun q h => by rw [← hAe]; exact Or.inr h
  have hS : va_S A s.heap s.heap [] := va_S.rf
  have hl := lv_entry ([.ref m0, .int a1, .int a2, .int a3]) (n := 5) (Nat.le_of_ble_eq_true rfl)
  rw [lg_entry_eq]
  generalize (lg_sl ([.ref m0, .int a1, .int a2, .int a3]) ++ List.replicate (5 - (lg_sl ([.ref m0, .int a1, .int a2, .int a3])).length) Slot.unset).toArray = ls at hl ⊢
  have hl : lv_has ls 5 [(0, .ref m0), (1, .int a1), (2, .int a2), (3, .int a3)] := hl
  have hP : va_P D vwCl [(m0, .inr (12, [.int 0, .ref m_world, .ref m_images, .ref m_hasImage, .ref m_tape, .int 0, .ref m_five, .int 0, .int 0, .int 0, .int 0, .int 0, .int 0, .int (-1), .ref m_fresh, .ref m_spokenAt, .ref m_heardAt, .ref m_lastAt, .ref m_answerAt, .int 0, .int 0, .int 0, .long 0, .int 0, .int 0, .ref m_heardNow, .ref m_seenAt, .int 0, .int 0, .int 0, .int 0, .int 0, .ref m_fewest, .ref m_costNow, .ref m_costThen, .ref m_lawsOf, .ref m_heardBy, .int 0, .int 0, .ref m_placesOf, .ref m_sentIn, .int 0, .int 0, .ref m_lostBy, .ref m_many, .ref m_width, .ref m_numbers, .ref m_moving])), (m_many, .inl (cI, 4, .inl (upd (upd (upd (upd (fun _ => 0) 0 (-1)) 1 (-1)) 2 (-1)) 3 (-1)))), (m_width, .inl (cI, 4, .inl (fun _ => 0))), (m_numbers, .inl (cJ, 240, .inr (.inl (fun _ => 0))))] s.heap := hP
  refine lv_iload_n hx hb dX12_row_0 rfl (lv_at hl 1 rfl) ?_
  refine rosi (As := [.int a1]) (rest := []) ⟨hx, hb, hml, hown, hts⟩ (k_isSlot l D cB cI cJ cZ cS cT a1 ) (csB (n := 1) (inr54 _ (List.mem_of_getElem? (i := 4) rfl)) (inr54 _ (List.mem_of_getElem? (i := 5) rfl)) (inr1 _ (List.mem_of_getElem? (i := 5) rfl)) (inr54 _ (List.mem_of_getElem? (i := 6) rfl)) (by decide +kernel) hts rfl rfl ⟨Nat.le_of_ble_eq_true rfl, Nat.le_of_ble_eq_true rfl⟩) (hP.sub [] rfl) hK rfl hl.1 rfl (Nat.le_of_ble_eq_true rfl) ⟨Nat.le_of_ble_eq_true rfl, Nat.le_of_ble_eq_true rfl⟩ dX12_row_1 (fun r_1 h_2 => ?_)
  rcases h_2 with ⟨rfl, k_3⟩ | ⟨rfl, k_3⟩
  · have k_3 : a1.toInt < 0 ∨ 3 < a1.toInt := k_3
    refine lv_if_eq (tgt := 25) hx hb dX12_row_4 (by decide) (fun _ => ?_) (fun c0 => absurd c0 (by decide))
    refine lv_bipush (v := (-2)) hx hb dX12_row_25 (by decide) ?_
    have hP9 := hP.sub (ws' := []) [] rfl
    have hD9 := hD.sub (ws' := []) [] (by decide) rfl
    exact W.iret (v := (-2)) hx hb hr (fun t ht hW => ⟨⟨(-2), (), rfl, (by unfold S_row; repeat' split <;> first | rfl | (exfalso; omega) | (simp_all; omega)), by rw [ht]; exact hP9, va_K.moved hW.alike hK, hD9⟩, hS.F ht⟩) hS.2.2 dX12_row_27
  · have k_3 : 0 ≤ a1.toInt ∧ a1.toInt ≤ 3 := k_3
    refine lv_if_eq (tgt := 25) hx hb dX12_row_4 (by decide) (fun c0 => absurd c0 (by decide)) (fun _ => ?_)
    refine lv_iload_n hx hb dX12_row_7 rfl (lv_at hl 2 rfl) ?_
    obtain ⟨t_4, et_4⟩ : ∃ v9 : Int64, (a2 : Int32).toInt64 = v9 := ⟨_, rfl⟩
    refine lv_i2l (v := t_4) hx hb dX12_row_8 et_4 ?_
    have ft_4 : t_4.toInt = a2.toInt := by rw [← et_4]; exact Int32.toInt_toInt64 _
    refine lv_lconst (v := 0) hx hb dX12_row_9 (by decide) ?_
    refine lv_ldc2 hx hb hown (hts _ (inr54 _ (List.mem_of_getElem? (i := 7) rfl))) dX12_row_10 ?_
    refine rosi (As := [.long t_4, .long 0, .long 3]) (rest := []) ⟨hx, hb, hml, hown, hts⟩ (k_in l D cB cI cJ cZ cS cT t_4 0 3 ) (csB (n := 3) (inr9 _ (List.mem_of_getElem? (i := 3) rfl)) (inr9 _ (List.mem_of_getElem? (i := 4) rfl)) (inr1 _ (List.mem_of_getElem? (i := 5) rfl)) (inr9 _ (List.mem_of_getElem? (i := 5) rfl)) (by decide +kernel) hts rfl rfl ⟨Nat.le_of_ble_eq_true rfl, Nat.le_of_ble_eq_true rfl⟩) (hP.sub [] rfl) hK rfl hl.1 rfl (Nat.le_of_ble_eq_true rfl) ⟨Nat.le_of_ble_eq_true rfl, Nat.le_of_ble_eq_true rfl⟩ dX12_row_13 (fun r_5 h_6 => ?_)
    rcases h_6 with ⟨rfl, k_7⟩ | ⟨rfl, k_7⟩
    · have k_7 : t_4.toInt < 0 ∨ 3 < t_4.toInt := k_7
      refine lv_if_eq (tgt := 25) hx hb dX12_row_16 (by decide) (fun _ => ?_) (fun c0 => absurd c0 (by decide))
      refine lv_bipush (v := (-2)) hx hb dX12_row_25 (by decide) ?_
      have hP9 := hP.sub (ws' := []) [] rfl
      have hD9 := hD.sub (ws' := []) [] (by decide) rfl
      exact W.iret (v := (-2)) hx hb hr (fun t ht hW => ⟨⟨(-2), (), rfl, (by unfold S_row; repeat' split <;> first | rfl | (exfalso; omega) | (simp_all; omega)), by rw [ht]; exact hP9, va_K.moved hW.alike hK, hD9⟩, hS.F ht⟩) hS.2.2 dX12_row_27
    · have k_7 : 0 ≤ t_4.toInt ∧ t_4.toInt ≤ 3 := k_7
      refine lv_if_eq (tgt := 25) hx hb dX12_row_16 (by decide) (fun c0 => absurd c0 (by decide)) (fun _ => ?_)
      refine lv_iload_n hx hb dX12_row_19 rfl (lv_at hl 3 rfl) ?_
      refine lv_bipush (v := 60) hx hb dX12_row_20 (by decide) ?_
      refine lv_icmp_le (tgt := 28) hx hb dX12_row_22 (by decide) (fun c_8 => ?_) (fun c_8 => ?_)
      · have c_8 : a3.toInt ≤ 60 := ci_le_t c_8
        refine lv_iload_n hx hb dX12_row_28 rfl (lv_at hl 3 rfl) ?_
        refine lv_if_ge (tgt := 35) hx hb dX12_row_29 (by decide) (fun c_9 => ?_) (fun c_9 => ?_)
        · have c_9 : 0 ≤ a3.toInt := ci_ge_t c_9
          rcases in4 (x := a1) (by omega) (by omega) with rfl | rfl | rfl | rfl
          · have hl : lv_has ls 5 [(0, .ref m0), (1, .int 0), (2, .int a2), (3, .int a3)] := hl
            refine lv_aload_n hx hb dX12_row_35 rfl (lv_at hl 0 rfl) ?_
            refine va_get (D := D) (ci := 12) (v := .ref m_many) (C := RX12) (T := TX12) (N := 48) hx hb hts inlX12 hown hK hP 0 rfl rfl 44 (by decide) (hts _ (inr7 _ (List.mem_of_getElem? (i := 14) rfl))) (fun _ h9 => h9) rfl dX12_row_36 ?_
            refine lv_iload_n hx hb dX12_row_39 rfl (lv_at hl 1 rfl) ?_
            refine lv_iload_n hx hb dX12_row_40 rfl (lv_at hl 3 rfl) ?_
            refine va_iast hx hb hK hP hD hS 1 1 rfl rfl (by unfold vp_in; decide) dX12_row_41 (fun H locs hP hD hS => ?_)
            have hP : va_P D vwCl [(m0, .inr (12, [.int 0, .ref m_world, .ref m_images, .ref m_hasImage, .ref m_tape, .int 0, .ref m_five, .int 0, .int 0, .int 0, .int 0, .int 0, .int 0, .int (-1), .ref m_fresh, .ref m_spokenAt, .ref m_heardAt, .ref m_lastAt, .ref m_answerAt, .int 0, .int 0, .int 0, .long 0, .int 0, .int 0, .ref m_heardNow, .ref m_seenAt, .int 0, .int 0, .int 0, .int 0, .int 0, .ref m_fewest, .ref m_costNow, .ref m_costThen, .ref m_lawsOf, .ref m_heardBy, .int 0, .int 0, .ref m_placesOf, .ref m_sentIn, .int 0, .int 0, .ref m_lostBy, .ref m_many, .ref m_width, .ref m_numbers, .ref m_moving])), (m_many, .inl (cI, 4, .inl (upd (upd (upd (upd (upd (fun _ => 0) 0 (-1)) 1 (-1)) 2 (-1)) 3 (-1)) (0 : Int32).toNatClampNeg a3))), (m_width, .inl (cI, 4, .inl (fun _ => 0))), (m_numbers, .inl (cJ, 240, .inr (.inl (fun _ => 0))))] H := hP
            have hD : va_D A [(m0, .inr (12, [.int 0, .ref m_world, .ref m_images, .ref m_hasImage, .ref m_tape, .int 0, .ref m_five, .int 0, .int 0, .int 0, .int 0, .int 0, .int 0, .int (-1), .ref m_fresh, .ref m_spokenAt, .ref m_heardAt, .ref m_lastAt, .ref m_answerAt, .int 0, .int 0, .int 0, .long 0, .int 0, .int 0, .ref m_heardNow, .ref m_seenAt, .int 0, .int 0, .int 0, .int 0, .int 0, .ref m_fewest, .ref m_costNow, .ref m_costThen, .ref m_lawsOf, .ref m_heardBy, .int 0, .int 0, .ref m_placesOf, .ref m_sentIn, .int 0, .int 0, .ref m_lostBy, .ref m_many, .ref m_width, .ref m_numbers, .ref m_moving])), (m_many, .inl (cI, 4, .inl (upd (upd (upd (upd (upd (fun _ => 0) 0 (-1)) 1 (-1)) 2 (-1)) 3 (-1)) (0 : Int32).toNatClampNeg a3))), (m_width, .inl (cI, 4, .inl (fun _ => 0))), (m_numbers, .inl (cJ, 240, .inr (.inl (fun _ => 0))))] := hD
            obtain ⟨g_10, eg_10⟩ : ∃ v9 : Nat → Int32, (upd (upd (upd (upd (upd (fun _ => 0) 0 (-1)) 1 (-1)) 2 (-1)) 3 (-1)) (0 : Int32).toNatClampNeg a3) = v9 := ⟨_, rfl⟩
            rw [eg_10] at hP hD
            have hP : va_P D vwCl [(m0, .inr (12, [.int 0, .ref m_world, .ref m_images, .ref m_hasImage, .ref m_tape, .int 0, .ref m_five, .int 0, .int 0, .int 0, .int 0, .int 0, .int 0, .int (-1), .ref m_fresh, .ref m_spokenAt, .ref m_heardAt, .ref m_lastAt, .ref m_answerAt, .int 0, .int 0, .int 0, .long 0, .int 0, .int 0, .ref m_heardNow, .ref m_seenAt, .int 0, .int 0, .int 0, .int 0, .int 0, .ref m_fewest, .ref m_costNow, .ref m_costThen, .ref m_lawsOf, .ref m_heardBy, .int 0, .int 0, .ref m_placesOf, .ref m_sentIn, .int 0, .int 0, .ref m_lostBy, .ref m_many, .ref m_width, .ref m_numbers, .ref m_moving])), (m_many, .inl (cI, 4, .inl g_10)), (m_width, .inl (cI, 4, .inl (fun _ => 0))), (m_numbers, .inl (cJ, 240, .inr (.inl (fun _ => 0))))] H := hP
            have hD : va_D A [(m0, .inr (12, [.int 0, .ref m_world, .ref m_images, .ref m_hasImage, .ref m_tape, .int 0, .ref m_five, .int 0, .int 0, .int 0, .int 0, .int 0, .int 0, .int (-1), .ref m_fresh, .ref m_spokenAt, .ref m_heardAt, .ref m_lastAt, .ref m_answerAt, .int 0, .int 0, .int 0, .long 0, .int 0, .int 0, .ref m_heardNow, .ref m_seenAt, .int 0, .int 0, .int 0, .int 0, .int 0, .ref m_fewest, .ref m_costNow, .ref m_costThen, .ref m_lawsOf, .ref m_heardBy, .int 0, .int 0, .ref m_placesOf, .ref m_sentIn, .int 0, .int 0, .ref m_lostBy, .ref m_many, .ref m_width, .ref m_numbers, .ref m_moving])), (m_many, .inl (cI, 4, .inl g_10)), (m_width, .inl (cI, 4, .inl (fun _ => 0))), (m_numbers, .inl (cJ, 240, .inr (.inl (fun _ => 0))))] := hD
            refine lv_aload_n hx hb dX12_row_42 rfl (lv_at hl 0 rfl) ?_
            refine va_get (D := D) (ci := 12) (v := .ref m_width) (C := RX12) (T := TX12) (N := 48) hx hb hts inlX12 hown hK hP 0 rfl rfl 45 (by decide) (hts _ (inr7 _ (List.mem_of_getElem? (i := 15) rfl))) (fun _ h9 => h9) rfl dX12_row_43 ?_
            refine lv_iload_n hx hb dX12_row_46 rfl (lv_at hl 1 rfl) ?_
            refine lv_iload_n hx hb dX12_row_47 rfl (lv_at hl 2 rfl) ?_
            refine va_iast hx hb hK hP hD hS 2 1 rfl rfl (by unfold vp_in; decide) dX12_row_48 (fun H locs hP hD hS => ?_)
            have hP : va_P D vwCl [(m0, .inr (12, [.int 0, .ref m_world, .ref m_images, .ref m_hasImage, .ref m_tape, .int 0, .ref m_five, .int 0, .int 0, .int 0, .int 0, .int 0, .int 0, .int (-1), .ref m_fresh, .ref m_spokenAt, .ref m_heardAt, .ref m_lastAt, .ref m_answerAt, .int 0, .int 0, .int 0, .long 0, .int 0, .int 0, .ref m_heardNow, .ref m_seenAt, .int 0, .int 0, .int 0, .int 0, .int 0, .ref m_fewest, .ref m_costNow, .ref m_costThen, .ref m_lawsOf, .ref m_heardBy, .int 0, .int 0, .ref m_placesOf, .ref m_sentIn, .int 0, .int 0, .ref m_lostBy, .ref m_many, .ref m_width, .ref m_numbers, .ref m_moving])), (m_many, .inl (cI, 4, .inl g_10)), (m_width, .inl (cI, 4, .inl (upd (fun _ => 0) (0 : Int32).toNatClampNeg a2))), (m_numbers, .inl (cJ, 240, .inr (.inl (fun _ => 0))))] H := hP
            have hD : va_D A [(m0, .inr (12, [.int 0, .ref m_world, .ref m_images, .ref m_hasImage, .ref m_tape, .int 0, .ref m_five, .int 0, .int 0, .int 0, .int 0, .int 0, .int 0, .int (-1), .ref m_fresh, .ref m_spokenAt, .ref m_heardAt, .ref m_lastAt, .ref m_answerAt, .int 0, .int 0, .int 0, .long 0, .int 0, .int 0, .ref m_heardNow, .ref m_seenAt, .int 0, .int 0, .int 0, .int 0, .int 0, .ref m_fewest, .ref m_costNow, .ref m_costThen, .ref m_lawsOf, .ref m_heardBy, .int 0, .int 0, .ref m_placesOf, .ref m_sentIn, .int 0, .int 0, .ref m_lostBy, .ref m_many, .ref m_width, .ref m_numbers, .ref m_moving])), (m_many, .inl (cI, 4, .inl g_10)), (m_width, .inl (cI, 4, .inl (upd (fun _ => 0) (0 : Int32).toNatClampNeg a2))), (m_numbers, .inl (cJ, 240, .inr (.inl (fun _ => 0))))] := hD
            obtain ⟨g_11, eg_11⟩ : ∃ v9 : Nat → Int32, (upd (fun _ => 0) (0 : Int32).toNatClampNeg a2) = v9 := ⟨_, rfl⟩
            rw [eg_11] at hP hD
            have hP : va_P D vwCl [(m0, .inr (12, [.int 0, .ref m_world, .ref m_images, .ref m_hasImage, .ref m_tape, .int 0, .ref m_five, .int 0, .int 0, .int 0, .int 0, .int 0, .int 0, .int (-1), .ref m_fresh, .ref m_spokenAt, .ref m_heardAt, .ref m_lastAt, .ref m_answerAt, .int 0, .int 0, .int 0, .long 0, .int 0, .int 0, .ref m_heardNow, .ref m_seenAt, .int 0, .int 0, .int 0, .int 0, .int 0, .ref m_fewest, .ref m_costNow, .ref m_costThen, .ref m_lawsOf, .ref m_heardBy, .int 0, .int 0, .ref m_placesOf, .ref m_sentIn, .int 0, .int 0, .ref m_lostBy, .ref m_many, .ref m_width, .ref m_numbers, .ref m_moving])), (m_many, .inl (cI, 4, .inl g_10)), (m_width, .inl (cI, 4, .inl g_11)), (m_numbers, .inl (cJ, 240, .inr (.inl (fun _ => 0))))] H := hP
            have hD : va_D A [(m0, .inr (12, [.int 0, .ref m_world, .ref m_images, .ref m_hasImage, .ref m_tape, .int 0, .ref m_five, .int 0, .int 0, .int 0, .int 0, .int 0, .int 0, .int (-1), .ref m_fresh, .ref m_spokenAt, .ref m_heardAt, .ref m_lastAt, .ref m_answerAt, .int 0, .int 0, .int 0, .long 0, .int 0, .int 0, .ref m_heardNow, .ref m_seenAt, .int 0, .int 0, .int 0, .int 0, .int 0, .ref m_fewest, .ref m_costNow, .ref m_costThen, .ref m_lawsOf, .ref m_heardBy, .int 0, .int 0, .ref m_placesOf, .ref m_sentIn, .int 0, .int 0, .ref m_lostBy, .ref m_many, .ref m_width, .ref m_numbers, .ref m_moving])), (m_many, .inl (cI, 4, .inl g_10)), (m_width, .inl (cI, 4, .inl g_11)), (m_numbers, .inl (cJ, 240, .inr (.inl (fun _ => 0))))] := hD
            refine lv_iconst (v := 0) hx hb dX12_row_49 (by decide) ?_
            refine lv_istore (lv' := [(4, .int 0), (0, .ref m0), (1, .int 0), (2, .int a2), (3, .int a3)]) hx hb dX12_row_50 hl (by decide) rfl (fun ls hl => ?_)
            refine lp_row4 m0 m_world m_images m_hasImage m_tape m_five m_fresh m_spokenAt m_heardAt m_lastAt m_answerAt m_heardNow m_seenAt m_fewest m_costNow m_costThen m_lawsOf m_heardBy m_placesOf m_sentIn m_lostBy m_many m_width m_numbers m_moving a2 a3 g_10 g_11 hx hb hts hown hK (fun  H locs ls hP hD hS hl => ?_) 61 0  _ _ _ (Nat.zero_le _) (by omega) hP hD hS (lv_sub hl [0, 1, 2, 3, 4] rfl)
            refine lv_iconst (v := 0) hx hb dX12_row_78 (by decide) ?_
            have hP9 := hP.sub (ws' := []) [] rfl
            have hD9 := hD.sub (ws' := []) [] (by decide) rfl
            exact W.iret (v := 0) hx hb hr (fun t ht hW => ⟨⟨0, (), rfl, (by show (0 : Int32) = S_row _ _ _; unfold S_row; rw [if_pos ⟨by decide, by decide, by omega, by omega, by omega⟩, if_neg (by omega)]), by rw [ht]; exact hP9, va_K.moved hW.alike hK, hD9⟩, hS.F ht⟩) hS.2.2 dX12_row_79
          · have hl : lv_has ls 5 [(0, .ref m0), (1, .int 1), (2, .int a2), (3, .int a3)] := hl
            refine lv_aload_n hx hb dX12_row_35 rfl (lv_at hl 0 rfl) ?_
            refine va_get (D := D) (ci := 12) (v := .ref m_many) (C := RX12) (T := TX12) (N := 48) hx hb hts inlX12 hown hK hP 0 rfl rfl 44 (by decide) (hts _ (inr7 _ (List.mem_of_getElem? (i := 14) rfl))) (fun _ h9 => h9) rfl dX12_row_36 ?_
            refine lv_iload_n hx hb dX12_row_39 rfl (lv_at hl 1 rfl) ?_
            refine lv_iload_n hx hb dX12_row_40 rfl (lv_at hl 3 rfl) ?_
            refine va_iast hx hb hK hP hD hS 1 1 rfl rfl (by unfold vp_in; decide) dX12_row_41 (fun H locs hP hD hS => ?_)
            have hP : va_P D vwCl [(m0, .inr (12, [.int 0, .ref m_world, .ref m_images, .ref m_hasImage, .ref m_tape, .int 0, .ref m_five, .int 0, .int 0, .int 0, .int 0, .int 0, .int 0, .int (-1), .ref m_fresh, .ref m_spokenAt, .ref m_heardAt, .ref m_lastAt, .ref m_answerAt, .int 0, .int 0, .int 0, .long 0, .int 0, .int 0, .ref m_heardNow, .ref m_seenAt, .int 0, .int 0, .int 0, .int 0, .int 0, .ref m_fewest, .ref m_costNow, .ref m_costThen, .ref m_lawsOf, .ref m_heardBy, .int 0, .int 0, .ref m_placesOf, .ref m_sentIn, .int 0, .int 0, .ref m_lostBy, .ref m_many, .ref m_width, .ref m_numbers, .ref m_moving])), (m_many, .inl (cI, 4, .inl (upd (upd (upd (upd (upd (fun _ => 0) 0 (-1)) 1 (-1)) 2 (-1)) 3 (-1)) (1 : Int32).toNatClampNeg a3))), (m_width, .inl (cI, 4, .inl (fun _ => 0))), (m_numbers, .inl (cJ, 240, .inr (.inl (fun _ => 0))))] H := hP
            have hD : va_D A [(m0, .inr (12, [.int 0, .ref m_world, .ref m_images, .ref m_hasImage, .ref m_tape, .int 0, .ref m_five, .int 0, .int 0, .int 0, .int 0, .int 0, .int 0, .int (-1), .ref m_fresh, .ref m_spokenAt, .ref m_heardAt, .ref m_lastAt, .ref m_answerAt, .int 0, .int 0, .int 0, .long 0, .int 0, .int 0, .ref m_heardNow, .ref m_seenAt, .int 0, .int 0, .int 0, .int 0, .int 0, .ref m_fewest, .ref m_costNow, .ref m_costThen, .ref m_lawsOf, .ref m_heardBy, .int 0, .int 0, .ref m_placesOf, .ref m_sentIn, .int 0, .int 0, .ref m_lostBy, .ref m_many, .ref m_width, .ref m_numbers, .ref m_moving])), (m_many, .inl (cI, 4, .inl (upd (upd (upd (upd (upd (fun _ => 0) 0 (-1)) 1 (-1)) 2 (-1)) 3 (-1)) (1 : Int32).toNatClampNeg a3))), (m_width, .inl (cI, 4, .inl (fun _ => 0))), (m_numbers, .inl (cJ, 240, .inr (.inl (fun _ => 0))))] := hD
            obtain ⟨g_12, eg_12⟩ : ∃ v9 : Nat → Int32, (upd (upd (upd (upd (upd (fun _ => 0) 0 (-1)) 1 (-1)) 2 (-1)) 3 (-1)) (1 : Int32).toNatClampNeg a3) = v9 := ⟨_, rfl⟩
            rw [eg_12] at hP hD
            have hP : va_P D vwCl [(m0, .inr (12, [.int 0, .ref m_world, .ref m_images, .ref m_hasImage, .ref m_tape, .int 0, .ref m_five, .int 0, .int 0, .int 0, .int 0, .int 0, .int 0, .int (-1), .ref m_fresh, .ref m_spokenAt, .ref m_heardAt, .ref m_lastAt, .ref m_answerAt, .int 0, .int 0, .int 0, .long 0, .int 0, .int 0, .ref m_heardNow, .ref m_seenAt, .int 0, .int 0, .int 0, .int 0, .int 0, .ref m_fewest, .ref m_costNow, .ref m_costThen, .ref m_lawsOf, .ref m_heardBy, .int 0, .int 0, .ref m_placesOf, .ref m_sentIn, .int 0, .int 0, .ref m_lostBy, .ref m_many, .ref m_width, .ref m_numbers, .ref m_moving])), (m_many, .inl (cI, 4, .inl g_12)), (m_width, .inl (cI, 4, .inl (fun _ => 0))), (m_numbers, .inl (cJ, 240, .inr (.inl (fun _ => 0))))] H := hP
            have hD : va_D A [(m0, .inr (12, [.int 0, .ref m_world, .ref m_images, .ref m_hasImage, .ref m_tape, .int 0, .ref m_five, .int 0, .int 0, .int 0, .int 0, .int 0, .int 0, .int (-1), .ref m_fresh, .ref m_spokenAt, .ref m_heardAt, .ref m_lastAt, .ref m_answerAt, .int 0, .int 0, .int 0, .long 0, .int 0, .int 0, .ref m_heardNow, .ref m_seenAt, .int 0, .int 0, .int 0, .int 0, .int 0, .ref m_fewest, .ref m_costNow, .ref m_costThen, .ref m_lawsOf, .ref m_heardBy, .int 0, .int 0, .ref m_placesOf, .ref m_sentIn, .int 0, .int 0, .ref m_lostBy, .ref m_many, .ref m_width, .ref m_numbers, .ref m_moving])), (m_many, .inl (cI, 4, .inl g_12)), (m_width, .inl (cI, 4, .inl (fun _ => 0))), (m_numbers, .inl (cJ, 240, .inr (.inl (fun _ => 0))))] := hD
            refine lv_aload_n hx hb dX12_row_42 rfl (lv_at hl 0 rfl) ?_
            refine va_get (D := D) (ci := 12) (v := .ref m_width) (C := RX12) (T := TX12) (N := 48) hx hb hts inlX12 hown hK hP 0 rfl rfl 45 (by decide) (hts _ (inr7 _ (List.mem_of_getElem? (i := 15) rfl))) (fun _ h9 => h9) rfl dX12_row_43 ?_
            refine lv_iload_n hx hb dX12_row_46 rfl (lv_at hl 1 rfl) ?_
            refine lv_iload_n hx hb dX12_row_47 rfl (lv_at hl 2 rfl) ?_
            refine va_iast hx hb hK hP hD hS 2 1 rfl rfl (by unfold vp_in; decide) dX12_row_48 (fun H locs hP hD hS => ?_)
            have hP : va_P D vwCl [(m0, .inr (12, [.int 0, .ref m_world, .ref m_images, .ref m_hasImage, .ref m_tape, .int 0, .ref m_five, .int 0, .int 0, .int 0, .int 0, .int 0, .int 0, .int (-1), .ref m_fresh, .ref m_spokenAt, .ref m_heardAt, .ref m_lastAt, .ref m_answerAt, .int 0, .int 0, .int 0, .long 0, .int 0, .int 0, .ref m_heardNow, .ref m_seenAt, .int 0, .int 0, .int 0, .int 0, .int 0, .ref m_fewest, .ref m_costNow, .ref m_costThen, .ref m_lawsOf, .ref m_heardBy, .int 0, .int 0, .ref m_placesOf, .ref m_sentIn, .int 0, .int 0, .ref m_lostBy, .ref m_many, .ref m_width, .ref m_numbers, .ref m_moving])), (m_many, .inl (cI, 4, .inl g_12)), (m_width, .inl (cI, 4, .inl (upd (fun _ => 0) (1 : Int32).toNatClampNeg a2))), (m_numbers, .inl (cJ, 240, .inr (.inl (fun _ => 0))))] H := hP
            have hD : va_D A [(m0, .inr (12, [.int 0, .ref m_world, .ref m_images, .ref m_hasImage, .ref m_tape, .int 0, .ref m_five, .int 0, .int 0, .int 0, .int 0, .int 0, .int 0, .int (-1), .ref m_fresh, .ref m_spokenAt, .ref m_heardAt, .ref m_lastAt, .ref m_answerAt, .int 0, .int 0, .int 0, .long 0, .int 0, .int 0, .ref m_heardNow, .ref m_seenAt, .int 0, .int 0, .int 0, .int 0, .int 0, .ref m_fewest, .ref m_costNow, .ref m_costThen, .ref m_lawsOf, .ref m_heardBy, .int 0, .int 0, .ref m_placesOf, .ref m_sentIn, .int 0, .int 0, .ref m_lostBy, .ref m_many, .ref m_width, .ref m_numbers, .ref m_moving])), (m_many, .inl (cI, 4, .inl g_12)), (m_width, .inl (cI, 4, .inl (upd (fun _ => 0) (1 : Int32).toNatClampNeg a2))), (m_numbers, .inl (cJ, 240, .inr (.inl (fun _ => 0))))] := hD
            obtain ⟨g_13, eg_13⟩ : ∃ v9 : Nat → Int32, (upd (fun _ => 0) (1 : Int32).toNatClampNeg a2) = v9 := ⟨_, rfl⟩
            rw [eg_13] at hP hD
            have hP : va_P D vwCl [(m0, .inr (12, [.int 0, .ref m_world, .ref m_images, .ref m_hasImage, .ref m_tape, .int 0, .ref m_five, .int 0, .int 0, .int 0, .int 0, .int 0, .int 0, .int (-1), .ref m_fresh, .ref m_spokenAt, .ref m_heardAt, .ref m_lastAt, .ref m_answerAt, .int 0, .int 0, .int 0, .long 0, .int 0, .int 0, .ref m_heardNow, .ref m_seenAt, .int 0, .int 0, .int 0, .int 0, .int 0, .ref m_fewest, .ref m_costNow, .ref m_costThen, .ref m_lawsOf, .ref m_heardBy, .int 0, .int 0, .ref m_placesOf, .ref m_sentIn, .int 0, .int 0, .ref m_lostBy, .ref m_many, .ref m_width, .ref m_numbers, .ref m_moving])), (m_many, .inl (cI, 4, .inl g_12)), (m_width, .inl (cI, 4, .inl g_13)), (m_numbers, .inl (cJ, 240, .inr (.inl (fun _ => 0))))] H := hP
            have hD : va_D A [(m0, .inr (12, [.int 0, .ref m_world, .ref m_images, .ref m_hasImage, .ref m_tape, .int 0, .ref m_five, .int 0, .int 0, .int 0, .int 0, .int 0, .int 0, .int (-1), .ref m_fresh, .ref m_spokenAt, .ref m_heardAt, .ref m_lastAt, .ref m_answerAt, .int 0, .int 0, .int 0, .long 0, .int 0, .int 0, .ref m_heardNow, .ref m_seenAt, .int 0, .int 0, .int 0, .int 0, .int 0, .ref m_fewest, .ref m_costNow, .ref m_costThen, .ref m_lawsOf, .ref m_heardBy, .int 0, .int 0, .ref m_placesOf, .ref m_sentIn, .int 0, .int 0, .ref m_lostBy, .ref m_many, .ref m_width, .ref m_numbers, .ref m_moving])), (m_many, .inl (cI, 4, .inl g_12)), (m_width, .inl (cI, 4, .inl g_13)), (m_numbers, .inl (cJ, 240, .inr (.inl (fun _ => 0))))] := hD
            refine lv_iconst (v := 0) hx hb dX12_row_49 (by decide) ?_
            refine lv_istore (lv' := [(4, .int 0), (0, .ref m0), (1, .int 1), (2, .int a2), (3, .int a3)]) hx hb dX12_row_50 hl (by decide) rfl (fun ls hl => ?_)
            refine lp_row5 m0 m_world m_images m_hasImage m_tape m_five m_fresh m_spokenAt m_heardAt m_lastAt m_answerAt m_heardNow m_seenAt m_fewest m_costNow m_costThen m_lawsOf m_heardBy m_placesOf m_sentIn m_lostBy m_many m_width m_numbers m_moving a2 a3 g_12 g_13 hx hb hts hown hK (fun  H locs ls hP hD hS hl => ?_) 61 0  _ _ _ (Nat.zero_le _) (by omega) hP hD hS (lv_sub hl [0, 1, 2, 3, 4] rfl)
            refine lv_iconst (v := 0) hx hb dX12_row_78 (by decide) ?_
            have hP9 := hP.sub (ws' := []) [] rfl
            have hD9 := hD.sub (ws' := []) [] (by decide) rfl
            exact W.iret (v := 0) hx hb hr (fun t ht hW => ⟨⟨0, (), rfl, (by show (0 : Int32) = S_row _ _ _; unfold S_row; rw [if_pos ⟨by decide, by decide, by omega, by omega, by omega⟩, if_neg (by omega)]), by rw [ht]; exact hP9, va_K.moved hW.alike hK, hD9⟩, hS.F ht⟩) hS.2.2 dX12_row_79
          · have hl : lv_has ls 5 [(0, .ref m0), (1, .int 2), (2, .int a2), (3, .int a3)] := hl
            refine lv_aload_n hx hb dX12_row_35 rfl (lv_at hl 0 rfl) ?_
            refine va_get (D := D) (ci := 12) (v := .ref m_many) (C := RX12) (T := TX12) (N := 48) hx hb hts inlX12 hown hK hP 0 rfl rfl 44 (by decide) (hts _ (inr7 _ (List.mem_of_getElem? (i := 14) rfl))) (fun _ h9 => h9) rfl dX12_row_36 ?_
            refine lv_iload_n hx hb dX12_row_39 rfl (lv_at hl 1 rfl) ?_
            refine lv_iload_n hx hb dX12_row_40 rfl (lv_at hl 3 rfl) ?_
            refine va_iast hx hb hK hP hD hS 1 1 rfl rfl (by unfold vp_in; decide) dX12_row_41 (fun H locs hP hD hS => ?_)
            have hP : va_P D vwCl [(m0, .inr (12, [.int 0, .ref m_world, .ref m_images, .ref m_hasImage, .ref m_tape, .int 0, .ref m_five, .int 0, .int 0, .int 0, .int 0, .int 0, .int 0, .int (-1), .ref m_fresh, .ref m_spokenAt, .ref m_heardAt, .ref m_lastAt, .ref m_answerAt, .int 0, .int 0, .int 0, .long 0, .int 0, .int 0, .ref m_heardNow, .ref m_seenAt, .int 0, .int 0, .int 0, .int 0, .int 0, .ref m_fewest, .ref m_costNow, .ref m_costThen, .ref m_lawsOf, .ref m_heardBy, .int 0, .int 0, .ref m_placesOf, .ref m_sentIn, .int 0, .int 0, .ref m_lostBy, .ref m_many, .ref m_width, .ref m_numbers, .ref m_moving])), (m_many, .inl (cI, 4, .inl (upd (upd (upd (upd (upd (fun _ => 0) 0 (-1)) 1 (-1)) 2 (-1)) 3 (-1)) (2 : Int32).toNatClampNeg a3))), (m_width, .inl (cI, 4, .inl (fun _ => 0))), (m_numbers, .inl (cJ, 240, .inr (.inl (fun _ => 0))))] H := hP
            have hD : va_D A [(m0, .inr (12, [.int 0, .ref m_world, .ref m_images, .ref m_hasImage, .ref m_tape, .int 0, .ref m_five, .int 0, .int 0, .int 0, .int 0, .int 0, .int 0, .int (-1), .ref m_fresh, .ref m_spokenAt, .ref m_heardAt, .ref m_lastAt, .ref m_answerAt, .int 0, .int 0, .int 0, .long 0, .int 0, .int 0, .ref m_heardNow, .ref m_seenAt, .int 0, .int 0, .int 0, .int 0, .int 0, .ref m_fewest, .ref m_costNow, .ref m_costThen, .ref m_lawsOf, .ref m_heardBy, .int 0, .int 0, .ref m_placesOf, .ref m_sentIn, .int 0, .int 0, .ref m_lostBy, .ref m_many, .ref m_width, .ref m_numbers, .ref m_moving])), (m_many, .inl (cI, 4, .inl (upd (upd (upd (upd (upd (fun _ => 0) 0 (-1)) 1 (-1)) 2 (-1)) 3 (-1)) (2 : Int32).toNatClampNeg a3))), (m_width, .inl (cI, 4, .inl (fun _ => 0))), (m_numbers, .inl (cJ, 240, .inr (.inl (fun _ => 0))))] := hD
            obtain ⟨g_14, eg_14⟩ : ∃ v9 : Nat → Int32, (upd (upd (upd (upd (upd (fun _ => 0) 0 (-1)) 1 (-1)) 2 (-1)) 3 (-1)) (2 : Int32).toNatClampNeg a3) = v9 := ⟨_, rfl⟩
            rw [eg_14] at hP hD
            have hP : va_P D vwCl [(m0, .inr (12, [.int 0, .ref m_world, .ref m_images, .ref m_hasImage, .ref m_tape, .int 0, .ref m_five, .int 0, .int 0, .int 0, .int 0, .int 0, .int 0, .int (-1), .ref m_fresh, .ref m_spokenAt, .ref m_heardAt, .ref m_lastAt, .ref m_answerAt, .int 0, .int 0, .int 0, .long 0, .int 0, .int 0, .ref m_heardNow, .ref m_seenAt, .int 0, .int 0, .int 0, .int 0, .int 0, .ref m_fewest, .ref m_costNow, .ref m_costThen, .ref m_lawsOf, .ref m_heardBy, .int 0, .int 0, .ref m_placesOf, .ref m_sentIn, .int 0, .int 0, .ref m_lostBy, .ref m_many, .ref m_width, .ref m_numbers, .ref m_moving])), (m_many, .inl (cI, 4, .inl g_14)), (m_width, .inl (cI, 4, .inl (fun _ => 0))), (m_numbers, .inl (cJ, 240, .inr (.inl (fun _ => 0))))] H := hP
            have hD : va_D A [(m0, .inr (12, [.int 0, .ref m_world, .ref m_images, .ref m_hasImage, .ref m_tape, .int 0, .ref m_five, .int 0, .int 0, .int 0, .int 0, .int 0, .int 0, .int (-1), .ref m_fresh, .ref m_spokenAt, .ref m_heardAt, .ref m_lastAt, .ref m_answerAt, .int 0, .int 0, .int 0, .long 0, .int 0, .int 0, .ref m_heardNow, .ref m_seenAt, .int 0, .int 0, .int 0, .int 0, .int 0, .ref m_fewest, .ref m_costNow, .ref m_costThen, .ref m_lawsOf, .ref m_heardBy, .int 0, .int 0, .ref m_placesOf, .ref m_sentIn, .int 0, .int 0, .ref m_lostBy, .ref m_many, .ref m_width, .ref m_numbers, .ref m_moving])), (m_many, .inl (cI, 4, .inl g_14)), (m_width, .inl (cI, 4, .inl (fun _ => 0))), (m_numbers, .inl (cJ, 240, .inr (.inl (fun _ => 0))))] := hD
            refine lv_aload_n hx hb dX12_row_42 rfl (lv_at hl 0 rfl) ?_
            refine va_get (D := D) (ci := 12) (v := .ref m_width) (C := RX12) (T := TX12) (N := 48) hx hb hts inlX12 hown hK hP 0 rfl rfl 45 (by decide) (hts _ (inr7 _ (List.mem_of_getElem? (i := 15) rfl))) (fun _ h9 => h9) rfl dX12_row_43 ?_
            refine lv_iload_n hx hb dX12_row_46 rfl (lv_at hl 1 rfl) ?_
            refine lv_iload_n hx hb dX12_row_47 rfl (lv_at hl 2 rfl) ?_
            refine va_iast hx hb hK hP hD hS 2 1 rfl rfl (by unfold vp_in; decide) dX12_row_48 (fun H locs hP hD hS => ?_)
            have hP : va_P D vwCl [(m0, .inr (12, [.int 0, .ref m_world, .ref m_images, .ref m_hasImage, .ref m_tape, .int 0, .ref m_five, .int 0, .int 0, .int 0, .int 0, .int 0, .int 0, .int (-1), .ref m_fresh, .ref m_spokenAt, .ref m_heardAt, .ref m_lastAt, .ref m_answerAt, .int 0, .int 0, .int 0, .long 0, .int 0, .int 0, .ref m_heardNow, .ref m_seenAt, .int 0, .int 0, .int 0, .int 0, .int 0, .ref m_fewest, .ref m_costNow, .ref m_costThen, .ref m_lawsOf, .ref m_heardBy, .int 0, .int 0, .ref m_placesOf, .ref m_sentIn, .int 0, .int 0, .ref m_lostBy, .ref m_many, .ref m_width, .ref m_numbers, .ref m_moving])), (m_many, .inl (cI, 4, .inl g_14)), (m_width, .inl (cI, 4, .inl (upd (fun _ => 0) (2 : Int32).toNatClampNeg a2))), (m_numbers, .inl (cJ, 240, .inr (.inl (fun _ => 0))))] H := hP
            have hD : va_D A [(m0, .inr (12, [.int 0, .ref m_world, .ref m_images, .ref m_hasImage, .ref m_tape, .int 0, .ref m_five, .int 0, .int 0, .int 0, .int 0, .int 0, .int 0, .int (-1), .ref m_fresh, .ref m_spokenAt, .ref m_heardAt, .ref m_lastAt, .ref m_answerAt, .int 0, .int 0, .int 0, .long 0, .int 0, .int 0, .ref m_heardNow, .ref m_seenAt, .int 0, .int 0, .int 0, .int 0, .int 0, .ref m_fewest, .ref m_costNow, .ref m_costThen, .ref m_lawsOf, .ref m_heardBy, .int 0, .int 0, .ref m_placesOf, .ref m_sentIn, .int 0, .int 0, .ref m_lostBy, .ref m_many, .ref m_width, .ref m_numbers, .ref m_moving])), (m_many, .inl (cI, 4, .inl g_14)), (m_width, .inl (cI, 4, .inl (upd (fun _ => 0) (2 : Int32).toNatClampNeg a2))), (m_numbers, .inl (cJ, 240, .inr (.inl (fun _ => 0))))] := hD
            obtain ⟨g_15, eg_15⟩ : ∃ v9 : Nat → Int32, (upd (fun _ => 0) (2 : Int32).toNatClampNeg a2) = v9 := ⟨_, rfl⟩
            rw [eg_15] at hP hD
            have hP : va_P D vwCl [(m0, .inr (12, [.int 0, .ref m_world, .ref m_images, .ref m_hasImage, .ref m_tape, .int 0, .ref m_five, .int 0, .int 0, .int 0, .int 0, .int 0, .int 0, .int (-1), .ref m_fresh, .ref m_spokenAt, .ref m_heardAt, .ref m_lastAt, .ref m_answerAt, .int 0, .int 0, .int 0, .long 0, .int 0, .int 0, .ref m_heardNow, .ref m_seenAt, .int 0, .int 0, .int 0, .int 0, .int 0, .ref m_fewest, .ref m_costNow, .ref m_costThen, .ref m_lawsOf, .ref m_heardBy, .int 0, .int 0, .ref m_placesOf, .ref m_sentIn, .int 0, .int 0, .ref m_lostBy, .ref m_many, .ref m_width, .ref m_numbers, .ref m_moving])), (m_many, .inl (cI, 4, .inl g_14)), (m_width, .inl (cI, 4, .inl g_15)), (m_numbers, .inl (cJ, 240, .inr (.inl (fun _ => 0))))] H := hP
            have hD : va_D A [(m0, .inr (12, [.int 0, .ref m_world, .ref m_images, .ref m_hasImage, .ref m_tape, .int 0, .ref m_five, .int 0, .int 0, .int 0, .int 0, .int 0, .int 0, .int (-1), .ref m_fresh, .ref m_spokenAt, .ref m_heardAt, .ref m_lastAt, .ref m_answerAt, .int 0, .int 0, .int 0, .long 0, .int 0, .int 0, .ref m_heardNow, .ref m_seenAt, .int 0, .int 0, .int 0, .int 0, .int 0, .ref m_fewest, .ref m_costNow, .ref m_costThen, .ref m_lawsOf, .ref m_heardBy, .int 0, .int 0, .ref m_placesOf, .ref m_sentIn, .int 0, .int 0, .ref m_lostBy, .ref m_many, .ref m_width, .ref m_numbers, .ref m_moving])), (m_many, .inl (cI, 4, .inl g_14)), (m_width, .inl (cI, 4, .inl g_15)), (m_numbers, .inl (cJ, 240, .inr (.inl (fun _ => 0))))] := hD
            refine lv_iconst (v := 0) hx hb dX12_row_49 (by decide) ?_
            refine lv_istore (lv' := [(4, .int 0), (0, .ref m0), (1, .int 2), (2, .int a2), (3, .int a3)]) hx hb dX12_row_50 hl (by decide) rfl (fun ls hl => ?_)
            refine lp_row6 m0 m_world m_images m_hasImage m_tape m_five m_fresh m_spokenAt m_heardAt m_lastAt m_answerAt m_heardNow m_seenAt m_fewest m_costNow m_costThen m_lawsOf m_heardBy m_placesOf m_sentIn m_lostBy m_many m_width m_numbers m_moving a2 a3 g_14 g_15 hx hb hts hown hK (fun  H locs ls hP hD hS hl => ?_) 61 0  _ _ _ (Nat.zero_le _) (by omega) hP hD hS (lv_sub hl [0, 1, 2, 3, 4] rfl)
            refine lv_iconst (v := 0) hx hb dX12_row_78 (by decide) ?_
            have hP9 := hP.sub (ws' := []) [] rfl
            have hD9 := hD.sub (ws' := []) [] (by decide) rfl
            exact W.iret (v := 0) hx hb hr (fun t ht hW => ⟨⟨0, (), rfl, (by show (0 : Int32) = S_row _ _ _; unfold S_row; rw [if_pos ⟨by decide, by decide, by omega, by omega, by omega⟩, if_neg (by omega)]), by rw [ht]; exact hP9, va_K.moved hW.alike hK, hD9⟩, hS.F ht⟩) hS.2.2 dX12_row_79
          · have hl : lv_has ls 5 [(0, .ref m0), (1, .int 3), (2, .int a2), (3, .int a3)] := hl
            refine lv_aload_n hx hb dX12_row_35 rfl (lv_at hl 0 rfl) ?_
            refine va_get (D := D) (ci := 12) (v := .ref m_many) (C := RX12) (T := TX12) (N := 48) hx hb hts inlX12 hown hK hP 0 rfl rfl 44 (by decide) (hts _ (inr7 _ (List.mem_of_getElem? (i := 14) rfl))) (fun _ h9 => h9) rfl dX12_row_36 ?_
            refine lv_iload_n hx hb dX12_row_39 rfl (lv_at hl 1 rfl) ?_
            refine lv_iload_n hx hb dX12_row_40 rfl (lv_at hl 3 rfl) ?_
            refine va_iast hx hb hK hP hD hS 1 1 rfl rfl (by unfold vp_in; decide) dX12_row_41 (fun H locs hP hD hS => ?_)
            have hP : va_P D vwCl [(m0, .inr (12, [.int 0, .ref m_world, .ref m_images, .ref m_hasImage, .ref m_tape, .int 0, .ref m_five, .int 0, .int 0, .int 0, .int 0, .int 0, .int 0, .int (-1), .ref m_fresh, .ref m_spokenAt, .ref m_heardAt, .ref m_lastAt, .ref m_answerAt, .int 0, .int 0, .int 0, .long 0, .int 0, .int 0, .ref m_heardNow, .ref m_seenAt, .int 0, .int 0, .int 0, .int 0, .int 0, .ref m_fewest, .ref m_costNow, .ref m_costThen, .ref m_lawsOf, .ref m_heardBy, .int 0, .int 0, .ref m_placesOf, .ref m_sentIn, .int 0, .int 0, .ref m_lostBy, .ref m_many, .ref m_width, .ref m_numbers, .ref m_moving])), (m_many, .inl (cI, 4, .inl (upd (upd (upd (upd (upd (fun _ => 0) 0 (-1)) 1 (-1)) 2 (-1)) 3 (-1)) (3 : Int32).toNatClampNeg a3))), (m_width, .inl (cI, 4, .inl (fun _ => 0))), (m_numbers, .inl (cJ, 240, .inr (.inl (fun _ => 0))))] H := hP
            have hD : va_D A [(m0, .inr (12, [.int 0, .ref m_world, .ref m_images, .ref m_hasImage, .ref m_tape, .int 0, .ref m_five, .int 0, .int 0, .int 0, .int 0, .int 0, .int 0, .int (-1), .ref m_fresh, .ref m_spokenAt, .ref m_heardAt, .ref m_lastAt, .ref m_answerAt, .int 0, .int 0, .int 0, .long 0, .int 0, .int 0, .ref m_heardNow, .ref m_seenAt, .int 0, .int 0, .int 0, .int 0, .int 0, .ref m_fewest, .ref m_costNow, .ref m_costThen, .ref m_lawsOf, .ref m_heardBy, .int 0, .int 0, .ref m_placesOf, .ref m_sentIn, .int 0, .int 0, .ref m_lostBy, .ref m_many, .ref m_width, .ref m_numbers, .ref m_moving])), (m_many, .inl (cI, 4, .inl (upd (upd (upd (upd (upd (fun _ => 0) 0 (-1)) 1 (-1)) 2 (-1)) 3 (-1)) (3 : Int32).toNatClampNeg a3))), (m_width, .inl (cI, 4, .inl (fun _ => 0))), (m_numbers, .inl (cJ, 240, .inr (.inl (fun _ => 0))))] := hD
            obtain ⟨g_16, eg_16⟩ : ∃ v9 : Nat → Int32, (upd (upd (upd (upd (upd (fun _ => 0) 0 (-1)) 1 (-1)) 2 (-1)) 3 (-1)) (3 : Int32).toNatClampNeg a3) = v9 := ⟨_, rfl⟩
            rw [eg_16] at hP hD
            have hP : va_P D vwCl [(m0, .inr (12, [.int 0, .ref m_world, .ref m_images, .ref m_hasImage, .ref m_tape, .int 0, .ref m_five, .int 0, .int 0, .int 0, .int 0, .int 0, .int 0, .int (-1), .ref m_fresh, .ref m_spokenAt, .ref m_heardAt, .ref m_lastAt, .ref m_answerAt, .int 0, .int 0, .int 0, .long 0, .int 0, .int 0, .ref m_heardNow, .ref m_seenAt, .int 0, .int 0, .int 0, .int 0, .int 0, .ref m_fewest, .ref m_costNow, .ref m_costThen, .ref m_lawsOf, .ref m_heardBy, .int 0, .int 0, .ref m_placesOf, .ref m_sentIn, .int 0, .int 0, .ref m_lostBy, .ref m_many, .ref m_width, .ref m_numbers, .ref m_moving])), (m_many, .inl (cI, 4, .inl g_16)), (m_width, .inl (cI, 4, .inl (fun _ => 0))), (m_numbers, .inl (cJ, 240, .inr (.inl (fun _ => 0))))] H := hP
            have hD : va_D A [(m0, .inr (12, [.int 0, .ref m_world, .ref m_images, .ref m_hasImage, .ref m_tape, .int 0, .ref m_five, .int 0, .int 0, .int 0, .int 0, .int 0, .int 0, .int (-1), .ref m_fresh, .ref m_spokenAt, .ref m_heardAt, .ref m_lastAt, .ref m_answerAt, .int 0, .int 0, .int 0, .long 0, .int 0, .int 0, .ref m_heardNow, .ref m_seenAt, .int 0, .int 0, .int 0, .int 0, .int 0, .ref m_fewest, .ref m_costNow, .ref m_costThen, .ref m_lawsOf, .ref m_heardBy, .int 0, .int 0, .ref m_placesOf, .ref m_sentIn, .int 0, .int 0, .ref m_lostBy, .ref m_many, .ref m_width, .ref m_numbers, .ref m_moving])), (m_many, .inl (cI, 4, .inl g_16)), (m_width, .inl (cI, 4, .inl (fun _ => 0))), (m_numbers, .inl (cJ, 240, .inr (.inl (fun _ => 0))))] := hD
            refine lv_aload_n hx hb dX12_row_42 rfl (lv_at hl 0 rfl) ?_
            refine va_get (D := D) (ci := 12) (v := .ref m_width) (C := RX12) (T := TX12) (N := 48) hx hb hts inlX12 hown hK hP 0 rfl rfl 45 (by decide) (hts _ (inr7 _ (List.mem_of_getElem? (i := 15) rfl))) (fun _ h9 => h9) rfl dX12_row_43 ?_
            refine lv_iload_n hx hb dX12_row_46 rfl (lv_at hl 1 rfl) ?_
            refine lv_iload_n hx hb dX12_row_47 rfl (lv_at hl 2 rfl) ?_
            refine va_iast hx hb hK hP hD hS 2 1 rfl rfl (by unfold vp_in; decide) dX12_row_48 (fun H locs hP hD hS => ?_)
            have hP : va_P D vwCl [(m0, .inr (12, [.int 0, .ref m_world, .ref m_images, .ref m_hasImage, .ref m_tape, .int 0, .ref m_five, .int 0, .int 0, .int 0, .int 0, .int 0, .int 0, .int (-1), .ref m_fresh, .ref m_spokenAt, .ref m_heardAt, .ref m_lastAt, .ref m_answerAt, .int 0, .int 0, .int 0, .long 0, .int 0, .int 0, .ref m_heardNow, .ref m_seenAt, .int 0, .int 0, .int 0, .int 0, .int 0, .ref m_fewest, .ref m_costNow, .ref m_costThen, .ref m_lawsOf, .ref m_heardBy, .int 0, .int 0, .ref m_placesOf, .ref m_sentIn, .int 0, .int 0, .ref m_lostBy, .ref m_many, .ref m_width, .ref m_numbers, .ref m_moving])), (m_many, .inl (cI, 4, .inl g_16)), (m_width, .inl (cI, 4, .inl (upd (fun _ => 0) (3 : Int32).toNatClampNeg a2))), (m_numbers, .inl (cJ, 240, .inr (.inl (fun _ => 0))))] H := hP
            have hD : va_D A [(m0, .inr (12, [.int 0, .ref m_world, .ref m_images, .ref m_hasImage, .ref m_tape, .int 0, .ref m_five, .int 0, .int 0, .int 0, .int 0, .int 0, .int 0, .int (-1), .ref m_fresh, .ref m_spokenAt, .ref m_heardAt, .ref m_lastAt, .ref m_answerAt, .int 0, .int 0, .int 0, .long 0, .int 0, .int 0, .ref m_heardNow, .ref m_seenAt, .int 0, .int 0, .int 0, .int 0, .int 0, .ref m_fewest, .ref m_costNow, .ref m_costThen, .ref m_lawsOf, .ref m_heardBy, .int 0, .int 0, .ref m_placesOf, .ref m_sentIn, .int 0, .int 0, .ref m_lostBy, .ref m_many, .ref m_width, .ref m_numbers, .ref m_moving])), (m_many, .inl (cI, 4, .inl g_16)), (m_width, .inl (cI, 4, .inl (upd (fun _ => 0) (3 : Int32).toNatClampNeg a2))), (m_numbers, .inl (cJ, 240, .inr (.inl (fun _ => 0))))] := hD
            obtain ⟨g_17, eg_17⟩ : ∃ v9 : Nat → Int32, (upd (fun _ => 0) (3 : Int32).toNatClampNeg a2) = v9 := ⟨_, rfl⟩
            rw [eg_17] at hP hD
            have hP : va_P D vwCl [(m0, .inr (12, [.int 0, .ref m_world, .ref m_images, .ref m_hasImage, .ref m_tape, .int 0, .ref m_five, .int 0, .int 0, .int 0, .int 0, .int 0, .int 0, .int (-1), .ref m_fresh, .ref m_spokenAt, .ref m_heardAt, .ref m_lastAt, .ref m_answerAt, .int 0, .int 0, .int 0, .long 0, .int 0, .int 0, .ref m_heardNow, .ref m_seenAt, .int 0, .int 0, .int 0, .int 0, .int 0, .ref m_fewest, .ref m_costNow, .ref m_costThen, .ref m_lawsOf, .ref m_heardBy, .int 0, .int 0, .ref m_placesOf, .ref m_sentIn, .int 0, .int 0, .ref m_lostBy, .ref m_many, .ref m_width, .ref m_numbers, .ref m_moving])), (m_many, .inl (cI, 4, .inl g_16)), (m_width, .inl (cI, 4, .inl g_17)), (m_numbers, .inl (cJ, 240, .inr (.inl (fun _ => 0))))] H := hP
            have hD : va_D A [(m0, .inr (12, [.int 0, .ref m_world, .ref m_images, .ref m_hasImage, .ref m_tape, .int 0, .ref m_five, .int 0, .int 0, .int 0, .int 0, .int 0, .int 0, .int (-1), .ref m_fresh, .ref m_spokenAt, .ref m_heardAt, .ref m_lastAt, .ref m_answerAt, .int 0, .int 0, .int 0, .long 0, .int 0, .int 0, .ref m_heardNow, .ref m_seenAt, .int 0, .int 0, .int 0, .int 0, .int 0, .ref m_fewest, .ref m_costNow, .ref m_costThen, .ref m_lawsOf, .ref m_heardBy, .int 0, .int 0, .ref m_placesOf, .ref m_sentIn, .int 0, .int 0, .ref m_lostBy, .ref m_many, .ref m_width, .ref m_numbers, .ref m_moving])), (m_many, .inl (cI, 4, .inl g_16)), (m_width, .inl (cI, 4, .inl g_17)), (m_numbers, .inl (cJ, 240, .inr (.inl (fun _ => 0))))] := hD
            refine lv_iconst (v := 0) hx hb dX12_row_49 (by decide) ?_
            refine lv_istore (lv' := [(4, .int 0), (0, .ref m0), (1, .int 3), (2, .int a2), (3, .int a3)]) hx hb dX12_row_50 hl (by decide) rfl (fun ls hl => ?_)
            refine lp_row7 m0 m_world m_images m_hasImage m_tape m_five m_fresh m_spokenAt m_heardAt m_lastAt m_answerAt m_heardNow m_seenAt m_fewest m_costNow m_costThen m_lawsOf m_heardBy m_placesOf m_sentIn m_lostBy m_many m_width m_numbers m_moving a2 a3 g_16 g_17 hx hb hts hown hK (fun  H locs ls hP hD hS hl => ?_) 61 0  _ _ _ (Nat.zero_le _) (by omega) hP hD hS (lv_sub hl [0, 1, 2, 3, 4] rfl)
            refine lv_iconst (v := 0) hx hb dX12_row_78 (by decide) ?_
            have hP9 := hP.sub (ws' := []) [] rfl
            have hD9 := hD.sub (ws' := []) [] (by decide) rfl
            exact W.iret (v := 0) hx hb hr (fun t ht hW => ⟨⟨0, (), rfl, (by show (0 : Int32) = S_row _ _ _; unfold S_row; rw [if_pos ⟨by decide, by decide, by omega, by omega, by omega⟩, if_neg (by omega)]), by rw [ht]; exact hP9, va_K.moved hW.alike hK, hD9⟩, hS.F ht⟩) hS.2.2 dX12_row_79
        · have c_9 : a3.toInt < 0 := ci_ge_f c_9
          refine lv_bipush (v := (-3)) hx hb dX12_row_32 (by decide) ?_
          have hP9 := hP.sub (ws' := []) [] rfl
          have hD9 := hD.sub (ws' := []) [] (by decide) rfl
          exact W.iret (v := (-3)) hx hb hr (fun t ht hW => ⟨⟨(-3), (), rfl, (by unfold S_row; repeat' split <;> first | rfl | (exfalso; omega) | (simp_all; omega)), by rw [ht]; exact hP9, va_K.moved hW.alike hK, hD9⟩, hS.F ht⟩) hS.2.2 dX12_row_34
      · have c_8 : 60 < a3.toInt := ci_le_f c_8
        refine lv_bipush (v := (-2)) hx hb dX12_row_25 (by decide) ?_
        have hP9 := hP.sub (ws' := []) [] rfl
        have hD9 := hD.sub (ws' := []) [] (by decide) rfl
        exact W.iret (v := (-2)) hx hb hr (fun t ht hW => ⟨⟨(-2), (), rfl, (by unfold S_row; repeat' split <;> first | rfl | (exfalso; omega) | (simp_all; omega)), by rw [ht]; exact hP9, va_K.moved hW.alike hK, hD9⟩, hS.F ht⟩) hS.2.2 dX12_row_27

set_option maxHeartbeats 4000000 in
set_option maxRecDepth 100000 in
theorem k_see0 (l : Launch) (D : va_G) (cB cI cJ cZ cS cT : ClassId) (m0 : Nat) (m_world : Nat) (m_images : Nat) (m_hasImage : Nat) (m_tape : Nat) (m_five : Nat) (m_fresh : Nat) (m_spokenAt : Nat) (m_heardAt : Nat) (m_lastAt : Nat) (m_answerAt : Nat) (m_heardNow : Nat) (m_seenAt : Nat) (m_fewest : Nat) (m_costNow : Nat) (m_costThen : Nat) (m_lawsOf : Nat) (m_heardBy : Nat) (m_placesOf : Nat) (m_sentIn : Nat) (m_lostBy : Nat) (m_many : Nat) (m_width : Nat) (m_numbers : Nat) (m_moving : Nat)  : Met l yX12_see (Cond.code yX12_see cX12_see 2 (some .int) :: wsL_law) ({ frames := 0, cells := 0, slots := 0, locals := 0 }) (roP D (tyL cB cI cJ cZ cS cT) [(m0, .inr (12, [.int 0, .ref m_world, .ref m_images, .ref m_hasImage, .ref m_tape, .int 0, .ref m_five, .int 0, .int 0, .int 0, .int 0, .int 0, .int 0, .int (-1), .ref m_fresh, .ref m_spokenAt, .ref m_heardAt, .ref m_lastAt, .ref m_answerAt, .int 0, .int 0, .int 0, .long 0, .int 0, .int 0, .ref m_heardNow, .ref m_seenAt, .int 0, .int 0, .int 0, .int 0, .int 0, .ref m_fewest, .ref m_costNow, .ref m_costThen, .ref m_lawsOf, .ref m_heardBy, .int 0, .int 0, .ref m_placesOf, .ref m_sentIn, .int 0, .int 0, .ref m_lostBy, .ref m_many, .ref m_width, .ref m_numbers, .ref m_moving]))] [.ref m0, .int 0]) (vp_Si (fun r : Int32 => r = -1)) 0 0 (fun _ => False) := by
  refine Met.ofW (cc := cX12_see) (maxL := 2) (ret := (some .int)) (by decide) rfl ?_
  intro p e s m args below meth c s₁ B hml hv
  obtain ⟨rfl, hP, hK⟩ := hv
  have hx := B.exec
  have hb := B.bytes
  have hr := B.returns
  have hts : ∀ w ∈ wsL_law, w.before ([.ref m0, .int 0] : List Value).toArray s = true := fun w h => atoms_spec (ws := Cond.code yX12_see cX12_see 2 (some .int) :: wsL_law) B.pre w (List.mem_cons_of_mem _ h)
  have hown : s.vm.findClass RX12 = some m.cls := findClass_of_methodNamed B.named
  have hlocks := B.notSynchronized
  have hl := lv_entry ([.ref m0, .int 0]) (n := 2) (Nat.le_of_ble_eq_true rfl)
  rw [lg_entry_eq]
  generalize (lg_sl ([.ref m0, .int 0]) ++ List.replicate (2 - (lg_sl ([.ref m0, .int 0])).length) Slot.unset).toArray = ls at hl ⊢
  have hl : lv_has ls 2 [(0, .ref m0), (1, .int 0)] := hl
  have hP : va_P D vwCl [(m0, .inr (12, [.int 0, .ref m_world, .ref m_images, .ref m_hasImage, .ref m_tape, .int 0, .ref m_five, .int 0, .int 0, .int 0, .int 0, .int 0, .int 0, .int (-1), .ref m_fresh, .ref m_spokenAt, .ref m_heardAt, .ref m_lastAt, .ref m_answerAt, .int 0, .int 0, .int 0, .long 0, .int 0, .int 0, .ref m_heardNow, .ref m_seenAt, .int 0, .int 0, .int 0, .int 0, .int 0, .ref m_fewest, .ref m_costNow, .ref m_costThen, .ref m_lawsOf, .ref m_heardBy, .int 0, .int 0, .ref m_placesOf, .ref m_sentIn, .int 0, .int 0, .ref m_lostBy, .ref m_many, .ref m_width, .ref m_numbers, .ref m_moving]))] s.heap := hP
  refine lv_iload_n hx hb dX12_see_0 rfl (lv_at hl 1 rfl) ?_
  refine lv_aload_n hx hb dX12_see_1 rfl (lv_at hl 0 rfl) ?_
  refine va_get (D := D) (ci := 12) (v := .int 0) (C := RX12) (T := TX12) (N := 48) hx hb hts inlX12 hown hK hP 0 rfl rfl 7 (by decide) (hts _ (inr17 _ (List.mem_of_getElem? (i := 19) rfl))) (fun _ h9 => h9) rfl dX12_see_2 ?_
  refine lv_icmp_ge (tgt := 21) hx hb dX12_see_5 (by decide) (fun _ => ?_) (fun c0 => absurd c0 (by decide))
  refine lv_iconst (v := (-1)) hx hb dX12_see_21 (by decide) ?_
  exact W.iret (v := (-1)) hx hb hr (fun t ht hW => ⟨_, rfl, rfl, ht⟩) (fun _ h => by cases h) dX12_see_22

set_option maxHeartbeats 4000000 in
set_option maxRecDepth 100000 in
theorem k_good0 (l : Launch) (D : va_G) (cB cI cJ cZ cS cT : ClassId) (m0 : Nat) (m_world : Nat) (m_images : Nat) (m_hasImage : Nat) (m_tape : Nat) (m_five : Nat) (m_fresh : Nat) (m_spokenAt : Nat) (m_heardAt : Nat) (m_lastAt : Nat) (m_answerAt : Nat) (m_heardNow : Nat) (m_seenAt : Nat) (m_fewest : Nat) (m_costNow : Nat) (m_costThen : Nat) (m_lawsOf : Nat) (m_heardBy : Nat) (m_placesOf : Nat) (m_sentIn : Nat) (m_lostBy : Nat) (m_many : Nat) (m_width : Nat) (m_numbers : Nat) (m_moving : Nat)  : Met l yX12_good (Cond.code yX12_good cX12_good 1 (some .boolean) :: wsL_law) ({ frames := 0, cells := 0, slots := 0, locals := 0 }) (roP D (tyL cB cI cJ cZ cS cT) [(m0, .inr (12, [.int 0, .ref m_world, .ref m_images, .ref m_hasImage, .ref m_tape, .int 0, .ref m_five, .int 0, .int 0, .int 0, .int 0, .int 0, .int 0, .int (-1), .ref m_fresh, .ref m_spokenAt, .ref m_heardAt, .ref m_lastAt, .ref m_answerAt, .int 0, .int 0, .int 0, .long 0, .int 0, .int 0, .ref m_heardNow, .ref m_seenAt, .int 0, .int 0, .int 0, .int 0, .int 0, .ref m_fewest, .ref m_costNow, .ref m_costThen, .ref m_lawsOf, .ref m_heardBy, .int 0, .int 0, .ref m_placesOf, .ref m_sentIn, .int 0, .int 0, .ref m_lostBy, .ref m_many, .ref m_width, .ref m_numbers, .ref m_moving]))] [.ref m0]) (vp_Si (fun r : Int32 => r = 1)) 0 0 (fun _ => False) := by
  refine Met.ofW (cc := cX12_good) (maxL := 1) (ret := (some .boolean)) (by decide) rfl ?_
  intro p e s m args below meth c s₁ B hml hv
  obtain ⟨rfl, hP, hK⟩ := hv
  have hx := B.exec
  have hb := B.bytes
  have hr := B.returns
  have hts : ∀ w ∈ wsL_law, w.before ([.ref m0] : List Value).toArray s = true := fun w h => atoms_spec (ws := Cond.code yX12_good cX12_good 1 (some .boolean) :: wsL_law) B.pre w (List.mem_cons_of_mem _ h)
  have hown : s.vm.findClass RX12 = some m.cls := findClass_of_methodNamed B.named
  have hlocks := B.notSynchronized
  have hl := lv_entry ([.ref m0]) (n := 1) (Nat.le_of_ble_eq_true rfl)
  rw [lg_entry_eq]
  generalize (lg_sl ([.ref m0]) ++ List.replicate (1 - (lg_sl ([.ref m0])).length) Slot.unset).toArray = ls at hl ⊢
  have hl : lv_has ls 1 [(0, .ref m0)] := hl
  have hP : va_P D vwCl [(m0, .inr (12, [.int 0, .ref m_world, .ref m_images, .ref m_hasImage, .ref m_tape, .int 0, .ref m_five, .int 0, .int 0, .int 0, .int 0, .int 0, .int 0, .int (-1), .ref m_fresh, .ref m_spokenAt, .ref m_heardAt, .ref m_lastAt, .ref m_answerAt, .int 0, .int 0, .int 0, .long 0, .int 0, .int 0, .ref m_heardNow, .ref m_seenAt, .int 0, .int 0, .int 0, .int 0, .int 0, .ref m_fewest, .ref m_costNow, .ref m_costThen, .ref m_lawsOf, .ref m_heardBy, .int 0, .int 0, .ref m_placesOf, .ref m_sentIn, .int 0, .int 0, .ref m_lostBy, .ref m_many, .ref m_width, .ref m_numbers, .ref m_moving]))] s.heap := hP
  refine lv_aload_n hx hb dX12_good_0 rfl (lv_at hl 0 rfl) ?_
  refine va_get (D := D) (ci := 12) (v := .int 0) (C := RX12) (T := TX12) (N := 48) hx hb hts inlX12 hown hK hP 0 rfl rfl 12 (by decide) (hts _ (inr17 _ (List.mem_of_getElem? (i := 21) rfl))) (fun _ h9 => h9) rfl dX12_good_1 ?_
  refine lv_if_ne (tgt := 11) hx hb dX12_good_4 (by decide) (fun c0 => absurd c0 (by decide)) (fun _ => ?_)
  refine lv_iconst (v := 1) hx hb dX12_good_7 (by decide) ?_
  refine lv_goto (tgt := 12) hx hb dX12_good_8 (by decide) ?_
  exact W.zret (v := 1) hx hb hr rfl (fun t ht hW => ⟨_, rfl, rfl, ht⟩) (fun _ h => by cases h) dX12_good_12

set_option maxHeartbeats 4000000 in
set_option maxRecDepth 100000 in
theorem k_advance0 (l : Launch) (D : va_G) (cB cI cJ cZ cS cT : ClassId) (sz : Nat) (m0 : Nat) (m_world : Nat) (m_images : Nat) (m_hasImage : Nat) (m_tape : Nat) (m_five : Nat) (m_fresh : Nat) (m_spokenAt : Nat) (m_heardAt : Nat) (m_lastAt : Nat) (m_answerAt : Nat) (m_heardNow : Nat) (m_seenAt : Nat) (m_fewest : Nat) (m_costNow : Nat) (m_costThen : Nat) (m_lawsOf : Nat) (m_heardBy : Nat) (m_placesOf : Nat) (m_sentIn : Nat) (m_lostBy : Nat) (m_many : Nat) (m_width : Nat) (m_numbers : Nat) (m_moving : Nat)  : Met l yX12_advance (Cond.code yX12_advance cX12_advance 2 none :: wsL_law) ({ frames := 1, cells := 0, slots := 0, locals := 21 }) (wrP D (tyL cB cI cJ cZ cS cT) [(m0, .inr (12, [.int 0, .ref m_world, .ref m_images, .ref m_hasImage, .ref m_tape, .int 0, .ref m_five, .int 0, .int 0, .int 0, .int 0, .int 0, .int 0, .int (-1), .ref m_fresh, .ref m_spokenAt, .ref m_heardAt, .ref m_lastAt, .ref m_answerAt, .int 0, .int 0, .int 0, .long 0, .int 0, .int 0, .ref m_heardNow, .ref m_seenAt, .int 0, .int 0, .int 0, .int 0, .int 0, .ref m_fewest, .ref m_costNow, .ref m_costThen, .ref m_lawsOf, .ref m_heardBy, .int 0, .int 0, .ref m_placesOf, .ref m_sentIn, .int 0, .int 0, .ref m_lostBy, .ref m_many, .ref m_width, .ref m_numbers, .ref m_moving]))] sz [.ref m0]) (va_Qv (fun x : Unit => True) (atW D (tyL cB cI cJ cZ cS cT) (va_A [(m0, .inr (12, [.int 0, .ref m_world, .ref m_images, .ref m_hasImage, .ref m_tape, .int 0, .ref m_five, .int 0, .int 0, .int 0, .int 0, .int 0, .int 0, .int (-1), .ref m_fresh, .ref m_spokenAt, .ref m_heardAt, .ref m_lastAt, .ref m_answerAt, .int 0, .int 0, .int 0, .long 0, .int 0, .int 0, .ref m_heardNow, .ref m_seenAt, .int 0, .int 0, .int 0, .int 0, .int 0, .ref m_fewest, .ref m_costNow, .ref m_costThen, .ref m_lawsOf, .ref m_heardBy, .int 0, .int 0, .ref m_placesOf, .ref m_sentIn, .int 0, .int 0, .ref m_lostBy, .ref m_many, .ref m_width, .ref m_numbers, .ref m_moving]))] sz) (fun x : Unit => [(m0, .inr (12, [.int 0, .ref m_world, .ref m_images, .ref m_hasImage, .ref m_tape, .int 0, .ref m_five, .int 0, .int 0, .int 0, .int 0, .int 0, .int 0, .int (-1), .ref m_fresh, .ref m_spokenAt, .ref m_heardAt, .ref m_lastAt, .ref m_answerAt, .int 0, .int 0, .int 0, .long 0, .int 0, .int 0, .ref m_heardNow, .ref m_seenAt, .int 0, .int 0, .int 0, .int 0, .int 0, .ref m_fewest, .ref m_costNow, .ref m_costThen, .ref m_lawsOf, .ref m_heardBy, .int 0, .int 0, .ref m_placesOf, .ref m_sentIn, .int 0, .int 0, .ref m_lostBy, .ref m_many, .ref m_width, .ref m_numbers, .ref m_moving]))])) (va_A [(m0, .inr (12, [.int 0, .ref m_world, .ref m_images, .ref m_hasImage, .ref m_tape, .int 0, .ref m_five, .int 0, .int 0, .int 0, .int 0, .int 0, .int 0, .int (-1), .ref m_fresh, .ref m_spokenAt, .ref m_heardAt, .ref m_lastAt, .ref m_answerAt, .int 0, .int 0, .int 0, .long 0, .int 0, .int 0, .ref m_heardNow, .ref m_seenAt, .int 0, .int 0, .int 0, .int 0, .int 0, .ref m_fewest, .ref m_costNow, .ref m_costThen, .ref m_lawsOf, .ref m_heardBy, .int 0, .int 0, .ref m_placesOf, .ref m_sentIn, .int 0, .int 0, .ref m_lostBy, .ref m_many, .ref m_width, .ref m_numbers, .ref m_moving]))] sz)) 0 0 (va_A [(m0, .inr (12, [.int 0, .ref m_world, .ref m_images, .ref m_hasImage, .ref m_tape, .int 0, .ref m_five, .int 0, .int 0, .int 0, .int 0, .int 0, .int 0, .int (-1), .ref m_fresh, .ref m_spokenAt, .ref m_heardAt, .ref m_lastAt, .ref m_answerAt, .int 0, .int 0, .int 0, .long 0, .int 0, .int 0, .ref m_heardNow, .ref m_seenAt, .int 0, .int 0, .int 0, .int 0, .int 0, .ref m_fewest, .ref m_costNow, .ref m_costThen, .ref m_lawsOf, .ref m_heardBy, .int 0, .int 0, .ref m_placesOf, .ref m_sentIn, .int 0, .int 0, .ref m_lostBy, .ref m_many, .ref m_width, .ref m_numbers, .ref m_moving]))] sz) := by
  refine Met.ofW (cc := cX12_advance) (maxL := 2) (ret := none) (by decide) rfl ?_
  intro p e s m args below meth c s₁ B hml hv
  obtain ⟨rfl, hsz, hP, hK, hD0, hN⟩ := hv
  have hx := B.exec
  have hb := B.bytes
  have hr := B.returns
  have hts : ∀ w ∈ wsL_law, w.before ([.ref m0] : List Value).toArray s = true := fun w h => atoms_spec (ws := Cond.code yX12_advance cX12_advance 2 none :: wsL_law) B.pre w (List.mem_cons_of_mem _ h)
  have hown : s.vm.findClass RX12 = some m.cls := findClass_of_methodNamed B.named
  have hlocks := B.notSynchronized
  subst hsz
  have hD := hD0.self (sz := s.heap.size)
  generalize hAe : va_A [(m0, .inr (12, [.int 0, .ref m_world, .ref m_images, .ref m_hasImage, .ref m_tape, .int 0, .ref m_five, .int 0, .int 0, .int 0, .int 0, .int 0, .int 0, .int (-1), .ref m_fresh, .ref m_spokenAt, .ref m_heardAt, .ref m_lastAt, .ref m_answerAt, .int 0, .int 0, .int 0, .long 0, .int 0, .int 0, .ref m_heardNow, .ref m_seenAt, .int 0, .int 0, .int 0, .int 0, .int 0, .ref m_fewest, .ref m_costNow, .ref m_costThen, .ref m_lawsOf, .ref m_heardBy, .int 0, .int 0, .ref m_placesOf, .ref m_sentIn, .int 0, .int 0, .ref m_lostBy, .ref m_many, .ref m_width, .ref m_numbers, .ref m_moving]))] s.heap.size = A at hD ⊢
  have hA : ∀ q : Nat, s.heap.size ≤ q → A q := fun q h => by rw [← hAe]; exact Or.inr h
  have hS : va_S A s.heap s.heap [] := va_S.rf
  have hl := lv_entry ([.ref m0]) (n := 2) (Nat.le_of_ble_eq_true rfl)
  rw [lg_entry_eq]
  generalize (lg_sl ([.ref m0]) ++ List.replicate (2 - (lg_sl ([.ref m0])).length) Slot.unset).toArray = ls at hl ⊢
  have hl : lv_has ls 2 [(0, .ref m0)] := hl
  have hP : va_P D vwCl [(m0, .inr (12, [.int 0, .ref m_world, .ref m_images, .ref m_hasImage, .ref m_tape, .int 0, .ref m_five, .int 0, .int 0, .int 0, .int 0, .int 0, .int 0, .int (-1), .ref m_fresh, .ref m_spokenAt, .ref m_heardAt, .ref m_lastAt, .ref m_answerAt, .int 0, .int 0, .int 0, .long 0, .int 0, .int 0, .ref m_heardNow, .ref m_seenAt, .int 0, .int 0, .int 0, .int 0, .int 0, .ref m_fewest, .ref m_costNow, .ref m_costThen, .ref m_lawsOf, .ref m_heardBy, .int 0, .int 0, .ref m_placesOf, .ref m_sentIn, .int 0, .int 0, .ref m_lostBy, .ref m_many, .ref m_width, .ref m_numbers, .ref m_moving]))] s.heap := hP
  refine lv_aload_n hx hb dX12_advance_0 rfl (lv_at hl 0 rfl) ?_
  refine lv_aload_n hx hb dX12_advance_1 rfl (lv_at hl 0 rfl) ?_
  refine va_get (D := D) (ci := 12) (v := .int 0) (C := RX12) (T := TX12) (N := 48) hx hb hts inlX12 hown hK hP 0 rfl rfl 8 (by decide) (hts _ (inr17 _ (List.mem_of_getElem? (i := 20) rfl))) (fun _ h9 => h9) rfl dX12_advance_2 ?_
  refine roi (As := [.int 0]) (rest := []) ⟨hx, hb, hml, hown, hts⟩ (k_see0 l D cB cI cJ cZ cS cT m0 m_world m_images m_hasImage m_tape m_five m_fresh m_spokenAt m_heardAt m_lastAt m_answerAt m_heardNow m_seenAt m_fewest m_costNow m_costThen m_lawsOf m_heardBy m_placesOf m_sentIn m_lostBy m_many m_width m_numbers m_moving ) (cvB (n := 1) (inr18 _ (List.mem_of_getElem? (i := 14) rfl)) (inr18 _ (List.mem_of_getElem? (i := 15) rfl)) (inr18 _ (List.mem_of_getElem? (i := 16) rfl)) (inr1 _ (List.mem_of_getElem? (i := 5) rfl)) (inr18 _ (List.mem_of_getElem? (i := 17) rfl)) (by decide +kernel) hts rfl rfl ⟨Nat.le_of_ble_eq_true rfl, Nat.le_of_ble_eq_true rfl⟩) 0 12 rfl rfl rfl (hP.sub [0] rfl) hK rfl hl.1 rfl (Nat.le_of_ble_eq_true rfl) ⟨Nat.le_of_ble_eq_true rfl, Nat.le_of_ble_eq_true rfl⟩ dX12_advance_5 (fun r_1 h_2 => ?_)
  obtain rfl := h_2
  refine lv_bipush (v := 32) hx hb dX12_advance_8 (by decide) ?_
  refine lv_icmp_eq (tgt := 26) hx hb dX12_advance_10 (by decide) (fun c0 => absurd c0 (by decide)) (fun _ => ?_)
  refine lv_aload_n hx hb dX12_advance_13 rfl (lv_at hl 0 rfl) ?_
  refine lv_aload_n hx hb dX12_advance_14 rfl (lv_at hl 0 rfl) ?_
  refine va_get (D := D) (ci := 12) (v := .int 0) (C := RX12) (T := TX12) (N := 48) hx hb hts inlX12 hown hK hP 0 rfl rfl 8 (by decide) (hts _ (inr17 _ (List.mem_of_getElem? (i := 20) rfl))) (fun _ h9 => h9) rfl dX12_advance_15 ?_
  refine roi (As := [.int 0]) (rest := []) ⟨hx, hb, hml, hown, hts⟩ (k_see0 l D cB cI cJ cZ cS cT m0 m_world m_images m_hasImage m_tape m_five m_fresh m_spokenAt m_heardAt m_lastAt m_answerAt m_heardNow m_seenAt m_fewest m_costNow m_costThen m_lawsOf m_heardBy m_placesOf m_sentIn m_lostBy m_many m_width m_numbers m_moving ) (cvB (n := 1) (inr18 _ (List.mem_of_getElem? (i := 14) rfl)) (inr18 _ (List.mem_of_getElem? (i := 15) rfl)) (inr18 _ (List.mem_of_getElem? (i := 16) rfl)) (inr1 _ (List.mem_of_getElem? (i := 5) rfl)) (inr18 _ (List.mem_of_getElem? (i := 17) rfl)) (by decide +kernel) hts rfl rfl ⟨Nat.le_of_ble_eq_true rfl, Nat.le_of_ble_eq_true rfl⟩) 0 12 rfl rfl rfl (hP.sub [0] rfl) hK rfl hl.1 rfl (Nat.le_of_ble_eq_true rfl) ⟨Nat.le_of_ble_eq_true rfl, Nat.le_of_ble_eq_true rfl⟩ dX12_advance_18 (fun r_3 h_4 => ?_)
  obtain rfl := h_4
  refine lv_bipush (v := 10) hx hb dX12_advance_21 (by decide) ?_
  refine lv_icmp_ne (tgt := 39) hx hb dX12_advance_23 (by decide) (fun _ => ?_) (fun c0 => absurd c0 (by decide))
  refine lv_aload_n hx hb dX12_advance_39 rfl (lv_at hl 0 rfl) ?_
  refine lv_aload_n hx hb dX12_advance_40 rfl (lv_at hl 0 rfl) ?_
  refine va_get (D := D) (ci := 12) (v := .int 0) (C := RX12) (T := TX12) (N := 48) hx hb hts inlX12 hown hK hP 0 rfl rfl 8 (by decide) (hts _ (inr17 _ (List.mem_of_getElem? (i := 20) rfl))) (fun _ h9 => h9) rfl dX12_advance_41 ?_
  refine va_put (D := D) (ci := 12) (v := .int 0) (ty := .int) (C := RX12) (T := TX12) (N := 48) hx hb hts inlX12 tyX12 tyX12_ok nmX12 hown hK hP hD hS 0 rfl rfl 9 (by decide) (hts _ (inr18 _ (List.mem_of_getElem? (i := 3) rfl))) (fun _ h9 => h9) rfl (by decide +kernel) rfl rfl (Nat.le_of_ble_eq_true rfl) dX12_advance_44 (fun H locs hP hD hS => ?_)
  have hP : va_P D vwCl [(m0, .inr (12, [.int 0, .ref m_world, .ref m_images, .ref m_hasImage, .ref m_tape, .int 0, .ref m_five, .int 0, .int 0, .int 0, .int 0, .int 0, .int 0, .int (-1), .ref m_fresh, .ref m_spokenAt, .ref m_heardAt, .ref m_lastAt, .ref m_answerAt, .int 0, .int 0, .int 0, .long 0, .int 0, .int 0, .ref m_heardNow, .ref m_seenAt, .int 0, .int 0, .int 0, .int 0, .int 0, .ref m_fewest, .ref m_costNow, .ref m_costThen, .ref m_lawsOf, .ref m_heardBy, .int 0, .int 0, .ref m_placesOf, .ref m_sentIn, .int 0, .int 0, .ref m_lostBy, .ref m_many, .ref m_width, .ref m_numbers, .ref m_moving]))] H := hP
  have hD : va_D A [(m0, .inr (12, [.int 0, .ref m_world, .ref m_images, .ref m_hasImage, .ref m_tape, .int 0, .ref m_five, .int 0, .int 0, .int 0, .int 0, .int 0, .int 0, .int (-1), .ref m_fresh, .ref m_spokenAt, .ref m_heardAt, .ref m_lastAt, .ref m_answerAt, .int 0, .int 0, .int 0, .long 0, .int 0, .int 0, .ref m_heardNow, .ref m_seenAt, .int 0, .int 0, .int 0, .int 0, .int 0, .ref m_fewest, .ref m_costNow, .ref m_costThen, .ref m_lawsOf, .ref m_heardBy, .int 0, .int 0, .ref m_placesOf, .ref m_sentIn, .int 0, .int 0, .ref m_lostBy, .ref m_many, .ref m_width, .ref m_numbers, .ref m_moving]))] := hD
  refine lv_aload_n hx hb dX12_advance_47 rfl (lv_at hl 0 rfl) ?_
  refine lv_aload_n hx hb dX12_advance_48 rfl (lv_at hl 0 rfl) ?_
  refine va_get (D := D) (ci := 12) (v := .int 0) (C := RX12) (T := TX12) (N := 48) hx hb hts inlX12 hown hK hP 0 rfl rfl 8 (by decide) (hts _ (inr17 _ (List.mem_of_getElem? (i := 20) rfl))) (fun _ h9 => h9) rfl dX12_advance_49 ?_
  refine roi (As := [.int 0]) (rest := []) ⟨hx, hb, hml, hown, hts⟩ (k_see0 l D cB cI cJ cZ cS cT m0 m_world m_images m_hasImage m_tape m_five m_fresh m_spokenAt m_heardAt m_lastAt m_answerAt m_heardNow m_seenAt m_fewest m_costNow m_costThen m_lawsOf m_heardBy m_placesOf m_sentIn m_lostBy m_many m_width m_numbers m_moving ) (cvB (n := 1) (inr18 _ (List.mem_of_getElem? (i := 14) rfl)) (inr18 _ (List.mem_of_getElem? (i := 15) rfl)) (inr18 _ (List.mem_of_getElem? (i := 16) rfl)) (inr1 _ (List.mem_of_getElem? (i := 5) rfl)) (inr18 _ (List.mem_of_getElem? (i := 17) rfl)) (by decide +kernel) hts rfl rfl ⟨Nat.le_of_ble_eq_true rfl, Nat.le_of_ble_eq_true rfl⟩) 0 12 rfl rfl rfl (hP.sub [0] rfl) hK rfl hl.1 rfl (Nat.le_of_ble_eq_true rfl) ⟨Nat.le_of_ble_eq_true rfl, Nat.le_of_ble_eq_true rfl⟩ dX12_advance_52 (fun r_5 h_6 => ?_)
  obtain rfl := h_6
  refine lv_istore_n (lv' := [(1, .int (-1)), (0, .ref m0)]) hx hb dX12_advance_55 rfl hl (by decide) rfl (fun ls hl => ?_)
  refine lv_iload_n hx hb dX12_advance_56 rfl (lv_at hl 0 rfl) ?_
  refine lv_iconst (v := (-1)) hx hb dX12_advance_57 (by decide) ?_
  refine lv_icmp_ne (tgt := 69) hx hb dX12_advance_58 (by decide) (fun c0 => absurd c0 (by decide)) (fun _ => ?_)
  refine lv_aload_n hx hb dX12_advance_61 rfl (lv_at hl 1 rfl) ?_
  refine lv_iconst (v := 0) hx hb dX12_advance_62 (by decide) ?_
  refine va_put (D := D) (ci := 12) (v := .int 0) (ty := .int) (C := RX12) (T := TX12) (N := 48) hx hb hts inlX12 tyX12 tyX12_ok nmX12 hown hK hP hD hS 0 rfl rfl 10 (by decide) (hts _ (inr17 _ (List.mem_of_getElem? (i := 22) rfl))) (fun _ h9 => h9) rfl (by decide +kernel) rfl rfl (Nat.le_of_ble_eq_true rfl) dX12_advance_63 (fun H locs hP hD hS => ?_)
  have hP : va_P D vwCl [(m0, .inr (12, [.int 0, .ref m_world, .ref m_images, .ref m_hasImage, .ref m_tape, .int 0, .ref m_five, .int 0, .int 0, .int 0, .int 0, .int 0, .int 0, .int (-1), .ref m_fresh, .ref m_spokenAt, .ref m_heardAt, .ref m_lastAt, .ref m_answerAt, .int 0, .int 0, .int 0, .long 0, .int 0, .int 0, .ref m_heardNow, .ref m_seenAt, .int 0, .int 0, .int 0, .int 0, .int 0, .ref m_fewest, .ref m_costNow, .ref m_costThen, .ref m_lawsOf, .ref m_heardBy, .int 0, .int 0, .ref m_placesOf, .ref m_sentIn, .int 0, .int 0, .ref m_lostBy, .ref m_many, .ref m_width, .ref m_numbers, .ref m_moving]))] H := hP
  have hD : va_D A [(m0, .inr (12, [.int 0, .ref m_world, .ref m_images, .ref m_hasImage, .ref m_tape, .int 0, .ref m_five, .int 0, .int 0, .int 0, .int 0, .int 0, .int 0, .int (-1), .ref m_fresh, .ref m_spokenAt, .ref m_heardAt, .ref m_lastAt, .ref m_answerAt, .int 0, .int 0, .int 0, .long 0, .int 0, .int 0, .ref m_heardNow, .ref m_seenAt, .int 0, .int 0, .int 0, .int 0, .int 0, .ref m_fewest, .ref m_costNow, .ref m_costThen, .ref m_lawsOf, .ref m_heardBy, .int 0, .int 0, .ref m_placesOf, .ref m_sentIn, .int 0, .int 0, .ref m_lostBy, .ref m_many, .ref m_width, .ref m_numbers, .ref m_moving]))] := hD
  refine lv_goto (tgt := 239) hx hb dX12_advance_66 (by decide) ?_
  have hP9 := hP.sub (ws' := [(m0, .inr (12, [.int 0, .ref m_world, .ref m_images, .ref m_hasImage, .ref m_tape, .int 0, .ref m_five, .int 0, .int 0, .int 0, .int 0, .int 0, .int 0, .int (-1), .ref m_fresh, .ref m_spokenAt, .ref m_heardAt, .ref m_lastAt, .ref m_answerAt, .int 0, .int 0, .int 0, .long 0, .int 0, .int 0, .ref m_heardNow, .ref m_seenAt, .int 0, .int 0, .int 0, .int 0, .int 0, .ref m_fewest, .ref m_costNow, .ref m_costThen, .ref m_lawsOf, .ref m_heardBy, .int 0, .int 0, .ref m_placesOf, .ref m_sentIn, .int 0, .int 0, .ref m_lostBy, .ref m_many, .ref m_width, .ref m_numbers, .ref m_moving]))]) [0] rfl
  have hD9 := hD.sub (ws' := [(m0, .inr (12, [.int 0, .ref m_world, .ref m_images, .ref m_hasImage, .ref m_tape, .int 0, .ref m_five, .int 0, .int 0, .int 0, .int 0, .int 0, .int 0, .int (-1), .ref m_fresh, .ref m_spokenAt, .ref m_heardAt, .ref m_lastAt, .ref m_answerAt, .int 0, .int 0, .int 0, .long 0, .int 0, .int 0, .ref m_heardNow, .ref m_seenAt, .int 0, .int 0, .int 0, .int 0, .int 0, .ref m_fewest, .ref m_costNow, .ref m_costThen, .ref m_lawsOf, .ref m_heardBy, .int 0, .int 0, .ref m_placesOf, .ref m_sentIn, .int 0, .int 0, .ref m_lostBy, .ref m_many, .ref m_width, .ref m_numbers, .ref m_moving]))]) [0] (by decide) rfl
  exact W.vret hx hb hr (fun t ht hW => ⟨⟨(), rfl, trivial, by rw [ht]; exact hP9, va_K.moved hW.alike hK, hD9⟩, hS.F ht⟩) hS.2.2 dX12_advance_239

set_option maxHeartbeats 4000000 in
set_option maxRecDepth 100000 in
theorem lp_st1 {p : Program} {l : Launch} {e : Env} {R : Room} {s : State} {m : MethodId} {args : Array Value} {below : List Frame} {meth : Method} {c : Code} {cells slots : Nat} {Q : State → Prop} {D : va_G} {cB cI cJ cZ cS cT : ClassId} {A : Nat → Prop} {H0 : Heap} (m0 : Nat) (m_world : Nat) (m_images : Nat) (m_hasImage : Nat) (m_tape : Nat) (m_five : Nat) (m_fresh : Nat) (m_spokenAt : Nat) (m_heardAt : Nat) (m_lastAt : Nat) (m_answerAt : Nat) (m_heardNow : Nat) (m_seenAt : Nat) (m_fewest : Nat) (m_costNow : Nat) (m_costThen : Nat) (m_lawsOf : Nat) (m_heardBy : Nat) (m_placesOf : Nat) (m_sentIn : Nat) (m_lostBy : Nat) (m_many : Nat) (m_width : Nat) (m_numbers : Nat) (m_moving : Nat) (hx : p.tables.exec = Jvm.exec) (hb : c.code = cX12_station) (hts : ∀ w ∈ wsL_law, w.before args s = true) (hown : s.vm.findClass RX12 = some m.cls) (hK : va_K D vwCl (tyL cB cI cJ cZ cS cT) s) (exit : ∀  (H : Heap) (locs : List Loc) (ls : Array Slot), va_P D vwCl [(m0, .inr (12, [.int 0, .ref m_world, .ref m_images, .ref m_hasImage, .ref m_tape, .int 0, .ref m_five, .int 0, .int 0, .int 0, .int 0, .int 0, .int 0, .int (-1), .ref m_fresh, .ref m_spokenAt, .ref m_heardAt, .ref m_lastAt, .ref m_answerAt, .int 0, .int 0, .int 0, .long 0, .int 0, .int 0, .ref m_heardNow, .ref m_seenAt, .int 0, .int 0, .int 0, .int 0, .int 0, .ref m_fewest, .ref m_costNow, .ref m_costThen, .ref m_lawsOf, .ref m_heardBy, .int 0, .int 0, .ref m_placesOf, .ref m_sentIn, .int 0, .int 0, .ref m_lostBy, .ref m_many, .ref m_width, .ref m_numbers, .ref m_moving])), (m_world, .inl (cI, 53, .inl (fun _ => 0))), (m_fresh, .inl (cI, 53, .inl (fun _ => 0)))] H → va_D A [(m0, .inr (12, [.int 0, .ref m_world, .ref m_images, .ref m_hasImage, .ref m_tape, .int 0, .ref m_five, .int 0, .int 0, .int 0, .int 0, .int 0, .int 0, .int (-1), .ref m_fresh, .ref m_spokenAt, .ref m_heardAt, .ref m_lastAt, .ref m_answerAt, .int 0, .int 0, .int 0, .long 0, .int 0, .int 0, .ref m_heardNow, .ref m_seenAt, .int 0, .int 0, .int 0, .int 0, .int 0, .ref m_fewest, .ref m_costNow, .ref m_costThen, .ref m_lawsOf, .ref m_heardBy, .int 0, .int 0, .ref m_placesOf, .ref m_sentIn, .int 0, .int 0, .ref m_lostBy, .ref m_many, .ref m_width, .ref m_numbers, .ref m_moving])), (m_world, .inl (cI, 53, .inl (fun _ => 0))), (m_fresh, .inl (cI, 53, .inl (fun _ => 0)))] → va_S A H0 H locs → lv_has ls 2 [(0, .ref m0)] → W p l e R s m args below meth c H locs cells slots Q (F0 m 49 ls [])) :
    ∀ (N i : Nat)  (H : Heap) (locs : List Loc) (ls : Array Slot), i ≤ 53 → 53 - i < N → va_P D vwCl [(m0, .inr (12, [.int 0, .ref m_world, .ref m_images, .ref m_hasImage, .ref m_tape, .int 0, .ref m_five, .int 0, .int 0, .int 0, .int 0, .int 0, .int 0, .int (-1), .ref m_fresh, .ref m_spokenAt, .ref m_heardAt, .ref m_lastAt, .ref m_answerAt, .int 0, .int 0, .int 0, .long 0, .int 0, .int 0, .ref m_heardNow, .ref m_seenAt, .int 0, .int 0, .int 0, .int 0, .int 0, .ref m_fewest, .ref m_costNow, .ref m_costThen, .ref m_lawsOf, .ref m_heardBy, .int 0, .int 0, .ref m_placesOf, .ref m_sentIn, .int 0, .int 0, .ref m_lostBy, .ref m_many, .ref m_width, .ref m_numbers, .ref m_moving])), (m_world, .inl (cI, 53, .inl (fun _ => 0))), (m_fresh, .inl (cI, 53, .inl (fun _ => 0)))] H → va_D A [(m0, .inr (12, [.int 0, .ref m_world, .ref m_images, .ref m_hasImage, .ref m_tape, .int 0, .ref m_five, .int 0, .int 0, .int 0, .int 0, .int 0, .int 0, .int (-1), .ref m_fresh, .ref m_spokenAt, .ref m_heardAt, .ref m_lastAt, .ref m_answerAt, .int 0, .int 0, .int 0, .long 0, .int 0, .int 0, .ref m_heardNow, .ref m_seenAt, .int 0, .int 0, .int 0, .int 0, .int 0, .ref m_fewest, .ref m_costNow, .ref m_costThen, .ref m_lawsOf, .ref m_heardBy, .int 0, .int 0, .ref m_placesOf, .ref m_sentIn, .int 0, .int 0, .ref m_lostBy, .ref m_many, .ref m_width, .ref m_numbers, .ref m_moving])), (m_world, .inl (cI, 53, .inl (fun _ => 0))), (m_fresh, .inl (cI, 53, .inl (fun _ => 0)))] → va_S A H0 H locs → lv_has ls 2 [(1, .int (nI i)), (0, .ref m0)] → W p l e R s m args below meth c H locs cells slots Q (F0 m 30 ls []) := by
  intro N
  induction N with
  | zero =>
    intro i  H locs ls h1 h2
    omega
  | succ N ih =>
    intro i  H locs ls hi hN2 hP hD hS hl
    have hi0 : (nI i).toInt = (i : Int) := nI_toInt (by omega)
    refine lv_iload_n hx hb dX12_station_30 rfl (lv_at hl 0 rfl) ?_
    refine lv_bipush (v := 53) hx hb dX12_station_31 (by decide) ?_
    refine lv_icmp_ge (tgt := 49) hx hb dX12_station_33 (by decide) (fun c_1 => ?_) (fun c_1 => ?_)
    · have c_1 : 53 ≤ ((nI i)).toInt := ci_ge_t c_1
      exact exit  _ _ _ hP hD hS (lv_sub hl [1] rfl)
    · have c_1 : ((nI i)).toInt < 53 := ci_ge_f c_1
      refine lv_aload_n hx hb dX12_station_36 rfl (lv_at hl 1 rfl) ?_
      refine va_get (D := D) (ci := 12) (v := .ref m_fresh) (C := RX12) (T := TX12) (N := 48) hx hb hts inlX12 hown hK hP 0 rfl rfl 14 (by decide) (hts _ (inr6 _ (List.mem_of_getElem? (i := 22) rfl))) (fun _ h9 => h9) rfl dX12_station_37 ?_
      refine lv_iload_n hx hb dX12_station_40 rfl (lv_at hl 0 rfl) ?_
      refine lv_iconst (v := 0) hx hb dX12_station_41 (by decide) ?_
      refine va_iast hx hb hK hP hD hS 2 1 rfl rfl (vin_nat (by omega) (by omega)) dX12_station_42 (fun H locs hP hD hS => ?_)
      rw [updZ] at hP hD
      have hP : va_P D vwCl [(m0, .inr (12, [.int 0, .ref m_world, .ref m_images, .ref m_hasImage, .ref m_tape, .int 0, .ref m_five, .int 0, .int 0, .int 0, .int 0, .int 0, .int 0, .int (-1), .ref m_fresh, .ref m_spokenAt, .ref m_heardAt, .ref m_lastAt, .ref m_answerAt, .int 0, .int 0, .int 0, .long 0, .int 0, .int 0, .ref m_heardNow, .ref m_seenAt, .int 0, .int 0, .int 0, .int 0, .int 0, .ref m_fewest, .ref m_costNow, .ref m_costThen, .ref m_lawsOf, .ref m_heardBy, .int 0, .int 0, .ref m_placesOf, .ref m_sentIn, .int 0, .int 0, .ref m_lostBy, .ref m_many, .ref m_width, .ref m_numbers, .ref m_moving])), (m_world, .inl (cI, 53, .inl (fun _ => 0))), (m_fresh, .inl (cI, 53, .inl (fun _ => 0)))] H := hP
      have hD : va_D A [(m0, .inr (12, [.int 0, .ref m_world, .ref m_images, .ref m_hasImage, .ref m_tape, .int 0, .ref m_five, .int 0, .int 0, .int 0, .int 0, .int 0, .int 0, .int (-1), .ref m_fresh, .ref m_spokenAt, .ref m_heardAt, .ref m_lastAt, .ref m_answerAt, .int 0, .int 0, .int 0, .long 0, .int 0, .int 0, .ref m_heardNow, .ref m_seenAt, .int 0, .int 0, .int 0, .int 0, .int 0, .ref m_fewest, .ref m_costNow, .ref m_costThen, .ref m_lawsOf, .ref m_heardBy, .int 0, .int 0, .ref m_placesOf, .ref m_sentIn, .int 0, .int 0, .ref m_lostBy, .ref m_many, .ref m_width, .ref m_numbers, .ref m_moving])), (m_world, .inl (cI, 53, .inl (fun _ => 0))), (m_fresh, .inl (cI, 53, .inl (fun _ => 0)))] := hD
      obtain ⟨t_3, et_3⟩ : ∃ v9 : Int32, (nI i) + 1 = v9 := ⟨_, rfl⟩
      refine lv_iinc (v := t_3) (lv' := [(1, .int t_3), (0, .ref m0)]) hx hb dX12_station_43 hl (k := 0) rfl (by rw [← et_3]; rfl) (by decide) rfl (fun ls hl => ?_)
      refine lv_goto (tgt := 30) hx hb dX12_station_46 (by decide) ?_
      rw [nI_1] at et_3
      subst et_3
      exact ih (i + 1)  _ _ _ (by omega) (by omega) hP hD hS (lv_sub hl [0, 1] rfl)

set_option maxHeartbeats 4000000 in
set_option maxRecDepth 100000 in
theorem lp_st2 {p : Program} {l : Launch} {e : Env} {R : Room} {s : State} {m : MethodId} {args : Array Value} {below : List Frame} {meth : Method} {c : Code} {cells slots : Nat} {Q : State → Prop} {D : va_G} {cB cI cJ cZ cS cT : ClassId} {A : Nat → Prop} {H0 : Heap} (m0 : Nat) (m_world : Nat) (m_images : Nat) (m_hasImage : Nat) (m_tape : Nat) (m_five : Nat) (m_fresh : Nat) (m_spokenAt : Nat) (m_heardAt : Nat) (m_lastAt : Nat) (m_answerAt : Nat) (m_heardNow : Nat) (m_seenAt : Nat) (m_fewest : Nat) (m_costNow : Nat) (m_costThen : Nat) (m_lawsOf : Nat) (m_heardBy : Nat) (m_placesOf : Nat) (m_sentIn : Nat) (m_lostBy : Nat) (m_many : Nat) (m_width : Nat) (m_numbers : Nat) (m_moving : Nat) (hx : p.tables.exec = Jvm.exec) (hb : c.code = cX12_station) (hts : ∀ w ∈ wsL_law, w.before args s = true) (hown : s.vm.findClass RX12 = some m.cls) (hK : va_K D vwCl (tyL cB cI cJ cZ cS cT) s) (exit : ∀  (H : Heap) (locs : List Loc) (ls : Array Slot), va_P D vwCl [(m_world, .inl (cI, 53, .inl (fun _ => 0))), (m_fresh, .inl (cI, 53, .inl (fun _ => 0))), (m0, .inr (12, [.int 0, .ref m_world, .ref m_images, .ref m_hasImage, .ref m_tape, .int 0, .ref m_five, .int 0, .int 0, .int 0, .int 0, .int 0, .int 0, .int (-1), .ref m_fresh, .ref m_spokenAt, .ref m_heardAt, .ref m_lastAt, .ref m_answerAt, .int 0, .int 0, .int 0, .long 0, .int 0, .int 0, .ref m_heardNow, .ref m_seenAt, .int 0, .int 0, .int 0, .int 0, .int 0, .ref m_fewest, .ref m_costNow, .ref m_costThen, .ref m_lawsOf, .ref m_heardBy, .int 0, .int 0, .ref m_placesOf, .ref m_sentIn, .int 0, .int 0, .ref m_lostBy, .ref m_many, .ref m_width, .ref m_numbers, .ref m_moving]))] H → va_D A [(m_world, .inl (cI, 53, .inl (fun _ => 0))), (m_fresh, .inl (cI, 53, .inl (fun _ => 0))), (m0, .inr (12, [.int 0, .ref m_world, .ref m_images, .ref m_hasImage, .ref m_tape, .int 0, .ref m_five, .int 0, .int 0, .int 0, .int 0, .int 0, .int 0, .int (-1), .ref m_fresh, .ref m_spokenAt, .ref m_heardAt, .ref m_lastAt, .ref m_answerAt, .int 0, .int 0, .int 0, .long 0, .int 0, .int 0, .ref m_heardNow, .ref m_seenAt, .int 0, .int 0, .int 0, .int 0, .int 0, .ref m_fewest, .ref m_costNow, .ref m_costThen, .ref m_lawsOf, .ref m_heardBy, .int 0, .int 0, .ref m_placesOf, .ref m_sentIn, .int 0, .int 0, .ref m_lostBy, .ref m_many, .ref m_width, .ref m_numbers, .ref m_moving]))] → va_S A H0 H locs → lv_has ls 2 [(0, .ref m0)] → W p l e R s m args below meth c H locs cells slots Q (F0 m 110 ls [])) :
    ∀ (N i : Nat)  (H : Heap) (locs : List Loc) (ls : Array Slot), i ≤ 53 → 53 - i < N → va_P D vwCl [(m_world, .inl (cI, 53, .inl (fun _ => 0))), (m_fresh, .inl (cI, 53, .inl (fun _ => 0))), (m0, .inr (12, [.int 0, .ref m_world, .ref m_images, .ref m_hasImage, .ref m_tape, .int 0, .ref m_five, .int 0, .int 0, .int 0, .int 0, .int 0, .int 0, .int (-1), .ref m_fresh, .ref m_spokenAt, .ref m_heardAt, .ref m_lastAt, .ref m_answerAt, .int 0, .int 0, .int 0, .long 0, .int 0, .int 0, .ref m_heardNow, .ref m_seenAt, .int 0, .int 0, .int 0, .int 0, .int 0, .ref m_fewest, .ref m_costNow, .ref m_costThen, .ref m_lawsOf, .ref m_heardBy, .int 0, .int 0, .ref m_placesOf, .ref m_sentIn, .int 0, .int 0, .ref m_lostBy, .ref m_many, .ref m_width, .ref m_numbers, .ref m_moving]))] H → va_D A [(m_world, .inl (cI, 53, .inl (fun _ => 0))), (m_fresh, .inl (cI, 53, .inl (fun _ => 0))), (m0, .inr (12, [.int 0, .ref m_world, .ref m_images, .ref m_hasImage, .ref m_tape, .int 0, .ref m_five, .int 0, .int 0, .int 0, .int 0, .int 0, .int 0, .int (-1), .ref m_fresh, .ref m_spokenAt, .ref m_heardAt, .ref m_lastAt, .ref m_answerAt, .int 0, .int 0, .int 0, .long 0, .int 0, .int 0, .ref m_heardNow, .ref m_seenAt, .int 0, .int 0, .int 0, .int 0, .int 0, .ref m_fewest, .ref m_costNow, .ref m_costThen, .ref m_lawsOf, .ref m_heardBy, .int 0, .int 0, .ref m_placesOf, .ref m_sentIn, .int 0, .int 0, .ref m_lostBy, .ref m_many, .ref m_width, .ref m_numbers, .ref m_moving]))] → va_S A H0 H locs → lv_has ls 2 [(1, .int (nI i)), (0, .ref m0)] → W p l e R s m args below meth c H locs cells slots Q (F0 m 86 ls []) := by
  intro N
  induction N with
  | zero =>
    intro i  H locs ls h1 h2
    omega
  | succ N ih =>
    intro i  H locs ls hi hN2 hP hD hS hl
    have hi0 : (nI i).toInt = (i : Int) := nI_toInt (by omega)
    refine lv_iload_n hx hb dX12_station_86 rfl (lv_at hl 0 rfl) ?_
    refine lv_bipush (v := 53) hx hb dX12_station_87 (by decide) ?_
    refine lv_icmp_ge (tgt := 110) hx hb dX12_station_89 (by decide) (fun c_1 => ?_) (fun c_1 => ?_)
    · have c_1 : 53 ≤ ((nI i)).toInt := ci_ge_t c_1
      exact exit  _ _ _ hP hD hS (lv_sub hl [1] rfl)
    · have c_1 : ((nI i)).toInt < 53 := ci_ge_f c_1
      refine lv_aload_n hx hb dX12_station_92 rfl (lv_at hl 1 rfl) ?_
      refine va_get (D := D) (ci := 12) (v := .ref m_world) (C := RX12) (T := TX12) (N := 48) hx hb hts inlX12 hown hK hP 2 rfl rfl 1 (by decide) (hts _ (inr6 _ (List.mem_of_getElem? (i := 16) rfl))) (fun _ h9 => h9) rfl dX12_station_93 ?_
      refine lv_iload_n hx hb dX12_station_96 rfl (lv_at hl 0 rfl) ?_
      refine lv_aload_n hx hb dX12_station_97 rfl (lv_at hl 1 rfl) ?_
      refine va_get (D := D) (ci := 12) (v := .ref m_fresh) (C := RX12) (T := TX12) (N := 48) hx hb hts inlX12 hown hK hP 2 rfl rfl 14 (by decide) (hts _ (inr6 _ (List.mem_of_getElem? (i := 22) rfl))) (fun _ h9 => h9) rfl dX12_station_98 ?_
      refine lv_iload_n hx hb dX12_station_101 rfl (lv_at hl 0 rfl) ?_
      refine z_iald (v := 0) hx hb hK hP 1 1 rfl rfl (vin_nat (by omega) (by omega)) rfl dX12_station_102 ?_
      refine va_iast hx hb hK hP hD hS 0 1 rfl rfl (vin_nat (by omega) (by omega)) dX12_station_103 (fun H locs hP hD hS => ?_)
      rw [updZ] at hP hD
      have hP : va_P D vwCl [(m_world, .inl (cI, 53, .inl (fun _ => 0))), (m_fresh, .inl (cI, 53, .inl (fun _ => 0))), (m0, .inr (12, [.int 0, .ref m_world, .ref m_images, .ref m_hasImage, .ref m_tape, .int 0, .ref m_five, .int 0, .int 0, .int 0, .int 0, .int 0, .int 0, .int (-1), .ref m_fresh, .ref m_spokenAt, .ref m_heardAt, .ref m_lastAt, .ref m_answerAt, .int 0, .int 0, .int 0, .long 0, .int 0, .int 0, .ref m_heardNow, .ref m_seenAt, .int 0, .int 0, .int 0, .int 0, .int 0, .ref m_fewest, .ref m_costNow, .ref m_costThen, .ref m_lawsOf, .ref m_heardBy, .int 0, .int 0, .ref m_placesOf, .ref m_sentIn, .int 0, .int 0, .ref m_lostBy, .ref m_many, .ref m_width, .ref m_numbers, .ref m_moving]))] H := hP
      have hD : va_D A [(m_world, .inl (cI, 53, .inl (fun _ => 0))), (m_fresh, .inl (cI, 53, .inl (fun _ => 0))), (m0, .inr (12, [.int 0, .ref m_world, .ref m_images, .ref m_hasImage, .ref m_tape, .int 0, .ref m_five, .int 0, .int 0, .int 0, .int 0, .int 0, .int 0, .int (-1), .ref m_fresh, .ref m_spokenAt, .ref m_heardAt, .ref m_lastAt, .ref m_answerAt, .int 0, .int 0, .int 0, .long 0, .int 0, .int 0, .ref m_heardNow, .ref m_seenAt, .int 0, .int 0, .int 0, .int 0, .int 0, .ref m_fewest, .ref m_costNow, .ref m_costThen, .ref m_lawsOf, .ref m_heardBy, .int 0, .int 0, .ref m_placesOf, .ref m_sentIn, .int 0, .int 0, .ref m_lostBy, .ref m_many, .ref m_width, .ref m_numbers, .ref m_moving]))] := hD
      obtain ⟨t_3, et_3⟩ : ∃ v9 : Int32, (nI i) + 1 = v9 := ⟨_, rfl⟩
      refine lv_iinc (v := t_3) (lv' := [(1, .int t_3), (0, .ref m0)]) hx hb dX12_station_104 hl (k := 0) rfl (by rw [← et_3]; rfl) (by decide) rfl (fun ls hl => ?_)
      refine lv_goto (tgt := 86) hx hb dX12_station_107 (by decide) ?_
      rw [nI_1] at et_3
      subst et_3
      exact ih (i + 1)  _ _ _ (by omega) (by omega) hP hD hS (lv_sub hl [0, 1] rfl)

set_option maxHeartbeats 4000000 in
set_option maxRecDepth 100000 in
theorem km_station (l : Launch) (D : va_G) (cB cI cJ cZ cS cT : ClassId) (sz : Nat) (m0 : Nat) (m_world : Nat) (m_images : Nat) (m_hasImage : Nat) (m_tape : Nat) (m_five : Nat) (m_fresh : Nat) (m_spokenAt : Nat) (m_heardAt : Nat) (m_lastAt : Nat) (m_answerAt : Nat) (m_heardNow : Nat) (m_seenAt : Nat) (m_fewest : Nat) (m_costNow : Nat) (m_costThen : Nat) (m_lawsOf : Nat) (m_heardBy : Nat) (m_placesOf : Nat) (m_sentIn : Nat) (m_lostBy : Nat) (m_many : Nat) (m_width : Nat) (m_numbers : Nat) (m_moving : Nat)  : Met l yX12_station (Cond.code yX12_station cX12_station 2 (some .int) :: wsL_law) ({ frames := 2, cells := 0, slots := 0, locals := 42 }) (wrP D (tyL cB cI cJ cZ cS cT) [(m0, .inr (12, [.int 0, .ref m_world, .ref m_images, .ref m_hasImage, .ref m_tape, .int 0, .ref m_five, .int 0, .int 0, .int 0, .int 0, .int 0, .int 0, .int (-1), .ref m_fresh, .ref m_spokenAt, .ref m_heardAt, .ref m_lastAt, .ref m_answerAt, .int 0, .int 0, .int 0, .long 0, .int 0, .int 0, .ref m_heardNow, .ref m_seenAt, .int 0, .int 0, .int 0, .int 0, .int 0, .ref m_fewest, .ref m_costNow, .ref m_costThen, .ref m_lawsOf, .ref m_heardBy, .int 0, .int 0, .ref m_placesOf, .ref m_sentIn, .int 0, .int 0, .ref m_lostBy, .ref m_many, .ref m_width, .ref m_numbers, .ref m_moving])), (m_world, .inl (cI, 53, .inl (fun _ => 0))), (m_fresh, .inl (cI, 53, .inl (fun _ => 0)))] sz [.ref m0]) (va_Qi (fun (r : Int32) (x : Unit) => r = 0) (atW D (tyL cB cI cJ cZ cS cT) (va_A [(m0, .inr (12, [.int 0, .ref m_world, .ref m_images, .ref m_hasImage, .ref m_tape, .int 0, .ref m_five, .int 0, .int 0, .int 0, .int 0, .int 0, .int 0, .int (-1), .ref m_fresh, .ref m_spokenAt, .ref m_heardAt, .ref m_lastAt, .ref m_answerAt, .int 0, .int 0, .int 0, .long 0, .int 0, .int 0, .ref m_heardNow, .ref m_seenAt, .int 0, .int 0, .int 0, .int 0, .int 0, .ref m_fewest, .ref m_costNow, .ref m_costThen, .ref m_lawsOf, .ref m_heardBy, .int 0, .int 0, .ref m_placesOf, .ref m_sentIn, .int 0, .int 0, .ref m_lostBy, .ref m_many, .ref m_width, .ref m_numbers, .ref m_moving])), (m_world, .inl (cI, 53, .inl (fun _ => 0))), (m_fresh, .inl (cI, 53, .inl (fun _ => 0)))] sz) (fun x : Unit => [])) (va_A [(m0, .inr (12, [.int 0, .ref m_world, .ref m_images, .ref m_hasImage, .ref m_tape, .int 0, .ref m_five, .int 0, .int 0, .int 0, .int 0, .int 0, .int 0, .int (-1), .ref m_fresh, .ref m_spokenAt, .ref m_heardAt, .ref m_lastAt, .ref m_answerAt, .int 0, .int 0, .int 0, .long 0, .int 0, .int 0, .ref m_heardNow, .ref m_seenAt, .int 0, .int 0, .int 0, .int 0, .int 0, .ref m_fewest, .ref m_costNow, .ref m_costThen, .ref m_lawsOf, .ref m_heardBy, .int 0, .int 0, .ref m_placesOf, .ref m_sentIn, .int 0, .int 0, .ref m_lostBy, .ref m_many, .ref m_width, .ref m_numbers, .ref m_moving])), (m_world, .inl (cI, 53, .inl (fun _ => 0))), (m_fresh, .inl (cI, 53, .inl (fun _ => 0)))] sz)) 0 0 (va_A [(m0, .inr (12, [.int 0, .ref m_world, .ref m_images, .ref m_hasImage, .ref m_tape, .int 0, .ref m_five, .int 0, .int 0, .int 0, .int 0, .int 0, .int 0, .int (-1), .ref m_fresh, .ref m_spokenAt, .ref m_heardAt, .ref m_lastAt, .ref m_answerAt, .int 0, .int 0, .int 0, .long 0, .int 0, .int 0, .ref m_heardNow, .ref m_seenAt, .int 0, .int 0, .int 0, .int 0, .int 0, .ref m_fewest, .ref m_costNow, .ref m_costThen, .ref m_lawsOf, .ref m_heardBy, .int 0, .int 0, .ref m_placesOf, .ref m_sentIn, .int 0, .int 0, .ref m_lostBy, .ref m_many, .ref m_width, .ref m_numbers, .ref m_moving])), (m_world, .inl (cI, 53, .inl (fun _ => 0))), (m_fresh, .inl (cI, 53, .inl (fun _ => 0)))] sz) := by
  refine Met.ofW (cc := cX12_station) (maxL := 2) (ret := (some .int)) (by decide) rfl ?_
  intro p e s m args below meth c s₁ B hml hv
  obtain ⟨rfl, hsz, hP, hK, hD0, hN⟩ := hv
  have hx := B.exec
  have hb := B.bytes
  have hr := B.returns
  have hts : ∀ w ∈ wsL_law, w.before ([.ref m0] : List Value).toArray s = true := fun w h => atoms_spec (ws := Cond.code yX12_station cX12_station 2 (some .int) :: wsL_law) B.pre w (List.mem_cons_of_mem _ h)
  have hown : s.vm.findClass RX12 = some m.cls := findClass_of_methodNamed B.named
  have hlocks := B.notSynchronized
  subst hsz
  have hD := hD0.self (sz := s.heap.size)
  generalize hAe : va_A [(m0, .inr (12, [.int 0, .ref m_world, .ref m_images, .ref m_hasImage, .ref m_tape, .int 0, .ref m_five, .int 0, .int 0, .int 0, .int 0, .int 0, .int 0, .int (-1), .ref m_fresh, .ref m_spokenAt, .ref m_heardAt, .ref m_lastAt, .ref m_answerAt, .int 0, .int 0, .int 0, .long 0, .int 0, .int 0, .ref m_heardNow, .ref m_seenAt, .int 0, .int 0, .int 0, .int 0, .int 0, .ref m_fewest, .ref m_costNow, .ref m_costThen, .ref m_lawsOf, .ref m_heardBy, .int 0, .int 0, .ref m_placesOf, .ref m_sentIn, .int 0, .int 0, .ref m_lostBy, .ref m_many, .ref m_width, .ref m_numbers, .ref m_moving])), (m_world, .inl (cI, 53, .inl (fun _ => 0))), (m_fresh, .inl (cI, 53, .inl (fun _ => 0)))] s.heap.size = A at hD ⊢
  have hA : ∀ q : Nat, s.heap.size ≤ q → A q := fun q h => by rw [← hAe]; exact Or.inr h
  have hS : va_S A s.heap s.heap [] := va_S.rf
  have hl := lv_entry ([.ref m0]) (n := 2) (Nat.le_of_ble_eq_true rfl)
  rw [lg_entry_eq]
  generalize (lg_sl ([.ref m0]) ++ List.replicate (2 - (lg_sl ([.ref m0])).length) Slot.unset).toArray = ls at hl ⊢
  have hl : lv_has ls 2 [(0, .ref m0)] := hl
  have hP : va_P D vwCl [(m0, .inr (12, [.int 0, .ref m_world, .ref m_images, .ref m_hasImage, .ref m_tape, .int 0, .ref m_five, .int 0, .int 0, .int 0, .int 0, .int 0, .int 0, .int (-1), .ref m_fresh, .ref m_spokenAt, .ref m_heardAt, .ref m_lastAt, .ref m_answerAt, .int 0, .int 0, .int 0, .long 0, .int 0, .int 0, .ref m_heardNow, .ref m_seenAt, .int 0, .int 0, .int 0, .int 0, .int 0, .ref m_fewest, .ref m_costNow, .ref m_costThen, .ref m_lawsOf, .ref m_heardBy, .int 0, .int 0, .ref m_placesOf, .ref m_sentIn, .int 0, .int 0, .ref m_lostBy, .ref m_many, .ref m_width, .ref m_numbers, .ref m_moving])), (m_world, .inl (cI, 53, .inl (fun _ => 0))), (m_fresh, .inl (cI, 53, .inl (fun _ => 0)))] s.heap := hP
  refine lv_aload_n hx hb dX12_station_0 rfl (lv_at hl 0 rfl) ?_
  refine lv_aload_n hx hb dX12_station_1 rfl (lv_at hl 0 rfl) ?_
  refine va_get (D := D) (ci := 12) (v := .int 0) (C := RX12) (T := TX12) (N := 48) hx hb hts inlX12 hown hK hP 0 rfl rfl 5 (by decide) (hts _ (inr8 _ (List.mem_of_getElem? (i := 11) rfl))) (fun _ h9 => h9) rfl dX12_station_2 ?_
  refine va_put (D := D) (ci := 12) (v := .int 0) (ty := .int) (C := RX12) (T := TX12) (N := 48) hx hb hts inlX12 tyX12 tyX12_ok nmX12 hown hK hP hD hS 0 rfl rfl 7 (by decide) (hts _ (inr17 _ (List.mem_of_getElem? (i := 19) rfl))) (fun _ h9 => h9) rfl (by decide +kernel) rfl rfl (Nat.le_of_ble_eq_true rfl) dX12_station_5 (fun H locs hP hD hS => ?_)
  have hP : va_P D vwCl [(m0, .inr (12, [.int 0, .ref m_world, .ref m_images, .ref m_hasImage, .ref m_tape, .int 0, .ref m_five, .int 0, .int 0, .int 0, .int 0, .int 0, .int 0, .int (-1), .ref m_fresh, .ref m_spokenAt, .ref m_heardAt, .ref m_lastAt, .ref m_answerAt, .int 0, .int 0, .int 0, .long 0, .int 0, .int 0, .ref m_heardNow, .ref m_seenAt, .int 0, .int 0, .int 0, .int 0, .int 0, .ref m_fewest, .ref m_costNow, .ref m_costThen, .ref m_lawsOf, .ref m_heardBy, .int 0, .int 0, .ref m_placesOf, .ref m_sentIn, .int 0, .int 0, .ref m_lostBy, .ref m_many, .ref m_width, .ref m_numbers, .ref m_moving])), (m_world, .inl (cI, 53, .inl (fun _ => 0))), (m_fresh, .inl (cI, 53, .inl (fun _ => 0)))] H := hP
  have hD : va_D A [(m0, .inr (12, [.int 0, .ref m_world, .ref m_images, .ref m_hasImage, .ref m_tape, .int 0, .ref m_five, .int 0, .int 0, .int 0, .int 0, .int 0, .int 0, .int (-1), .ref m_fresh, .ref m_spokenAt, .ref m_heardAt, .ref m_lastAt, .ref m_answerAt, .int 0, .int 0, .int 0, .long 0, .int 0, .int 0, .ref m_heardNow, .ref m_seenAt, .int 0, .int 0, .int 0, .int 0, .int 0, .ref m_fewest, .ref m_costNow, .ref m_costThen, .ref m_lawsOf, .ref m_heardBy, .int 0, .int 0, .ref m_placesOf, .ref m_sentIn, .int 0, .int 0, .ref m_lostBy, .ref m_many, .ref m_width, .ref m_numbers, .ref m_moving])), (m_world, .inl (cI, 53, .inl (fun _ => 0))), (m_fresh, .inl (cI, 53, .inl (fun _ => 0)))] := hD
  refine lv_aload_n hx hb dX12_station_8 rfl (lv_at hl 0 rfl) ?_
  refine lv_iconst (v := 0) hx hb dX12_station_9 (by decide) ?_
  refine va_put (D := D) (ci := 12) (v := .int 0) (ty := .int) (C := RX12) (T := TX12) (N := 48) hx hb hts inlX12 tyX12 tyX12_ok nmX12 hown hK hP hD hS 0 rfl rfl 5 (by decide) (hts _ (inr8 _ (List.mem_of_getElem? (i := 11) rfl))) (fun _ h9 => h9) rfl (by decide +kernel) rfl rfl (Nat.le_of_ble_eq_true rfl) dX12_station_10 (fun H locs hP hD hS => ?_)
  have hP : va_P D vwCl [(m0, .inr (12, [.int 0, .ref m_world, .ref m_images, .ref m_hasImage, .ref m_tape, .int 0, .ref m_five, .int 0, .int 0, .int 0, .int 0, .int 0, .int 0, .int (-1), .ref m_fresh, .ref m_spokenAt, .ref m_heardAt, .ref m_lastAt, .ref m_answerAt, .int 0, .int 0, .int 0, .long 0, .int 0, .int 0, .ref m_heardNow, .ref m_seenAt, .int 0, .int 0, .int 0, .int 0, .int 0, .ref m_fewest, .ref m_costNow, .ref m_costThen, .ref m_lawsOf, .ref m_heardBy, .int 0, .int 0, .ref m_placesOf, .ref m_sentIn, .int 0, .int 0, .ref m_lostBy, .ref m_many, .ref m_width, .ref m_numbers, .ref m_moving])), (m_world, .inl (cI, 53, .inl (fun _ => 0))), (m_fresh, .inl (cI, 53, .inl (fun _ => 0)))] H := hP
  have hD : va_D A [(m0, .inr (12, [.int 0, .ref m_world, .ref m_images, .ref m_hasImage, .ref m_tape, .int 0, .ref m_five, .int 0, .int 0, .int 0, .int 0, .int 0, .int 0, .int (-1), .ref m_fresh, .ref m_spokenAt, .ref m_heardAt, .ref m_lastAt, .ref m_answerAt, .int 0, .int 0, .int 0, .long 0, .int 0, .int 0, .ref m_heardNow, .ref m_seenAt, .int 0, .int 0, .int 0, .int 0, .int 0, .ref m_fewest, .ref m_costNow, .ref m_costThen, .ref m_lawsOf, .ref m_heardBy, .int 0, .int 0, .ref m_placesOf, .ref m_sentIn, .int 0, .int 0, .ref m_lostBy, .ref m_many, .ref m_width, .ref m_numbers, .ref m_moving])), (m_world, .inl (cI, 53, .inl (fun _ => 0))), (m_fresh, .inl (cI, 53, .inl (fun _ => 0)))] := hD
  refine lv_aload_n hx hb dX12_station_13 rfl (lv_at hl 0 rfl) ?_
  refine lv_iconst (v := 0) hx hb dX12_station_14 (by decide) ?_
  refine va_put (D := D) (ci := 12) (v := .int 0) (ty := .int) (C := RX12) (T := TX12) (N := 48) hx hb hts inlX12 tyX12 tyX12_ok nmX12 hown hK hP hD hS 0 rfl rfl 8 (by decide) (hts _ (inr17 _ (List.mem_of_getElem? (i := 20) rfl))) (fun _ h9 => h9) rfl (by decide +kernel) rfl rfl (Nat.le_of_ble_eq_true rfl) dX12_station_15 (fun H locs hP hD hS => ?_)
  have hP : va_P D vwCl [(m0, .inr (12, [.int 0, .ref m_world, .ref m_images, .ref m_hasImage, .ref m_tape, .int 0, .ref m_five, .int 0, .int 0, .int 0, .int 0, .int 0, .int 0, .int (-1), .ref m_fresh, .ref m_spokenAt, .ref m_heardAt, .ref m_lastAt, .ref m_answerAt, .int 0, .int 0, .int 0, .long 0, .int 0, .int 0, .ref m_heardNow, .ref m_seenAt, .int 0, .int 0, .int 0, .int 0, .int 0, .ref m_fewest, .ref m_costNow, .ref m_costThen, .ref m_lawsOf, .ref m_heardBy, .int 0, .int 0, .ref m_placesOf, .ref m_sentIn, .int 0, .int 0, .ref m_lostBy, .ref m_many, .ref m_width, .ref m_numbers, .ref m_moving])), (m_world, .inl (cI, 53, .inl (fun _ => 0))), (m_fresh, .inl (cI, 53, .inl (fun _ => 0)))] H := hP
  have hD : va_D A [(m0, .inr (12, [.int 0, .ref m_world, .ref m_images, .ref m_hasImage, .ref m_tape, .int 0, .ref m_five, .int 0, .int 0, .int 0, .int 0, .int 0, .int 0, .int (-1), .ref m_fresh, .ref m_spokenAt, .ref m_heardAt, .ref m_lastAt, .ref m_answerAt, .int 0, .int 0, .int 0, .long 0, .int 0, .int 0, .ref m_heardNow, .ref m_seenAt, .int 0, .int 0, .int 0, .int 0, .int 0, .ref m_fewest, .ref m_costNow, .ref m_costThen, .ref m_lawsOf, .ref m_heardBy, .int 0, .int 0, .ref m_placesOf, .ref m_sentIn, .int 0, .int 0, .ref m_lostBy, .ref m_many, .ref m_width, .ref m_numbers, .ref m_moving])), (m_world, .inl (cI, 53, .inl (fun _ => 0))), (m_fresh, .inl (cI, 53, .inl (fun _ => 0)))] := hD
  refine lv_aload_n hx hb dX12_station_18 rfl (lv_at hl 0 rfl) ?_
  refine lv_iconst (v := 0) hx hb dX12_station_19 (by decide) ?_
  refine va_put (D := D) (ci := 12) (v := .int 0) (ty := .int) (C := RX12) (T := TX12) (N := 48) hx hb hts inlX12 tyX12 tyX12_ok nmX12 hown hK hP hD hS 0 rfl rfl 12 (by decide) (hts _ (inr17 _ (List.mem_of_getElem? (i := 21) rfl))) (fun _ h9 => h9) rfl (by decide +kernel) rfl rfl (Nat.le_of_ble_eq_true rfl) dX12_station_20 (fun H locs hP hD hS => ?_)
  have hP : va_P D vwCl [(m0, .inr (12, [.int 0, .ref m_world, .ref m_images, .ref m_hasImage, .ref m_tape, .int 0, .ref m_five, .int 0, .int 0, .int 0, .int 0, .int 0, .int 0, .int (-1), .ref m_fresh, .ref m_spokenAt, .ref m_heardAt, .ref m_lastAt, .ref m_answerAt, .int 0, .int 0, .int 0, .long 0, .int 0, .int 0, .ref m_heardNow, .ref m_seenAt, .int 0, .int 0, .int 0, .int 0, .int 0, .ref m_fewest, .ref m_costNow, .ref m_costThen, .ref m_lawsOf, .ref m_heardBy, .int 0, .int 0, .ref m_placesOf, .ref m_sentIn, .int 0, .int 0, .ref m_lostBy, .ref m_many, .ref m_width, .ref m_numbers, .ref m_moving])), (m_world, .inl (cI, 53, .inl (fun _ => 0))), (m_fresh, .inl (cI, 53, .inl (fun _ => 0)))] H := hP
  have hD : va_D A [(m0, .inr (12, [.int 0, .ref m_world, .ref m_images, .ref m_hasImage, .ref m_tape, .int 0, .ref m_five, .int 0, .int 0, .int 0, .int 0, .int 0, .int 0, .int (-1), .ref m_fresh, .ref m_spokenAt, .ref m_heardAt, .ref m_lastAt, .ref m_answerAt, .int 0, .int 0, .int 0, .long 0, .int 0, .int 0, .ref m_heardNow, .ref m_seenAt, .int 0, .int 0, .int 0, .int 0, .int 0, .ref m_fewest, .ref m_costNow, .ref m_costThen, .ref m_lawsOf, .ref m_heardBy, .int 0, .int 0, .ref m_placesOf, .ref m_sentIn, .int 0, .int 0, .ref m_lostBy, .ref m_many, .ref m_width, .ref m_numbers, .ref m_moving])), (m_world, .inl (cI, 53, .inl (fun _ => 0))), (m_fresh, .inl (cI, 53, .inl (fun _ => 0)))] := hD
  refine lv_aload_n hx hb dX12_station_23 rfl (lv_at hl 0 rfl) ?_
  refine lv_iconst (v := (-1)) hx hb dX12_station_24 (by decide) ?_
  refine va_put (D := D) (ci := 12) (v := .int (-1)) (ty := .int) (C := RX12) (T := TX12) (N := 48) hx hb hts inlX12 tyX12 tyX12_ok nmX12 hown hK hP hD hS 0 rfl rfl 13 (by decide) (hts _ (inr6 _ (List.mem_of_getElem? (i := 21) rfl))) (fun _ h9 => h9) rfl (by decide +kernel) rfl rfl (Nat.le_of_ble_eq_true rfl) dX12_station_25 (fun H locs hP hD hS => ?_)
  have hP : va_P D vwCl [(m0, .inr (12, [.int 0, .ref m_world, .ref m_images, .ref m_hasImage, .ref m_tape, .int 0, .ref m_five, .int 0, .int 0, .int 0, .int 0, .int 0, .int 0, .int (-1), .ref m_fresh, .ref m_spokenAt, .ref m_heardAt, .ref m_lastAt, .ref m_answerAt, .int 0, .int 0, .int 0, .long 0, .int 0, .int 0, .ref m_heardNow, .ref m_seenAt, .int 0, .int 0, .int 0, .int 0, .int 0, .ref m_fewest, .ref m_costNow, .ref m_costThen, .ref m_lawsOf, .ref m_heardBy, .int 0, .int 0, .ref m_placesOf, .ref m_sentIn, .int 0, .int 0, .ref m_lostBy, .ref m_many, .ref m_width, .ref m_numbers, .ref m_moving])), (m_world, .inl (cI, 53, .inl (fun _ => 0))), (m_fresh, .inl (cI, 53, .inl (fun _ => 0)))] H := hP
  have hD : va_D A [(m0, .inr (12, [.int 0, .ref m_world, .ref m_images, .ref m_hasImage, .ref m_tape, .int 0, .ref m_five, .int 0, .int 0, .int 0, .int 0, .int 0, .int 0, .int (-1), .ref m_fresh, .ref m_spokenAt, .ref m_heardAt, .ref m_lastAt, .ref m_answerAt, .int 0, .int 0, .int 0, .long 0, .int 0, .int 0, .ref m_heardNow, .ref m_seenAt, .int 0, .int 0, .int 0, .int 0, .int 0, .ref m_fewest, .ref m_costNow, .ref m_costThen, .ref m_lawsOf, .ref m_heardBy, .int 0, .int 0, .ref m_placesOf, .ref m_sentIn, .int 0, .int 0, .ref m_lostBy, .ref m_many, .ref m_width, .ref m_numbers, .ref m_moving])), (m_world, .inl (cI, 53, .inl (fun _ => 0))), (m_fresh, .inl (cI, 53, .inl (fun _ => 0)))] := hD
  refine lv_iconst (v := 0) hx hb dX12_station_28 (by decide) ?_
  refine lv_istore_n (lv' := [(1, .int 0), (0, .ref m0)]) hx hb dX12_station_29 rfl hl (by decide) rfl (fun ls hl => ?_)
  refine lp_st1 m0 m_world m_images m_hasImage m_tape m_five m_fresh m_spokenAt m_heardAt m_lastAt m_answerAt m_heardNow m_seenAt m_fewest m_costNow m_costThen m_lawsOf m_heardBy m_placesOf m_sentIn m_lostBy m_many m_width m_numbers m_moving hx hb hts hown hK (fun  H locs ls hP hD hS hl => ?_) 54 0  _ _ _ (Nat.zero_le _) (by omega) hP hD hS (lv_sub hl [0, 1] rfl)
  refine lv_aload_n hx hb dX12_station_49 rfl (lv_at hl 0 rfl) ?_
  refine wrVv (As := []) (rest := []) (wr := [(m_world, .inl (cI, 53, .inl (fun _ => 0))), (m_fresh, .inl (cI, 53, .inl (fun _ => 0)))]) ⟨hx, hb, hml, hown, hts⟩ (k_advance0 l D cB cI cJ cZ cS cT H.size m0 m_world m_images m_hasImage m_tape m_five m_fresh m_spokenAt m_heardAt m_lastAt m_answerAt m_heardNow m_seenAt m_fewest m_costNow m_costThen m_lawsOf m_heardBy m_placesOf m_sentIn m_lostBy m_many m_width m_numbers m_moving ) hP hD hS hA hK hN [0] [1, 2] rfl rfl (by decide) (by decide) (by decide) (cvB (n := 0) (inr17 _ (List.mem_of_getElem? (i := 23) rfl)) (inr18 _ (List.mem_of_getElem? (i := 0) rfl)) (inr18 _ (List.mem_of_getElem? (i := 1) rfl)) (inr1 _ (List.mem_of_getElem? (i := 5) rfl)) (inr18 _ (List.mem_of_getElem? (i := 2) rfl)) (by decide +kernel) hts rfl rfl ⟨Nat.le_of_ble_eq_true rfl, Nat.le_of_ble_eq_true rfl⟩) 0 12 rfl rfl rfl rfl hl.1 rfl (Nat.le_of_ble_eq_true rfl) ⟨Nat.le_of_ble_eq_true rfl, Nat.le_of_ble_eq_true rfl⟩ dX12_station_50 (fun x9 H locs h_2 hP hD hS => ?_)
  have hP : va_P D vwCl [(m_world, .inl (cI, 53, .inl (fun _ => 0))), (m_fresh, .inl (cI, 53, .inl (fun _ => 0))), (m0, .inr (12, [.int 0, .ref m_world, .ref m_images, .ref m_hasImage, .ref m_tape, .int 0, .ref m_five, .int 0, .int 0, .int 0, .int 0, .int 0, .int 0, .int (-1), .ref m_fresh, .ref m_spokenAt, .ref m_heardAt, .ref m_lastAt, .ref m_answerAt, .int 0, .int 0, .int 0, .long 0, .int 0, .int 0, .ref m_heardNow, .ref m_seenAt, .int 0, .int 0, .int 0, .int 0, .int 0, .ref m_fewest, .ref m_costNow, .ref m_costThen, .ref m_lawsOf, .ref m_heardBy, .int 0, .int 0, .ref m_placesOf, .ref m_sentIn, .int 0, .int 0, .ref m_lostBy, .ref m_many, .ref m_width, .ref m_numbers, .ref m_moving]))] H := hP
  have hD : va_D A [(m_world, .inl (cI, 53, .inl (fun _ => 0))), (m_fresh, .inl (cI, 53, .inl (fun _ => 0))), (m0, .inr (12, [.int 0, .ref m_world, .ref m_images, .ref m_hasImage, .ref m_tape, .int 0, .ref m_five, .int 0, .int 0, .int 0, .int 0, .int 0, .int 0, .int (-1), .ref m_fresh, .ref m_spokenAt, .ref m_heardAt, .ref m_lastAt, .ref m_answerAt, .int 0, .int 0, .int 0, .long 0, .int 0, .int 0, .ref m_heardNow, .ref m_seenAt, .int 0, .int 0, .int 0, .int 0, .int 0, .ref m_fewest, .ref m_costNow, .ref m_costThen, .ref m_lawsOf, .ref m_heardBy, .int 0, .int 0, .ref m_placesOf, .ref m_sentIn, .int 0, .int 0, .ref m_lostBy, .ref m_many, .ref m_width, .ref m_numbers, .ref m_moving]))] := hD
  refine lv_aload_n hx hb dX12_station_53 rfl (lv_at hl 0 rfl) ?_
  refine roi (As := []) (rest := []) ⟨hx, hb, hml, hown, hts⟩ (k_good0 l D cB cI cJ cZ cS cT m0 m_world m_images m_hasImage m_tape m_five m_fresh m_spokenAt m_heardAt m_lastAt m_answerAt m_heardNow m_seenAt m_fewest m_costNow m_costThen m_lawsOf m_heardBy m_placesOf m_sentIn m_lostBy m_many m_width m_numbers m_moving ) (cvB (n := 0) (inr18 _ (List.mem_of_getElem? (i := 18) rfl)) (inr18 _ (List.mem_of_getElem? (i := 19) rfl)) (inr18 _ (List.mem_of_getElem? (i := 20) rfl)) (inr1 _ (List.mem_of_getElem? (i := 5) rfl)) (inr18 _ (List.mem_of_getElem? (i := 21) rfl)) (by decide +kernel) hts rfl rfl ⟨Nat.le_of_ble_eq_true rfl, Nat.le_of_ble_eq_true rfl⟩) 0 12 rfl rfl rfl (hP.sub [2] rfl) hK rfl hl.1 rfl (Nat.le_of_ble_eq_true rfl) ⟨Nat.le_of_ble_eq_true rfl, Nat.le_of_ble_eq_true rfl⟩ dX12_station_54 (fun r_3 h_4 => ?_)
  obtain rfl := h_4
  refine lv_if_eq (tgt := 74) hx hb dX12_station_57 (by decide) (fun c0 => absurd c0 (by decide)) (fun _ => ?_)
  refine lv_aload_n hx hb dX12_station_60 rfl (lv_at hl 0 rfl) ?_
  refine va_get (D := D) (ci := 12) (v := .int 0) (C := RX12) (T := TX12) (N := 48) hx hb hts inlX12 hown hK hP 2 rfl rfl 10 (by decide) (hts _ (inr17 _ (List.mem_of_getElem? (i := 22) rfl))) (fun _ h9 => h9) rfl dX12_station_61 ?_
  refine lv_if_eq (tgt := 74) hx hb dX12_station_64 (by decide) (fun _ => ?_) (fun c0 => absurd c0 (by decide))
  refine lv_aload_n hx hb dX12_station_74 rfl (lv_at hl 0 rfl) ?_
  refine roi (As := []) (rest := []) ⟨hx, hb, hml, hown, hts⟩ (k_good0 l D cB cI cJ cZ cS cT m0 m_world m_images m_hasImage m_tape m_five m_fresh m_spokenAt m_heardAt m_lastAt m_answerAt m_heardNow m_seenAt m_fewest m_costNow m_costThen m_lawsOf m_heardBy m_placesOf m_sentIn m_lostBy m_many m_width m_numbers m_moving ) (cvB (n := 0) (inr18 _ (List.mem_of_getElem? (i := 18) rfl)) (inr18 _ (List.mem_of_getElem? (i := 19) rfl)) (inr18 _ (List.mem_of_getElem? (i := 20) rfl)) (inr1 _ (List.mem_of_getElem? (i := 5) rfl)) (inr18 _ (List.mem_of_getElem? (i := 21) rfl)) (by decide +kernel) hts rfl rfl ⟨Nat.le_of_ble_eq_true rfl, Nat.le_of_ble_eq_true rfl⟩) 0 12 rfl rfl rfl (hP.sub [2] rfl) hK rfl hl.1 rfl (Nat.le_of_ble_eq_true rfl) ⟨Nat.le_of_ble_eq_true rfl, Nat.le_of_ble_eq_true rfl⟩ dX12_station_75 (fun r_5 h_6 => ?_)
  obtain rfl := h_6
  refine lv_if_ne (tgt := 84) hx hb dX12_station_78 (by decide) (fun _ => ?_) (fun c0 => absurd c0 (by decide))
  refine lv_iconst (v := 0) hx hb dX12_station_84 (by decide) ?_
  refine lv_istore_n (lv' := [(1, .int 0), (0, .ref m0)]) hx hb dX12_station_85 rfl hl (by decide) rfl (fun ls hl => ?_)
  refine lp_st2 m0 m_world m_images m_hasImage m_tape m_five m_fresh m_spokenAt m_heardAt m_lastAt m_answerAt m_heardNow m_seenAt m_fewest m_costNow m_costThen m_lawsOf m_heardBy m_placesOf m_sentIn m_lostBy m_many m_width m_numbers m_moving hx hb hts hown hK (fun  H locs ls hP hD hS hl => ?_) 54 0  _ _ _ (Nat.zero_le _) (by omega) hP hD hS (lv_sub hl [0, 1] rfl)
  refine lv_aload_n hx hb dX12_station_110 rfl (lv_at hl 0 rfl) ?_
  refine va_get (D := D) (ci := 12) (v := .ref m_world) (C := RX12) (T := TX12) (N := 48) hx hb hts inlX12 hown hK hP 2 rfl rfl 1 (by decide) (hts _ (inr6 _ (List.mem_of_getElem? (i := 16) rfl))) (fun _ h9 => h9) rfl dX12_station_111 ?_
  refine lv_bipush (v := 9) hx hb dX12_station_114 (by decide) ?_
  refine z_iald (v := 0) hx hb hK hP 0 1 rfl rfl (by unfold vp_in; decide) rfl dX12_station_116 ?_
  have hP9 := hP.sub (ws' := []) [] rfl
  have hD9 := hD.sub (ws' := []) [] (by decide) rfl
  exact W.iret (v := 0) hx hb hr (fun t ht hW => ⟨⟨0, (), rfl, rfl, by rw [ht]; exact hP9, va_K.moved hW.alike hK, hD9⟩, hS.F ht⟩) hS.2.2 dX12_station_117

set_option maxHeartbeats 4000000 in
set_option maxRecDepth 100000 in
theorem km_chance (l : Launch) (D : va_G) (cB cI cJ cZ cS cT : ClassId) (sz : Nat) (m0 : Nat) (m_world : Nat) (m_images : Nat) (m_hasImage : Nat) (m_tape : Nat) (m_five : Nat) (m_fresh : Nat) (m_spokenAt : Nat) (m_heardAt : Nat) (m_lastAt : Nat) (m_answerAt : Nat) (m_heardNow : Nat) (m_seenAt : Nat) (m_fewest : Nat) (m_costNow : Nat) (m_costThen : Nat) (m_lawsOf : Nat) (m_heardBy : Nat) (m_placesOf : Nat) (m_sentIn : Nat) (m_lostBy : Nat) (m_many : Nat) (m_width : Nat) (m_numbers : Nat) (m_moving : Nat) (f : Nat → Int32) (a1 : Int32) (a2 : Int32)  : Met l yX12_chance (Cond.code yX12_chance cX12_chance 8 (some .long) :: wsL_law) ({ frames := 3, cells := 0, slots := 0, locals := 62 }) (wrP D (tyL cB cI cJ cZ cS cT) [(m0, .inr (12, [.int 0, .ref m_world, .ref m_images, .ref m_hasImage, .ref m_tape, .int 0, .ref m_five, .int 0, .int 0, .int 0, .int 0, .int 0, .int 0, .int (-1), .ref m_fresh, .ref m_spokenAt, .ref m_heardAt, .ref m_lastAt, .ref m_answerAt, .int 0, .int 0, .int 0, .long 0, .int 0, .int 0, .ref m_heardNow, .ref m_seenAt, .int 0, .int 0, .int 0, .int 0, .int 0, .ref m_fewest, .ref m_costNow, .ref m_costThen, .ref m_lawsOf, .ref m_heardBy, .int 0, .int 0, .ref m_placesOf, .ref m_sentIn, .int 0, .int 0, .ref m_lostBy, .ref m_many, .ref m_width, .ref m_numbers, .ref m_moving])), (m_world, .inl (cI, 53, .inl (fun _ => 0))), (m_spokenAt, .inl (cI, 61, .inl f))] sz [.ref m0, .int a1, .int a2]) (va_Ql (fun (r : Int64) (x : Unit) => r = -2) (atW D (tyL cB cI cJ cZ cS cT) (va_A [(m0, .inr (12, [.int 0, .ref m_world, .ref m_images, .ref m_hasImage, .ref m_tape, .int 0, .ref m_five, .int 0, .int 0, .int 0, .int 0, .int 0, .int 0, .int (-1), .ref m_fresh, .ref m_spokenAt, .ref m_heardAt, .ref m_lastAt, .ref m_answerAt, .int 0, .int 0, .int 0, .long 0, .int 0, .int 0, .ref m_heardNow, .ref m_seenAt, .int 0, .int 0, .int 0, .int 0, .int 0, .ref m_fewest, .ref m_costNow, .ref m_costThen, .ref m_lawsOf, .ref m_heardBy, .int 0, .int 0, .ref m_placesOf, .ref m_sentIn, .int 0, .int 0, .ref m_lostBy, .ref m_many, .ref m_width, .ref m_numbers, .ref m_moving])), (m_world, .inl (cI, 53, .inl (fun _ => 0))), (m_spokenAt, .inl (cI, 61, .inl f))] sz) (fun x : Unit => [])) (va_A [(m0, .inr (12, [.int 0, .ref m_world, .ref m_images, .ref m_hasImage, .ref m_tape, .int 0, .ref m_five, .int 0, .int 0, .int 0, .int 0, .int 0, .int 0, .int (-1), .ref m_fresh, .ref m_spokenAt, .ref m_heardAt, .ref m_lastAt, .ref m_answerAt, .int 0, .int 0, .int 0, .long 0, .int 0, .int 0, .ref m_heardNow, .ref m_seenAt, .int 0, .int 0, .int 0, .int 0, .int 0, .ref m_fewest, .ref m_costNow, .ref m_costThen, .ref m_lawsOf, .ref m_heardBy, .int 0, .int 0, .ref m_placesOf, .ref m_sentIn, .int 0, .int 0, .ref m_lostBy, .ref m_many, .ref m_width, .ref m_numbers, .ref m_moving])), (m_world, .inl (cI, 53, .inl (fun _ => 0))), (m_spokenAt, .inl (cI, 61, .inl f))] sz)) 0 0 (va_A [(m0, .inr (12, [.int 0, .ref m_world, .ref m_images, .ref m_hasImage, .ref m_tape, .int 0, .ref m_five, .int 0, .int 0, .int 0, .int 0, .int 0, .int 0, .int (-1), .ref m_fresh, .ref m_spokenAt, .ref m_heardAt, .ref m_lastAt, .ref m_answerAt, .int 0, .int 0, .int 0, .long 0, .int 0, .int 0, .ref m_heardNow, .ref m_seenAt, .int 0, .int 0, .int 0, .int 0, .int 0, .ref m_fewest, .ref m_costNow, .ref m_costThen, .ref m_lawsOf, .ref m_heardBy, .int 0, .int 0, .ref m_placesOf, .ref m_sentIn, .int 0, .int 0, .ref m_lostBy, .ref m_many, .ref m_width, .ref m_numbers, .ref m_moving])), (m_world, .inl (cI, 53, .inl (fun _ => 0))), (m_spokenAt, .inl (cI, 61, .inl f))] sz) := by
  refine Met.ofW (cc := cX12_chance) (maxL := 8) (ret := (some .long)) (by decide) rfl ?_
  intro p e s m args below meth c s₁ B hml hv
  obtain ⟨rfl, hsz, hP, hK, hD0, hN⟩ := hv
  have hx := B.exec
  have hb := B.bytes
  have hr := B.returns
  have hts : ∀ w ∈ wsL_law, w.before ([.ref m0, .int a1, .int a2] : List Value).toArray s = true := fun w h => atoms_spec (ws := Cond.code yX12_chance cX12_chance 8 (some .long) :: wsL_law) B.pre w (List.mem_cons_of_mem _ h)
  have hown : s.vm.findClass RX12 = some m.cls := findClass_of_methodNamed B.named
  have hlocks := B.notSynchronized
  subst hsz
  have hD := hD0.self (sz := s.heap.size)
  generalize hAe : va_A [(m0, .inr (12, [.int 0, .ref m_world, .ref m_images, .ref m_hasImage, .ref m_tape, .int 0, .ref m_five, .int 0, .int 0, .int 0, .int 0, .int 0, .int 0, .int (-1), .ref m_fresh, .ref m_spokenAt, .ref m_heardAt, .ref m_lastAt, .ref m_answerAt, .int 0, .int 0, .int 0, .long 0, .int 0, .int 0, .ref m_heardNow, .ref m_seenAt, .int 0, .int 0, .int 0, .int 0, .int 0, .ref m_fewest, .ref m_costNow, .ref m_costThen, .ref m_lawsOf, .ref m_heardBy, .int 0, .int 0, .ref m_placesOf, .ref m_sentIn, .int 0, .int 0, .ref m_lostBy, .ref m_many, .ref m_width, .ref m_numbers, .ref m_moving])), (m_world, .inl (cI, 53, .inl (fun _ => 0))), (m_spokenAt, .inl (cI, 61, .inl f))] s.heap.size = A at hD ⊢
  have hA : ∀ q : Nat, s.heap.size ≤ q → A q := fun q h => by rw [← hAe]; exact Or.inr h
  have hS : va_S A s.heap s.heap [] := va_S.rf
  have hl := lv_entry ([.ref m0, .int a1, .int a2]) (n := 8) (Nat.le_of_ble_eq_true rfl)
  rw [lg_entry_eq]
  generalize (lg_sl ([.ref m0, .int a1, .int a2]) ++ List.replicate (8 - (lg_sl ([.ref m0, .int a1, .int a2])).length) Slot.unset).toArray = ls at hl ⊢
  have hl : lv_has ls 8 [(0, .ref m0), (1, .int a1), (2, .int a2)] := hl
  have hP : va_P D vwCl [(m0, .inr (12, [.int 0, .ref m_world, .ref m_images, .ref m_hasImage, .ref m_tape, .int 0, .ref m_five, .int 0, .int 0, .int 0, .int 0, .int 0, .int 0, .int (-1), .ref m_fresh, .ref m_spokenAt, .ref m_heardAt, .ref m_lastAt, .ref m_answerAt, .int 0, .int 0, .int 0, .long 0, .int 0, .int 0, .ref m_heardNow, .ref m_seenAt, .int 0, .int 0, .int 0, .int 0, .int 0, .ref m_fewest, .ref m_costNow, .ref m_costThen, .ref m_lawsOf, .ref m_heardBy, .int 0, .int 0, .ref m_placesOf, .ref m_sentIn, .int 0, .int 0, .ref m_lostBy, .ref m_many, .ref m_width, .ref m_numbers, .ref m_moving])), (m_world, .inl (cI, 53, .inl (fun _ => 0))), (m_spokenAt, .inl (cI, 61, .inl f))] s.heap := hP
  refine lv_aload_n hx hb dX12_chance_0 rfl (lv_at hl 0 rfl) ?_
  refine wrVi (As := []) (rest := []) (wr := []) ⟨hx, hb, hml, hown, hts⟩ (k_asksStation l D cB cI cJ cZ cS cT s.heap.size m0 m_world m_images m_hasImage m_tape m_five m_fresh m_spokenAt m_heardAt m_lastAt m_answerAt m_heardNow m_seenAt m_fewest m_costNow m_costThen m_lawsOf m_heardBy m_placesOf m_sentIn m_lostBy m_many m_width m_numbers m_moving f ) hP hD hS hA hK hN [0, 1, 2] [] rfl rfl (by decide) (by decide) (by decide) (cvB (n := 0) (inr24 _ (List.mem_of_getElem? (i := 3) rfl)) (inr24 _ (List.mem_of_getElem? (i := 4) rfl)) (inr24 _ (List.mem_of_getElem? (i := 5) rfl)) (inr1 _ (List.mem_of_getElem? (i := 5) rfl)) (inr24 _ (List.mem_of_getElem? (i := 6) rfl)) (by decide +kernel) hts rfl rfl ⟨Nat.le_of_ble_eq_true rfl, Nat.le_of_ble_eq_true rfl⟩) 0 12 rfl rfl rfl rfl hl.1 rfl (Nat.le_of_ble_eq_true rfl) ⟨Nat.le_of_ble_eq_true rfl, Nat.le_of_ble_eq_true rfl⟩ dX12_chance_1 (fun r_1 x9 H locs h_2 hP hD hS => ?_)
  obtain ⟨g_3, rfl⟩ : ∃ z, z = x9 := ⟨_, rfl⟩
  have hP : va_P D vwCl [(m0, .inr (12, [.int 0, .ref m_world, .ref m_images, .ref m_hasImage, .ref m_tape, .int 0, .ref m_five, .int 0, .int 0, .int 0, .int 0, .int 0, .int 0, .int (-1), .ref m_fresh, .ref m_spokenAt, .ref m_heardAt, .ref m_lastAt, .ref m_answerAt, .int 0, .int 0, .int 0, .long 0, .int 0, .int 0, .ref m_heardNow, .ref m_seenAt, .int 0, .int 0, .int 0, .int 0, .int 0, .ref m_fewest, .ref m_costNow, .ref m_costThen, .ref m_lawsOf, .ref m_heardBy, .int 0, .int 0, .ref m_placesOf, .ref m_sentIn, .int 0, .int 0, .ref m_lostBy, .ref m_many, .ref m_width, .ref m_numbers, .ref m_moving])), (m_world, .inl (cI, 53, .inl (fun _ => 0))), (m_spokenAt, .inl (cI, 61, .inl g_3))] H := hP
  have hD : va_D A [(m0, .inr (12, [.int 0, .ref m_world, .ref m_images, .ref m_hasImage, .ref m_tape, .int 0, .ref m_five, .int 0, .int 0, .int 0, .int 0, .int 0, .int 0, .int (-1), .ref m_fresh, .ref m_spokenAt, .ref m_heardAt, .ref m_lastAt, .ref m_answerAt, .int 0, .int 0, .int 0, .long 0, .int 0, .int 0, .ref m_heardNow, .ref m_seenAt, .int 0, .int 0, .int 0, .int 0, .int 0, .ref m_fewest, .ref m_costNow, .ref m_costThen, .ref m_lawsOf, .ref m_heardBy, .int 0, .int 0, .ref m_placesOf, .ref m_sentIn, .int 0, .int 0, .ref m_lostBy, .ref m_many, .ref m_width, .ref m_numbers, .ref m_moving])), (m_world, .inl (cI, 53, .inl (fun _ => 0))), (m_spokenAt, .inl (cI, 61, .inl g_3))] := hD
  obtain rfl := h_2
  refine lv_if_eq (tgt := 29) hx hb dX12_chance_4 (by decide) (fun _ => ?_) (fun c0 => absurd c0 (by decide))
  refine lv_ldc2 hx hb hown (hts _ (inr64 _ (List.mem_of_getElem? (i := 23) rfl))) dX12_chance_29 ?_
  have hP9 := hP.sub (ws' := []) [] rfl
  have hD9 := hD.sub (ws' := []) [] (by decide) rfl
  exact W.lret (v := (-2)) hx hb hr (fun t ht hW => ⟨⟨(-2), (), rfl, rfl, by rw [ht]; exact hP9, va_K.moved hW.alike hK, hD9⟩, hS.F ht⟩) hS.2.2 dX12_chance_32
