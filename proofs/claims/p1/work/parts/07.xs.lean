theorem dX0_clear_0 : decode cX0_clear 0 = .ok (.aload_n 0, 1) := by decide +kernel
theorem dX0_clear_1 : decode cX0_clear 1 = .ok (.getfield 9, 3) := by decide +kernel
theorem dX0_clear_10 : decode cX0_clear 10 = .ok (.putfield 27, 3) := by decide +kernel
theorem dX0_clear_13 : decode cX0_clear 13 = .ok (.return_, 1) := by decide +kernel
theorem dX0_clear_4 : decode cX0_clear 4 = .ok (.iconst (-1), 1) := by decide +kernel
theorem dX0_clear_5 : decode cX0_clear 5 = .ok (.invokestatic 21, 3) := by decide +kernel
theorem dX0_clear_8 : decode cX0_clear 8 = .ok (.aload_n 0, 1) := by decide +kernel
theorem dX0_clear_9 : decode cX0_clear 9 = .ok (.iconst 0, 1) := by decide +kernel
theorem dX0_copyFrom_0 : decode cX0_copyFrom 0 = .ok (.aload_n 1, 1) := by decide +kernel
theorem dX0_copyFrom_1 : decode cX0_copyFrom 1 = .ok (.getfield 9, 3) := by decide +kernel
theorem dX0_copyFrom_10 : decode cX0_copyFrom 10 = .ok (.bipush 61, 2) := by decide +kernel
theorem dX0_copyFrom_12 : decode cX0_copyFrom 12 = .ok (.invokestatic 39, 3) := by decide +kernel
theorem dX0_copyFrom_15 : decode cX0_copyFrom 15 = .ok (.aload_n 1, 1) := by decide +kernel
theorem dX0_copyFrom_16 : decode cX0_copyFrom 16 = .ok (.getfield 15, 3) := by decide +kernel
theorem dX0_copyFrom_19 : decode cX0_copyFrom 19 = .ok (.iconst 0, 1) := by decide +kernel
theorem dX0_copyFrom_20 : decode cX0_copyFrom 20 = .ok (.aload_n 0, 1) := by decide +kernel
theorem dX0_copyFrom_21 : decode cX0_copyFrom 21 = .ok (.getfield 15, 3) := by decide +kernel
theorem dX0_copyFrom_24 : decode cX0_copyFrom 24 = .ok (.iconst 0, 1) := by decide +kernel
theorem dX0_copyFrom_25 : decode cX0_copyFrom 25 = .ok (.bipush 30, 2) := by decide +kernel
theorem dX0_copyFrom_27 : decode cX0_copyFrom 27 = .ok (.invokestatic 39, 3) := by decide +kernel
theorem dX0_copyFrom_30 : decode cX0_copyFrom 30 = .ok (.aload_n 1, 1) := by decide +kernel
theorem dX0_copyFrom_31 : decode cX0_copyFrom 31 = .ok (.getfield 18, 3) := by decide +kernel
theorem dX0_copyFrom_34 : decode cX0_copyFrom 34 = .ok (.iconst 0, 1) := by decide +kernel
theorem dX0_copyFrom_35 : decode cX0_copyFrom 35 = .ok (.aload_n 0, 1) := by decide +kernel
theorem dX0_copyFrom_36 : decode cX0_copyFrom 36 = .ok (.getfield 18, 3) := by decide +kernel
theorem dX0_copyFrom_39 : decode cX0_copyFrom 39 = .ok (.iconst 0, 1) := by decide +kernel
theorem dX0_copyFrom_4 : decode cX0_copyFrom 4 = .ok (.iconst 0, 1) := by decide +kernel
theorem dX0_copyFrom_40 : decode cX0_copyFrom 40 = .ok (.bipush 30, 2) := by decide +kernel
theorem dX0_copyFrom_42 : decode cX0_copyFrom 42 = .ok (.invokestatic 39, 3) := by decide +kernel
theorem dX0_copyFrom_45 : decode cX0_copyFrom 45 = .ok (.aload_n 0, 1) := by decide +kernel
theorem dX0_copyFrom_46 : decode cX0_copyFrom 46 = .ok (.aload_n 1, 1) := by decide +kernel
theorem dX0_copyFrom_47 : decode cX0_copyFrom 47 = .ok (.getfield 27, 3) := by decide +kernel
theorem dX0_copyFrom_5 : decode cX0_copyFrom 5 = .ok (.aload_n 0, 1) := by decide +kernel
theorem dX0_copyFrom_50 : decode cX0_copyFrom 50 = .ok (.putfield 27, 3) := by decide +kernel
theorem dX0_copyFrom_53 : decode cX0_copyFrom 53 = .ok (.return_, 1) := by decide +kernel
theorem dX0_copyFrom_6 : decode cX0_copyFrom 6 = .ok (.getfield 9, 3) := by decide +kernel
theorem dX0_copyFrom_9 : decode cX0_copyFrom 9 = .ok (.iconst 0, 1) := by decide +kernel
theorem dX11_back_0 : decode cX11_back 0 = .ok (.iload_n 1, 1) := by decide +kernel
theorem dX11_back_1 : decode cX11_back 1 = .ok (.i2l, 1) := by decide +kernel
theorem dX11_back_12 : decode cX11_back 12 = .ok (.bipush (-2), 2) := by decide +kernel
theorem dX11_back_14 : decode cX11_back 14 = .ok (.ireturn, 1) := by decide +kernel
theorem dX11_back_15 : decode cX11_back 15 = .ok (.aload_n 0, 1) := by decide +kernel
theorem dX11_back_16 : decode cX11_back 16 = .ok (.getfield 37, 3) := by decide +kernel
theorem dX11_back_19 : decode cX11_back 19 = .ok (.iload_n 1, 1) := by decide +kernel
theorem dX11_back_2 : decode cX11_back 2 = .ok (.lconst 0, 1) := by decide +kernel
theorem dX11_back_20 : decode cX11_back 20 = .ok (.baload, 1) := by decide +kernel
theorem dX11_back_21 : decode cX11_back 21 = .ok (.ifCond .ne 6, 3) := by decide +kernel
theorem dX11_back_24 : decode cX11_back 24 = .ok (.bipush (-6), 2) := by decide +kernel
theorem dX11_back_26 : decode cX11_back 26 = .ok (.ireturn, 1) := by decide +kernel
theorem dX11_back_3 : decode cX11_back 3 = .ok (.ldc2_w 375, 3) := by decide +kernel
theorem dX11_back_6 : decode cX11_back 6 = .ok (.invokestatic 101, 3) := by decide +kernel
theorem dX11_back_9 : decode cX11_back 9 = .ok (.ifCond .eq 6, 3) := by decide +kernel
theorem dX11_best_0 : decode cX11_best 0 = .ok (.iload_n 1, 1) := by decide +kernel
theorem dX11_best_1 : decode cX11_best 1 = .ok (.i2l, 1) := by decide +kernel
theorem dX11_best_12 : decode cX11_best 12 = .ok (.bipush (-2), 2) := by decide +kernel
theorem dX11_best_14 : decode cX11_best 14 = .ok (.ireturn, 1) := by decide +kernel
theorem dX11_best_15 : decode cX11_best 15 = .ok (.iconst 0, 1) := by decide +kernel
theorem dX11_best_16 : decode cX11_best 16 = .ok (.istore_n 2, 1) := by decide +kernel
theorem dX11_best_17 : decode cX11_best 17 = .ok (.iconst 1, 1) := by decide +kernel
theorem dX11_best_18 : decode cX11_best 18 = .ok (.istore_n 3, 1) := by decide +kernel
theorem dX11_best_19 : decode cX11_best 19 = .ok (.iload_n 3, 1) := by decide +kernel
theorem dX11_best_2 : decode cX11_best 2 = .ok (.lconst 0, 1) := by decide +kernel
theorem dX11_best_20 : decode cX11_best 20 = .ok (.iconst 3, 1) := by decide +kernel
theorem dX11_best_21 : decode cX11_best 21 = .ok (.if_icmp .gt 24, 3) := by decide +kernel
theorem dX11_best_24 : decode cX11_best 24 = .ok (.iload_n 3, 1) := by decide +kernel
theorem dX11_best_25 : decode cX11_best 25 = .ok (.iload_n 1, 1) := by decide +kernel
theorem dX11_best_26 : decode cX11_best 26 = .ok (.invokestatic 350, 3) := by decide +kernel
theorem dX11_best_29 : decode cX11_best 29 = .ok (.iload_n 2, 1) := by decide +kernel
theorem dX11_best_3 : decode cX11_best 3 = .ok (.ldc2_w 348, 3) := by decide +kernel
theorem dX11_best_30 : decode cX11_best 30 = .ok (.iload_n 1, 1) := by decide +kernel
theorem dX11_best_31 : decode cX11_best 31 = .ok (.invokestatic 350, 3) := by decide +kernel
theorem dX11_best_34 : decode cX11_best 34 = .ok (.if_icmp .le 5, 3) := by decide +kernel
theorem dX11_best_37 : decode cX11_best 37 = .ok (.iload_n 3, 1) := by decide +kernel
theorem dX11_best_38 : decode cX11_best 38 = .ok (.istore_n 2, 1) := by decide +kernel
theorem dX11_best_39 : decode cX11_best 39 = .ok (.iinc 3 1, 3) := by decide +kernel
theorem dX11_best_42 : decode cX11_best 42 = .ok (.goto (-23), 3) := by decide +kernel
theorem dX11_best_45 : decode cX11_best 45 = .ok (.iload_n 2, 1) := by decide +kernel
theorem dX11_best_46 : decode cX11_best 46 = .ok (.ireturn, 1) := by decide +kernel
theorem dX11_best_6 : decode cX11_best 6 = .ok (.invokestatic 101, 3) := by decide +kernel
theorem dX11_best_9 : decode cX11_best 9 = .ok (.ifCond .eq 6, 3) := by decide +kernel
theorem dX11_count_0 : decode cX11_count 0 = .ok (.iload_n 1, 1) := by decide +kernel
theorem dX11_count_1 : decode cX11_count 1 = .ok (.tableswitch 159 0 11 #[63, 71, 79, 87, 95, 103, 111, 119, 127, 138, 146, 154], 63) := by decide +kernel
theorem dX11_count_100 : decode cX11_count 100 = .ok (.invokevirtual 411, 3) := by decide +kernel
theorem dX11_count_103 : decode cX11_count 103 = .ok (.ireturn, 1) := by decide +kernel
theorem dX11_count_104 : decode cX11_count 104 = .ok (.aload_n 0, 1) := by decide +kernel
theorem dX11_count_105 : decode cX11_count 105 = .ok (.getfield 26, 3) := by decide +kernel
theorem dX11_count_108 : decode cX11_count 108 = .ok (.invokevirtual 357, 3) := by decide +kernel
theorem dX11_count_111 : decode cX11_count 111 = .ok (.ireturn, 1) := by decide +kernel
theorem dX11_count_112 : decode cX11_count 112 = .ok (.aload_n 0, 1) := by decide +kernel
theorem dX11_count_113 : decode cX11_count 113 = .ok (.getfield 26, 3) := by decide +kernel
theorem dX11_count_116 : decode cX11_count 116 = .ok (.invokevirtual 129, 3) := by decide +kernel
theorem dX11_count_119 : decode cX11_count 119 = .ok (.ireturn, 1) := by decide +kernel
theorem dX11_count_120 : decode cX11_count 120 = .ok (.aload_n 0, 1) := by decide +kernel
theorem dX11_count_121 : decode cX11_count 121 = .ok (.getfield 26, 3) := by decide +kernel
theorem dX11_count_124 : decode cX11_count 124 = .ok (.invokevirtual 136, 3) := by decide +kernel
theorem dX11_count_127 : decode cX11_count 127 = .ok (.ireturn, 1) := by decide +kernel
theorem dX11_count_128 : decode cX11_count 128 = .ok (.aload_n 0, 1) := by decide +kernel
theorem dX11_count_129 : decode cX11_count 129 = .ok (.getfield 26, 3) := by decide +kernel
theorem dX11_count_132 : decode cX11_count 132 = .ok (.invokevirtual 275, 3) := by decide +kernel
theorem dX11_count_135 : decode cX11_count 135 = .ok (.invokevirtual 392, 3) := by decide +kernel
theorem dX11_count_138 : decode cX11_count 138 = .ok (.ireturn, 1) := by decide +kernel
theorem dX11_count_139 : decode cX11_count 139 = .ok (.aload_n 0, 1) := by decide +kernel
theorem dX11_count_140 : decode cX11_count 140 = .ok (.getfield 26, 3) := by decide +kernel
theorem dX11_count_143 : decode cX11_count 143 = .ok (.invokevirtual 123, 3) := by decide +kernel
theorem dX11_count_146 : decode cX11_count 146 = .ok (.ireturn, 1) := by decide +kernel
theorem dX11_count_147 : decode cX11_count 147 = .ok (.aload_n 0, 1) := by decide +kernel
theorem dX11_count_148 : decode cX11_count 148 = .ok (.getfield 12, 3) := by decide +kernel
theorem dX11_count_151 : decode cX11_count 151 = .ok (.invokevirtual 93, 3) := by decide +kernel
theorem dX11_count_154 : decode cX11_count 154 = .ok (.ireturn, 1) := by decide +kernel
theorem dX11_count_155 : decode cX11_count 155 = .ok (.aload_n 0, 1) := by decide +kernel
theorem dX11_count_156 : decode cX11_count 156 = .ok (.invokevirtual 414, 3) := by decide +kernel
theorem dX11_count_159 : decode cX11_count 159 = .ok (.ireturn, 1) := by decide +kernel
theorem dX11_count_160 : decode cX11_count 160 = .ok (.iconst (-1), 1) := by decide +kernel
theorem dX11_count_161 : decode cX11_count 161 = .ok (.ireturn, 1) := by decide +kernel
theorem dX11_count_64 : decode cX11_count 64 = .ok (.aload_n 0, 1) := by decide +kernel
theorem dX11_count_65 : decode cX11_count 65 = .ok (.getfield 26, 3) := by decide +kernel
theorem dX11_count_68 : decode cX11_count 68 = .ok (.invokevirtual 185, 3) := by decide +kernel
theorem dX11_count_71 : decode cX11_count 71 = .ok (.ireturn, 1) := by decide +kernel
theorem dX11_count_72 : decode cX11_count 72 = .ok (.aload_n 0, 1) := by decide +kernel
theorem dX11_count_73 : decode cX11_count 73 = .ok (.getfield 26, 3) := by decide +kernel
theorem dX11_count_76 : decode cX11_count 76 = .ok (.invokevirtual 405, 3) := by decide +kernel
theorem dX11_count_79 : decode cX11_count 79 = .ok (.ireturn, 1) := by decide +kernel
theorem dX11_count_80 : decode cX11_count 80 = .ok (.aload_n 0, 1) := by decide +kernel
theorem dX11_count_81 : decode cX11_count 81 = .ok (.getfield 26, 3) := by decide +kernel
theorem dX11_count_84 : decode cX11_count 84 = .ok (.invokevirtual 408, 3) := by decide +kernel
theorem dX11_count_87 : decode cX11_count 87 = .ok (.ireturn, 1) := by decide +kernel
theorem dX11_count_88 : decode cX11_count 88 = .ok (.aload_n 0, 1) := by decide +kernel
theorem dX11_count_89 : decode cX11_count 89 = .ok (.getfield 26, 3) := by decide +kernel
theorem dX11_count_92 : decode cX11_count 92 = .ok (.invokevirtual 402, 3) := by decide +kernel
theorem dX11_count_95 : decode cX11_count 95 = .ok (.ireturn, 1) := by decide +kernel
theorem dX11_count_96 : decode cX11_count 96 = .ok (.aload_n 0, 1) := by decide +kernel
theorem dX11_count_97 : decode cX11_count 97 = .ok (.getfield 26, 3) := by decide +kernel
theorem dX11_end_0 : decode cX11_end 0 = .ok (.iload_n 1, 1) := by decide +kernel
theorem dX11_end_1 : decode cX11_end 1 = .ok (.i2l, 1) := by decide +kernel
theorem dX11_end_10 : decode cX11_end 10 = .ok (.i2l, 1) := by decide +kernel
theorem dX11_end_11 : decode cX11_end 11 = .ok (.invokestatic 101, 3) := by decide +kernel
theorem dX11_end_14 : decode cX11_end 14 = .ok (.ifCond .eq 5, 3) := by decide +kernel
theorem dX11_end_17 : decode cX11_end 17 = .ok (.iconst (-1), 1) := by decide +kernel
theorem dX11_end_18 : decode cX11_end 18 = .ok (.ireturn, 1) := by decide +kernel
theorem dX11_end_19 : decode cX11_end 19 = .ok (.aload_n 0, 1) := by decide +kernel
theorem dX11_end_2 : decode cX11_end 2 = .ok (.lconst 0, 1) := by decide +kernel
theorem dX11_end_20 : decode cX11_end 20 = .ok (.getfield 12, 3) := by decide +kernel
theorem dX11_end_23 : decode cX11_end 23 = .ok (.iload_n 1, 1) := by decide +kernel
theorem dX11_end_24 : decode cX11_end 24 = .ok (.invokevirtual 105, 3) := by decide +kernel
theorem dX11_end_27 : decode cX11_end 27 = .ok (.iload_n 1, 1) := by decide +kernel
theorem dX11_end_28 : decode cX11_end 28 = .ok (.ireturn, 1) := by decide +kernel
theorem dX11_end_3 : decode cX11_end 3 = .ok (.aload_n 0, 1) := by decide +kernel
theorem dX11_end_4 : decode cX11_end 4 = .ok (.getfield 12, 3) := by decide +kernel
theorem dX11_end_7 : decode cX11_end 7 = .ok (.invokevirtual 93, 3) := by decide +kernel
theorem dX11_fault_0 : decode cX11_fault 0 = .ok (.iload_n 1, 1) := by decide +kernel
theorem dX11_fault_1 : decode cX11_fault 1 = .ok (.lookupswitch 43 #[(0, 27), (1, 35)], 27) := by decide +kernel
theorem dX11_fault_28 : decode cX11_fault 28 = .ok (.aload_n 0, 1) := by decide +kernel
theorem dX11_fault_29 : decode cX11_fault 29 = .ok (.getfield 19, 3) := by decide +kernel
theorem dX11_fault_32 : decode cX11_fault 32 = .ok (.invokevirtual 112, 3) := by decide +kernel
theorem dX11_fault_35 : decode cX11_fault 35 = .ok (.ireturn, 1) := by decide +kernel
theorem dX11_fault_36 : decode cX11_fault 36 = .ok (.aload_n 0, 1) := by decide +kernel
theorem dX11_fault_37 : decode cX11_fault 37 = .ok (.getfield 19, 3) := by decide +kernel
theorem dX11_fault_40 : decode cX11_fault 40 = .ok (.invokevirtual 126, 3) := by decide +kernel
theorem dX11_fault_43 : decode cX11_fault 43 = .ok (.ireturn, 1) := by decide +kernel
theorem dX11_fault_44 : decode cX11_fault 44 = .ok (.iconst (-1), 1) := by decide +kernel
theorem dX11_fault_45 : decode cX11_fault 45 = .ok (.ireturn, 1) := by decide +kernel
theorem dX11_feed_0 : decode cX11_feed 0 = .ok (.aload_n 0, 1) := by decide +kernel
theorem dX11_feed_1 : decode cX11_feed 1 = .ok (.getfield 12, 3) := by decide +kernel
theorem dX11_feed_10 : decode cX11_feed 10 = .ok (.sipush 500, 3) := by decide +kernel
theorem dX11_feed_13 : decode cX11_feed 13 = .ok (.if_icmp .le 5, 3) := by decide +kernel
theorem dX11_feed_18 : decode cX11_feed 18 = .ok (.aload_n 0, 1) := by decide +kernel
theorem dX11_feed_19 : decode cX11_feed 19 = .ok (.getfield 12, 3) := by decide +kernel
theorem dX11_feed_22 : decode cX11_feed 22 = .ok (.iload_n 1, 1) := by decide +kernel
theorem dX11_feed_23 : decode cX11_feed 23 = .ok (.invokevirtual 97, 3) := by decide +kernel
theorem dX11_feed_26 : decode cX11_feed 26 = .ok (.aload_n 0, 1) := by decide +kernel
theorem dX11_feed_27 : decode cX11_feed 27 = .ok (.getfield 12, 3) := by decide +kernel
theorem dX11_feed_30 : decode cX11_feed 30 = .ok (.iload_n 2, 1) := by decide +kernel
theorem dX11_feed_31 : decode cX11_feed 31 = .ok (.invokevirtual 97, 3) := by decide +kernel
theorem dX11_feed_34 : decode cX11_feed 34 = .ok (.aload_n 0, 1) := by decide +kernel
theorem dX11_feed_35 : decode cX11_feed 35 = .ok (.getfield 12, 3) := by decide +kernel
theorem dX11_feed_38 : decode cX11_feed 38 = .ok (.iload_n 3, 1) := by decide +kernel
theorem dX11_feed_39 : decode cX11_feed 39 = .ok (.invokevirtual 97, 3) := by decide +kernel
theorem dX11_feed_4 : decode cX11_feed 4 = .ok (.invokevirtual 93, 3) := by decide +kernel
theorem dX11_feed_42 : decode cX11_feed 42 = .ok (.aload_n 0, 1) := by decide +kernel
theorem dX11_feed_43 : decode cX11_feed 43 = .ok (.getfield 12, 3) := by decide +kernel
theorem dX11_feed_46 : decode cX11_feed 46 = .ok (.iload 4, 2) := by decide +kernel
theorem dX11_feed_48 : decode cX11_feed 48 = .ok (.invokevirtual 97, 3) := by decide +kernel
theorem dX11_feed_51 : decode cX11_feed 51 = .ok (.aload_n 0, 1) := by decide +kernel
theorem dX11_feed_52 : decode cX11_feed 52 = .ok (.getfield 12, 3) := by decide +kernel
theorem dX11_feed_55 : decode cX11_feed 55 = .ok (.iload 5, 2) := by decide +kernel
theorem dX11_feed_57 : decode cX11_feed 57 = .ok (.invokevirtual 97, 3) := by decide +kernel
theorem dX11_feed_60 : decode cX11_feed 60 = .ok (.aload_n 0, 1) := by decide +kernel
theorem dX11_feed_61 : decode cX11_feed 61 = .ok (.getfield 12, 3) := by decide +kernel
theorem dX11_feed_64 : decode cX11_feed 64 = .ok (.invokevirtual 93, 3) := by decide +kernel
theorem dX11_feed_67 : decode cX11_feed 67 = .ok (.ireturn, 1) := by decide +kernel
theorem dX11_feed_7 : decode cX11_feed 7 = .ok (.bipush 20, 2) := by decide +kernel
theorem dX11_feed_9 : decode cX11_feed 9 = .ok (.iadd, 1) := by decide +kernel
theorem dX11_image_0 : decode cX11_image 0 = .ok (.iload_n 1, 1) := by decide +kernel
theorem dX11_image_1 : decode cX11_image 1 = .ok (.i2l, 1) := by decide +kernel
theorem dX11_image_12 : decode cX11_image 12 = .ok (.bipush (-2), 2) := by decide +kernel
theorem dX11_image_14 : decode cX11_image 14 = .ok (.ireturn, 1) := by decide +kernel
theorem dX11_image_15 : decode cX11_image 15 = .ok (.aload_n 0, 1) := by decide +kernel
theorem dX11_image_16 : decode cX11_image 16 = .ok (.getfield 33, 3) := by decide +kernel
theorem dX11_image_19 : decode cX11_image 19 = .ok (.iload_n 1, 1) := by decide +kernel
theorem dX11_image_2 : decode cX11_image 2 = .ok (.lconst 0, 1) := by decide +kernel
theorem dX11_image_20 : decode cX11_image 20 = .ok (.aaload, 1) := by decide +kernel
theorem dX11_image_21 : decode cX11_image 21 = .ok (.aload_n 0, 1) := by decide +kernel
theorem dX11_image_22 : decode cX11_image 22 = .ok (.getfield 26, 3) := by decide +kernel
theorem dX11_image_25 : decode cX11_image 25 = .ok (.invokevirtual 119, 3) := by decide +kernel
theorem dX11_image_28 : decode cX11_image 28 = .ok (.aload_n 0, 1) := by decide +kernel
theorem dX11_image_29 : decode cX11_image 29 = .ok (.getfield 37, 3) := by decide +kernel
theorem dX11_image_3 : decode cX11_image 3 = .ok (.ldc2_w 375, 3) := by decide +kernel
theorem dX11_image_32 : decode cX11_image 32 = .ok (.iload_n 1, 1) := by decide +kernel
theorem dX11_image_33 : decode cX11_image 33 = .ok (.iconst 1, 1) := by decide +kernel
theorem dX11_image_34 : decode cX11_image 34 = .ok (.bastore, 1) := by decide +kernel
theorem dX11_image_35 : decode cX11_image 35 = .ok (.iconst 0, 1) := by decide +kernel
theorem dX11_image_36 : decode cX11_image 36 = .ok (.ireturn, 1) := by decide +kernel
theorem dX11_image_6 : decode cX11_image 6 = .ok (.invokestatic 101, 3) := by decide +kernel
theorem dX11_image_9 : decode cX11_image 9 = .ok (.ifCond .eq 6, 3) := by decide +kernel
theorem dX11_noneBetter_0 : decode cX11_noneBetter 0 = .ok (.iconst 0, 1) := by decide +kernel
theorem dX11_noneBetter_1 : decode cX11_noneBetter 1 = .ok (.istore_n 2, 1) := by decide +kernel
theorem dX11_noneBetter_12 : decode cX11_noneBetter 12 = .ok (.iload_n 0, 1) := by decide +kernel
theorem dX11_noneBetter_13 : decode cX11_noneBetter 13 = .ok (.iload_n 1, 1) := by decide +kernel
theorem dX11_noneBetter_14 : decode cX11_noneBetter 14 = .ok (.invokestatic 350, 3) := by decide +kernel
theorem dX11_noneBetter_17 : decode cX11_noneBetter 17 = .ok (.if_icmp .le 5, 3) := by decide +kernel
theorem dX11_noneBetter_2 : decode cX11_noneBetter 2 = .ok (.iload_n 2, 1) := by decide +kernel
theorem dX11_noneBetter_20 : decode cX11_noneBetter 20 = .ok (.iconst 0, 1) := by decide +kernel
theorem dX11_noneBetter_21 : decode cX11_noneBetter 21 = .ok (.ireturn, 1) := by decide +kernel
theorem dX11_noneBetter_22 : decode cX11_noneBetter 22 = .ok (.iinc 2 1, 3) := by decide +kernel
theorem dX11_noneBetter_25 : decode cX11_noneBetter 25 = .ok (.goto (-23), 3) := by decide +kernel
theorem dX11_noneBetter_28 : decode cX11_noneBetter 28 = .ok (.iconst 1, 1) := by decide +kernel
theorem dX11_noneBetter_29 : decode cX11_noneBetter 29 = .ok (.ireturn, 1) := by decide +kernel
theorem dX11_noneBetter_3 : decode cX11_noneBetter 3 = .ok (.iconst 3, 1) := by decide +kernel
theorem dX11_noneBetter_4 : decode cX11_noneBetter 4 = .ok (.if_icmp .gt 24, 3) := by decide +kernel
theorem dX11_noneBetter_7 : decode cX11_noneBetter 7 = .ok (.iload_n 2, 1) := by decide +kernel
theorem dX11_noneBetter_8 : decode cX11_noneBetter 8 = .ok (.iload_n 1, 1) := by decide +kernel
theorem dX11_noneBetter_9 : decode cX11_noneBetter 9 = .ok (.invokestatic 350, 3) := by decide +kernel
theorem dX11_paste_0 : decode cX11_paste 0 = .ok (.iload_n 1, 1) := by decide +kernel
theorem dX11_paste_1 : decode cX11_paste 1 = .ok (.invokestatic 417, 3) := by decide +kernel
theorem dX11_paste_11 : decode cX11_paste 11 = .ok (.ifCond .eq 6, 3) := by decide +kernel
theorem dX11_paste_14 : decode cX11_paste 14 = .ok (.bipush (-2), 2) := by decide +kernel
theorem dX11_paste_16 : decode cX11_paste 16 = .ok (.ireturn, 1) := by decide +kernel
theorem dX11_paste_17 : decode cX11_paste 17 = .ok (.aload_n 0, 1) := by decide +kernel
theorem dX11_paste_18 : decode cX11_paste 18 = .ok (.getfield 43, 3) := by decide +kernel
theorem dX11_paste_21 : decode cX11_paste 21 = .ok (.iload_n 1, 1) := by decide +kernel
theorem dX11_paste_22 : decode cX11_paste 22 = .ok (.aaload, 1) := by decide +kernel
theorem dX11_paste_23 : decode cX11_paste 23 = .ok (.astore 6, 2) := by decide +kernel
theorem dX11_paste_25 : decode cX11_paste 25 = .ok (.aload_n 0, 1) := by decide +kernel
theorem dX11_paste_26 : decode cX11_paste 26 = .ok (.getfield 43, 3) := by decide +kernel
theorem dX11_paste_29 : decode cX11_paste 29 = .ok (.iload_n 3, 1) := by decide +kernel
theorem dX11_paste_30 : decode cX11_paste 30 = .ok (.aaload, 1) := by decide +kernel
theorem dX11_paste_31 : decode cX11_paste 31 = .ok (.astore 7, 2) := by decide +kernel
theorem dX11_paste_33 : decode cX11_paste 33 = .ok (.aload 6, 2) := by decide +kernel
theorem dX11_paste_35 : decode cX11_paste 35 = .ok (.invokevirtual 423, 3) := by decide +kernel
theorem dX11_paste_38 : decode cX11_paste 38 = .ok (.ifCond .eq 11, 3) := by decide +kernel
theorem dX11_paste_4 : decode cX11_paste 4 = .ok (.ifCond .ne 10, 3) := by decide +kernel
theorem dX11_paste_49 : decode cX11_paste 49 = .ok (.bipush (-6), 2) := by decide +kernel
theorem dX11_paste_51 : decode cX11_paste 51 = .ok (.ireturn, 1) := by decide +kernel
theorem dX11_paste_7 : decode cX11_paste 7 = .ok (.iload_n 3, 1) := by decide +kernel
theorem dX11_paste_8 : decode cX11_paste 8 = .ok (.invokestatic 417, 3) := by decide +kernel
theorem dX11_rests_0 : decode cX11_rests 0 = .ok (.iconst 0, 1) := by decide +kernel
theorem dX11_rests_1 : decode cX11_rests 1 = .ok (.istore_n 1, 1) := by decide +kernel
theorem dX11_rests_10 : decode cX11_rests 10 = .ok (.istore_n 3, 1) := by decide +kernel
theorem dX11_rests_11 : decode cX11_rests 11 = .ok (.iload_n 3, 1) := by decide +kernel
theorem dX11_rests_12 : decode cX11_rests 12 = .ok (.iconst 3, 1) := by decide +kernel
theorem dX11_rests_13 : decode cX11_rests 13 = .ok (.if_icmp .gt 28, 3) := by decide +kernel
theorem dX11_rests_16 : decode cX11_rests 16 = .ok (.iload_n 2, 1) := by decide +kernel
theorem dX11_rests_17 : decode cX11_rests 17 = .ok (.iload_n 3, 1) := by decide +kernel
theorem dX11_rests_18 : decode cX11_rests 18 = .ok (.invokestatic 345, 3) := by decide +kernel
theorem dX11_rests_2 : decode cX11_rests 2 = .ok (.iconst 0, 1) := by decide +kernel
theorem dX11_rests_21 : decode cX11_rests 21 = .ok (.ifCond .eq 14, 3) := by decide +kernel
theorem dX11_rests_24 : decode cX11_rests 24 = .ok (.iload_n 3, 1) := by decide +kernel
theorem dX11_rests_25 : decode cX11_rests 25 = .ok (.iload_n 2, 1) := by decide +kernel
theorem dX11_rests_26 : decode cX11_rests 26 = .ok (.invokestatic 345, 3) := by decide +kernel
theorem dX11_rests_29 : decode cX11_rests 29 = .ok (.ifCond .eq 6, 3) := by decide +kernel
theorem dX11_rests_3 : decode cX11_rests 3 = .ok (.istore_n 2, 1) := by decide +kernel
theorem dX11_rests_35 : decode cX11_rests 35 = .ok (.iinc 3 1, 3) := by decide +kernel
theorem dX11_rests_38 : decode cX11_rests 38 = .ok (.goto (-27), 3) := by decide +kernel
theorem dX11_rests_4 : decode cX11_rests 4 = .ok (.iload_n 2, 1) := by decide +kernel
theorem dX11_rests_41 : decode cX11_rests 41 = .ok (.iinc 2 1, 3) := by decide +kernel
theorem dX11_rests_44 : decode cX11_rests 44 = .ok (.goto (-40), 3) := by decide +kernel
theorem dX11_rests_47 : decode cX11_rests 47 = .ok (.iload_n 1, 1) := by decide +kernel
theorem dX11_rests_48 : decode cX11_rests 48 = .ok (.ireturn, 1) := by decide +kernel
theorem dX11_rests_5 : decode cX11_rests 5 = .ok (.iconst 3, 1) := by decide +kernel
theorem dX11_rests_6 : decode cX11_rests 6 = .ok (.if_icmp .gt 41, 3) := by decide +kernel
theorem dX11_rests_9 : decode cX11_rests 9 = .ok (.iconst 0, 1) := by decide +kernel
theorem dX11_reward_0 : decode cX11_reward 0 = .ok (.iload_n 0, 1) := by decide +kernel
theorem dX11_reward_1 : decode cX11_reward 1 = .ok (.iload_n 1, 1) := by decide +kernel
theorem dX11_reward_10 : decode cX11_reward 10 = .ok (.iload_n 0, 1) := by decide +kernel
theorem dX11_reward_11 : decode cX11_reward 11 = .ok (.iload_n 1, 1) := by decide +kernel
theorem dX11_reward_12 : decode cX11_reward 12 = .ok (.if_icmp .ne 7, 3) := by decide +kernel
theorem dX11_reward_15 : decode cX11_reward 15 = .ok (.iconst 4, 1) := by decide +kernel
theorem dX11_reward_16 : decode cX11_reward 16 = .ok (.goto 4, 3) := by decide +kernel
theorem dX11_reward_19 : decode cX11_reward 19 = .ok (.iconst 0, 1) := by decide +kernel
theorem dX11_reward_2 : decode cX11_reward 2 = .ok (.if_icmp .le 8, 3) := by decide +kernel
theorem dX11_reward_20 : decode cX11_reward 20 = .ok (.istore_n 2, 1) := by decide +kernel
theorem dX11_reward_21 : decode cX11_reward 21 = .ok (.iload_n 2, 1) := by decide +kernel
theorem dX11_reward_22 : decode cX11_reward 22 = .ok (.iload_n 0, 1) := by decide +kernel
theorem dX11_reward_23 : decode cX11_reward 23 = .ok (.iload_n 0, 1) := by decide +kernel
theorem dX11_reward_24 : decode cX11_reward 24 = .ok (.imul, 1) := by decide +kernel
theorem dX11_reward_25 : decode cX11_reward 25 = .ok (.isub, 1) := by decide +kernel
theorem dX11_reward_26 : decode cX11_reward 26 = .ok (.ireturn, 1) := by decide +kernel
theorem dX11_reward_5 : decode cX11_reward 5 = .ok (.bipush 10, 2) := by decide +kernel
theorem dX11_reward_7 : decode cX11_reward 7 = .ok (.goto 13, 3) := by decide +kernel
theorem dX11_row_0 : decode cX11_row 0 = .ok (.iload_n 1, 1) := by decide +kernel
theorem dX11_row_1 : decode cX11_row 1 = .ok (.invokestatic 417, 3) := by decide +kernel
theorem dX11_row_10 : decode cX11_row 10 = .ok (.ldc2_w 348, 3) := by decide +kernel
theorem dX11_row_13 : decode cX11_row 13 = .ok (.invokestatic 101, 3) := by decide +kernel
theorem dX11_row_16 : decode cX11_row 16 = .ok (.ifCond .ne 9, 3) := by decide +kernel
theorem dX11_row_19 : decode cX11_row 19 = .ok (.iload_n 3, 1) := by decide +kernel
theorem dX11_row_20 : decode cX11_row 20 = .ok (.bipush 60, 2) := by decide +kernel
theorem dX11_row_22 : decode cX11_row 22 = .ok (.if_icmp .le 6, 3) := by decide +kernel
theorem dX11_row_25 : decode cX11_row 25 = .ok (.bipush (-2), 2) := by decide +kernel
theorem dX11_row_27 : decode cX11_row 27 = .ok (.ireturn, 1) := by decide +kernel
theorem dX11_row_28 : decode cX11_row 28 = .ok (.iload_n 3, 1) := by decide +kernel
theorem dX11_row_29 : decode cX11_row 29 = .ok (.ifCond .ge 6, 3) := by decide +kernel
theorem dX11_row_32 : decode cX11_row 32 = .ok (.bipush (-3), 2) := by decide +kernel
theorem dX11_row_34 : decode cX11_row 34 = .ok (.ireturn, 1) := by decide +kernel
theorem dX11_row_35 : decode cX11_row 35 = .ok (.aload_n 0, 1) := by decide +kernel
theorem dX11_row_36 : decode cX11_row 36 = .ok (.getfield 43, 3) := by decide +kernel
theorem dX11_row_39 : decode cX11_row 39 = .ok (.iload_n 1, 1) := by decide +kernel
theorem dX11_row_4 : decode cX11_row 4 = .ok (.ifCond .ne 21, 3) := by decide +kernel
theorem dX11_row_40 : decode cX11_row 40 = .ok (.aaload, 1) := by decide +kernel
theorem dX11_row_41 : decode cX11_row 41 = .ok (.iload_n 2, 1) := by decide +kernel
theorem dX11_row_42 : decode cX11_row 42 = .ok (.iload_n 3, 1) := by decide +kernel
theorem dX11_row_43 : decode cX11_row 43 = .ok (.invokevirtual 420, 3) := by decide +kernel
theorem dX11_row_46 : decode cX11_row 46 = .ok (.iconst 0, 1) := by decide +kernel
theorem dX11_row_47 : decode cX11_row 47 = .ok (.ireturn, 1) := by decide +kernel
theorem dX11_row_7 : decode cX11_row 7 = .ok (.iload_n 2, 1) := by decide +kernel
theorem dX11_row_8 : decode cX11_row 8 = .ok (.i2l, 1) := by decide +kernel
theorem dX11_row_9 : decode cX11_row 9 = .ok (.lconst 0, 1) := by decide +kernel
theorem dX11_slotsWithRow_0 : decode cX11_slotsWithRow 0 = .ok (.iconst 0, 1) := by decide +kernel
theorem dX11_slotsWithRow_1 : decode cX11_slotsWithRow 1 = .ok (.istore_n 1, 1) := by decide +kernel
theorem dX11_slotsWithRow_10 : decode cX11_slotsWithRow 10 = .ok (.getfield 43, 3) := by decide +kernel
theorem dX11_slotsWithRow_13 : decode cX11_slotsWithRow 13 = .ok (.iload_n 2, 1) := by decide +kernel
theorem dX11_slotsWithRow_14 : decode cX11_slotsWithRow 14 = .ok (.aaload, 1) := by decide +kernel
theorem dX11_slotsWithRow_15 : decode cX11_slotsWithRow 15 = .ok (.invokevirtual 423, 3) := by decide +kernel
theorem dX11_slotsWithRow_18 : decode cX11_slotsWithRow 18 = .ok (.ifCond .eq 6, 3) := by decide +kernel
theorem dX11_slotsWithRow_2 : decode cX11_slotsWithRow 2 = .ok (.iconst 0, 1) := by decide +kernel
theorem dX11_slotsWithRow_24 : decode cX11_slotsWithRow 24 = .ok (.iinc 2 1, 3) := by decide +kernel
theorem dX11_slotsWithRow_27 : decode cX11_slotsWithRow 27 = .ok (.goto (-23), 3) := by decide +kernel
theorem dX11_slotsWithRow_3 : decode cX11_slotsWithRow 3 = .ok (.istore_n 2, 1) := by decide +kernel
theorem dX11_slotsWithRow_30 : decode cX11_slotsWithRow 30 = .ok (.iload_n 1, 1) := by decide +kernel
theorem dX11_slotsWithRow_31 : decode cX11_slotsWithRow 31 = .ok (.ireturn, 1) := by decide +kernel
theorem dX11_slotsWithRow_4 : decode cX11_slotsWithRow 4 = .ok (.iload_n 2, 1) := by decide +kernel
theorem dX11_slotsWithRow_5 : decode cX11_slotsWithRow 5 = .ok (.iconst 4, 1) := by decide +kernel
theorem dX11_slotsWithRow_6 : decode cX11_slotsWithRow 6 = .ok (.if_icmp .ge 24, 3) := by decide +kernel
theorem dX11_slotsWithRow_9 : decode cX11_slotsWithRow 9 = .ok (.aload_n 0, 1) := by decide +kernel
theorem dX11_sounds_0 : decode cX11_sounds 0 = .ok (.iload_n 1, 1) := by decide +kernel
theorem dX11_sounds_1 : decode cX11_sounds 1 = .ok (.i2l, 1) := by decide +kernel
theorem dX11_sounds_12 : decode cX11_sounds 12 = .ok (.iload_n 2, 1) := by decide +kernel
theorem dX11_sounds_13 : decode cX11_sounds 13 = .ok (.i2l, 1) := by decide +kernel
theorem dX11_sounds_14 : decode cX11_sounds 14 = .ok (.lconst 0, 1) := by decide +kernel
theorem dX11_sounds_15 : decode cX11_sounds 15 = .ok (.ldc2_w 348, 3) := by decide +kernel
theorem dX11_sounds_18 : decode cX11_sounds 18 = .ok (.invokestatic 101, 3) := by decide +kernel
theorem dX11_sounds_2 : decode cX11_sounds 2 = .ok (.lconst 0, 1) := by decide +kernel
theorem dX11_sounds_21 : decode cX11_sounds 21 = .ok (.ifCond .eq 9, 3) := by decide +kernel
theorem dX11_sounds_24 : decode cX11_sounds 24 = .ok (.sipush (-1000), 3) := by decide +kernel
theorem dX11_sounds_27 : decode cX11_sounds 27 = .ok (.goto 8, 3) := by decide +kernel
theorem dX11_sounds_3 : decode cX11_sounds 3 = .ok (.ldc2_w 348, 3) := by decide +kernel
theorem dX11_sounds_30 : decode cX11_sounds 30 = .ok (.iload_n 1, 1) := by decide +kernel
theorem dX11_sounds_31 : decode cX11_sounds 31 = .ok (.iload_n 2, 1) := by decide +kernel
theorem dX11_sounds_32 : decode cX11_sounds 32 = .ok (.invokestatic 350, 3) := by decide +kernel
theorem dX11_sounds_35 : decode cX11_sounds 35 = .ok (.ireturn, 1) := by decide +kernel
theorem dX11_sounds_6 : decode cX11_sounds 6 = .ok (.invokestatic 101, 3) := by decide +kernel
theorem dX11_sounds_9 : decode cX11_sounds 9 = .ok (.ifCond .ne 15, 3) := by decide +kernel
theorem dX11_station_0 : decode cX11_station 0 = .ok (.aload_n 0, 1) := by decide +kernel
theorem dX11_station_1 : decode cX11_station 1 = .ok (.getfield 19, 3) := by decide +kernel
theorem dX11_station_11 : decode cX11_station 11 = .ok (.aload_n 0, 1) := by decide +kernel
theorem dX11_station_12 : decode cX11_station 12 = .ok (.getfield 19, 3) := by decide +kernel
theorem dX11_station_15 : decode cX11_station 15 = .ok (.invokevirtual 112, 3) := by decide +kernel
theorem dX11_station_18 : decode cX11_station 18 = .ok (.ifCond .eq 6, 3) := by decide +kernel
theorem dX11_station_24 : decode cX11_station 24 = .ok (.aload_n 0, 1) := by decide +kernel
theorem dX11_station_25 : decode cX11_station 25 = .ok (.getfield 26, 3) := by decide +kernel
theorem dX11_station_28 : decode cX11_station 28 = .ok (.aload_n 0, 1) := by decide +kernel
theorem dX11_station_29 : decode cX11_station 29 = .ok (.getfield 19, 3) := by decide +kernel
theorem dX11_station_32 : decode cX11_station 32 = .ok (.invokevirtual 115, 3) := by decide +kernel
theorem dX11_station_35 : decode cX11_station 35 = .ok (.invokevirtual 119, 3) := by decide +kernel
theorem dX11_station_38 : decode cX11_station 38 = .ok (.aload_n 0, 1) := by decide +kernel
theorem dX11_station_39 : decode cX11_station 39 = .ok (.getfield 12, 3) := by decide +kernel
theorem dX11_station_4 : decode cX11_station 4 = .ok (.aload_n 0, 1) := by decide +kernel
theorem dX11_station_42 : decode cX11_station 42 = .ok (.iconst 0, 1) := by decide +kernel
theorem dX11_station_43 : decode cX11_station 43 = .ok (.invokevirtual 105, 3) := by decide +kernel
theorem dX11_station_46 : decode cX11_station 46 = .ok (.aload_n 0, 1) := by decide +kernel
theorem dX11_station_47 : decode cX11_station 47 = .ok (.getfield 26, 3) := by decide +kernel
theorem dX11_station_5 : decode cX11_station 5 = .ok (.getfield 12, 3) := by decide +kernel
theorem dX11_station_50 : decode cX11_station 50 = .ok (.invokevirtual 123, 3) := by decide +kernel
theorem dX11_station_53 : decode cX11_station 53 = .ok (.ireturn, 1) := by decide +kernel
theorem dX11_station_8 : decode cX11_station 8 = .ok (.invokevirtual 108, 3) := by decide +kernel
theorem dX11_write_0 : decode cX11_write 0 = .ok (.iload_n 1, 1) := by decide +kernel
theorem dX11_write_1 : decode cX11_write 1 = .ok (.invokestatic 417, 3) := by decide +kernel
theorem dX11_write_10 : decode cX11_write 10 = .ok (.aload_n 0, 1) := by decide +kernel
theorem dX11_write_11 : decode cX11_write 11 = .ok (.getfield 43, 3) := by decide +kernel
theorem dX11_write_14 : decode cX11_write 14 = .ok (.iload_n 1, 1) := by decide +kernel
theorem dX11_write_15 : decode cX11_write 15 = .ok (.aaload, 1) := by decide +kernel
theorem dX11_write_16 : decode cX11_write 16 = .ok (.astore 5, 2) := by decide +kernel
theorem dX11_write_18 : decode cX11_write 18 = .ok (.aload 5, 2) := by decide +kernel
theorem dX11_write_20 : decode cX11_write 20 = .ok (.invokevirtual 423, 3) := by decide +kernel
theorem dX11_write_23 : decode cX11_write 23 = .ok (.ifCond .ne 6, 3) := by decide +kernel
theorem dX11_write_26 : decode cX11_write 26 = .ok (.bipush (-6), 2) := by decide +kernel
theorem dX11_write_28 : decode cX11_write 28 = .ok (.ireturn, 1) := by decide +kernel
theorem dX11_write_4 : decode cX11_write 4 = .ok (.ifCond .eq 6, 3) := by decide +kernel
theorem dX11_write_7 : decode cX11_write 7 = .ok (.bipush (-2), 2) := by decide +kernel
theorem dX11_write_9 : decode cX11_write 9 = .ok (.ireturn, 1) := by decide +kernel
theorem dX6_isBlank_0 : decode cX6_isBlank 0 = .ok (.iload_n 0, 1) := by decide +kernel
theorem dX6_isBlank_1 : decode cX6_isBlank 1 = .ok (.bipush 32, 2) := by decide +kernel
theorem dX6_isBlank_16 : decode cX6_isBlank 16 = .ok (.iconst 0, 1) := by decide +kernel
theorem dX6_isBlank_17 : decode cX6_isBlank 17 = .ok (.ireturn, 1) := by decide +kernel
theorem dX6_isBlank_3 : decode cX6_isBlank 3 = .ok (.if_icmp .eq 9, 3) := by decide +kernel
theorem dX6_isBlank_6 : decode cX6_isBlank 6 = .ok (.iload_n 0, 1) := by decide +kernel
theorem dX6_isBlank_7 : decode cX6_isBlank 7 = .ok (.bipush 10, 2) := by decide +kernel
theorem dX6_isBlank_9 : decode cX6_isBlank 9 = .ok (.if_icmp .ne 7, 3) := by decide +kernel
theorem dX6_nextToken_0 : decode cX6_nextToken 0 = .ok (.aload_n 0, 1) := by decide +kernel
theorem dX6_nextToken_1 : decode cX6_nextToken 1 = .ok (.aload_n 0, 1) := by decide +kernel
theorem dX6_nextToken_12 : decode cX6_nextToken 12 = .ok (.sipush 500, 3) := by decide +kernel
theorem dX6_nextToken_130 : decode cX6_nextToken 130 = .ok (.return_, 1) := by decide +kernel
theorem dX6_nextToken_15 : decode cX6_nextToken 15 = .ok (.if_icmp .ge 30, 3) := by decide +kernel
theorem dX6_nextToken_18 : decode cX6_nextToken 18 = .ok (.aload_n 1, 1) := by decide +kernel
theorem dX6_nextToken_19 : decode cX6_nextToken 19 = .ok (.aload_n 0, 1) := by decide +kernel
theorem dX6_nextToken_2 : decode cX6_nextToken 2 = .ok (.getfield 28, 3) := by decide +kernel
theorem dX6_nextToken_20 : decode cX6_nextToken 20 = .ok (.getfield 126, 3) := by decide +kernel
theorem dX6_nextToken_23 : decode cX6_nextToken 23 = .ok (.invokevirtual 134, 3) := by decide +kernel
theorem dX6_nextToken_26 : decode cX6_nextToken 26 = .ok (.invokestatic 144, 3) := by decide +kernel
theorem dX6_nextToken_29 : decode cX6_nextToken 29 = .ok (.ifCond .eq 16, 3) := by decide +kernel
theorem dX6_nextToken_45 : decode cX6_nextToken 45 = .ok (.aload_n 0, 1) := by decide +kernel
theorem dX6_nextToken_46 : decode cX6_nextToken 46 = .ok (.aload_n 0, 1) := by decide +kernel
theorem dX6_nextToken_47 : decode cX6_nextToken 47 = .ok (.getfield 126, 3) := by decide +kernel
theorem dX6_nextToken_5 : decode cX6_nextToken 5 = .ok (.putfield 126, 3) := by decide +kernel
theorem dX6_nextToken_50 : decode cX6_nextToken 50 = .ok (.putfield 28, 3) := by decide +kernel
theorem dX6_nextToken_53 : decode cX6_nextToken 53 = .ok (.aload_n 1, 1) := by decide +kernel
theorem dX6_nextToken_54 : decode cX6_nextToken 54 = .ok (.aload_n 0, 1) := by decide +kernel
theorem dX6_nextToken_55 : decode cX6_nextToken 55 = .ok (.getfield 126, 3) := by decide +kernel
theorem dX6_nextToken_58 : decode cX6_nextToken 58 = .ok (.invokevirtual 134, 3) := by decide +kernel
theorem dX6_nextToken_61 : decode cX6_nextToken 61 = .ok (.istore_n 2, 1) := by decide +kernel
theorem dX6_nextToken_62 : decode cX6_nextToken 62 = .ok (.iload_n 2, 1) := by decide +kernel
theorem dX6_nextToken_63 : decode cX6_nextToken 63 = .ok (.iconst (-1), 1) := by decide +kernel
theorem dX6_nextToken_64 : decode cX6_nextToken 64 = .ok (.if_icmp .ne 11, 3) := by decide +kernel
theorem dX6_nextToken_67 : decode cX6_nextToken 67 = .ok (.aload_n 0, 1) := by decide +kernel
theorem dX6_nextToken_68 : decode cX6_nextToken 68 = .ok (.iconst 0, 1) := by decide +kernel
theorem dX6_nextToken_69 : decode cX6_nextToken 69 = .ok (.putfield 35, 3) := by decide +kernel
theorem dX6_nextToken_72 : decode cX6_nextToken 72 = .ok (.goto 58, 3) := by decide +kernel
theorem dX6_nextToken_8 : decode cX6_nextToken 8 = .ok (.aload_n 0, 1) := by decide +kernel
theorem dX6_nextToken_9 : decode cX6_nextToken 9 = .ok (.getfield 126, 3) := by decide +kernel
theorem dX6_read_0 : decode cX6_read 0 = .ok (.aload_n 0, 1) := by decide +kernel
theorem dX6_read_1 : decode cX6_read 1 = .ok (.getfield 12, 3) := by decide +kernel
theorem dX6_read_12 : decode cX6_read 12 = .ok (.aload_n 0, 1) := by decide +kernel
theorem dX6_read_13 : decode cX6_read 13 = .ok (.iconst (-1), 1) := by decide +kernel
theorem dX6_read_14 : decode cX6_read 14 = .ok (.putfield 18, 3) := by decide +kernel
theorem dX6_read_17 : decode cX6_read 17 = .ok (.aload_n 0, 1) := by decide +kernel
theorem dX6_read_18 : decode cX6_read 18 = .ok (.iconst 0, 1) := by decide +kernel
theorem dX6_read_19 : decode cX6_read 19 = .ok (.putfield 28, 3) := by decide +kernel
theorem dX6_read_22 : decode cX6_read 22 = .ok (.aload_n 0, 1) := by decide +kernel
theorem dX6_read_23 : decode cX6_read 23 = .ok (.aload_n 1, 1) := by decide +kernel
theorem dX6_read_24 : decode cX6_read 24 = .ok (.invokevirtual 31, 3) := by decide +kernel
theorem dX6_read_27 : decode cX6_read 27 = .ok (.iconst 0, 1) := by decide +kernel
theorem dX6_read_28 : decode cX6_read 28 = .ok (.istore_n 2, 1) := by decide +kernel
theorem dX6_read_29 : decode cX6_read 29 = .ok (.iload_n 2, 1) := by decide +kernel
theorem dX6_read_30 : decode cX6_read 30 = .ok (.sipush 500, 3) := by decide +kernel
theorem dX6_read_33 : decode cX6_read 33 = .ok (.if_icmp .gt 28, 3) := by decide +kernel
theorem dX6_read_36 : decode cX6_read 36 = .ok (.aload_n 0, 1) := by decide +kernel
theorem dX6_read_37 : decode cX6_read 37 = .ok (.getfield 22, 3) := by decide +kernel
theorem dX6_read_4 : decode cX6_read 4 = .ok (.invokevirtual 25, 3) := by decide +kernel
theorem dX6_read_40 : decode cX6_read 40 = .ok (.ifCond .ne 21, 3) := by decide +kernel
theorem dX6_read_43 : decode cX6_read 43 = .ok (.aload_n 0, 1) := by decide +kernel
theorem dX6_read_44 : decode cX6_read 44 = .ok (.getfield 35, 3) := by decide +kernel
theorem dX6_read_47 : decode cX6_read 47 = .ok (.ifCond .eq 14, 3) := by decide +kernel
theorem dX6_read_61 : decode cX6_read 61 = .ok (.return_, 1) := by decide +kernel
theorem dX6_read_7 : decode cX6_read 7 = .ok (.aload_n 0, 1) := by decide +kernel
theorem dX6_read_8 : decode cX6_read 8 = .ok (.iconst 0, 1) := by decide +kernel
theorem dX6_read_9 : decode cX6_read 9 = .ok (.putfield 22, 3) := by decide +kernel
theorem dX7_make_0 : decode cX7_make 0 = .ok (.aload_n 0, 1) := by decide +kernel
theorem dX7_make_1 : decode cX7_make 1 = .ok (.iload_n 1, 1) := by decide +kernel
theorem dX7_make_12 : decode cX7_make 12 = .ok (.arraylength, 1) := by decide +kernel
theorem dX7_make_13 : decode cX7_make 13 = .ok (.invokestatic 26, 3) := by decide +kernel
theorem dX7_make_16 : decode cX7_make 16 = .ok (.invokestatic 32, 3) := by decide +kernel
theorem dX7_make_19 : decode cX7_make 19 = .ok (.putfield 23, 3) := by decide +kernel
theorem dX7_make_2 : decode cX7_make 2 = .ok (.putfield 19, 3) := by decide +kernel
theorem dX7_make_22 : decode cX7_make 22 = .ok (.aload_n 0, 1) := by decide +kernel
theorem dX7_make_23 : decode cX7_make 23 = .ok (.iconst 1, 1) := by decide +kernel
theorem dX7_make_24 : decode cX7_make 24 = .ok (.putfield 15, 3) := by decide +kernel
theorem dX7_make_27 : decode cX7_make 27 = .ok (.aload_n 0, 1) := by decide +kernel
theorem dX7_make_28 : decode cX7_make 28 = .ok (.getfield 9, 3) := by decide +kernel
theorem dX7_make_31 : decode cX7_make 31 = .ok (.lconst 0, 1) := by decide +kernel
theorem dX7_make_32 : decode cX7_make 32 = .ok (.invokestatic 35, 3) := by decide +kernel
theorem dX7_make_35 : decode cX7_make 35 = .ok (.return_, 1) := by decide +kernel
theorem dX7_make_5 : decode cX7_make 5 = .ok (.aload_n 0, 1) := by decide +kernel
theorem dX7_make_6 : decode cX7_make 6 = .ok (.iconst 0, 1) := by decide +kernel
theorem dX7_make_7 : decode cX7_make 7 = .ok (.iload_n 2, 1) := by decide +kernel
theorem dX7_make_8 : decode cX7_make 8 = .ok (.aload_n 0, 1) := by decide +kernel
theorem dX7_make_9 : decode cX7_make 9 = .ok (.getfield 9, 3) := by decide +kernel
theorem dX8_clear_0 : decode cX8_clear 0 = .ok (.aload_n 0, 1) := by decide +kernel
theorem dX8_clear_1 : decode cX8_clear 1 = .ok (.iconst 0, 1) := by decide +kernel
theorem dX8_clear_10 : decode cX8_clear 10 = .ok (.iconst 0, 1) := by decide +kernel
theorem dX8_clear_11 : decode cX8_clear 11 = .ok (.invokevirtual 57, 3) := by decide +kernel
theorem dX8_clear_14 : decode cX8_clear 14 = .ok (.aload_n 0, 1) := by decide +kernel
theorem dX8_clear_15 : decode cX8_clear 15 = .ok (.iconst 0, 1) := by decide +kernel
theorem dX8_clear_16 : decode cX8_clear 16 = .ok (.putfield 44, 3) := by decide +kernel
theorem dX8_clear_19 : decode cX8_clear 19 = .ok (.aload_n 0, 1) := by decide +kernel
theorem dX8_clear_2 : decode cX8_clear 2 = .ok (.iconst 0, 1) := by decide +kernel
theorem dX8_clear_20 : decode cX8_clear 20 = .ok (.iconst 0, 1) := by decide +kernel
theorem dX8_clear_21 : decode cX8_clear 21 = .ok (.putfield 47, 3) := by decide +kernel
theorem dX8_clear_24 : decode cX8_clear 24 = .ok (.aload_n 0, 1) := by decide +kernel
theorem dX8_clear_25 : decode cX8_clear 25 = .ok (.iconst 0, 1) := by decide +kernel
theorem dX8_clear_26 : decode cX8_clear 26 = .ok (.putfield 50, 3) := by decide +kernel
theorem dX8_clear_29 : decode cX8_clear 29 = .ok (.aload_n 0, 1) := by decide +kernel
theorem dX8_clear_3 : decode cX8_clear 3 = .ok (.iconst 0, 1) := by decide +kernel
theorem dX8_clear_30 : decode cX8_clear 30 = .ok (.getfield 21, 3) := by decide +kernel
theorem dX8_clear_33 : decode cX8_clear 33 = .ok (.invokevirtual 60, 3) := by decide +kernel
theorem dX8_clear_36 : decode cX8_clear 36 = .ok (.return_, 1) := by decide +kernel
theorem dX8_clear_4 : decode cX8_clear 4 = .ok (.invokevirtual 53, 3) := by decide +kernel
theorem dX8_clear_7 : decode cX8_clear 7 = .ok (.aload_n 0, 1) := by decide +kernel
theorem dX8_clear_8 : decode cX8_clear 8 = .ok (.iconst 0, 1) := by decide +kernel
theorem dX8_clear_9 : decode cX8_clear 9 = .ok (.iconst 0, 1) := by decide +kernel
theorem dX8_copyFrom_0 : decode cX8_copyFrom 0 = .ok (.aload_n 0, 1) := by decide +kernel
theorem dX8_copyFrom_1 : decode cX8_copyFrom 1 = .ok (.aload_n 1, 1) := by decide +kernel
theorem dX8_copyFrom_10 : decode cX8_copyFrom 10 = .ok (.getfield 41, 3) := by decide +kernel
theorem dX8_copyFrom_13 : decode cX8_copyFrom 13 = .ok (.invokevirtual 53, 3) := by decide +kernel
theorem dX8_copyFrom_16 : decode cX8_copyFrom 16 = .ok (.aload_n 0, 1) := by decide +kernel
theorem dX8_copyFrom_17 : decode cX8_copyFrom 17 = .ok (.aload_n 1, 1) := by decide +kernel
theorem dX8_copyFrom_18 : decode cX8_copyFrom 18 = .ok (.getfield 29, 3) := by decide +kernel
theorem dX8_copyFrom_2 : decode cX8_copyFrom 2 = .ok (.getfield 25, 3) := by decide +kernel
theorem dX8_copyFrom_21 : decode cX8_copyFrom 21 = .ok (.aload_n 1, 1) := by decide +kernel
theorem dX8_copyFrom_22 : decode cX8_copyFrom 22 = .ok (.getfield 32, 3) := by decide +kernel
theorem dX8_copyFrom_25 : decode cX8_copyFrom 25 = .ok (.aload_n 1, 1) := by decide +kernel
theorem dX8_copyFrom_26 : decode cX8_copyFrom 26 = .ok (.getfield 35, 3) := by decide +kernel
theorem dX8_copyFrom_29 : decode cX8_copyFrom 29 = .ok (.invokevirtual 57, 3) := by decide +kernel
theorem dX8_copyFrom_32 : decode cX8_copyFrom 32 = .ok (.aload_n 0, 1) := by decide +kernel
theorem dX8_copyFrom_33 : decode cX8_copyFrom 33 = .ok (.aload_n 1, 1) := by decide +kernel
theorem dX8_copyFrom_34 : decode cX8_copyFrom 34 = .ok (.getfield 44, 3) := by decide +kernel
theorem dX8_copyFrom_37 : decode cX8_copyFrom 37 = .ok (.putfield 44, 3) := by decide +kernel
theorem dX8_copyFrom_40 : decode cX8_copyFrom 40 = .ok (.aload_n 0, 1) := by decide +kernel
theorem dX8_copyFrom_41 : decode cX8_copyFrom 41 = .ok (.aload_n 1, 1) := by decide +kernel
theorem dX8_copyFrom_42 : decode cX8_copyFrom 42 = .ok (.getfield 47, 3) := by decide +kernel
theorem dX8_copyFrom_45 : decode cX8_copyFrom 45 = .ok (.putfield 47, 3) := by decide +kernel
theorem dX8_copyFrom_48 : decode cX8_copyFrom 48 = .ok (.aload_n 1, 1) := by decide +kernel
theorem dX8_copyFrom_49 : decode cX8_copyFrom 49 = .ok (.getfield 9, 3) := by decide +kernel
theorem dX8_copyFrom_5 : decode cX8_copyFrom 5 = .ok (.aload_n 1, 1) := by decide +kernel
theorem dX8_copyFrom_52 : decode cX8_copyFrom 52 = .ok (.iconst 0, 1) := by decide +kernel
theorem dX8_copyFrom_53 : decode cX8_copyFrom 53 = .ok (.aload_n 0, 1) := by decide +kernel
theorem dX8_copyFrom_54 : decode cX8_copyFrom 54 = .ok (.getfield 9, 3) := by decide +kernel
theorem dX8_copyFrom_57 : decode cX8_copyFrom 57 = .ok (.iconst 0, 1) := by decide +kernel
theorem dX8_copyFrom_58 : decode cX8_copyFrom 58 = .ok (.bipush 8, 2) := by decide +kernel
theorem dX8_copyFrom_6 : decode cX8_copyFrom 6 = .ok (.getfield 38, 3) := by decide +kernel
theorem dX8_copyFrom_60 : decode cX8_copyFrom 60 = .ok (.invokestatic 63, 3) := by decide +kernel
theorem dX8_copyFrom_63 : decode cX8_copyFrom 63 = .ok (.aload_n 0, 1) := by decide +kernel
theorem dX8_copyFrom_64 : decode cX8_copyFrom 64 = .ok (.aload_n 1, 1) := by decide +kernel
theorem dX8_copyFrom_65 : decode cX8_copyFrom 65 = .ok (.getfield 50, 3) := by decide +kernel
theorem dX8_copyFrom_68 : decode cX8_copyFrom 68 = .ok (.putfield 50, 3) := by decide +kernel
theorem dX8_copyFrom_71 : decode cX8_copyFrom 71 = .ok (.aload_n 1, 1) := by decide +kernel
theorem dX8_copyFrom_72 : decode cX8_copyFrom 72 = .ok (.getfield 15, 3) := by decide +kernel
theorem dX8_copyFrom_75 : decode cX8_copyFrom 75 = .ok (.iconst 0, 1) := by decide +kernel
theorem dX8_copyFrom_76 : decode cX8_copyFrom 76 = .ok (.aload_n 0, 1) := by decide +kernel
theorem dX8_copyFrom_77 : decode cX8_copyFrom 77 = .ok (.getfield 15, 3) := by decide +kernel
theorem dX8_copyFrom_80 : decode cX8_copyFrom 80 = .ok (.iconst 0, 1) := by decide +kernel
theorem dX8_copyFrom_81 : decode cX8_copyFrom 81 = .ok (.iconst 5, 1) := by decide +kernel
theorem dX8_copyFrom_82 : decode cX8_copyFrom 82 = .ok (.invokestatic 63, 3) := by decide +kernel
theorem dX8_copyFrom_85 : decode cX8_copyFrom 85 = .ok (.aload_n 0, 1) := by decide +kernel
theorem dX8_copyFrom_86 : decode cX8_copyFrom 86 = .ok (.getfield 21, 3) := by decide +kernel
theorem dX8_copyFrom_89 : decode cX8_copyFrom 89 = .ok (.aload_n 1, 1) := by decide +kernel
theorem dX8_copyFrom_9 : decode cX8_copyFrom 9 = .ok (.aload_n 1, 1) := by decide +kernel
theorem dX8_copyFrom_90 : decode cX8_copyFrom 90 = .ok (.getfield 21, 3) := by decide +kernel
theorem dX8_copyFrom_93 : decode cX8_copyFrom 93 = .ok (.invokevirtual 69, 3) := by decide +kernel
theorem dX8_copyFrom_96 : decode cX8_copyFrom 96 = .ok (.return_, 1) := by decide +kernel
theorem dX8_setHead_0 : decode cX8_setHead 0 = .ok (.aload_n 0, 1) := by decide +kernel
theorem dX8_setHead_1 : decode cX8_setHead 1 = .ok (.iload_n 1, 1) := by decide +kernel
theorem dX8_setHead_10 : decode cX8_setHead 10 = .ok (.aload_n 0, 1) := by decide +kernel
theorem dX8_setHead_11 : decode cX8_setHead 11 = .ok (.iload_n 3, 1) := by decide +kernel
theorem dX8_setHead_12 : decode cX8_setHead 12 = .ok (.putfield 41, 3) := by decide +kernel
theorem dX8_setHead_15 : decode cX8_setHead 15 = .ok (.return_, 1) := by decide +kernel
theorem dX8_setHead_2 : decode cX8_setHead 2 = .ok (.putfield 25, 3) := by decide +kernel
theorem dX8_setHead_5 : decode cX8_setHead 5 = .ok (.aload_n 0, 1) := by decide +kernel
theorem dX8_setHead_6 : decode cX8_setHead 6 = .ok (.iload_n 2, 1) := by decide +kernel
theorem dX8_setHead_7 : decode cX8_setHead 7 = .ok (.putfield 38, 3) := by decide +kernel
theorem dX8_setLaw_0 : decode cX8_setLaw 0 = .ok (.aload_n 0, 1) := by decide +kernel
theorem dX8_setLaw_1 : decode cX8_setLaw 1 = .ok (.iload_n 1, 1) := by decide +kernel
theorem dX8_setLaw_10 : decode cX8_setLaw 10 = .ok (.aload_n 0, 1) := by decide +kernel
theorem dX8_setLaw_11 : decode cX8_setLaw 11 = .ok (.iload_n 3, 1) := by decide +kernel
theorem dX8_setLaw_12 : decode cX8_setLaw 12 = .ok (.putfield 35, 3) := by decide +kernel
theorem dX8_setLaw_15 : decode cX8_setLaw 15 = .ok (.return_, 1) := by decide +kernel
theorem dX8_setLaw_2 : decode cX8_setLaw 2 = .ok (.putfield 29, 3) := by decide +kernel
theorem dX8_setLaw_5 : decode cX8_setLaw 5 = .ok (.aload_n 0, 1) := by decide +kernel
theorem dX8_setLaw_6 : decode cX8_setLaw 6 = .ok (.iload_n 2, 1) := by decide +kernel
theorem dX8_setLaw_7 : decode cX8_setLaw 7 = .ok (.putfield 32, 3) := by decide +kernel
theorem dX9_add_0 : decode cX9_add 0 = .ok (.bipush 24, 2) := by decide +kernel
theorem dX9_add_11 : decode cX9_add 11 = .ok (.aload_n 0, 1) := by decide +kernel
theorem dX9_add_12 : decode cX9_add 12 = .ok (.getfield 9, 3) := by decide +kernel
theorem dX9_add_15 : decode cX9_add 15 = .ok (.arraylength, 1) := by decide +kernel
theorem dX9_add_16 : decode cX9_add 16 = .ok (.if_icmp .ge 26, 3) := by decide +kernel
theorem dX9_add_19 : decode cX9_add 19 = .ok (.aload_n 0, 1) := by decide +kernel
theorem dX9_add_2 : decode cX9_add 2 = .ok (.istore_n 2, 1) := by decide +kernel
theorem dX9_add_20 : decode cX9_add 20 = .ok (.getfield 9, 3) := by decide +kernel
theorem dX9_add_23 : decode cX9_add 23 = .ok (.aload_n 0, 1) := by decide +kernel
theorem dX9_add_24 : decode cX9_add 24 = .ok (.getfield 15, 3) := by decide +kernel
theorem dX9_add_27 : decode cX9_add 27 = .ok (.iload_n 1, 1) := by decide +kernel
theorem dX9_add_28 : decode cX9_add 28 = .ok (.iload_n 2, 1) := by decide +kernel
theorem dX9_add_29 : decode cX9_add 29 = .ok (.ishr, 1) := by decide +kernel
theorem dX9_add_3 : decode cX9_add 3 = .ok (.iload_n 2, 1) := by decide +kernel
theorem dX9_add_30 : decode cX9_add 30 = .ok (.i2b, 1) := by decide +kernel
theorem dX9_add_31 : decode cX9_add 31 = .ok (.bastore, 1) := by decide +kernel
theorem dX9_add_32 : decode cX9_add 32 = .ok (.aload_n 0, 1) := by decide +kernel
theorem dX9_add_33 : decode cX9_add 33 = .ok (.dup, 1) := by decide +kernel
theorem dX9_add_34 : decode cX9_add 34 = .ok (.getfield 15, 3) := by decide +kernel
theorem dX9_add_37 : decode cX9_add 37 = .ok (.iconst 1, 1) := by decide +kernel
theorem dX9_add_38 : decode cX9_add 38 = .ok (.iadd, 1) := by decide +kernel
theorem dX9_add_39 : decode cX9_add 39 = .ok (.putfield 15, 3) := by decide +kernel
theorem dX9_add_4 : decode cX9_add 4 = .ok (.ifCond .lt 44, 3) := by decide +kernel
theorem dX9_add_42 : decode cX9_add 42 = .ok (.iinc 2 (-8), 3) := by decide +kernel
theorem dX9_add_45 : decode cX9_add 45 = .ok (.goto (-42), 3) := by decide +kernel
theorem dX9_add_48 : decode cX9_add 48 = .ok (.return_, 1) := by decide +kernel
theorem dX9_add_7 : decode cX9_add 7 = .ok (.aload_n 0, 1) := by decide +kernel
theorem dX9_add_8 : decode cX9_add 8 = .ok (.getfield 15, 3) := by decide +kernel
theorem dX9_byteAt_0 : decode cX9_byteAt 0 = .ok (.iload_n 1, 1) := by decide +kernel
theorem dX9_byteAt_1 : decode cX9_byteAt 1 = .ok (.ifCond .lt 24, 3) := by decide +kernel
theorem dX9_byteAt_25 : decode cX9_byteAt 25 = .ok (.iconst (-1), 1) := by decide +kernel
theorem dX9_byteAt_26 : decode cX9_byteAt 26 = .ok (.ireturn, 1) := by decide +kernel
theorem dX9_byteAt_4 : decode cX9_byteAt 4 = .ok (.iload_n 1, 1) := by decide +kernel
theorem dX9_byteAt_5 : decode cX9_byteAt 5 = .ok (.aload_n 0, 1) := by decide +kernel
theorem dX9_byteAt_6 : decode cX9_byteAt 6 = .ok (.getfield 15, 3) := by decide +kernel
theorem dX9_byteAt_9 : decode cX9_byteAt 9 = .ok (.if_icmp .ge 16, 3) := by decide +kernel
theorem dX9_cut_0 : decode cX9_cut 0 = .ok (.iload_n 1, 1) := by decide +kernel
theorem dX9_cut_1 : decode cX9_cut 1 = .ok (.ifCond .lt 16, 3) := by decide +kernel
theorem dX9_cut_12 : decode cX9_cut 12 = .ok (.aload_n 0, 1) := by decide +kernel
theorem dX9_cut_13 : decode cX9_cut 13 = .ok (.iload_n 1, 1) := by decide +kernel
theorem dX9_cut_14 : decode cX9_cut 14 = .ok (.putfield 15, 3) := by decide +kernel
theorem dX9_cut_17 : decode cX9_cut 17 = .ok (.return_, 1) := by decide +kernel
theorem dX9_cut_4 : decode cX9_cut 4 = .ok (.iload_n 1, 1) := by decide +kernel
theorem dX9_cut_5 : decode cX9_cut 5 = .ok (.aload_n 0, 1) := by decide +kernel
theorem dX9_cut_6 : decode cX9_cut 6 = .ok (.getfield 15, 3) := by decide +kernel
theorem dX9_cut_9 : decode cX9_cut 9 = .ok (.if_icmp .gt 8, 3) := by decide +kernel
set_option maxHeartbeats 4000000 in
set_option maxRecDepth 100000 in
theorem k_reward (l : Launch) (D : va_G) (cB cI cJ cZ cS cT : ClassId) (o : Int32) (t : Int32)  : Met l yX11_reward (Cond.code yX11_reward cX11_reward 3 (some .int) :: wsL_law) ({ frames := 0, cells := 0, slots := 0, locals := 0 }) (roP D (tyL cB cI cJ cZ cS cT) [] [.int o, .int t]) (vp_Si (fun r : Int32 => r = rw_ o t)) 0 0 (fun _ => False) := by
  refine Met.ofW (cc := cX11_reward) (maxL := 3) (ret := (some .int)) (by decide) rfl ?_
  intro p e s m args below meth c s₁ B hml hv
  obtain ⟨rfl, hP, hK⟩ := hv
  have hx := B.exec
  have hb := B.bytes
  have hr := B.returns
  have hts : ∀ w ∈ wsL_law, w.before ([.int o, .int t] : List Value).toArray s = true := fun w h => atoms_spec (ws := Cond.code yX11_reward cX11_reward 3 (some .int) :: wsL_law) B.pre w (List.mem_cons_of_mem _ h)
  have hown : s.vm.findClass RX11 = some m.cls := findClass_of_methodNamed B.named
  have hlocks := B.notSynchronized
  have hl := lv_entry ([.int o, .int t]) (n := 3) (Nat.le_of_ble_eq_true rfl)
  rw [lg_entry_eq]
  generalize (lg_sl ([.int o, .int t]) ++ List.replicate (3 - (lg_sl ([.int o, .int t])).length) Slot.unset).toArray = ls at hl ⊢
  have hl : lv_has ls 3 [(0, .int o), (1, .int t)] := hl
  have hP : va_P D vwCl [] s.heap := hP
  refine lv_iload_n hx hb dX11_reward_0 rfl (lv_at hl 0 rfl) ?_
  refine lv_iload_n hx hb dX11_reward_1 rfl (lv_at hl 1 rfl) ?_
  refine lv_icmp_le (tgt := 10) hx hb dX11_reward_2 (by decide) (fun c_1 => ?_) (fun c_1 => ?_)
  · have c_1 : o.toInt ≤ t.toInt := ci_le_t c_1
    refine lv_iload_n hx hb dX11_reward_10 rfl (lv_at hl 0 rfl) ?_
    refine lv_iload_n hx hb dX11_reward_11 rfl (lv_at hl 1 rfl) ?_
    refine lv_icmp_ne (tgt := 19) hx hb dX11_reward_12 (by decide) (fun c_2 => ?_) (fun c_2 => ?_)
    · have c_2 : ¬ o.toInt = t.toInt := ci_ne_t c_2
      refine lv_iconst (v := 0) hx hb dX11_reward_19 (by decide) ?_
      refine lv_istore_n (lv' := [(2, .int 0), (0, .int o), (1, .int t)]) hx hb dX11_reward_20 rfl hl (by decide) rfl (fun ls hl => ?_)
      refine lv_iload_n hx hb dX11_reward_21 rfl (lv_at hl 0 rfl) ?_
      refine lv_iload_n hx hb dX11_reward_22 rfl (lv_at hl 1 rfl) ?_
      refine lv_iload_n hx hb dX11_reward_23 rfl (lv_at hl 1 rfl) ?_
      obtain ⟨t_3, et_3⟩ : ∃ v9 : Int32, o * o = v9 := ⟨_, rfl⟩
      refine z_imul (v := t_3) hx hb dX11_reward_24 et_3 ?_
      obtain ⟨t_4, et_4⟩ : ∃ v9 : Int32, 0 - t_3 = v9 := ⟨_, rfl⟩
      refine z_isub (v := t_4) hx hb dX11_reward_25 et_4 ?_
      exact W.iret (v := t_4) hx hb hr (fun t ht hW => ⟨_, rfl, (by subst_vars; unfold rw_; simp only [Int32.lt_iff_toInt_lt, ← Int32.toInt_inj]; repeat' split <;> first | rfl | (exfalso; omega)), ht⟩) (fun _ h => by cases h) dX11_reward_26
    · have c_2 : o.toInt = t.toInt := ci_ne_f c_2
      refine lv_iconst (v := 4) hx hb dX11_reward_15 (by decide) ?_
      refine lv_goto (tgt := 20) hx hb dX11_reward_16 (by decide) ?_
      refine lv_istore_n (lv' := [(2, .int 4), (0, .int o), (1, .int t)]) hx hb dX11_reward_20 rfl hl (by decide) rfl (fun ls hl => ?_)
      refine lv_iload_n hx hb dX11_reward_21 rfl (lv_at hl 0 rfl) ?_
      refine lv_iload_n hx hb dX11_reward_22 rfl (lv_at hl 1 rfl) ?_
      refine lv_iload_n hx hb dX11_reward_23 rfl (lv_at hl 1 rfl) ?_
      obtain ⟨t_5, et_5⟩ : ∃ v9 : Int32, o * o = v9 := ⟨_, rfl⟩
      refine z_imul (v := t_5) hx hb dX11_reward_24 et_5 ?_
      obtain ⟨t_6, et_6⟩ : ∃ v9 : Int32, 4 - t_5 = v9 := ⟨_, rfl⟩
      refine z_isub (v := t_6) hx hb dX11_reward_25 et_6 ?_
      exact W.iret (v := t_6) hx hb hr (fun t ht hW => ⟨_, rfl, (by subst_vars; unfold rw_; simp only [Int32.lt_iff_toInt_lt, ← Int32.toInt_inj]; repeat' split <;> first | rfl | (exfalso; omega)), ht⟩) (fun _ h => by cases h) dX11_reward_26
  · have c_1 : t.toInt < o.toInt := ci_le_f c_1
    refine lv_bipush (v := 10) hx hb dX11_reward_5 (by decide) ?_
    refine lv_goto (tgt := 20) hx hb dX11_reward_7 (by decide) ?_
    refine lv_istore_n (lv' := [(2, .int 10), (0, .int o), (1, .int t)]) hx hb dX11_reward_20 rfl hl (by decide) rfl (fun ls hl => ?_)
    refine lv_iload_n hx hb dX11_reward_21 rfl (lv_at hl 0 rfl) ?_
    refine lv_iload_n hx hb dX11_reward_22 rfl (lv_at hl 1 rfl) ?_
    refine lv_iload_n hx hb dX11_reward_23 rfl (lv_at hl 1 rfl) ?_
    obtain ⟨t_7, et_7⟩ : ∃ v9 : Int32, o * o = v9 := ⟨_, rfl⟩
    refine z_imul (v := t_7) hx hb dX11_reward_24 et_7 ?_
    obtain ⟨t_8, et_8⟩ : ∃ v9 : Int32, 10 - t_7 = v9 := ⟨_, rfl⟩
    refine z_isub (v := t_8) hx hb dX11_reward_25 et_8 ?_
    exact W.iret (v := t_8) hx hb hr (fun t ht hW => ⟨_, rfl, (by subst_vars; unfold rw_; simp only [Int32.lt_iff_toInt_lt, ← Int32.toInt_inj]; repeat' split <;> first | rfl | (exfalso; omega)), ht⟩) (fun _ h => by cases h) dX11_reward_26

set_option maxHeartbeats 4000000 in
set_option maxRecDepth 100000 in
theorem k_noneBetter (l : Launch) (D : va_G) (cB cI cJ cZ cS cT : ClassId) (o : Int32) (t : Int32)  : Met l yX11_noneBetter (Cond.code yX11_noneBetter cX11_noneBetter 3 (some .boolean) :: wsL_law) ({ frames := 1, cells := 0, slots := 0, locals := 22 }) (roP D (tyL cB cI cJ cZ cS cT) [] [.int o, .int t]) (vp_Si (fun r : Int32 => r = nb_ o t)) 0 0 (fun _ => False) := by
  refine Met.ofW (cc := cX11_noneBetter) (maxL := 3) (ret := (some .boolean)) (by decide) rfl ?_
  intro p e s m args below meth c s₁ B hml hv
  obtain ⟨rfl, hP, hK⟩ := hv
  have hx := B.exec
  have hb := B.bytes
  have hr := B.returns
  have hts : ∀ w ∈ wsL_law, w.before ([.int o, .int t] : List Value).toArray s = true := fun w h => atoms_spec (ws := Cond.code yX11_noneBetter cX11_noneBetter 3 (some .boolean) :: wsL_law) B.pre w (List.mem_cons_of_mem _ h)
  have hown : s.vm.findClass RX11 = some m.cls := findClass_of_methodNamed B.named
  have hlocks := B.notSynchronized
  have hl := lv_entry ([.int o, .int t]) (n := 3) (Nat.le_of_ble_eq_true rfl)
  rw [lg_entry_eq]
  generalize (lg_sl ([.int o, .int t]) ++ List.replicate (3 - (lg_sl ([.int o, .int t])).length) Slot.unset).toArray = ls at hl ⊢
  have hl : lv_has ls 3 [(0, .int o), (1, .int t)] := hl
  have hP : va_P D vwCl [] s.heap := hP
  refine lv_iconst (v := 0) hx hb dX11_noneBetter_0 (by decide) ?_
  refine lv_istore_n (lv' := [(2, .int 0), (0, .int o), (1, .int t)]) hx hb dX11_noneBetter_1 rfl hl (by decide) rfl (fun ls hl => ?_)
  refine lv_iload_n hx hb dX11_noneBetter_2 rfl (lv_at hl 0 rfl) ?_
  refine lv_iconst (v := 3) hx hb dX11_noneBetter_3 (by decide) ?_
  refine lv_icmp_gt (tgt := 28) hx hb dX11_noneBetter_4 (by decide) (fun c0 => absurd c0 (by decide)) (fun _ => ?_)
  refine lv_iload_n hx hb dX11_noneBetter_7 rfl (lv_at hl 0 rfl) ?_
  refine lv_iload_n hx hb dX11_noneBetter_8 rfl (lv_at hl 2 rfl) ?_
  refine rosi (As := [.int 0, .int t]) (rest := []) ⟨hx, hb, hml, hown, hts⟩ (k_reward l D cB cI cJ cZ cS cT 0 t ) (csB (n := 2) (inr62 _ (List.mem_of_getElem? (i := 16) rfl)) (inr62 _ (List.mem_of_getElem? (i := 17) rfl)) (inr1 _ (List.mem_of_getElem? (i := 2) rfl)) (inr62 _ (List.mem_of_getElem? (i := 18) rfl)) (by decide +kernel) hts rfl rfl ⟨Nat.le_of_ble_eq_true rfl, Nat.le_of_ble_eq_true rfl⟩) (hP.sub [] rfl) hK rfl hl.1 rfl (Nat.le_of_ble_eq_true rfl) ⟨Nat.le_of_ble_eq_true rfl, Nat.le_of_ble_eq_true rfl⟩ dX11_noneBetter_9 (fun r_1 h_2 => ?_)
  refine lv_iload_n hx hb dX11_noneBetter_12 rfl (lv_at hl 1 rfl) ?_
  refine lv_iload_n hx hb dX11_noneBetter_13 rfl (lv_at hl 2 rfl) ?_
  refine rosi (As := [.int o, .int t]) (rest := [.int r_1]) ⟨hx, hb, hml, hown, hts⟩ (k_reward l D cB cI cJ cZ cS cT o t ) (csB (n := 2) (inr62 _ (List.mem_of_getElem? (i := 16) rfl)) (inr62 _ (List.mem_of_getElem? (i := 17) rfl)) (inr1 _ (List.mem_of_getElem? (i := 2) rfl)) (inr62 _ (List.mem_of_getElem? (i := 18) rfl)) (by decide +kernel) hts rfl rfl ⟨Nat.le_of_ble_eq_true rfl, Nat.le_of_ble_eq_true rfl⟩) (hP.sub [] rfl) hK rfl hl.1 rfl (Nat.le_of_ble_eq_true rfl) ⟨Nat.le_of_ble_eq_true rfl, Nat.le_of_ble_eq_true rfl⟩ dX11_noneBetter_14 (fun r_3 h_4 => ?_)
  refine lv_icmp_le (tgt := 22) hx hb dX11_noneBetter_17 (by decide) (fun c_5 => ?_) (fun c_5 => ?_)
  · have c_5 : r_1.toInt ≤ r_3.toInt := ci_le_t c_5
    refine lv_iinc (v := 1) (lv' := [(2, .int 1), (0, .int o), (1, .int t)]) hx hb dX11_noneBetter_22 hl (k := 0) rfl (by decide) (by decide) rfl (fun ls hl => ?_)
    refine lv_goto (tgt := 2) hx hb dX11_noneBetter_25 (by decide) ?_
    refine lv_iload_n hx hb dX11_noneBetter_2 rfl (lv_at hl 0 rfl) ?_
    refine lv_iconst (v := 3) hx hb dX11_noneBetter_3 (by decide) ?_
    refine lv_icmp_gt (tgt := 28) hx hb dX11_noneBetter_4 (by decide) (fun c0 => absurd c0 (by decide)) (fun _ => ?_)
    refine lv_iload_n hx hb dX11_noneBetter_7 rfl (lv_at hl 0 rfl) ?_
    refine lv_iload_n hx hb dX11_noneBetter_8 rfl (lv_at hl 2 rfl) ?_
    refine rosi (As := [.int 1, .int t]) (rest := []) ⟨hx, hb, hml, hown, hts⟩ (k_reward l D cB cI cJ cZ cS cT 1 t ) (csB (n := 2) (inr62 _ (List.mem_of_getElem? (i := 16) rfl)) (inr62 _ (List.mem_of_getElem? (i := 17) rfl)) (inr1 _ (List.mem_of_getElem? (i := 2) rfl)) (inr62 _ (List.mem_of_getElem? (i := 18) rfl)) (by decide +kernel) hts rfl rfl ⟨Nat.le_of_ble_eq_true rfl, Nat.le_of_ble_eq_true rfl⟩) (hP.sub [] rfl) hK rfl hl.1 rfl (Nat.le_of_ble_eq_true rfl) ⟨Nat.le_of_ble_eq_true rfl, Nat.le_of_ble_eq_true rfl⟩ dX11_noneBetter_9 (fun r_6 h_7 => ?_)
    refine lv_iload_n hx hb dX11_noneBetter_12 rfl (lv_at hl 1 rfl) ?_
    refine lv_iload_n hx hb dX11_noneBetter_13 rfl (lv_at hl 2 rfl) ?_
    refine rosi (As := [.int o, .int t]) (rest := [.int r_6]) ⟨hx, hb, hml, hown, hts⟩ (k_reward l D cB cI cJ cZ cS cT o t ) (csB (n := 2) (inr62 _ (List.mem_of_getElem? (i := 16) rfl)) (inr62 _ (List.mem_of_getElem? (i := 17) rfl)) (inr1 _ (List.mem_of_getElem? (i := 2) rfl)) (inr62 _ (List.mem_of_getElem? (i := 18) rfl)) (by decide +kernel) hts rfl rfl ⟨Nat.le_of_ble_eq_true rfl, Nat.le_of_ble_eq_true rfl⟩) (hP.sub [] rfl) hK rfl hl.1 rfl (Nat.le_of_ble_eq_true rfl) ⟨Nat.le_of_ble_eq_true rfl, Nat.le_of_ble_eq_true rfl⟩ dX11_noneBetter_14 (fun r_8 h_9 => ?_)
    refine lv_icmp_le (tgt := 22) hx hb dX11_noneBetter_17 (by decide) (fun c_10 => ?_) (fun c_10 => ?_)
    · have c_10 : r_6.toInt ≤ r_8.toInt := ci_le_t c_10
      refine lv_iinc (v := 2) (lv' := [(2, .int 2), (0, .int o), (1, .int t)]) hx hb dX11_noneBetter_22 hl (k := 0) rfl (by decide) (by decide) rfl (fun ls hl => ?_)
      refine lv_goto (tgt := 2) hx hb dX11_noneBetter_25 (by decide) ?_
      refine lv_iload_n hx hb dX11_noneBetter_2 rfl (lv_at hl 0 rfl) ?_
      refine lv_iconst (v := 3) hx hb dX11_noneBetter_3 (by decide) ?_
      refine lv_icmp_gt (tgt := 28) hx hb dX11_noneBetter_4 (by decide) (fun c0 => absurd c0 (by decide)) (fun _ => ?_)
      refine lv_iload_n hx hb dX11_noneBetter_7 rfl (lv_at hl 0 rfl) ?_
      refine lv_iload_n hx hb dX11_noneBetter_8 rfl (lv_at hl 2 rfl) ?_
      refine rosi (As := [.int 2, .int t]) (rest := []) ⟨hx, hb, hml, hown, hts⟩ (k_reward l D cB cI cJ cZ cS cT 2 t ) (csB (n := 2) (inr62 _ (List.mem_of_getElem? (i := 16) rfl)) (inr62 _ (List.mem_of_getElem? (i := 17) rfl)) (inr1 _ (List.mem_of_getElem? (i := 2) rfl)) (inr62 _ (List.mem_of_getElem? (i := 18) rfl)) (by decide +kernel) hts rfl rfl ⟨Nat.le_of_ble_eq_true rfl, Nat.le_of_ble_eq_true rfl⟩) (hP.sub [] rfl) hK rfl hl.1 rfl (Nat.le_of_ble_eq_true rfl) ⟨Nat.le_of_ble_eq_true rfl, Nat.le_of_ble_eq_true rfl⟩ dX11_noneBetter_9 (fun r_11 h_12 => ?_)
      refine lv_iload_n hx hb dX11_noneBetter_12 rfl (lv_at hl 1 rfl) ?_
      refine lv_iload_n hx hb dX11_noneBetter_13 rfl (lv_at hl 2 rfl) ?_
      refine rosi (As := [.int o, .int t]) (rest := [.int r_11]) ⟨hx, hb, hml, hown, hts⟩ (k_reward l D cB cI cJ cZ cS cT o t ) (csB (n := 2) (inr62 _ (List.mem_of_getElem? (i := 16) rfl)) (inr62 _ (List.mem_of_getElem? (i := 17) rfl)) (inr1 _ (List.mem_of_getElem? (i := 2) rfl)) (inr62 _ (List.mem_of_getElem? (i := 18) rfl)) (by decide +kernel) hts rfl rfl ⟨Nat.le_of_ble_eq_true rfl, Nat.le_of_ble_eq_true rfl⟩) (hP.sub [] rfl) hK rfl hl.1 rfl (Nat.le_of_ble_eq_true rfl) ⟨Nat.le_of_ble_eq_true rfl, Nat.le_of_ble_eq_true rfl⟩ dX11_noneBetter_14 (fun r_13 h_14 => ?_)
      refine lv_icmp_le (tgt := 22) hx hb dX11_noneBetter_17 (by decide) (fun c_15 => ?_) (fun c_15 => ?_)
      · have c_15 : r_11.toInt ≤ r_13.toInt := ci_le_t c_15
        refine lv_iinc (v := 3) (lv' := [(2, .int 3), (0, .int o), (1, .int t)]) hx hb dX11_noneBetter_22 hl (k := 0) rfl (by decide) (by decide) rfl (fun ls hl => ?_)
        refine lv_goto (tgt := 2) hx hb dX11_noneBetter_25 (by decide) ?_
        refine lv_iload_n hx hb dX11_noneBetter_2 rfl (lv_at hl 0 rfl) ?_
        refine lv_iconst (v := 3) hx hb dX11_noneBetter_3 (by decide) ?_
        refine lv_icmp_gt (tgt := 28) hx hb dX11_noneBetter_4 (by decide) (fun c0 => absurd c0 (by decide)) (fun _ => ?_)
        refine lv_iload_n hx hb dX11_noneBetter_7 rfl (lv_at hl 0 rfl) ?_
        refine lv_iload_n hx hb dX11_noneBetter_8 rfl (lv_at hl 2 rfl) ?_
        refine rosi (As := [.int 3, .int t]) (rest := []) ⟨hx, hb, hml, hown, hts⟩ (k_reward l D cB cI cJ cZ cS cT 3 t ) (csB (n := 2) (inr62 _ (List.mem_of_getElem? (i := 16) rfl)) (inr62 _ (List.mem_of_getElem? (i := 17) rfl)) (inr1 _ (List.mem_of_getElem? (i := 2) rfl)) (inr62 _ (List.mem_of_getElem? (i := 18) rfl)) (by decide +kernel) hts rfl rfl ⟨Nat.le_of_ble_eq_true rfl, Nat.le_of_ble_eq_true rfl⟩) (hP.sub [] rfl) hK rfl hl.1 rfl (Nat.le_of_ble_eq_true rfl) ⟨Nat.le_of_ble_eq_true rfl, Nat.le_of_ble_eq_true rfl⟩ dX11_noneBetter_9 (fun r_16 h_17 => ?_)
        refine lv_iload_n hx hb dX11_noneBetter_12 rfl (lv_at hl 1 rfl) ?_
        refine lv_iload_n hx hb dX11_noneBetter_13 rfl (lv_at hl 2 rfl) ?_
        refine rosi (As := [.int o, .int t]) (rest := [.int r_16]) ⟨hx, hb, hml, hown, hts⟩ (k_reward l D cB cI cJ cZ cS cT o t ) (csB (n := 2) (inr62 _ (List.mem_of_getElem? (i := 16) rfl)) (inr62 _ (List.mem_of_getElem? (i := 17) rfl)) (inr1 _ (List.mem_of_getElem? (i := 2) rfl)) (inr62 _ (List.mem_of_getElem? (i := 18) rfl)) (by decide +kernel) hts rfl rfl ⟨Nat.le_of_ble_eq_true rfl, Nat.le_of_ble_eq_true rfl⟩) (hP.sub [] rfl) hK rfl hl.1 rfl (Nat.le_of_ble_eq_true rfl) ⟨Nat.le_of_ble_eq_true rfl, Nat.le_of_ble_eq_true rfl⟩ dX11_noneBetter_14 (fun r_18 h_19 => ?_)
        refine lv_icmp_le (tgt := 22) hx hb dX11_noneBetter_17 (by decide) (fun c_20 => ?_) (fun c_20 => ?_)
        · have c_20 : r_16.toInt ≤ r_18.toInt := ci_le_t c_20
          refine lv_iinc (v := 4) (lv' := [(2, .int 4), (0, .int o), (1, .int t)]) hx hb dX11_noneBetter_22 hl (k := 0) rfl (by decide) (by decide) rfl (fun ls hl => ?_)
          refine lv_goto (tgt := 2) hx hb dX11_noneBetter_25 (by decide) ?_
          refine lv_iload_n hx hb dX11_noneBetter_2 rfl (lv_at hl 0 rfl) ?_
          refine lv_iconst (v := 3) hx hb dX11_noneBetter_3 (by decide) ?_
          refine lv_icmp_gt (tgt := 28) hx hb dX11_noneBetter_4 (by decide) (fun _ => ?_) (fun c0 => absurd c0 (by decide))
          refine lv_iconst (v := 1) hx hb dX11_noneBetter_28 (by decide) ?_
          exact W.zret (v := 1) hx hb hr rfl (fun t ht hW => ⟨_, rfl, (by subst_vars; unfold nb_; simp only [Int32.lt_iff_toInt_lt]; split <;> first | rfl | (exfalso; omega)), ht⟩) (fun _ h => by cases h) dX11_noneBetter_29
        · have c_20 : r_18.toInt < r_16.toInt := ci_le_f c_20
          refine lv_iconst (v := 0) hx hb dX11_noneBetter_20 (by decide) ?_
          exact W.zret (v := 0) hx hb hr rfl (fun t ht hW => ⟨_, rfl, (by subst_vars; unfold nb_; simp only [Int32.lt_iff_toInt_lt]; split <;> first | rfl | (exfalso; omega)), ht⟩) (fun _ h => by cases h) dX11_noneBetter_21
      · have c_15 : r_13.toInt < r_11.toInt := ci_le_f c_15
        refine lv_iconst (v := 0) hx hb dX11_noneBetter_20 (by decide) ?_
        exact W.zret (v := 0) hx hb hr rfl (fun t ht hW => ⟨_, rfl, (by subst_vars; unfold nb_; simp only [Int32.lt_iff_toInt_lt]; split <;> first | rfl | (exfalso; omega)), ht⟩) (fun _ h => by cases h) dX11_noneBetter_21
    · have c_10 : r_8.toInt < r_6.toInt := ci_le_f c_10
      refine lv_iconst (v := 0) hx hb dX11_noneBetter_20 (by decide) ?_
      exact W.zret (v := 0) hx hb hr rfl (fun t ht hW => ⟨_, rfl, (by subst_vars; unfold nb_; simp only [Int32.lt_iff_toInt_lt]; split <;> first | rfl | (exfalso; omega)), ht⟩) (fun _ h => by cases h) dX11_noneBetter_21
  · have c_5 : r_3.toInt < r_1.toInt := ci_le_f c_5
    refine lv_iconst (v := 0) hx hb dX11_noneBetter_20 (by decide) ?_
    exact W.zret (v := 0) hx hb hr rfl (fun t ht hW => ⟨_, rfl, (by subst_vars; unfold nb_; simp only [Int32.lt_iff_toInt_lt]; split <;> first | rfl | (exfalso; omega)), ht⟩) (fun _ h => by cases h) dX11_noneBetter_21

set_option maxHeartbeats 4000000 in
set_option maxRecDepth 100000 in
theorem kx_rests (l : Launch) (D : va_G) (cB cI cJ cZ cS cT : ClassId) (x0 : Nat) (r_tape : Nat) (r_reader : Nat) (r_now : Nat) (r_trial : Nat) (r_images : Nat) (r_kept : Nat) (r_slots : Nat) (r_night : Nat) (r_other : Nat) (r_circle : Nat) (r_words : Nat) (r_law : Nat) (r_place : Nat) (r_drawn : Nat)  : Met l yX11_rests (Cond.code yX11_rests cX11_rests 4 (some .int) :: wsL_law) ({ frames := 2, cells := 0, slots := 0, locals := 44 }) (roP D (tyL cB cI cJ cZ cS cT) [(x0, .inr (11, [.ref r_tape, .ref r_reader, .ref r_now, .ref r_trial, .ref r_images, .ref r_kept, .ref r_slots, .ref r_night, .ref r_other, .ref r_circle, .ref r_words, .ref r_law, .ref r_place, .ref r_drawn]))] [.ref x0]) (vp_Si (fun r : Int32 => r = 0)) 0 0 (fun _ => False) := by
  refine Met.ofW (cc := cX11_rests) (maxL := 4) (ret := (some .int)) (by decide) rfl ?_
  intro p e s m args below meth c s₁ B hml hv
  obtain ⟨rfl, hP, hK⟩ := hv
  have hx := B.exec
  have hb := B.bytes
  have hr := B.returns
  have hts : ∀ w ∈ wsL_law, w.before ([.ref x0] : List Value).toArray s = true := fun w h => atoms_spec (ws := Cond.code yX11_rests cX11_rests 4 (some .int) :: wsL_law) B.pre w (List.mem_cons_of_mem _ h)
  have hown : s.vm.findClass RX11 = some m.cls := findClass_of_methodNamed B.named
  have hlocks := B.notSynchronized
  have hl := lv_entry ([.ref x0]) (n := 4) (Nat.le_of_ble_eq_true rfl)
  rw [lg_entry_eq]
  generalize (lg_sl ([.ref x0]) ++ List.replicate (4 - (lg_sl ([.ref x0])).length) Slot.unset).toArray = ls at hl ⊢
  have hl : lv_has ls 4 [(0, .ref x0)] := hl
  have hP : va_P D vwCl [(x0, .inr (11, [.ref r_tape, .ref r_reader, .ref r_now, .ref r_trial, .ref r_images, .ref r_kept, .ref r_slots, .ref r_night, .ref r_other, .ref r_circle, .ref r_words, .ref r_law, .ref r_place, .ref r_drawn]))] s.heap := hP
  refine lv_iconst (v := 0) hx hb dX11_rests_0 (by decide) ?_
  refine lv_istore_n (lv' := [(1, .int 0), (0, .ref x0)]) hx hb dX11_rests_1 rfl hl (by decide) rfl (fun ls hl => ?_)
  refine lv_iconst (v := 0) hx hb dX11_rests_2 (by decide) ?_
  refine lv_istore_n (lv' := [(2, .int 0), (1, .int 0), (0, .ref x0)]) hx hb dX11_rests_3 rfl hl (by decide) rfl (fun ls hl => ?_)
  refine lv_iload_n hx hb dX11_rests_4 rfl (lv_at hl 0 rfl) ?_
  refine lv_iconst (v := 3) hx hb dX11_rests_5 (by decide) ?_
  refine lv_icmp_gt (tgt := 47) hx hb dX11_rests_6 (by decide) (fun c0 => absurd c0 (by decide)) (fun _ => ?_)
  refine lv_iconst (v := 0) hx hb dX11_rests_9 (by decide) ?_
  refine lv_istore_n (lv' := [(3, .int 0), (2, .int 0), (1, .int 0), (0, .ref x0)]) hx hb dX11_rests_10 rfl hl (by decide) rfl (fun ls hl => ?_)
  refine lv_iload_n hx hb dX11_rests_11 rfl (lv_at hl 0 rfl) ?_
  refine lv_iconst (v := 3) hx hb dX11_rests_12 (by decide) ?_
  refine lv_icmp_gt (tgt := 41) hx hb dX11_rests_13 (by decide) (fun c0 => absurd c0 (by decide)) (fun _ => ?_)
  refine lv_iload_n hx hb dX11_rests_16 rfl (lv_at hl 1 rfl) ?_
  refine lv_iload_n hx hb dX11_rests_17 rfl (lv_at hl 0 rfl) ?_
  refine rosi (As := [.int 0, .int 0]) (rest := []) ⟨hx, hb, hml, hown, hts⟩ (k_noneBetter l D cB cI cJ cZ cS cT 0 0 ) (csB (n := 2) (inr62 _ (List.mem_of_getElem? (i := 13) rfl)) (inr62 _ (List.mem_of_getElem? (i := 14) rfl)) (inr1 _ (List.mem_of_getElem? (i := 2) rfl)) (inr62 _ (List.mem_of_getElem? (i := 15) rfl)) (by decide +kernel) hts rfl rfl ⟨Nat.le_of_ble_eq_true rfl, Nat.le_of_ble_eq_true rfl⟩) (hP.sub [] rfl) hK rfl hl.1 rfl (Nat.le_of_ble_eq_true rfl) ⟨Nat.le_of_ble_eq_true rfl, Nat.le_of_ble_eq_true rfl⟩ dX11_rests_18 (fun r_1 h_2 => ?_)
  obtain rfl : r_1 = 0 := h_2.trans (by decide)
  refine lv_if_eq (tgt := 35) hx hb dX11_rests_21 (by decide) (fun _ => ?_) (fun c0 => absurd c0 (by decide))
  refine lv_iinc (v := 1) (lv' := [(3, .int 1), (2, .int 0), (1, .int 0), (0, .ref x0)]) hx hb dX11_rests_35 hl (k := 0) rfl (by decide) (by decide) rfl (fun ls hl => ?_)
  refine lv_goto (tgt := 11) hx hb dX11_rests_38 (by decide) ?_
  refine lv_iload_n hx hb dX11_rests_11 rfl (lv_at hl 0 rfl) ?_
  refine lv_iconst (v := 3) hx hb dX11_rests_12 (by decide) ?_
  refine lv_icmp_gt (tgt := 41) hx hb dX11_rests_13 (by decide) (fun c0 => absurd c0 (by decide)) (fun _ => ?_)
  refine lv_iload_n hx hb dX11_rests_16 rfl (lv_at hl 1 rfl) ?_
  refine lv_iload_n hx hb dX11_rests_17 rfl (lv_at hl 0 rfl) ?_
  refine rosi (As := [.int 0, .int 1]) (rest := []) ⟨hx, hb, hml, hown, hts⟩ (k_noneBetter l D cB cI cJ cZ cS cT 0 1 ) (csB (n := 2) (inr62 _ (List.mem_of_getElem? (i := 13) rfl)) (inr62 _ (List.mem_of_getElem? (i := 14) rfl)) (inr1 _ (List.mem_of_getElem? (i := 2) rfl)) (inr62 _ (List.mem_of_getElem? (i := 15) rfl)) (by decide +kernel) hts rfl rfl ⟨Nat.le_of_ble_eq_true rfl, Nat.le_of_ble_eq_true rfl⟩) (hP.sub [] rfl) hK rfl hl.1 rfl (Nat.le_of_ble_eq_true rfl) ⟨Nat.le_of_ble_eq_true rfl, Nat.le_of_ble_eq_true rfl⟩ dX11_rests_18 (fun r_3 h_4 => ?_)
  obtain rfl : r_3 = 0 := h_4.trans (by decide)
  refine lv_if_eq (tgt := 35) hx hb dX11_rests_21 (by decide) (fun _ => ?_) (fun c0 => absurd c0 (by decide))
  refine lv_iinc (v := 2) (lv' := [(3, .int 2), (2, .int 0), (1, .int 0), (0, .ref x0)]) hx hb dX11_rests_35 hl (k := 0) rfl (by decide) (by decide) rfl (fun ls hl => ?_)
  refine lv_goto (tgt := 11) hx hb dX11_rests_38 (by decide) ?_
  refine lv_iload_n hx hb dX11_rests_11 rfl (lv_at hl 0 rfl) ?_
  refine lv_iconst (v := 3) hx hb dX11_rests_12 (by decide) ?_
  refine lv_icmp_gt (tgt := 41) hx hb dX11_rests_13 (by decide) (fun c0 => absurd c0 (by decide)) (fun _ => ?_)
  refine lv_iload_n hx hb dX11_rests_16 rfl (lv_at hl 1 rfl) ?_
  refine lv_iload_n hx hb dX11_rests_17 rfl (lv_at hl 0 rfl) ?_
  refine rosi (As := [.int 0, .int 2]) (rest := []) ⟨hx, hb, hml, hown, hts⟩ (k_noneBetter l D cB cI cJ cZ cS cT 0 2 ) (csB (n := 2) (inr62 _ (List.mem_of_getElem? (i := 13) rfl)) (inr62 _ (List.mem_of_getElem? (i := 14) rfl)) (inr1 _ (List.mem_of_getElem? (i := 2) rfl)) (inr62 _ (List.mem_of_getElem? (i := 15) rfl)) (by decide +kernel) hts rfl rfl ⟨Nat.le_of_ble_eq_true rfl, Nat.le_of_ble_eq_true rfl⟩) (hP.sub [] rfl) hK rfl hl.1 rfl (Nat.le_of_ble_eq_true rfl) ⟨Nat.le_of_ble_eq_true rfl, Nat.le_of_ble_eq_true rfl⟩ dX11_rests_18 (fun r_5 h_6 => ?_)
  obtain rfl : r_5 = 0 := h_6.trans (by decide)
  refine lv_if_eq (tgt := 35) hx hb dX11_rests_21 (by decide) (fun _ => ?_) (fun c0 => absurd c0 (by decide))
  refine lv_iinc (v := 3) (lv' := [(3, .int 3), (2, .int 0), (1, .int 0), (0, .ref x0)]) hx hb dX11_rests_35 hl (k := 0) rfl (by decide) (by decide) rfl (fun ls hl => ?_)
  refine lv_goto (tgt := 11) hx hb dX11_rests_38 (by decide) ?_
  refine lv_iload_n hx hb dX11_rests_11 rfl (lv_at hl 0 rfl) ?_
  refine lv_iconst (v := 3) hx hb dX11_rests_12 (by decide) ?_
  refine lv_icmp_gt (tgt := 41) hx hb dX11_rests_13 (by decide) (fun c0 => absurd c0 (by decide)) (fun _ => ?_)
  refine lv_iload_n hx hb dX11_rests_16 rfl (lv_at hl 1 rfl) ?_
  refine lv_iload_n hx hb dX11_rests_17 rfl (lv_at hl 0 rfl) ?_
  refine rosi (As := [.int 0, .int 3]) (rest := []) ⟨hx, hb, hml, hown, hts⟩ (k_noneBetter l D cB cI cJ cZ cS cT 0 3 ) (csB (n := 2) (inr62 _ (List.mem_of_getElem? (i := 13) rfl)) (inr62 _ (List.mem_of_getElem? (i := 14) rfl)) (inr1 _ (List.mem_of_getElem? (i := 2) rfl)) (inr62 _ (List.mem_of_getElem? (i := 15) rfl)) (by decide +kernel) hts rfl rfl ⟨Nat.le_of_ble_eq_true rfl, Nat.le_of_ble_eq_true rfl⟩) (hP.sub [] rfl) hK rfl hl.1 rfl (Nat.le_of_ble_eq_true rfl) ⟨Nat.le_of_ble_eq_true rfl, Nat.le_of_ble_eq_true rfl⟩ dX11_rests_18 (fun r_7 h_8 => ?_)
  obtain rfl : r_7 = 1 := h_8.trans (by decide)
  refine lv_if_eq (tgt := 35) hx hb dX11_rests_21 (by decide) (fun c0 => absurd c0 (by decide)) (fun _ => ?_)
  refine lv_iload_n hx hb dX11_rests_24 rfl (lv_at hl 0 rfl) ?_
  refine lv_iload_n hx hb dX11_rests_25 rfl (lv_at hl 1 rfl) ?_
  refine rosi (As := [.int 3, .int 0]) (rest := []) ⟨hx, hb, hml, hown, hts⟩ (k_noneBetter l D cB cI cJ cZ cS cT 3 0 ) (csB (n := 2) (inr62 _ (List.mem_of_getElem? (i := 13) rfl)) (inr62 _ (List.mem_of_getElem? (i := 14) rfl)) (inr1 _ (List.mem_of_getElem? (i := 2) rfl)) (inr62 _ (List.mem_of_getElem? (i := 15) rfl)) (by decide +kernel) hts rfl rfl ⟨Nat.le_of_ble_eq_true rfl, Nat.le_of_ble_eq_true rfl⟩) (hP.sub [] rfl) hK rfl hl.1 rfl (Nat.le_of_ble_eq_true rfl) ⟨Nat.le_of_ble_eq_true rfl, Nat.le_of_ble_eq_true rfl⟩ dX11_rests_26 (fun r_9 h_10 => ?_)
  obtain rfl : r_9 = 0 := h_10.trans (by decide)
  refine lv_if_eq (tgt := 35) hx hb dX11_rests_29 (by decide) (fun _ => ?_) (fun c0 => absurd c0 (by decide))
  refine lv_iinc (v := 4) (lv' := [(3, .int 4), (2, .int 0), (1, .int 0), (0, .ref x0)]) hx hb dX11_rests_35 hl (k := 0) rfl (by decide) (by decide) rfl (fun ls hl => ?_)
  refine lv_goto (tgt := 11) hx hb dX11_rests_38 (by decide) ?_
  refine lv_iload_n hx hb dX11_rests_11 rfl (lv_at hl 0 rfl) ?_
  refine lv_iconst (v := 3) hx hb dX11_rests_12 (by decide) ?_
  refine lv_icmp_gt (tgt := 41) hx hb dX11_rests_13 (by decide) (fun _ => ?_) (fun c0 => absurd c0 (by decide))
  refine lv_iinc (v := 1) (lv' := [(2, .int 1), (3, .int 4), (1, .int 0), (0, .ref x0)]) hx hb dX11_rests_41 hl (k := 1) rfl (by decide) (by decide) rfl (fun ls hl => ?_)
  refine lv_goto (tgt := 4) hx hb dX11_rests_44 (by decide) ?_
  refine lv_iload_n hx hb dX11_rests_4 rfl (lv_at hl 0 rfl) ?_
  refine lv_iconst (v := 3) hx hb dX11_rests_5 (by decide) ?_
  refine lv_icmp_gt (tgt := 47) hx hb dX11_rests_6 (by decide) (fun c0 => absurd c0 (by decide)) (fun _ => ?_)
  refine lv_iconst (v := 0) hx hb dX11_rests_9 (by decide) ?_
  refine lv_istore_n (lv' := [(3, .int 0), (2, .int 1), (1, .int 0), (0, .ref x0)]) hx hb dX11_rests_10 rfl hl (by decide) rfl (fun ls hl => ?_)
  refine lv_iload_n hx hb dX11_rests_11 rfl (lv_at hl 0 rfl) ?_
  refine lv_iconst (v := 3) hx hb dX11_rests_12 (by decide) ?_
  refine lv_icmp_gt (tgt := 41) hx hb dX11_rests_13 (by decide) (fun c0 => absurd c0 (by decide)) (fun _ => ?_)
  refine lv_iload_n hx hb dX11_rests_16 rfl (lv_at hl 1 rfl) ?_
  refine lv_iload_n hx hb dX11_rests_17 rfl (lv_at hl 0 rfl) ?_
  refine rosi (As := [.int 1, .int 0]) (rest := []) ⟨hx, hb, hml, hown, hts⟩ (k_noneBetter l D cB cI cJ cZ cS cT 1 0 ) (csB (n := 2) (inr62 _ (List.mem_of_getElem? (i := 13) rfl)) (inr62 _ (List.mem_of_getElem? (i := 14) rfl)) (inr1 _ (List.mem_of_getElem? (i := 2) rfl)) (inr62 _ (List.mem_of_getElem? (i := 15) rfl)) (by decide +kernel) hts rfl rfl ⟨Nat.le_of_ble_eq_true rfl, Nat.le_of_ble_eq_true rfl⟩) (hP.sub [] rfl) hK rfl hl.1 rfl (Nat.le_of_ble_eq_true rfl) ⟨Nat.le_of_ble_eq_true rfl, Nat.le_of_ble_eq_true rfl⟩ dX11_rests_18 (fun r_11 h_12 => ?_)
  obtain rfl : r_11 = 1 := h_12.trans (by decide)
  refine lv_if_eq (tgt := 35) hx hb dX11_rests_21 (by decide) (fun c0 => absurd c0 (by decide)) (fun _ => ?_)
  refine lv_iload_n hx hb dX11_rests_24 rfl (lv_at hl 0 rfl) ?_
  refine lv_iload_n hx hb dX11_rests_25 rfl (lv_at hl 1 rfl) ?_
  refine rosi (As := [.int 0, .int 1]) (rest := []) ⟨hx, hb, hml, hown, hts⟩ (k_noneBetter l D cB cI cJ cZ cS cT 0 1 ) (csB (n := 2) (inr62 _ (List.mem_of_getElem? (i := 13) rfl)) (inr62 _ (List.mem_of_getElem? (i := 14) rfl)) (inr1 _ (List.mem_of_getElem? (i := 2) rfl)) (inr62 _ (List.mem_of_getElem? (i := 15) rfl)) (by decide +kernel) hts rfl rfl ⟨Nat.le_of_ble_eq_true rfl, Nat.le_of_ble_eq_true rfl⟩) (hP.sub [] rfl) hK rfl hl.1 rfl (Nat.le_of_ble_eq_true rfl) ⟨Nat.le_of_ble_eq_true rfl, Nat.le_of_ble_eq_true rfl⟩ dX11_rests_26 (fun r_13 h_14 => ?_)
  obtain rfl : r_13 = 0 := h_14.trans (by decide)
  refine lv_if_eq (tgt := 35) hx hb dX11_rests_29 (by decide) (fun _ => ?_) (fun c0 => absurd c0 (by decide))
  refine lv_iinc (v := 1) (lv' := [(3, .int 1), (2, .int 1), (1, .int 0), (0, .ref x0)]) hx hb dX11_rests_35 hl (k := 0) rfl (by decide) (by decide) rfl (fun ls hl => ?_)
  refine lv_goto (tgt := 11) hx hb dX11_rests_38 (by decide) ?_
  refine lv_iload_n hx hb dX11_rests_11 rfl (lv_at hl 0 rfl) ?_
  refine lv_iconst (v := 3) hx hb dX11_rests_12 (by decide) ?_
  refine lv_icmp_gt (tgt := 41) hx hb dX11_rests_13 (by decide) (fun c0 => absurd c0 (by decide)) (fun _ => ?_)
  refine lv_iload_n hx hb dX11_rests_16 rfl (lv_at hl 1 rfl) ?_
  refine lv_iload_n hx hb dX11_rests_17 rfl (lv_at hl 0 rfl) ?_
  refine rosi (As := [.int 1, .int 1]) (rest := []) ⟨hx, hb, hml, hown, hts⟩ (k_noneBetter l D cB cI cJ cZ cS cT 1 1 ) (csB (n := 2) (inr62 _ (List.mem_of_getElem? (i := 13) rfl)) (inr62 _ (List.mem_of_getElem? (i := 14) rfl)) (inr1 _ (List.mem_of_getElem? (i := 2) rfl)) (inr62 _ (List.mem_of_getElem? (i := 15) rfl)) (by decide +kernel) hts rfl rfl ⟨Nat.le_of_ble_eq_true rfl, Nat.le_of_ble_eq_true rfl⟩) (hP.sub [] rfl) hK rfl hl.1 rfl (Nat.le_of_ble_eq_true rfl) ⟨Nat.le_of_ble_eq_true rfl, Nat.le_of_ble_eq_true rfl⟩ dX11_rests_18 (fun r_15 h_16 => ?_)
  obtain rfl : r_15 = 0 := h_16.trans (by decide)
  refine lv_if_eq (tgt := 35) hx hb dX11_rests_21 (by decide) (fun _ => ?_) (fun c0 => absurd c0 (by decide))
  refine lv_iinc (v := 2) (lv' := [(3, .int 2), (2, .int 1), (1, .int 0), (0, .ref x0)]) hx hb dX11_rests_35 hl (k := 0) rfl (by decide) (by decide) rfl (fun ls hl => ?_)
  refine lv_goto (tgt := 11) hx hb dX11_rests_38 (by decide) ?_
  refine lv_iload_n hx hb dX11_rests_11 rfl (lv_at hl 0 rfl) ?_
  refine lv_iconst (v := 3) hx hb dX11_rests_12 (by decide) ?_
  refine lv_icmp_gt (tgt := 41) hx hb dX11_rests_13 (by decide) (fun c0 => absurd c0 (by decide)) (fun _ => ?_)
  refine lv_iload_n hx hb dX11_rests_16 rfl (lv_at hl 1 rfl) ?_
  refine lv_iload_n hx hb dX11_rests_17 rfl (lv_at hl 0 rfl) ?_
  refine rosi (As := [.int 1, .int 2]) (rest := []) ⟨hx, hb, hml, hown, hts⟩ (k_noneBetter l D cB cI cJ cZ cS cT 1 2 ) (csB (n := 2) (inr62 _ (List.mem_of_getElem? (i := 13) rfl)) (inr62 _ (List.mem_of_getElem? (i := 14) rfl)) (inr1 _ (List.mem_of_getElem? (i := 2) rfl)) (inr62 _ (List.mem_of_getElem? (i := 15) rfl)) (by decide +kernel) hts rfl rfl ⟨Nat.le_of_ble_eq_true rfl, Nat.le_of_ble_eq_true rfl⟩) (hP.sub [] rfl) hK rfl hl.1 rfl (Nat.le_of_ble_eq_true rfl) ⟨Nat.le_of_ble_eq_true rfl, Nat.le_of_ble_eq_true rfl⟩ dX11_rests_18 (fun r_17 h_18 => ?_)
  obtain rfl : r_17 = 0 := h_18.trans (by decide)
  refine lv_if_eq (tgt := 35) hx hb dX11_rests_21 (by decide) (fun _ => ?_) (fun c0 => absurd c0 (by decide))
  refine lv_iinc (v := 3) (lv' := [(3, .int 3), (2, .int 1), (1, .int 0), (0, .ref x0)]) hx hb dX11_rests_35 hl (k := 0) rfl (by decide) (by decide) rfl (fun ls hl => ?_)
  refine lv_goto (tgt := 11) hx hb dX11_rests_38 (by decide) ?_
  refine lv_iload_n hx hb dX11_rests_11 rfl (lv_at hl 0 rfl) ?_
  refine lv_iconst (v := 3) hx hb dX11_rests_12 (by decide) ?_
  refine lv_icmp_gt (tgt := 41) hx hb dX11_rests_13 (by decide) (fun c0 => absurd c0 (by decide)) (fun _ => ?_)
  refine lv_iload_n hx hb dX11_rests_16 rfl (lv_at hl 1 rfl) ?_
  refine lv_iload_n hx hb dX11_rests_17 rfl (lv_at hl 0 rfl) ?_
  refine rosi (As := [.int 1, .int 3]) (rest := []) ⟨hx, hb, hml, hown, hts⟩ (k_noneBetter l D cB cI cJ cZ cS cT 1 3 ) (csB (n := 2) (inr62 _ (List.mem_of_getElem? (i := 13) rfl)) (inr62 _ (List.mem_of_getElem? (i := 14) rfl)) (inr1 _ (List.mem_of_getElem? (i := 2) rfl)) (inr62 _ (List.mem_of_getElem? (i := 15) rfl)) (by decide +kernel) hts rfl rfl ⟨Nat.le_of_ble_eq_true rfl, Nat.le_of_ble_eq_true rfl⟩) (hP.sub [] rfl) hK rfl hl.1 rfl (Nat.le_of_ble_eq_true rfl) ⟨Nat.le_of_ble_eq_true rfl, Nat.le_of_ble_eq_true rfl⟩ dX11_rests_18 (fun r_19 h_20 => ?_)
  obtain rfl : r_19 = 0 := h_20.trans (by decide)
  refine lv_if_eq (tgt := 35) hx hb dX11_rests_21 (by decide) (fun _ => ?_) (fun c0 => absurd c0 (by decide))
  refine lv_iinc (v := 4) (lv' := [(3, .int 4), (2, .int 1), (1, .int 0), (0, .ref x0)]) hx hb dX11_rests_35 hl (k := 0) rfl (by decide) (by decide) rfl (fun ls hl => ?_)
  refine lv_goto (tgt := 11) hx hb dX11_rests_38 (by decide) ?_
  refine lv_iload_n hx hb dX11_rests_11 rfl (lv_at hl 0 rfl) ?_
  refine lv_iconst (v := 3) hx hb dX11_rests_12 (by decide) ?_
  refine lv_icmp_gt (tgt := 41) hx hb dX11_rests_13 (by decide) (fun _ => ?_) (fun c0 => absurd c0 (by decide))
  refine lv_iinc (v := 2) (lv' := [(2, .int 2), (3, .int 4), (1, .int 0), (0, .ref x0)]) hx hb dX11_rests_41 hl (k := 1) rfl (by decide) (by decide) rfl (fun ls hl => ?_)
  refine lv_goto (tgt := 4) hx hb dX11_rests_44 (by decide) ?_
  refine lv_iload_n hx hb dX11_rests_4 rfl (lv_at hl 0 rfl) ?_
  refine lv_iconst (v := 3) hx hb dX11_rests_5 (by decide) ?_
  refine lv_icmp_gt (tgt := 47) hx hb dX11_rests_6 (by decide) (fun c0 => absurd c0 (by decide)) (fun _ => ?_)
  refine lv_iconst (v := 0) hx hb dX11_rests_9 (by decide) ?_
  refine lv_istore_n (lv' := [(3, .int 0), (2, .int 2), (1, .int 0), (0, .ref x0)]) hx hb dX11_rests_10 rfl hl (by decide) rfl (fun ls hl => ?_)
  refine lv_iload_n hx hb dX11_rests_11 rfl (lv_at hl 0 rfl) ?_
  refine lv_iconst (v := 3) hx hb dX11_rests_12 (by decide) ?_
  refine lv_icmp_gt (tgt := 41) hx hb dX11_rests_13 (by decide) (fun c0 => absurd c0 (by decide)) (fun _ => ?_)
  refine lv_iload_n hx hb dX11_rests_16 rfl (lv_at hl 1 rfl) ?_
  refine lv_iload_n hx hb dX11_rests_17 rfl (lv_at hl 0 rfl) ?_
  refine rosi (As := [.int 2, .int 0]) (rest := []) ⟨hx, hb, hml, hown, hts⟩ (k_noneBetter l D cB cI cJ cZ cS cT 2 0 ) (csB (n := 2) (inr62 _ (List.mem_of_getElem? (i := 13) rfl)) (inr62 _ (List.mem_of_getElem? (i := 14) rfl)) (inr1 _ (List.mem_of_getElem? (i := 2) rfl)) (inr62 _ (List.mem_of_getElem? (i := 15) rfl)) (by decide +kernel) hts rfl rfl ⟨Nat.le_of_ble_eq_true rfl, Nat.le_of_ble_eq_true rfl⟩) (hP.sub [] rfl) hK rfl hl.1 rfl (Nat.le_of_ble_eq_true rfl) ⟨Nat.le_of_ble_eq_true rfl, Nat.le_of_ble_eq_true rfl⟩ dX11_rests_18 (fun r_21 h_22 => ?_)
  obtain rfl : r_21 = 0 := h_22.trans (by decide)
  refine lv_if_eq (tgt := 35) hx hb dX11_rests_21 (by decide) (fun _ => ?_) (fun c0 => absurd c0 (by decide))
  refine lv_iinc (v := 1) (lv' := [(3, .int 1), (2, .int 2), (1, .int 0), (0, .ref x0)]) hx hb dX11_rests_35 hl (k := 0) rfl (by decide) (by decide) rfl (fun ls hl => ?_)
  refine lv_goto (tgt := 11) hx hb dX11_rests_38 (by decide) ?_
  refine lv_iload_n hx hb dX11_rests_11 rfl (lv_at hl 0 rfl) ?_
  refine lv_iconst (v := 3) hx hb dX11_rests_12 (by decide) ?_
  refine lv_icmp_gt (tgt := 41) hx hb dX11_rests_13 (by decide) (fun c0 => absurd c0 (by decide)) (fun _ => ?_)
  refine lv_iload_n hx hb dX11_rests_16 rfl (lv_at hl 1 rfl) ?_
  refine lv_iload_n hx hb dX11_rests_17 rfl (lv_at hl 0 rfl) ?_
  refine rosi (As := [.int 2, .int 1]) (rest := []) ⟨hx, hb, hml, hown, hts⟩ (k_noneBetter l D cB cI cJ cZ cS cT 2 1 ) (csB (n := 2) (inr62 _ (List.mem_of_getElem? (i := 13) rfl)) (inr62 _ (List.mem_of_getElem? (i := 14) rfl)) (inr1 _ (List.mem_of_getElem? (i := 2) rfl)) (inr62 _ (List.mem_of_getElem? (i := 15) rfl)) (by decide +kernel) hts rfl rfl ⟨Nat.le_of_ble_eq_true rfl, Nat.le_of_ble_eq_true rfl⟩) (hP.sub [] rfl) hK rfl hl.1 rfl (Nat.le_of_ble_eq_true rfl) ⟨Nat.le_of_ble_eq_true rfl, Nat.le_of_ble_eq_true rfl⟩ dX11_rests_18 (fun r_23 h_24 => ?_)
  obtain rfl : r_23 = 1 := h_24.trans (by decide)
  refine lv_if_eq (tgt := 35) hx hb dX11_rests_21 (by decide) (fun c0 => absurd c0 (by decide)) (fun _ => ?_)
  refine lv_iload_n hx hb dX11_rests_24 rfl (lv_at hl 0 rfl) ?_
  refine lv_iload_n hx hb dX11_rests_25 rfl (lv_at hl 1 rfl) ?_
  refine rosi (As := [.int 1, .int 2]) (rest := []) ⟨hx, hb, hml, hown, hts⟩ (k_noneBetter l D cB cI cJ cZ cS cT 1 2 ) (csB (n := 2) (inr62 _ (List.mem_of_getElem? (i := 13) rfl)) (inr62 _ (List.mem_of_getElem? (i := 14) rfl)) (inr1 _ (List.mem_of_getElem? (i := 2) rfl)) (inr62 _ (List.mem_of_getElem? (i := 15) rfl)) (by decide +kernel) hts rfl rfl ⟨Nat.le_of_ble_eq_true rfl, Nat.le_of_ble_eq_true rfl⟩) (hP.sub [] rfl) hK rfl hl.1 rfl (Nat.le_of_ble_eq_true rfl) ⟨Nat.le_of_ble_eq_true rfl, Nat.le_of_ble_eq_true rfl⟩ dX11_rests_26 (fun r_25 h_26 => ?_)
  obtain rfl : r_25 = 0 := h_26.trans (by decide)
  refine lv_if_eq (tgt := 35) hx hb dX11_rests_29 (by decide) (fun _ => ?_) (fun c0 => absurd c0 (by decide))
  refine lv_iinc (v := 2) (lv' := [(3, .int 2), (2, .int 2), (1, .int 0), (0, .ref x0)]) hx hb dX11_rests_35 hl (k := 0) rfl (by decide) (by decide) rfl (fun ls hl => ?_)
  refine lv_goto (tgt := 11) hx hb dX11_rests_38 (by decide) ?_
  refine lv_iload_n hx hb dX11_rests_11 rfl (lv_at hl 0 rfl) ?_
  refine lv_iconst (v := 3) hx hb dX11_rests_12 (by decide) ?_
  refine lv_icmp_gt (tgt := 41) hx hb dX11_rests_13 (by decide) (fun c0 => absurd c0 (by decide)) (fun _ => ?_)
  refine lv_iload_n hx hb dX11_rests_16 rfl (lv_at hl 1 rfl) ?_
  refine lv_iload_n hx hb dX11_rests_17 rfl (lv_at hl 0 rfl) ?_
  refine rosi (As := [.int 2, .int 2]) (rest := []) ⟨hx, hb, hml, hown, hts⟩ (k_noneBetter l D cB cI cJ cZ cS cT 2 2 ) (csB (n := 2) (inr62 _ (List.mem_of_getElem? (i := 13) rfl)) (inr62 _ (List.mem_of_getElem? (i := 14) rfl)) (inr1 _ (List.mem_of_getElem? (i := 2) rfl)) (inr62 _ (List.mem_of_getElem? (i := 15) rfl)) (by decide +kernel) hts rfl rfl ⟨Nat.le_of_ble_eq_true rfl, Nat.le_of_ble_eq_true rfl⟩) (hP.sub [] rfl) hK rfl hl.1 rfl (Nat.le_of_ble_eq_true rfl) ⟨Nat.le_of_ble_eq_true rfl, Nat.le_of_ble_eq_true rfl⟩ dX11_rests_18 (fun r_27 h_28 => ?_)
  obtain rfl : r_27 = 0 := h_28.trans (by decide)
  refine lv_if_eq (tgt := 35) hx hb dX11_rests_21 (by decide) (fun _ => ?_) (fun c0 => absurd c0 (by decide))
  refine lv_iinc (v := 3) (lv' := [(3, .int 3), (2, .int 2), (1, .int 0), (0, .ref x0)]) hx hb dX11_rests_35 hl (k := 0) rfl (by decide) (by decide) rfl (fun ls hl => ?_)
  refine lv_goto (tgt := 11) hx hb dX11_rests_38 (by decide) ?_
  refine lv_iload_n hx hb dX11_rests_11 rfl (lv_at hl 0 rfl) ?_
  refine lv_iconst (v := 3) hx hb dX11_rests_12 (by decide) ?_
  refine lv_icmp_gt (tgt := 41) hx hb dX11_rests_13 (by decide) (fun c0 => absurd c0 (by decide)) (fun _ => ?_)
  refine lv_iload_n hx hb dX11_rests_16 rfl (lv_at hl 1 rfl) ?_
  refine lv_iload_n hx hb dX11_rests_17 rfl (lv_at hl 0 rfl) ?_
  refine rosi (As := [.int 2, .int 3]) (rest := []) ⟨hx, hb, hml, hown, hts⟩ (k_noneBetter l D cB cI cJ cZ cS cT 2 3 ) (csB (n := 2) (inr62 _ (List.mem_of_getElem? (i := 13) rfl)) (inr62 _ (List.mem_of_getElem? (i := 14) rfl)) (inr1 _ (List.mem_of_getElem? (i := 2) rfl)) (inr62 _ (List.mem_of_getElem? (i := 15) rfl)) (by decide +kernel) hts rfl rfl ⟨Nat.le_of_ble_eq_true rfl, Nat.le_of_ble_eq_true rfl⟩) (hP.sub [] rfl) hK rfl hl.1 rfl (Nat.le_of_ble_eq_true rfl) ⟨Nat.le_of_ble_eq_true rfl, Nat.le_of_ble_eq_true rfl⟩ dX11_rests_18 (fun r_29 h_30 => ?_)
  obtain rfl : r_29 = 0 := h_30.trans (by decide)
  refine lv_if_eq (tgt := 35) hx hb dX11_rests_21 (by decide) (fun _ => ?_) (fun c0 => absurd c0 (by decide))
  refine lv_iinc (v := 4) (lv' := [(3, .int 4), (2, .int 2), (1, .int 0), (0, .ref x0)]) hx hb dX11_rests_35 hl (k := 0) rfl (by decide) (by decide) rfl (fun ls hl => ?_)
  refine lv_goto (tgt := 11) hx hb dX11_rests_38 (by decide) ?_
  refine lv_iload_n hx hb dX11_rests_11 rfl (lv_at hl 0 rfl) ?_
  refine lv_iconst (v := 3) hx hb dX11_rests_12 (by decide) ?_
  refine lv_icmp_gt (tgt := 41) hx hb dX11_rests_13 (by decide) (fun _ => ?_) (fun c0 => absurd c0 (by decide))
  refine lv_iinc (v := 3) (lv' := [(2, .int 3), (3, .int 4), (1, .int 0), (0, .ref x0)]) hx hb dX11_rests_41 hl (k := 1) rfl (by decide) (by decide) rfl (fun ls hl => ?_)
  refine lv_goto (tgt := 4) hx hb dX11_rests_44 (by decide) ?_
  refine lv_iload_n hx hb dX11_rests_4 rfl (lv_at hl 0 rfl) ?_
  refine lv_iconst (v := 3) hx hb dX11_rests_5 (by decide) ?_
  refine lv_icmp_gt (tgt := 47) hx hb dX11_rests_6 (by decide) (fun c0 => absurd c0 (by decide)) (fun _ => ?_)
  refine lv_iconst (v := 0) hx hb dX11_rests_9 (by decide) ?_
  refine lv_istore_n (lv' := [(3, .int 0), (2, .int 3), (1, .int 0), (0, .ref x0)]) hx hb dX11_rests_10 rfl hl (by decide) rfl (fun ls hl => ?_)
  refine lv_iload_n hx hb dX11_rests_11 rfl (lv_at hl 0 rfl) ?_
  refine lv_iconst (v := 3) hx hb dX11_rests_12 (by decide) ?_
  refine lv_icmp_gt (tgt := 41) hx hb dX11_rests_13 (by decide) (fun c0 => absurd c0 (by decide)) (fun _ => ?_)
  refine lv_iload_n hx hb dX11_rests_16 rfl (lv_at hl 1 rfl) ?_
  refine lv_iload_n hx hb dX11_rests_17 rfl (lv_at hl 0 rfl) ?_
  refine rosi (As := [.int 3, .int 0]) (rest := []) ⟨hx, hb, hml, hown, hts⟩ (k_noneBetter l D cB cI cJ cZ cS cT 3 0 ) (csB (n := 2) (inr62 _ (List.mem_of_getElem? (i := 13) rfl)) (inr62 _ (List.mem_of_getElem? (i := 14) rfl)) (inr1 _ (List.mem_of_getElem? (i := 2) rfl)) (inr62 _ (List.mem_of_getElem? (i := 15) rfl)) (by decide +kernel) hts rfl rfl ⟨Nat.le_of_ble_eq_true rfl, Nat.le_of_ble_eq_true rfl⟩) (hP.sub [] rfl) hK rfl hl.1 rfl (Nat.le_of_ble_eq_true rfl) ⟨Nat.le_of_ble_eq_true rfl, Nat.le_of_ble_eq_true rfl⟩ dX11_rests_18 (fun r_31 h_32 => ?_)
  obtain rfl : r_31 = 0 := h_32.trans (by decide)
  refine lv_if_eq (tgt := 35) hx hb dX11_rests_21 (by decide) (fun _ => ?_) (fun c0 => absurd c0 (by decide))
  refine lv_iinc (v := 1) (lv' := [(3, .int 1), (2, .int 3), (1, .int 0), (0, .ref x0)]) hx hb dX11_rests_35 hl (k := 0) rfl (by decide) (by decide) rfl (fun ls hl => ?_)
  refine lv_goto (tgt := 11) hx hb dX11_rests_38 (by decide) ?_
  refine lv_iload_n hx hb dX11_rests_11 rfl (lv_at hl 0 rfl) ?_
  refine lv_iconst (v := 3) hx hb dX11_rests_12 (by decide) ?_
  refine lv_icmp_gt (tgt := 41) hx hb dX11_rests_13 (by decide) (fun c0 => absurd c0 (by decide)) (fun _ => ?_)
  refine lv_iload_n hx hb dX11_rests_16 rfl (lv_at hl 1 rfl) ?_
  refine lv_iload_n hx hb dX11_rests_17 rfl (lv_at hl 0 rfl) ?_
  refine rosi (As := [.int 3, .int 1]) (rest := []) ⟨hx, hb, hml, hown, hts⟩ (k_noneBetter l D cB cI cJ cZ cS cT 3 1 ) (csB (n := 2) (inr62 _ (List.mem_of_getElem? (i := 13) rfl)) (inr62 _ (List.mem_of_getElem? (i := 14) rfl)) (inr1 _ (List.mem_of_getElem? (i := 2) rfl)) (inr62 _ (List.mem_of_getElem? (i := 15) rfl)) (by decide +kernel) hts rfl rfl ⟨Nat.le_of_ble_eq_true rfl, Nat.le_of_ble_eq_true rfl⟩) (hP.sub [] rfl) hK rfl hl.1 rfl (Nat.le_of_ble_eq_true rfl) ⟨Nat.le_of_ble_eq_true rfl, Nat.le_of_ble_eq_true rfl⟩ dX11_rests_18 (fun r_33 h_34 => ?_)
  obtain rfl : r_33 = 0 := h_34.trans (by decide)
  refine lv_if_eq (tgt := 35) hx hb dX11_rests_21 (by decide) (fun _ => ?_) (fun c0 => absurd c0 (by decide))
  refine lv_iinc (v := 2) (lv' := [(3, .int 2), (2, .int 3), (1, .int 0), (0, .ref x0)]) hx hb dX11_rests_35 hl (k := 0) rfl (by decide) (by decide) rfl (fun ls hl => ?_)
  refine lv_goto (tgt := 11) hx hb dX11_rests_38 (by decide) ?_
  refine lv_iload_n hx hb dX11_rests_11 rfl (lv_at hl 0 rfl) ?_
  refine lv_iconst (v := 3) hx hb dX11_rests_12 (by decide) ?_
  refine lv_icmp_gt (tgt := 41) hx hb dX11_rests_13 (by decide) (fun c0 => absurd c0 (by decide)) (fun _ => ?_)
  refine lv_iload_n hx hb dX11_rests_16 rfl (lv_at hl 1 rfl) ?_
  refine lv_iload_n hx hb dX11_rests_17 rfl (lv_at hl 0 rfl) ?_
  refine rosi (As := [.int 3, .int 2]) (rest := []) ⟨hx, hb, hml, hown, hts⟩ (k_noneBetter l D cB cI cJ cZ cS cT 3 2 ) (csB (n := 2) (inr62 _ (List.mem_of_getElem? (i := 13) rfl)) (inr62 _ (List.mem_of_getElem? (i := 14) rfl)) (inr1 _ (List.mem_of_getElem? (i := 2) rfl)) (inr62 _ (List.mem_of_getElem? (i := 15) rfl)) (by decide +kernel) hts rfl rfl ⟨Nat.le_of_ble_eq_true rfl, Nat.le_of_ble_eq_true rfl⟩) (hP.sub [] rfl) hK rfl hl.1 rfl (Nat.le_of_ble_eq_true rfl) ⟨Nat.le_of_ble_eq_true rfl, Nat.le_of_ble_eq_true rfl⟩ dX11_rests_18 (fun r_35 h_36 => ?_)
  obtain rfl : r_35 = 1 := h_36.trans (by decide)
  refine lv_if_eq (tgt := 35) hx hb dX11_rests_21 (by decide) (fun c0 => absurd c0 (by decide)) (fun _ => ?_)
  refine lv_iload_n hx hb dX11_rests_24 rfl (lv_at hl 0 rfl) ?_
  refine lv_iload_n hx hb dX11_rests_25 rfl (lv_at hl 1 rfl) ?_
  refine rosi (As := [.int 2, .int 3]) (rest := []) ⟨hx, hb, hml, hown, hts⟩ (k_noneBetter l D cB cI cJ cZ cS cT 2 3 ) (csB (n := 2) (inr62 _ (List.mem_of_getElem? (i := 13) rfl)) (inr62 _ (List.mem_of_getElem? (i := 14) rfl)) (inr1 _ (List.mem_of_getElem? (i := 2) rfl)) (inr62 _ (List.mem_of_getElem? (i := 15) rfl)) (by decide +kernel) hts rfl rfl ⟨Nat.le_of_ble_eq_true rfl, Nat.le_of_ble_eq_true rfl⟩) (hP.sub [] rfl) hK rfl hl.1 rfl (Nat.le_of_ble_eq_true rfl) ⟨Nat.le_of_ble_eq_true rfl, Nat.le_of_ble_eq_true rfl⟩ dX11_rests_26 (fun r_37 h_38 => ?_)
  obtain rfl : r_37 = 0 := h_38.trans (by decide)
  refine lv_if_eq (tgt := 35) hx hb dX11_rests_29 (by decide) (fun _ => ?_) (fun c0 => absurd c0 (by decide))
  refine lv_iinc (v := 3) (lv' := [(3, .int 3), (2, .int 3), (1, .int 0), (0, .ref x0)]) hx hb dX11_rests_35 hl (k := 0) rfl (by decide) (by decide) rfl (fun ls hl => ?_)
  refine lv_goto (tgt := 11) hx hb dX11_rests_38 (by decide) ?_
  refine lv_iload_n hx hb dX11_rests_11 rfl (lv_at hl 0 rfl) ?_
  refine lv_iconst (v := 3) hx hb dX11_rests_12 (by decide) ?_
  refine lv_icmp_gt (tgt := 41) hx hb dX11_rests_13 (by decide) (fun c0 => absurd c0 (by decide)) (fun _ => ?_)
  refine lv_iload_n hx hb dX11_rests_16 rfl (lv_at hl 1 rfl) ?_
  refine lv_iload_n hx hb dX11_rests_17 rfl (lv_at hl 0 rfl) ?_
  refine rosi (As := [.int 3, .int 3]) (rest := []) ⟨hx, hb, hml, hown, hts⟩ (k_noneBetter l D cB cI cJ cZ cS cT 3 3 ) (csB (n := 2) (inr62 _ (List.mem_of_getElem? (i := 13) rfl)) (inr62 _ (List.mem_of_getElem? (i := 14) rfl)) (inr1 _ (List.mem_of_getElem? (i := 2) rfl)) (inr62 _ (List.mem_of_getElem? (i := 15) rfl)) (by decide +kernel) hts rfl rfl ⟨Nat.le_of_ble_eq_true rfl, Nat.le_of_ble_eq_true rfl⟩) (hP.sub [] rfl) hK rfl hl.1 rfl (Nat.le_of_ble_eq_true rfl) ⟨Nat.le_of_ble_eq_true rfl, Nat.le_of_ble_eq_true rfl⟩ dX11_rests_18 (fun r_39 h_40 => ?_)
  obtain rfl : r_39 = 0 := h_40.trans (by decide)
  refine lv_if_eq (tgt := 35) hx hb dX11_rests_21 (by decide) (fun _ => ?_) (fun c0 => absurd c0 (by decide))
  refine lv_iinc (v := 4) (lv' := [(3, .int 4), (2, .int 3), (1, .int 0), (0, .ref x0)]) hx hb dX11_rests_35 hl (k := 0) rfl (by decide) (by decide) rfl (fun ls hl => ?_)
  refine lv_goto (tgt := 11) hx hb dX11_rests_38 (by decide) ?_
  refine lv_iload_n hx hb dX11_rests_11 rfl (lv_at hl 0 rfl) ?_
  refine lv_iconst (v := 3) hx hb dX11_rests_12 (by decide) ?_
  refine lv_icmp_gt (tgt := 41) hx hb dX11_rests_13 (by decide) (fun _ => ?_) (fun c0 => absurd c0 (by decide))
  refine lv_iinc (v := 4) (lv' := [(2, .int 4), (3, .int 4), (1, .int 0), (0, .ref x0)]) hx hb dX11_rests_41 hl (k := 1) rfl (by decide) (by decide) rfl (fun ls hl => ?_)
  refine lv_goto (tgt := 4) hx hb dX11_rests_44 (by decide) ?_
  refine lv_iload_n hx hb dX11_rests_4 rfl (lv_at hl 0 rfl) ?_
  refine lv_iconst (v := 3) hx hb dX11_rests_5 (by decide) ?_
  refine lv_icmp_gt (tgt := 47) hx hb dX11_rests_6 (by decide) (fun _ => ?_) (fun c0 => absurd c0 (by decide))
  refine lv_iload_n hx hb dX11_rests_47 rfl (lv_at hl 2 rfl) ?_
  exact W.iret (v := 0) hx hb hr (fun t ht hW => ⟨_, rfl, rfl, ht⟩) (fun _ h => by cases h) dX11_rests_48

set_option maxHeartbeats 4000000 in
set_option maxRecDepth 100000 in
theorem kx_sounds (l : Launch) (D : va_G) (cB cI cJ cZ cS cT : ClassId) (x0 : Nat) (r_tape : Nat) (r_reader : Nat) (r_now : Nat) (r_trial : Nat) (r_images : Nat) (r_kept : Nat) (r_slots : Nat) (r_night : Nat) (r_other : Nat) (r_circle : Nat) (r_words : Nat) (r_law : Nat) (r_place : Nat) (r_drawn : Nat) (a1 : Int32) (a2 : Int32)  : Met l yX11_sounds (Cond.code yX11_sounds cX11_sounds 3 (some .int) :: wsL_law) ({ frames := 1, cells := 0, slots := 0, locals := 25 }) (roP D (tyL cB cI cJ cZ cS cT) [(x0, .inr (11, [.ref r_tape, .ref r_reader, .ref r_now, .ref r_trial, .ref r_images, .ref r_kept, .ref r_slots, .ref r_night, .ref r_other, .ref r_circle, .ref r_words, .ref r_law, .ref r_place, .ref r_drawn]))] [.ref x0, .int a1, .int a2]) (vp_Si (fun r : Int32 => r = S_sounds a1 a2)) 0 0 (fun _ => False) := by
  refine Met.ofW (cc := cX11_sounds) (maxL := 3) (ret := (some .int)) (by decide) rfl ?_
  intro p e s m args below meth c s₁ B hml hv
  obtain ⟨rfl, hP, hK⟩ := hv
  have hx := B.exec
  have hb := B.bytes
  have hr := B.returns
  have hts : ∀ w ∈ wsL_law, w.before ([.ref x0, .int a1, .int a2] : List Value).toArray s = true := fun w h => atoms_spec (ws := Cond.code yX11_sounds cX11_sounds 3 (some .int) :: wsL_law) B.pre w (List.mem_cons_of_mem _ h)
  have hown : s.vm.findClass RX11 = some m.cls := findClass_of_methodNamed B.named
  have hlocks := B.notSynchronized
  have hl := lv_entry ([.ref x0, .int a1, .int a2]) (n := 3) (Nat.le_of_ble_eq_true rfl)
  rw [lg_entry_eq]
  generalize (lg_sl ([.ref x0, .int a1, .int a2]) ++ List.replicate (3 - (lg_sl ([.ref x0, .int a1, .int a2])).length) Slot.unset).toArray = ls at hl ⊢
  have hl : lv_has ls 3 [(0, .ref x0), (1, .int a1), (2, .int a2)] := hl
  have hP : va_P D vwCl [(x0, .inr (11, [.ref r_tape, .ref r_reader, .ref r_now, .ref r_trial, .ref r_images, .ref r_kept, .ref r_slots, .ref r_night, .ref r_other, .ref r_circle, .ref r_words, .ref r_law, .ref r_place, .ref r_drawn]))] s.heap := hP
  refine lv_iload_n hx hb dX11_sounds_0 rfl (lv_at hl 1 rfl) ?_
  obtain ⟨t_1, et_1⟩ : ∃ v9 : Int64, (a1 : Int32).toInt64 = v9 := ⟨_, rfl⟩
  refine lv_i2l (v := t_1) hx hb dX11_sounds_1 et_1 ?_
  have ft_1 : t_1.toInt = a1.toInt := by rw [← et_1]; exact Int32.toInt_toInt64 _
  refine lv_lconst (v := 0) hx hb dX11_sounds_2 (by decide) ?_
  refine lv_ldc2 hx hb hown (hts _ (inr51 _ (List.mem_of_getElem? (i := 22) rfl))) dX11_sounds_3 ?_
  refine rosi (As := [.long t_1, .long 0, .long 3]) (rest := []) ⟨hx, hb, hml, hown, hts⟩ (k_outside l D cB cI cJ cZ cS cT t_1 0 3 ) (csB (n := 3) (inr8 _ (List.mem_of_getElem? (i := 16) rfl)) (inr8 _ (List.mem_of_getElem? (i := 17) rfl)) (inr1 _ (List.mem_of_getElem? (i := 2) rfl)) (inr8 _ (List.mem_of_getElem? (i := 18) rfl)) (by decide +kernel) hts rfl rfl ⟨Nat.le_of_ble_eq_true rfl, Nat.le_of_ble_eq_true rfl⟩) (hP.sub [] rfl) hK rfl hl.1 rfl (Nat.le_of_ble_eq_true rfl) ⟨Nat.le_of_ble_eq_true rfl, Nat.le_of_ble_eq_true rfl⟩ dX11_sounds_6 (fun r_2 h_3 => ?_)
  rcases h_3 with ⟨rfl, k_4⟩ | ⟨rfl, k_4⟩
  · have k_4 : t_1.toInt < 0 ∨ 3 < t_1.toInt := k_4
    refine lv_if_ne (tgt := 24) hx hb dX11_sounds_9 (by decide) (fun _ => ?_) (fun c0 => absurd c0 (by decide))
    refine lv_sipush (v := (-1000)) hx hb dX11_sounds_24 (by decide) ?_
    refine lv_goto (tgt := 35) hx hb dX11_sounds_27 (by decide) ?_
    exact W.iret (v := (-1000)) hx hb hr (fun t ht hW => ⟨_, rfl, (by subst_vars; unfold S_sounds; split <;> first | rfl | (exfalso; omega)), ht⟩) (fun _ h => by cases h) dX11_sounds_35
  · have k_4 : 0 ≤ t_1.toInt ∧ t_1.toInt ≤ 3 := k_4
    refine lv_if_ne (tgt := 24) hx hb dX11_sounds_9 (by decide) (fun c0 => absurd c0 (by decide)) (fun _ => ?_)
    refine lv_iload_n hx hb dX11_sounds_12 rfl (lv_at hl 2 rfl) ?_
    obtain ⟨t_5, et_5⟩ : ∃ v9 : Int64, (a2 : Int32).toInt64 = v9 := ⟨_, rfl⟩
    refine lv_i2l (v := t_5) hx hb dX11_sounds_13 et_5 ?_
    have ft_5 : t_5.toInt = a2.toInt := by rw [← et_5]; exact Int32.toInt_toInt64 _
    refine lv_lconst (v := 0) hx hb dX11_sounds_14 (by decide) ?_
    refine lv_ldc2 hx hb hown (hts _ (inr51 _ (List.mem_of_getElem? (i := 22) rfl))) dX11_sounds_15 ?_
    refine rosi (As := [.long t_5, .long 0, .long 3]) (rest := []) ⟨hx, hb, hml, hown, hts⟩ (k_outside l D cB cI cJ cZ cS cT t_5 0 3 ) (csB (n := 3) (inr8 _ (List.mem_of_getElem? (i := 16) rfl)) (inr8 _ (List.mem_of_getElem? (i := 17) rfl)) (inr1 _ (List.mem_of_getElem? (i := 2) rfl)) (inr8 _ (List.mem_of_getElem? (i := 18) rfl)) (by decide +kernel) hts rfl rfl ⟨Nat.le_of_ble_eq_true rfl, Nat.le_of_ble_eq_true rfl⟩) (hP.sub [] rfl) hK rfl hl.1 rfl (Nat.le_of_ble_eq_true rfl) ⟨Nat.le_of_ble_eq_true rfl, Nat.le_of_ble_eq_true rfl⟩ dX11_sounds_18 (fun r_6 h_7 => ?_)
    rcases h_7 with ⟨rfl, k_8⟩ | ⟨rfl, k_8⟩
    · have k_8 : t_5.toInt < 0 ∨ 3 < t_5.toInt := k_8
      refine lv_if_eq (tgt := 30) hx hb dX11_sounds_21 (by decide) (fun c0 => absurd c0 (by decide)) (fun _ => ?_)
      refine lv_sipush (v := (-1000)) hx hb dX11_sounds_24 (by decide) ?_
      refine lv_goto (tgt := 35) hx hb dX11_sounds_27 (by decide) ?_
      exact W.iret (v := (-1000)) hx hb hr (fun t ht hW => ⟨_, rfl, (by subst_vars; unfold S_sounds; split <;> first | rfl | (exfalso; omega)), ht⟩) (fun _ h => by cases h) dX11_sounds_35
    · have k_8 : 0 ≤ t_5.toInt ∧ t_5.toInt ≤ 3 := k_8
      refine lv_if_eq (tgt := 30) hx hb dX11_sounds_21 (by decide) (fun _ => ?_) (fun c0 => absurd c0 (by decide))
      refine lv_iload_n hx hb dX11_sounds_30 rfl (lv_at hl 1 rfl) ?_
      refine lv_iload_n hx hb dX11_sounds_31 rfl (lv_at hl 2 rfl) ?_
      refine rosi (As := [.int a1, .int a2]) (rest := []) ⟨hx, hb, hml, hown, hts⟩ (k_reward l D cB cI cJ cZ cS cT a1 a2 ) (csB (n := 2) (inr62 _ (List.mem_of_getElem? (i := 16) rfl)) (inr62 _ (List.mem_of_getElem? (i := 17) rfl)) (inr1 _ (List.mem_of_getElem? (i := 2) rfl)) (inr62 _ (List.mem_of_getElem? (i := 18) rfl)) (by decide +kernel) hts rfl rfl ⟨Nat.le_of_ble_eq_true rfl, Nat.le_of_ble_eq_true rfl⟩) (hP.sub [] rfl) hK rfl hl.1 rfl (Nat.le_of_ble_eq_true rfl) ⟨Nat.le_of_ble_eq_true rfl, Nat.le_of_ble_eq_true rfl⟩ dX11_sounds_32 (fun r_9 h_10 => ?_)
      exact W.iret (v := r_9) hx hb hr (fun t ht hW => ⟨_, rfl, (by subst_vars; unfold S_sounds; split <;> first | rfl | (exfalso; omega)), ht⟩) (fun _ h => by cases h) dX11_sounds_35

set_option maxHeartbeats 4000000 in
set_option maxRecDepth 100000 in
theorem kx_best (l : Launch) (D : va_G) (cB cI cJ cZ cS cT : ClassId) (x0 : Nat) (r_tape : Nat) (r_reader : Nat) (r_now : Nat) (r_trial : Nat) (r_images : Nat) (r_kept : Nat) (r_slots : Nat) (r_night : Nat) (r_other : Nat) (r_circle : Nat) (r_words : Nat) (r_law : Nat) (r_place : Nat) (r_drawn : Nat) (a1 : Int32)  : Met l yX11_best (Cond.code yX11_best cX11_best 4 (some .int) :: wsL_law) ({ frames := 1, cells := 0, slots := 0, locals := 25 }) (roP D (tyL cB cI cJ cZ cS cT) [(x0, .inr (11, [.ref r_tape, .ref r_reader, .ref r_now, .ref r_trial, .ref r_images, .ref r_kept, .ref r_slots, .ref r_night, .ref r_other, .ref r_circle, .ref r_words, .ref r_law, .ref r_place, .ref r_drawn]))] [.ref x0, .int a1]) (vp_Si (fun r : Int32 => r = S_best a1)) 0 0 (fun _ => False) := by
  refine Met.ofW (cc := cX11_best) (maxL := 4) (ret := (some .int)) (by decide) rfl ?_
  intro p e s m args below meth c s₁ B hml hv
  obtain ⟨rfl, hP, hK⟩ := hv
  have hx := B.exec
  have hb := B.bytes
  have hr := B.returns
  have hts : ∀ w ∈ wsL_law, w.before ([.ref x0, .int a1] : List Value).toArray s = true := fun w h => atoms_spec (ws := Cond.code yX11_best cX11_best 4 (some .int) :: wsL_law) B.pre w (List.mem_cons_of_mem _ h)
  have hown : s.vm.findClass RX11 = some m.cls := findClass_of_methodNamed B.named
  have hlocks := B.notSynchronized
  have hl := lv_entry ([.ref x0, .int a1]) (n := 4) (Nat.le_of_ble_eq_true rfl)
  rw [lg_entry_eq]
  generalize (lg_sl ([.ref x0, .int a1]) ++ List.replicate (4 - (lg_sl ([.ref x0, .int a1])).length) Slot.unset).toArray = ls at hl ⊢
  have hl : lv_has ls 4 [(0, .ref x0), (1, .int a1)] := hl
  have hP : va_P D vwCl [(x0, .inr (11, [.ref r_tape, .ref r_reader, .ref r_now, .ref r_trial, .ref r_images, .ref r_kept, .ref r_slots, .ref r_night, .ref r_other, .ref r_circle, .ref r_words, .ref r_law, .ref r_place, .ref r_drawn]))] s.heap := hP
  refine lv_iload_n hx hb dX11_best_0 rfl (lv_at hl 1 rfl) ?_
  obtain ⟨t_1, et_1⟩ : ∃ v9 : Int64, (a1 : Int32).toInt64 = v9 := ⟨_, rfl⟩
  refine lv_i2l (v := t_1) hx hb dX11_best_1 et_1 ?_
  have ft_1 : t_1.toInt = a1.toInt := by rw [← et_1]; exact Int32.toInt_toInt64 _
  refine lv_lconst (v := 0) hx hb dX11_best_2 (by decide) ?_
  refine lv_ldc2 hx hb hown (hts _ (inr51 _ (List.mem_of_getElem? (i := 22) rfl))) dX11_best_3 ?_
  refine rosi (As := [.long t_1, .long 0, .long 3]) (rest := []) ⟨hx, hb, hml, hown, hts⟩ (k_outside l D cB cI cJ cZ cS cT t_1 0 3 ) (csB (n := 3) (inr8 _ (List.mem_of_getElem? (i := 16) rfl)) (inr8 _ (List.mem_of_getElem? (i := 17) rfl)) (inr1 _ (List.mem_of_getElem? (i := 2) rfl)) (inr8 _ (List.mem_of_getElem? (i := 18) rfl)) (by decide +kernel) hts rfl rfl ⟨Nat.le_of_ble_eq_true rfl, Nat.le_of_ble_eq_true rfl⟩) (hP.sub [] rfl) hK rfl hl.1 rfl (Nat.le_of_ble_eq_true rfl) ⟨Nat.le_of_ble_eq_true rfl, Nat.le_of_ble_eq_true rfl⟩ dX11_best_6 (fun r_2 h_3 => ?_)
  rcases h_3 with ⟨rfl, k_4⟩ | ⟨rfl, k_4⟩
  · have k_4 : t_1.toInt < 0 ∨ 3 < t_1.toInt := k_4
    refine lv_if_eq (tgt := 15) hx hb dX11_best_9 (by decide) (fun c0 => absurd c0 (by decide)) (fun _ => ?_)
    refine lv_bipush (v := (-2)) hx hb dX11_best_12 (by decide) ?_
    exact W.iret (v := (-2)) hx hb hr (fun t ht hW => ⟨_, rfl, (by unfold S_best; repeat' split <;> first | rfl | (exfalso; omega)), ht⟩) (fun _ h => by cases h) dX11_best_14
  · have k_4 : 0 ≤ t_1.toInt ∧ t_1.toInt ≤ 3 := k_4
    refine lv_if_eq (tgt := 15) hx hb dX11_best_9 (by decide) (fun _ => ?_) (fun c0 => absurd c0 (by decide))
    rcases in4 (x := a1) (by omega) (by omega) with rfl | rfl | rfl | rfl
    · have hl : lv_has ls 4 [(0, .ref x0), (1, .int 0)] := hl
      refine lv_iconst (v := 0) hx hb dX11_best_15 (by decide) ?_
      refine lv_istore_n (lv' := [(2, .int 0), (0, .ref x0), (1, .int 0)]) hx hb dX11_best_16 rfl hl (by decide) rfl (fun ls hl => ?_)
      refine lv_iconst (v := 1) hx hb dX11_best_17 (by decide) ?_
      refine lv_istore_n (lv' := [(3, .int 1), (2, .int 0), (0, .ref x0), (1, .int 0)]) hx hb dX11_best_18 rfl hl (by decide) rfl (fun ls hl => ?_)
      refine lv_iload_n hx hb dX11_best_19 rfl (lv_at hl 0 rfl) ?_
      refine lv_iconst (v := 3) hx hb dX11_best_20 (by decide) ?_
      refine lv_icmp_gt (tgt := 45) hx hb dX11_best_21 (by decide) (fun c0 => absurd c0 (by decide)) (fun _ => ?_)
      refine lv_iload_n hx hb dX11_best_24 rfl (lv_at hl 0 rfl) ?_
      refine lv_iload_n hx hb dX11_best_25 rfl (lv_at hl 3 rfl) ?_
      refine rosi (As := [.int 1, .int 0]) (rest := []) ⟨hx, hb, hml, hown, hts⟩ (k_reward l D cB cI cJ cZ cS cT 1 0 ) (csB (n := 2) (inr62 _ (List.mem_of_getElem? (i := 16) rfl)) (inr62 _ (List.mem_of_getElem? (i := 17) rfl)) (inr1 _ (List.mem_of_getElem? (i := 2) rfl)) (inr62 _ (List.mem_of_getElem? (i := 18) rfl)) (by decide +kernel) hts rfl rfl ⟨Nat.le_of_ble_eq_true rfl, Nat.le_of_ble_eq_true rfl⟩) (hP.sub [] rfl) hK rfl hl.1 rfl (Nat.le_of_ble_eq_true rfl) ⟨Nat.le_of_ble_eq_true rfl, Nat.le_of_ble_eq_true rfl⟩ dX11_best_26 (fun r_5 h_6 => ?_)
      obtain rfl : r_5 = 9 := h_6.trans (by decide)
      refine lv_iload_n hx hb dX11_best_29 rfl (lv_at hl 1 rfl) ?_
      refine lv_iload_n hx hb dX11_best_30 rfl (lv_at hl 3 rfl) ?_
      refine rosi (As := [.int 0, .int 0]) (rest := [.int 9]) ⟨hx, hb, hml, hown, hts⟩ (k_reward l D cB cI cJ cZ cS cT 0 0 ) (csB (n := 2) (inr62 _ (List.mem_of_getElem? (i := 16) rfl)) (inr62 _ (List.mem_of_getElem? (i := 17) rfl)) (inr1 _ (List.mem_of_getElem? (i := 2) rfl)) (inr62 _ (List.mem_of_getElem? (i := 18) rfl)) (by decide +kernel) hts rfl rfl ⟨Nat.le_of_ble_eq_true rfl, Nat.le_of_ble_eq_true rfl⟩) (hP.sub [] rfl) hK rfl hl.1 rfl (Nat.le_of_ble_eq_true rfl) ⟨Nat.le_of_ble_eq_true rfl, Nat.le_of_ble_eq_true rfl⟩ dX11_best_31 (fun r_7 h_8 => ?_)
      obtain rfl : r_7 = 4 := h_8.trans (by decide)
      refine lv_icmp_le (tgt := 39) hx hb dX11_best_34 (by decide) (fun c0 => absurd c0 (by decide)) (fun _ => ?_)
      refine lv_iload_n hx hb dX11_best_37 rfl (lv_at hl 0 rfl) ?_
      refine lv_istore_n (lv' := [(2, .int 1), (3, .int 1), (0, .ref x0), (1, .int 0)]) hx hb dX11_best_38 rfl hl (by decide) rfl (fun ls hl => ?_)
      refine lv_iinc (v := 2) (lv' := [(3, .int 2), (2, .int 1), (0, .ref x0), (1, .int 0)]) hx hb dX11_best_39 hl (k := 1) rfl (by decide) (by decide) rfl (fun ls hl => ?_)
      refine lv_goto (tgt := 19) hx hb dX11_best_42 (by decide) ?_
      refine lv_iload_n hx hb dX11_best_19 rfl (lv_at hl 0 rfl) ?_
      refine lv_iconst (v := 3) hx hb dX11_best_20 (by decide) ?_
      refine lv_icmp_gt (tgt := 45) hx hb dX11_best_21 (by decide) (fun c0 => absurd c0 (by decide)) (fun _ => ?_)
      refine lv_iload_n hx hb dX11_best_24 rfl (lv_at hl 0 rfl) ?_
      refine lv_iload_n hx hb dX11_best_25 rfl (lv_at hl 3 rfl) ?_
      refine rosi (As := [.int 2, .int 0]) (rest := []) ⟨hx, hb, hml, hown, hts⟩ (k_reward l D cB cI cJ cZ cS cT 2 0 ) (csB (n := 2) (inr62 _ (List.mem_of_getElem? (i := 16) rfl)) (inr62 _ (List.mem_of_getElem? (i := 17) rfl)) (inr1 _ (List.mem_of_getElem? (i := 2) rfl)) (inr62 _ (List.mem_of_getElem? (i := 18) rfl)) (by decide +kernel) hts rfl rfl ⟨Nat.le_of_ble_eq_true rfl, Nat.le_of_ble_eq_true rfl⟩) (hP.sub [] rfl) hK rfl hl.1 rfl (Nat.le_of_ble_eq_true rfl) ⟨Nat.le_of_ble_eq_true rfl, Nat.le_of_ble_eq_true rfl⟩ dX11_best_26 (fun r_9 h_10 => ?_)
      obtain rfl : r_9 = 6 := h_10.trans (by decide)
      refine lv_iload_n hx hb dX11_best_29 rfl (lv_at hl 1 rfl) ?_
      refine lv_iload_n hx hb dX11_best_30 rfl (lv_at hl 3 rfl) ?_
      refine rosi (As := [.int 1, .int 0]) (rest := [.int 6]) ⟨hx, hb, hml, hown, hts⟩ (k_reward l D cB cI cJ cZ cS cT 1 0 ) (csB (n := 2) (inr62 _ (List.mem_of_getElem? (i := 16) rfl)) (inr62 _ (List.mem_of_getElem? (i := 17) rfl)) (inr1 _ (List.mem_of_getElem? (i := 2) rfl)) (inr62 _ (List.mem_of_getElem? (i := 18) rfl)) (by decide +kernel) hts rfl rfl ⟨Nat.le_of_ble_eq_true rfl, Nat.le_of_ble_eq_true rfl⟩) (hP.sub [] rfl) hK rfl hl.1 rfl (Nat.le_of_ble_eq_true rfl) ⟨Nat.le_of_ble_eq_true rfl, Nat.le_of_ble_eq_true rfl⟩ dX11_best_31 (fun r_11 h_12 => ?_)
      obtain rfl : r_11 = 9 := h_12.trans (by decide)
      refine lv_icmp_le (tgt := 39) hx hb dX11_best_34 (by decide) (fun _ => ?_) (fun c0 => absurd c0 (by decide))
      refine lv_iinc (v := 3) (lv' := [(3, .int 3), (2, .int 1), (0, .ref x0), (1, .int 0)]) hx hb dX11_best_39 hl (k := 0) rfl (by decide) (by decide) rfl (fun ls hl => ?_)
      refine lv_goto (tgt := 19) hx hb dX11_best_42 (by decide) ?_
      refine lv_iload_n hx hb dX11_best_19 rfl (lv_at hl 0 rfl) ?_
      refine lv_iconst (v := 3) hx hb dX11_best_20 (by decide) ?_
      refine lv_icmp_gt (tgt := 45) hx hb dX11_best_21 (by decide) (fun c0 => absurd c0 (by decide)) (fun _ => ?_)
      refine lv_iload_n hx hb dX11_best_24 rfl (lv_at hl 0 rfl) ?_
      refine lv_iload_n hx hb dX11_best_25 rfl (lv_at hl 3 rfl) ?_
      refine rosi (As := [.int 3, .int 0]) (rest := []) ⟨hx, hb, hml, hown, hts⟩ (k_reward l D cB cI cJ cZ cS cT 3 0 ) (csB (n := 2) (inr62 _ (List.mem_of_getElem? (i := 16) rfl)) (inr62 _ (List.mem_of_getElem? (i := 17) rfl)) (inr1 _ (List.mem_of_getElem? (i := 2) rfl)) (inr62 _ (List.mem_of_getElem? (i := 18) rfl)) (by decide +kernel) hts rfl rfl ⟨Nat.le_of_ble_eq_true rfl, Nat.le_of_ble_eq_true rfl⟩) (hP.sub [] rfl) hK rfl hl.1 rfl (Nat.le_of_ble_eq_true rfl) ⟨Nat.le_of_ble_eq_true rfl, Nat.le_of_ble_eq_true rfl⟩ dX11_best_26 (fun r_13 h_14 => ?_)
      obtain rfl : r_13 = 1 := h_14.trans (by decide)
      refine lv_iload_n hx hb dX11_best_29 rfl (lv_at hl 1 rfl) ?_
      refine lv_iload_n hx hb dX11_best_30 rfl (lv_at hl 3 rfl) ?_
      refine rosi (As := [.int 1, .int 0]) (rest := [.int 1]) ⟨hx, hb, hml, hown, hts⟩ (k_reward l D cB cI cJ cZ cS cT 1 0 ) (csB (n := 2) (inr62 _ (List.mem_of_getElem? (i := 16) rfl)) (inr62 _ (List.mem_of_getElem? (i := 17) rfl)) (inr1 _ (List.mem_of_getElem? (i := 2) rfl)) (inr62 _ (List.mem_of_getElem? (i := 18) rfl)) (by decide +kernel) hts rfl rfl ⟨Nat.le_of_ble_eq_true rfl, Nat.le_of_ble_eq_true rfl⟩) (hP.sub [] rfl) hK rfl hl.1 rfl (Nat.le_of_ble_eq_true rfl) ⟨Nat.le_of_ble_eq_true rfl, Nat.le_of_ble_eq_true rfl⟩ dX11_best_31 (fun r_15 h_16 => ?_)
      obtain rfl : r_15 = 9 := h_16.trans (by decide)
      refine lv_icmp_le (tgt := 39) hx hb dX11_best_34 (by decide) (fun _ => ?_) (fun c0 => absurd c0 (by decide))
      refine lv_iinc (v := 4) (lv' := [(3, .int 4), (2, .int 1), (0, .ref x0), (1, .int 0)]) hx hb dX11_best_39 hl (k := 0) rfl (by decide) (by decide) rfl (fun ls hl => ?_)
      refine lv_goto (tgt := 19) hx hb dX11_best_42 (by decide) ?_
      refine lv_iload_n hx hb dX11_best_19 rfl (lv_at hl 0 rfl) ?_
      refine lv_iconst (v := 3) hx hb dX11_best_20 (by decide) ?_
      refine lv_icmp_gt (tgt := 45) hx hb dX11_best_21 (by decide) (fun _ => ?_) (fun c0 => absurd c0 (by decide))
      refine lv_iload_n hx hb dX11_best_45 rfl (lv_at hl 1 rfl) ?_
      exact W.iret (v := 1) hx hb hr (fun t ht hW => ⟨_, rfl, (by decide), ht⟩) (fun _ h => by cases h) dX11_best_46
    · have hl : lv_has ls 4 [(0, .ref x0), (1, .int 1)] := hl
      refine lv_iconst (v := 0) hx hb dX11_best_15 (by decide) ?_
      refine lv_istore_n (lv' := [(2, .int 0), (0, .ref x0), (1, .int 1)]) hx hb dX11_best_16 rfl hl (by decide) rfl (fun ls hl => ?_)
      refine lv_iconst (v := 1) hx hb dX11_best_17 (by decide) ?_
      refine lv_istore_n (lv' := [(3, .int 1), (2, .int 0), (0, .ref x0), (1, .int 1)]) hx hb dX11_best_18 rfl hl (by decide) rfl (fun ls hl => ?_)
      refine lv_iload_n hx hb dX11_best_19 rfl (lv_at hl 0 rfl) ?_
      refine lv_iconst (v := 3) hx hb dX11_best_20 (by decide) ?_
      refine lv_icmp_gt (tgt := 45) hx hb dX11_best_21 (by decide) (fun c0 => absurd c0 (by decide)) (fun _ => ?_)
      refine lv_iload_n hx hb dX11_best_24 rfl (lv_at hl 0 rfl) ?_
      refine lv_iload_n hx hb dX11_best_25 rfl (lv_at hl 3 rfl) ?_
      refine rosi (As := [.int 1, .int 1]) (rest := []) ⟨hx, hb, hml, hown, hts⟩ (k_reward l D cB cI cJ cZ cS cT 1 1 ) (csB (n := 2) (inr62 _ (List.mem_of_getElem? (i := 16) rfl)) (inr62 _ (List.mem_of_getElem? (i := 17) rfl)) (inr1 _ (List.mem_of_getElem? (i := 2) rfl)) (inr62 _ (List.mem_of_getElem? (i := 18) rfl)) (by decide +kernel) hts rfl rfl ⟨Nat.le_of_ble_eq_true rfl, Nat.le_of_ble_eq_true rfl⟩) (hP.sub [] rfl) hK rfl hl.1 rfl (Nat.le_of_ble_eq_true rfl) ⟨Nat.le_of_ble_eq_true rfl, Nat.le_of_ble_eq_true rfl⟩ dX11_best_26 (fun r_17 h_18 => ?_)
      obtain rfl : r_17 = 3 := h_18.trans (by decide)
      refine lv_iload_n hx hb dX11_best_29 rfl (lv_at hl 1 rfl) ?_
      refine lv_iload_n hx hb dX11_best_30 rfl (lv_at hl 3 rfl) ?_
      refine rosi (As := [.int 0, .int 1]) (rest := [.int 3]) ⟨hx, hb, hml, hown, hts⟩ (k_reward l D cB cI cJ cZ cS cT 0 1 ) (csB (n := 2) (inr62 _ (List.mem_of_getElem? (i := 16) rfl)) (inr62 _ (List.mem_of_getElem? (i := 17) rfl)) (inr1 _ (List.mem_of_getElem? (i := 2) rfl)) (inr62 _ (List.mem_of_getElem? (i := 18) rfl)) (by decide +kernel) hts rfl rfl ⟨Nat.le_of_ble_eq_true rfl, Nat.le_of_ble_eq_true rfl⟩) (hP.sub [] rfl) hK rfl hl.1 rfl (Nat.le_of_ble_eq_true rfl) ⟨Nat.le_of_ble_eq_true rfl, Nat.le_of_ble_eq_true rfl⟩ dX11_best_31 (fun r_19 h_20 => ?_)
      obtain rfl : r_19 = 0 := h_20.trans (by decide)
      refine lv_icmp_le (tgt := 39) hx hb dX11_best_34 (by decide) (fun c0 => absurd c0 (by decide)) (fun _ => ?_)
      refine lv_iload_n hx hb dX11_best_37 rfl (lv_at hl 0 rfl) ?_
      refine lv_istore_n (lv' := [(2, .int 1), (3, .int 1), (0, .ref x0), (1, .int 1)]) hx hb dX11_best_38 rfl hl (by decide) rfl (fun ls hl => ?_)
      refine lv_iinc (v := 2) (lv' := [(3, .int 2), (2, .int 1), (0, .ref x0), (1, .int 1)]) hx hb dX11_best_39 hl (k := 1) rfl (by decide) (by decide) rfl (fun ls hl => ?_)
      refine lv_goto (tgt := 19) hx hb dX11_best_42 (by decide) ?_
      refine lv_iload_n hx hb dX11_best_19 rfl (lv_at hl 0 rfl) ?_
      refine lv_iconst (v := 3) hx hb dX11_best_20 (by decide) ?_
      refine lv_icmp_gt (tgt := 45) hx hb dX11_best_21 (by decide) (fun c0 => absurd c0 (by decide)) (fun _ => ?_)
      refine lv_iload_n hx hb dX11_best_24 rfl (lv_at hl 0 rfl) ?_
      refine lv_iload_n hx hb dX11_best_25 rfl (lv_at hl 3 rfl) ?_
      refine rosi (As := [.int 2, .int 1]) (rest := []) ⟨hx, hb, hml, hown, hts⟩ (k_reward l D cB cI cJ cZ cS cT 2 1 ) (csB (n := 2) (inr62 _ (List.mem_of_getElem? (i := 16) rfl)) (inr62 _ (List.mem_of_getElem? (i := 17) rfl)) (inr1 _ (List.mem_of_getElem? (i := 2) rfl)) (inr62 _ (List.mem_of_getElem? (i := 18) rfl)) (by decide +kernel) hts rfl rfl ⟨Nat.le_of_ble_eq_true rfl, Nat.le_of_ble_eq_true rfl⟩) (hP.sub [] rfl) hK rfl hl.1 rfl (Nat.le_of_ble_eq_true rfl) ⟨Nat.le_of_ble_eq_true rfl, Nat.le_of_ble_eq_true rfl⟩ dX11_best_26 (fun r_21 h_22 => ?_)
      obtain rfl : r_21 = 6 := h_22.trans (by decide)
      refine lv_iload_n hx hb dX11_best_29 rfl (lv_at hl 1 rfl) ?_
      refine lv_iload_n hx hb dX11_best_30 rfl (lv_at hl 3 rfl) ?_
      refine rosi (As := [.int 1, .int 1]) (rest := [.int 6]) ⟨hx, hb, hml, hown, hts⟩ (k_reward l D cB cI cJ cZ cS cT 1 1 ) (csB (n := 2) (inr62 _ (List.mem_of_getElem? (i := 16) rfl)) (inr62 _ (List.mem_of_getElem? (i := 17) rfl)) (inr1 _ (List.mem_of_getElem? (i := 2) rfl)) (inr62 _ (List.mem_of_getElem? (i := 18) rfl)) (by decide +kernel) hts rfl rfl ⟨Nat.le_of_ble_eq_true rfl, Nat.le_of_ble_eq_true rfl⟩) (hP.sub [] rfl) hK rfl hl.1 rfl (Nat.le_of_ble_eq_true rfl) ⟨Nat.le_of_ble_eq_true rfl, Nat.le_of_ble_eq_true rfl⟩ dX11_best_31 (fun r_23 h_24 => ?_)
      obtain rfl : r_23 = 3 := h_24.trans (by decide)
      refine lv_icmp_le (tgt := 39) hx hb dX11_best_34 (by decide) (fun c0 => absurd c0 (by decide)) (fun _ => ?_)
      refine lv_iload_n hx hb dX11_best_37 rfl (lv_at hl 0 rfl) ?_
      refine lv_istore_n (lv' := [(2, .int 2), (3, .int 2), (0, .ref x0), (1, .int 1)]) hx hb dX11_best_38 rfl hl (by decide) rfl (fun ls hl => ?_)
      refine lv_iinc (v := 3) (lv' := [(3, .int 3), (2, .int 2), (0, .ref x0), (1, .int 1)]) hx hb dX11_best_39 hl (k := 1) rfl (by decide) (by decide) rfl (fun ls hl => ?_)
      refine lv_goto (tgt := 19) hx hb dX11_best_42 (by decide) ?_
      refine lv_iload_n hx hb dX11_best_19 rfl (lv_at hl 0 rfl) ?_
      refine lv_iconst (v := 3) hx hb dX11_best_20 (by decide) ?_
      refine lv_icmp_gt (tgt := 45) hx hb dX11_best_21 (by decide) (fun c0 => absurd c0 (by decide)) (fun _ => ?_)
      refine lv_iload_n hx hb dX11_best_24 rfl (lv_at hl 0 rfl) ?_
      refine lv_iload_n hx hb dX11_best_25 rfl (lv_at hl 3 rfl) ?_
      refine rosi (As := [.int 3, .int 1]) (rest := []) ⟨hx, hb, hml, hown, hts⟩ (k_reward l D cB cI cJ cZ cS cT 3 1 ) (csB (n := 2) (inr62 _ (List.mem_of_getElem? (i := 16) rfl)) (inr62 _ (List.mem_of_getElem? (i := 17) rfl)) (inr1 _ (List.mem_of_getElem? (i := 2) rfl)) (inr62 _ (List.mem_of_getElem? (i := 18) rfl)) (by decide +kernel) hts rfl rfl ⟨Nat.le_of_ble_eq_true rfl, Nat.le_of_ble_eq_true rfl⟩) (hP.sub [] rfl) hK rfl hl.1 rfl (Nat.le_of_ble_eq_true rfl) ⟨Nat.le_of_ble_eq_true rfl, Nat.le_of_ble_eq_true rfl⟩ dX11_best_26 (fun r_25 h_26 => ?_)
      obtain rfl : r_25 = 1 := h_26.trans (by decide)
      refine lv_iload_n hx hb dX11_best_29 rfl (lv_at hl 1 rfl) ?_
      refine lv_iload_n hx hb dX11_best_30 rfl (lv_at hl 3 rfl) ?_
      refine rosi (As := [.int 2, .int 1]) (rest := [.int 1]) ⟨hx, hb, hml, hown, hts⟩ (k_reward l D cB cI cJ cZ cS cT 2 1 ) (csB (n := 2) (inr62 _ (List.mem_of_getElem? (i := 16) rfl)) (inr62 _ (List.mem_of_getElem? (i := 17) rfl)) (inr1 _ (List.mem_of_getElem? (i := 2) rfl)) (inr62 _ (List.mem_of_getElem? (i := 18) rfl)) (by decide +kernel) hts rfl rfl ⟨Nat.le_of_ble_eq_true rfl, Nat.le_of_ble_eq_true rfl⟩) (hP.sub [] rfl) hK rfl hl.1 rfl (Nat.le_of_ble_eq_true rfl) ⟨Nat.le_of_ble_eq_true rfl, Nat.le_of_ble_eq_true rfl⟩ dX11_best_31 (fun r_27 h_28 => ?_)
      obtain rfl : r_27 = 6 := h_28.trans (by decide)
      refine lv_icmp_le (tgt := 39) hx hb dX11_best_34 (by decide) (fun _ => ?_) (fun c0 => absurd c0 (by decide))
      refine lv_iinc (v := 4) (lv' := [(3, .int 4), (2, .int 2), (0, .ref x0), (1, .int 1)]) hx hb dX11_best_39 hl (k := 0) rfl (by decide) (by decide) rfl (fun ls hl => ?_)
      refine lv_goto (tgt := 19) hx hb dX11_best_42 (by decide) ?_
      refine lv_iload_n hx hb dX11_best_19 rfl (lv_at hl 0 rfl) ?_
      refine lv_iconst (v := 3) hx hb dX11_best_20 (by decide) ?_
      refine lv_icmp_gt (tgt := 45) hx hb dX11_best_21 (by decide) (fun _ => ?_) (fun c0 => absurd c0 (by decide))
      refine lv_iload_n hx hb dX11_best_45 rfl (lv_at hl 1 rfl) ?_
      exact W.iret (v := 2) hx hb hr (fun t ht hW => ⟨_, rfl, (by decide), ht⟩) (fun _ h => by cases h) dX11_best_46
    · have hl : lv_has ls 4 [(0, .ref x0), (1, .int 2)] := hl
      refine lv_iconst (v := 0) hx hb dX11_best_15 (by decide) ?_
      refine lv_istore_n (lv' := [(2, .int 0), (0, .ref x0), (1, .int 2)]) hx hb dX11_best_16 rfl hl (by decide) rfl (fun ls hl => ?_)
      refine lv_iconst (v := 1) hx hb dX11_best_17 (by decide) ?_
      refine lv_istore_n (lv' := [(3, .int 1), (2, .int 0), (0, .ref x0), (1, .int 2)]) hx hb dX11_best_18 rfl hl (by decide) rfl (fun ls hl => ?_)
      refine lv_iload_n hx hb dX11_best_19 rfl (lv_at hl 0 rfl) ?_
      refine lv_iconst (v := 3) hx hb dX11_best_20 (by decide) ?_
      refine lv_icmp_gt (tgt := 45) hx hb dX11_best_21 (by decide) (fun c0 => absurd c0 (by decide)) (fun _ => ?_)
      refine lv_iload_n hx hb dX11_best_24 rfl (lv_at hl 0 rfl) ?_
      refine lv_iload_n hx hb dX11_best_25 rfl (lv_at hl 3 rfl) ?_
      refine rosi (As := [.int 1, .int 2]) (rest := []) ⟨hx, hb, hml, hown, hts⟩ (k_reward l D cB cI cJ cZ cS cT 1 2 ) (csB (n := 2) (inr62 _ (List.mem_of_getElem? (i := 16) rfl)) (inr62 _ (List.mem_of_getElem? (i := 17) rfl)) (inr1 _ (List.mem_of_getElem? (i := 2) rfl)) (inr62 _ (List.mem_of_getElem? (i := 18) rfl)) (by decide +kernel) hts rfl rfl ⟨Nat.le_of_ble_eq_true rfl, Nat.le_of_ble_eq_true rfl⟩) (hP.sub [] rfl) hK rfl hl.1 rfl (Nat.le_of_ble_eq_true rfl) ⟨Nat.le_of_ble_eq_true rfl, Nat.le_of_ble_eq_true rfl⟩ dX11_best_26 (fun r_29 h_30 => ?_)
      obtain rfl : r_29 = (-1) := h_30.trans (by decide)
      refine lv_iload_n hx hb dX11_best_29 rfl (lv_at hl 1 rfl) ?_
      refine lv_iload_n hx hb dX11_best_30 rfl (lv_at hl 3 rfl) ?_
      refine rosi (As := [.int 0, .int 2]) (rest := [.int (-1)]) ⟨hx, hb, hml, hown, hts⟩ (k_reward l D cB cI cJ cZ cS cT 0 2 ) (csB (n := 2) (inr62 _ (List.mem_of_getElem? (i := 16) rfl)) (inr62 _ (List.mem_of_getElem? (i := 17) rfl)) (inr1 _ (List.mem_of_getElem? (i := 2) rfl)) (inr62 _ (List.mem_of_getElem? (i := 18) rfl)) (by decide +kernel) hts rfl rfl ⟨Nat.le_of_ble_eq_true rfl, Nat.le_of_ble_eq_true rfl⟩) (hP.sub [] rfl) hK rfl hl.1 rfl (Nat.le_of_ble_eq_true rfl) ⟨Nat.le_of_ble_eq_true rfl, Nat.le_of_ble_eq_true rfl⟩ dX11_best_31 (fun r_31 h_32 => ?_)
      obtain rfl : r_31 = 0 := h_32.trans (by decide)
      refine lv_icmp_le (tgt := 39) hx hb dX11_best_34 (by decide) (fun _ => ?_) (fun c0 => absurd c0 (by decide))
      refine lv_iinc (v := 2) (lv' := [(3, .int 2), (2, .int 0), (0, .ref x0), (1, .int 2)]) hx hb dX11_best_39 hl (k := 0) rfl (by decide) (by decide) rfl (fun ls hl => ?_)
      refine lv_goto (tgt := 19) hx hb dX11_best_42 (by decide) ?_
      refine lv_iload_n hx hb dX11_best_19 rfl (lv_at hl 0 rfl) ?_
      refine lv_iconst (v := 3) hx hb dX11_best_20 (by decide) ?_
      refine lv_icmp_gt (tgt := 45) hx hb dX11_best_21 (by decide) (fun c0 => absurd c0 (by decide)) (fun _ => ?_)
      refine lv_iload_n hx hb dX11_best_24 rfl (lv_at hl 0 rfl) ?_
      refine lv_iload_n hx hb dX11_best_25 rfl (lv_at hl 3 rfl) ?_
      refine rosi (As := [.int 2, .int 2]) (rest := []) ⟨hx, hb, hml, hown, hts⟩ (k_reward l D cB cI cJ cZ cS cT 2 2 ) (csB (n := 2) (inr62 _ (List.mem_of_getElem? (i := 16) rfl)) (inr62 _ (List.mem_of_getElem? (i := 17) rfl)) (inr1 _ (List.mem_of_getElem? (i := 2) rfl)) (inr62 _ (List.mem_of_getElem? (i := 18) rfl)) (by decide +kernel) hts rfl rfl ⟨Nat.le_of_ble_eq_true rfl, Nat.le_of_ble_eq_true rfl⟩) (hP.sub [] rfl) hK rfl hl.1 rfl (Nat.le_of_ble_eq_true rfl) ⟨Nat.le_of_ble_eq_true rfl, Nat.le_of_ble_eq_true rfl⟩ dX11_best_26 (fun r_33 h_34 => ?_)
      obtain rfl : r_33 = 0 := h_34.trans (by decide)
      refine lv_iload_n hx hb dX11_best_29 rfl (lv_at hl 1 rfl) ?_
      refine lv_iload_n hx hb dX11_best_30 rfl (lv_at hl 3 rfl) ?_
      refine rosi (As := [.int 0, .int 2]) (rest := [.int 0]) ⟨hx, hb, hml, hown, hts⟩ (k_reward l D cB cI cJ cZ cS cT 0 2 ) (csB (n := 2) (inr62 _ (List.mem_of_getElem? (i := 16) rfl)) (inr62 _ (List.mem_of_getElem? (i := 17) rfl)) (inr1 _ (List.mem_of_getElem? (i := 2) rfl)) (inr62 _ (List.mem_of_getElem? (i := 18) rfl)) (by decide +kernel) hts rfl rfl ⟨Nat.le_of_ble_eq_true rfl, Nat.le_of_ble_eq_true rfl⟩) (hP.sub [] rfl) hK rfl hl.1 rfl (Nat.le_of_ble_eq_true rfl) ⟨Nat.le_of_ble_eq_true rfl, Nat.le_of_ble_eq_true rfl⟩ dX11_best_31 (fun r_35 h_36 => ?_)
      obtain rfl : r_35 = 0 := h_36.trans (by decide)
      refine lv_icmp_le (tgt := 39) hx hb dX11_best_34 (by decide) (fun _ => ?_) (fun c0 => absurd c0 (by decide))
      refine lv_iinc (v := 3) (lv' := [(3, .int 3), (2, .int 0), (0, .ref x0), (1, .int 2)]) hx hb dX11_best_39 hl (k := 0) rfl (by decide) (by decide) rfl (fun ls hl => ?_)
      refine lv_goto (tgt := 19) hx hb dX11_best_42 (by decide) ?_
      refine lv_iload_n hx hb dX11_best_19 rfl (lv_at hl 0 rfl) ?_
      refine lv_iconst (v := 3) hx hb dX11_best_20 (by decide) ?_
      refine lv_icmp_gt (tgt := 45) hx hb dX11_best_21 (by decide) (fun c0 => absurd c0 (by decide)) (fun _ => ?_)
      refine lv_iload_n hx hb dX11_best_24 rfl (lv_at hl 0 rfl) ?_
      refine lv_iload_n hx hb dX11_best_25 rfl (lv_at hl 3 rfl) ?_
      refine rosi (As := [.int 3, .int 2]) (rest := []) ⟨hx, hb, hml, hown, hts⟩ (k_reward l D cB cI cJ cZ cS cT 3 2 ) (csB (n := 2) (inr62 _ (List.mem_of_getElem? (i := 16) rfl)) (inr62 _ (List.mem_of_getElem? (i := 17) rfl)) (inr1 _ (List.mem_of_getElem? (i := 2) rfl)) (inr62 _ (List.mem_of_getElem? (i := 18) rfl)) (by decide +kernel) hts rfl rfl ⟨Nat.le_of_ble_eq_true rfl, Nat.le_of_ble_eq_true rfl⟩) (hP.sub [] rfl) hK rfl hl.1 rfl (Nat.le_of_ble_eq_true rfl) ⟨Nat.le_of_ble_eq_true rfl, Nat.le_of_ble_eq_true rfl⟩ dX11_best_26 (fun r_37 h_38 => ?_)
      obtain rfl : r_37 = 1 := h_38.trans (by decide)
      refine lv_iload_n hx hb dX11_best_29 rfl (lv_at hl 1 rfl) ?_
      refine lv_iload_n hx hb dX11_best_30 rfl (lv_at hl 3 rfl) ?_
      refine rosi (As := [.int 0, .int 2]) (rest := [.int 1]) ⟨hx, hb, hml, hown, hts⟩ (k_reward l D cB cI cJ cZ cS cT 0 2 ) (csB (n := 2) (inr62 _ (List.mem_of_getElem? (i := 16) rfl)) (inr62 _ (List.mem_of_getElem? (i := 17) rfl)) (inr1 _ (List.mem_of_getElem? (i := 2) rfl)) (inr62 _ (List.mem_of_getElem? (i := 18) rfl)) (by decide +kernel) hts rfl rfl ⟨Nat.le_of_ble_eq_true rfl, Nat.le_of_ble_eq_true rfl⟩) (hP.sub [] rfl) hK rfl hl.1 rfl (Nat.le_of_ble_eq_true rfl) ⟨Nat.le_of_ble_eq_true rfl, Nat.le_of_ble_eq_true rfl⟩ dX11_best_31 (fun r_39 h_40 => ?_)
      obtain rfl : r_39 = 0 := h_40.trans (by decide)
      refine lv_icmp_le (tgt := 39) hx hb dX11_best_34 (by decide) (fun c0 => absurd c0 (by decide)) (fun _ => ?_)
      refine lv_iload_n hx hb dX11_best_37 rfl (lv_at hl 0 rfl) ?_
      refine lv_istore_n (lv' := [(2, .int 3), (3, .int 3), (0, .ref x0), (1, .int 2)]) hx hb dX11_best_38 rfl hl (by decide) rfl (fun ls hl => ?_)
      refine lv_iinc (v := 4) (lv' := [(3, .int 4), (2, .int 3), (0, .ref x0), (1, .int 2)]) hx hb dX11_best_39 hl (k := 1) rfl (by decide) (by decide) rfl (fun ls hl => ?_)
      refine lv_goto (tgt := 19) hx hb dX11_best_42 (by decide) ?_
      refine lv_iload_n hx hb dX11_best_19 rfl (lv_at hl 0 rfl) ?_
      refine lv_iconst (v := 3) hx hb dX11_best_20 (by decide) ?_
      refine lv_icmp_gt (tgt := 45) hx hb dX11_best_21 (by decide) (fun _ => ?_) (fun c0 => absurd c0 (by decide))
      refine lv_iload_n hx hb dX11_best_45 rfl (lv_at hl 1 rfl) ?_
      exact W.iret (v := 3) hx hb hr (fun t ht hW => ⟨_, rfl, (by decide), ht⟩) (fun _ h => by cases h) dX11_best_46
    · have hl : lv_has ls 4 [(0, .ref x0), (1, .int 3)] := hl
      refine lv_iconst (v := 0) hx hb dX11_best_15 (by decide) ?_
      refine lv_istore_n (lv' := [(2, .int 0), (0, .ref x0), (1, .int 3)]) hx hb dX11_best_16 rfl hl (by decide) rfl (fun ls hl => ?_)
      refine lv_iconst (v := 1) hx hb dX11_best_17 (by decide) ?_
      refine lv_istore_n (lv' := [(3, .int 1), (2, .int 0), (0, .ref x0), (1, .int 3)]) hx hb dX11_best_18 rfl hl (by decide) rfl (fun ls hl => ?_)
      refine lv_iload_n hx hb dX11_best_19 rfl (lv_at hl 0 rfl) ?_
      refine lv_iconst (v := 3) hx hb dX11_best_20 (by decide) ?_
      refine lv_icmp_gt (tgt := 45) hx hb dX11_best_21 (by decide) (fun c0 => absurd c0 (by decide)) (fun _ => ?_)
      refine lv_iload_n hx hb dX11_best_24 rfl (lv_at hl 0 rfl) ?_
      refine lv_iload_n hx hb dX11_best_25 rfl (lv_at hl 3 rfl) ?_
      refine rosi (As := [.int 1, .int 3]) (rest := []) ⟨hx, hb, hml, hown, hts⟩ (k_reward l D cB cI cJ cZ cS cT 1 3 ) (csB (n := 2) (inr62 _ (List.mem_of_getElem? (i := 16) rfl)) (inr62 _ (List.mem_of_getElem? (i := 17) rfl)) (inr1 _ (List.mem_of_getElem? (i := 2) rfl)) (inr62 _ (List.mem_of_getElem? (i := 18) rfl)) (by decide +kernel) hts rfl rfl ⟨Nat.le_of_ble_eq_true rfl, Nat.le_of_ble_eq_true rfl⟩) (hP.sub [] rfl) hK rfl hl.1 rfl (Nat.le_of_ble_eq_true rfl) ⟨Nat.le_of_ble_eq_true rfl, Nat.le_of_ble_eq_true rfl⟩ dX11_best_26 (fun r_41 h_42 => ?_)
      obtain rfl : r_41 = (-1) := h_42.trans (by decide)
      refine lv_iload_n hx hb dX11_best_29 rfl (lv_at hl 1 rfl) ?_
      refine lv_iload_n hx hb dX11_best_30 rfl (lv_at hl 3 rfl) ?_
      refine rosi (As := [.int 0, .int 3]) (rest := [.int (-1)]) ⟨hx, hb, hml, hown, hts⟩ (k_reward l D cB cI cJ cZ cS cT 0 3 ) (csB (n := 2) (inr62 _ (List.mem_of_getElem? (i := 16) rfl)) (inr62 _ (List.mem_of_getElem? (i := 17) rfl)) (inr1 _ (List.mem_of_getElem? (i := 2) rfl)) (inr62 _ (List.mem_of_getElem? (i := 18) rfl)) (by decide +kernel) hts rfl rfl ⟨Nat.le_of_ble_eq_true rfl, Nat.le_of_ble_eq_true rfl⟩) (hP.sub [] rfl) hK rfl hl.1 rfl (Nat.le_of_ble_eq_true rfl) ⟨Nat.le_of_ble_eq_true rfl, Nat.le_of_ble_eq_true rfl⟩ dX11_best_31 (fun r_43 h_44 => ?_)
      obtain rfl : r_43 = 0 := h_44.trans (by decide)
      refine lv_icmp_le (tgt := 39) hx hb dX11_best_34 (by decide) (fun _ => ?_) (fun c0 => absurd c0 (by decide))
      refine lv_iinc (v := 2) (lv' := [(3, .int 2), (2, .int 0), (0, .ref x0), (1, .int 3)]) hx hb dX11_best_39 hl (k := 0) rfl (by decide) (by decide) rfl (fun ls hl => ?_)
      refine lv_goto (tgt := 19) hx hb dX11_best_42 (by decide) ?_
      refine lv_iload_n hx hb dX11_best_19 rfl (lv_at hl 0 rfl) ?_
      refine lv_iconst (v := 3) hx hb dX11_best_20 (by decide) ?_
      refine lv_icmp_gt (tgt := 45) hx hb dX11_best_21 (by decide) (fun c0 => absurd c0 (by decide)) (fun _ => ?_)
      refine lv_iload_n hx hb dX11_best_24 rfl (lv_at hl 0 rfl) ?_
      refine lv_iload_n hx hb dX11_best_25 rfl (lv_at hl 3 rfl) ?_
      refine rosi (As := [.int 2, .int 3]) (rest := []) ⟨hx, hb, hml, hown, hts⟩ (k_reward l D cB cI cJ cZ cS cT 2 3 ) (csB (n := 2) (inr62 _ (List.mem_of_getElem? (i := 16) rfl)) (inr62 _ (List.mem_of_getElem? (i := 17) rfl)) (inr1 _ (List.mem_of_getElem? (i := 2) rfl)) (inr62 _ (List.mem_of_getElem? (i := 18) rfl)) (by decide +kernel) hts rfl rfl ⟨Nat.le_of_ble_eq_true rfl, Nat.le_of_ble_eq_true rfl⟩) (hP.sub [] rfl) hK rfl hl.1 rfl (Nat.le_of_ble_eq_true rfl) ⟨Nat.le_of_ble_eq_true rfl, Nat.le_of_ble_eq_true rfl⟩ dX11_best_26 (fun r_45 h_46 => ?_)
      obtain rfl : r_45 = (-4) := h_46.trans (by decide)
      refine lv_iload_n hx hb dX11_best_29 rfl (lv_at hl 1 rfl) ?_
      refine lv_iload_n hx hb dX11_best_30 rfl (lv_at hl 3 rfl) ?_
      refine rosi (As := [.int 0, .int 3]) (rest := [.int (-4)]) ⟨hx, hb, hml, hown, hts⟩ (k_reward l D cB cI cJ cZ cS cT 0 3 ) (csB (n := 2) (inr62 _ (List.mem_of_getElem? (i := 16) rfl)) (inr62 _ (List.mem_of_getElem? (i := 17) rfl)) (inr1 _ (List.mem_of_getElem? (i := 2) rfl)) (inr62 _ (List.mem_of_getElem? (i := 18) rfl)) (by decide +kernel) hts rfl rfl ⟨Nat.le_of_ble_eq_true rfl, Nat.le_of_ble_eq_true rfl⟩) (hP.sub [] rfl) hK rfl hl.1 rfl (Nat.le_of_ble_eq_true rfl) ⟨Nat.le_of_ble_eq_true rfl, Nat.le_of_ble_eq_true rfl⟩ dX11_best_31 (fun r_47 h_48 => ?_)
      obtain rfl : r_47 = 0 := h_48.trans (by decide)
      refine lv_icmp_le (tgt := 39) hx hb dX11_best_34 (by decide) (fun _ => ?_) (fun c0 => absurd c0 (by decide))
      refine lv_iinc (v := 3) (lv' := [(3, .int 3), (2, .int 0), (0, .ref x0), (1, .int 3)]) hx hb dX11_best_39 hl (k := 0) rfl (by decide) (by decide) rfl (fun ls hl => ?_)
      refine lv_goto (tgt := 19) hx hb dX11_best_42 (by decide) ?_
      refine lv_iload_n hx hb dX11_best_19 rfl (lv_at hl 0 rfl) ?_
      refine lv_iconst (v := 3) hx hb dX11_best_20 (by decide) ?_
      refine lv_icmp_gt (tgt := 45) hx hb dX11_best_21 (by decide) (fun c0 => absurd c0 (by decide)) (fun _ => ?_)
      refine lv_iload_n hx hb dX11_best_24 rfl (lv_at hl 0 rfl) ?_
      refine lv_iload_n hx hb dX11_best_25 rfl (lv_at hl 3 rfl) ?_
      refine rosi (As := [.int 3, .int 3]) (rest := []) ⟨hx, hb, hml, hown, hts⟩ (k_reward l D cB cI cJ cZ cS cT 3 3 ) (csB (n := 2) (inr62 _ (List.mem_of_getElem? (i := 16) rfl)) (inr62 _ (List.mem_of_getElem? (i := 17) rfl)) (inr1 _ (List.mem_of_getElem? (i := 2) rfl)) (inr62 _ (List.mem_of_getElem? (i := 18) rfl)) (by decide +kernel) hts rfl rfl ⟨Nat.le_of_ble_eq_true rfl, Nat.le_of_ble_eq_true rfl⟩) (hP.sub [] rfl) hK rfl hl.1 rfl (Nat.le_of_ble_eq_true rfl) ⟨Nat.le_of_ble_eq_true rfl, Nat.le_of_ble_eq_true rfl⟩ dX11_best_26 (fun r_49 h_50 => ?_)
      obtain rfl : r_49 = (-5) := h_50.trans (by decide)
      refine lv_iload_n hx hb dX11_best_29 rfl (lv_at hl 1 rfl) ?_
      refine lv_iload_n hx hb dX11_best_30 rfl (lv_at hl 3 rfl) ?_
      refine rosi (As := [.int 0, .int 3]) (rest := [.int (-5)]) ⟨hx, hb, hml, hown, hts⟩ (k_reward l D cB cI cJ cZ cS cT 0 3 ) (csB (n := 2) (inr62 _ (List.mem_of_getElem? (i := 16) rfl)) (inr62 _ (List.mem_of_getElem? (i := 17) rfl)) (inr1 _ (List.mem_of_getElem? (i := 2) rfl)) (inr62 _ (List.mem_of_getElem? (i := 18) rfl)) (by decide +kernel) hts rfl rfl ⟨Nat.le_of_ble_eq_true rfl, Nat.le_of_ble_eq_true rfl⟩) (hP.sub [] rfl) hK rfl hl.1 rfl (Nat.le_of_ble_eq_true rfl) ⟨Nat.le_of_ble_eq_true rfl, Nat.le_of_ble_eq_true rfl⟩ dX11_best_31 (fun r_51 h_52 => ?_)
      obtain rfl : r_51 = 0 := h_52.trans (by decide)
      refine lv_icmp_le (tgt := 39) hx hb dX11_best_34 (by decide) (fun _ => ?_) (fun c0 => absurd c0 (by decide))
      refine lv_iinc (v := 4) (lv' := [(3, .int 4), (2, .int 0), (0, .ref x0), (1, .int 3)]) hx hb dX11_best_39 hl (k := 0) rfl (by decide) (by decide) rfl (fun ls hl => ?_)
      refine lv_goto (tgt := 19) hx hb dX11_best_42 (by decide) ?_
      refine lv_iload_n hx hb dX11_best_19 rfl (lv_at hl 0 rfl) ?_
      refine lv_iconst (v := 3) hx hb dX11_best_20 (by decide) ?_
      refine lv_icmp_gt (tgt := 45) hx hb dX11_best_21 (by decide) (fun _ => ?_) (fun c0 => absurd c0 (by decide))
      refine lv_iload_n hx hb dX11_best_45 rfl (lv_at hl 1 rfl) ?_
      exact W.iret (v := 0) hx hb hr (fun t ht hW => ⟨_, rfl, (by decide), ht⟩) (fun _ h => by cases h) dX11_best_46

set_option maxHeartbeats 4000000 in
set_option maxRecDepth 100000 in
theorem kx_fault (l : Launch) (D : va_G) (cB cI cJ cZ cS cT : ClassId) (x0 : Nat) (r_tape : Nat) (r_reader : Nat) (r_now : Nat) (r_trial : Nat) (r_images : Nat) (r_kept : Nat) (r_slots : Nat) (r_night : Nat) (r_other : Nat) (r_circle : Nat) (r_words : Nat) (r_law : Nat) (r_place : Nat) (r_drawn : Nat) (d_dr : Nat) (a1 : Int32)  : Met l yX11_fault (Cond.code yX11_fault cX11_fault 2 (some .int) :: wsL_law) ({ frames := 1, cells := 0, slots := 0, locals := 20 }) (roP D (tyL cB cI cJ cZ cS cT) [(x0, .inr (11, [.ref r_tape, .ref r_reader, .ref r_now, .ref r_trial, .ref r_images, .ref r_kept, .ref r_slots, .ref r_night, .ref r_other, .ref r_circle, .ref r_words, .ref r_law, .ref r_place, .ref r_drawn])), (r_reader, .inr (6, [.ref d_dr, .int 0, .int 0, .int 0, .int 0, .int 0, .int (-1)]))] [.ref x0, .int a1]) (vp_Si (fun r : Int32 => r = S_fault a1)) 0 0 (fun _ => False) := by
  refine Met.ofW (cc := cX11_fault) (maxL := 2) (ret := (some .int)) (by decide) rfl ?_
  intro p e s m args below meth c s₁ B hml hv
  obtain ⟨rfl, hP, hK⟩ := hv
  have hx := B.exec
  have hb := B.bytes
  have hr := B.returns
  have hts : ∀ w ∈ wsL_law, w.before ([.ref x0, .int a1] : List Value).toArray s = true := fun w h => atoms_spec (ws := Cond.code yX11_fault cX11_fault 2 (some .int) :: wsL_law) B.pre w (List.mem_cons_of_mem _ h)
  have hown : s.vm.findClass RX11 = some m.cls := findClass_of_methodNamed B.named
  have hlocks := B.notSynchronized
  have hl := lv_entry ([.ref x0, .int a1]) (n := 2) (Nat.le_of_ble_eq_true rfl)
  rw [lg_entry_eq]
  generalize (lg_sl ([.ref x0, .int a1]) ++ List.replicate (2 - (lg_sl ([.ref x0, .int a1])).length) Slot.unset).toArray = ls at hl ⊢
  have hl : lv_has ls 2 [(0, .ref x0), (1, .int a1)] := hl
  have hP : va_P D vwCl [(x0, .inr (11, [.ref r_tape, .ref r_reader, .ref r_now, .ref r_trial, .ref r_images, .ref r_kept, .ref r_slots, .ref r_night, .ref r_other, .ref r_circle, .ref r_words, .ref r_law, .ref r_place, .ref r_drawn])), (r_reader, .inr (6, [.ref d_dr, .int 0, .int 0, .int 0, .int 0, .int 0, .int (-1)]))] s.heap := hP
  refine lv_iload_n hx hb dX11_fault_0 rfl (lv_at hl 1 rfl) ?_
  by_cases c_1 : a1 = 0
  · refine lv_lookup (off := 27) (tgt := 28) hx hb dX11_fault_1 (by decide) (by rw [c_1]; decide) (by decide) ?_
    refine lv_aload_n hx hb dX11_fault_28 rfl (lv_at hl 0 rfl) ?_
    refine va_get (D := D) (ci := 11) (v := .ref r_reader) (C := RX11) (T := TX11) (N := 14) hx hb hts inlX11 hown hK hP 0 rfl rfl 1 (by decide) (hts _ (inr1 _ (List.mem_of_getElem? (i := 20) rfl))) (fun _ h9 => h9) rfl dX11_fault_29 ?_
    refine roi (As := []) (rest := []) ⟨hx, hb, hml, hown, hts⟩ (k_Rd_fault l D cB cI cJ cZ cS cT r_reader d_dr 0 0 0 0 0 (-1) ) (cvB (n := 0) (inr16 _ (List.mem_of_getElem? (i := 17) rfl)) (inr16 _ (List.mem_of_getElem? (i := 18) rfl)) (inr16 _ (List.mem_of_getElem? (i := 19) rfl)) (inr1 _ (List.mem_of_getElem? (i := 19) rfl)) (inr16 _ (List.mem_of_getElem? (i := 20) rfl)) (by decide +kernel) hts rfl rfl ⟨Nat.le_of_ble_eq_true rfl, Nat.le_of_ble_eq_true rfl⟩) 0 6 rfl rfl rfl (hP.sub [1] rfl) hK rfl hl.1 rfl (Nat.le_of_ble_eq_true rfl) ⟨Nat.le_of_ble_eq_true rfl, Nat.le_of_ble_eq_true rfl⟩ dX11_fault_32 (fun r_2 h_3 => ?_)
    obtain rfl := h_3
    exact W.iret (v := 0) hx hb hr (fun t ht hW => ⟨_, rfl, (by unfold S_fault; split <;> simp_all), ht⟩) (fun _ h => by cases h) dX11_fault_35
  by_cases c_4 : a1 = 1
  · refine lv_lookup (off := 35) (tgt := 36) hx hb dX11_fault_1 (by decide) (by rw [c_4]; decide) (by decide) ?_
    refine lv_aload_n hx hb dX11_fault_36 rfl (lv_at hl 0 rfl) ?_
    refine va_get (D := D) (ci := 11) (v := .ref r_reader) (C := RX11) (T := TX11) (N := 14) hx hb hts inlX11 hown hK hP 0 rfl rfl 1 (by decide) (hts _ (inr1 _ (List.mem_of_getElem? (i := 20) rfl))) (fun _ h9 => h9) rfl dX11_fault_37 ?_
    refine roi (As := []) (rest := []) ⟨hx, hb, hml, hown, hts⟩ (k_Rd_place l D cB cI cJ cZ cS cT r_reader d_dr 0 0 0 0 0 (-1) ) (cvB (n := 0) (inr20 _ (List.mem_of_getElem? (i := 16) rfl)) (inr20 _ (List.mem_of_getElem? (i := 17) rfl)) (inr20 _ (List.mem_of_getElem? (i := 18) rfl)) (inr1 _ (List.mem_of_getElem? (i := 19) rfl)) (inr20 _ (List.mem_of_getElem? (i := 19) rfl)) (by decide +kernel) hts rfl rfl ⟨Nat.le_of_ble_eq_true rfl, Nat.le_of_ble_eq_true rfl⟩) 0 6 rfl rfl rfl (hP.sub [1] rfl) hK rfl hl.1 rfl (Nat.le_of_ble_eq_true rfl) ⟨Nat.le_of_ble_eq_true rfl, Nat.le_of_ble_eq_true rfl⟩ dX11_fault_40 (fun r_5 h_6 => ?_)
    obtain rfl := h_6
    exact W.iret (v := (-1)) hx hb hr (fun t ht hW => ⟨_, rfl, (by unfold S_fault; split <;> simp_all), ht⟩) (fun _ h => by cases h) dX11_fault_43
  refine lv_lookup (off := 43) (tgt := 44) hx hb dX11_fault_1 (by decide) (sw_look2 c_1 (by decide) c_4 (by decide)) (by decide) ?_
  refine lv_iconst (v := (-1)) hx hb dX11_fault_44 (by decide) ?_
  exact W.iret (v := (-1)) hx hb hr (fun t ht hW => ⟨_, rfl, (by unfold S_fault; split <;> simp_all), ht⟩) (fun _ h => by cases h) dX11_fault_45

set_option maxHeartbeats 4000000 in
set_option maxRecDepth 100000 in
theorem k_slotsWithRow (l : Launch) (D : va_G) (cB cI cJ cZ cS cT : ClassId) (x0 : Nat) (r_tape : Nat) (r_reader : Nat) (r_now : Nat) (r_trial : Nat) (r_images : Nat) (r_kept : Nat) (r_slots : Nat) (r_night : Nat) (r_other : Nat) (r_circle : Nat) (r_words : Nat) (r_law : Nat) (r_place : Nat) (r_drawn : Nat) (sl0 : Nat) (sl1 : Nat) (sl2 : Nat) (sl3 : Nat) (nb0 : Nat) (nb1 : Nat) (nb2 : Nat) (nb3 : Nat)  : Met l yX11_slotsWithRow (Cond.code yX11_slotsWithRow cX11_slotsWithRow 3 (some .int) :: wsL_law) ({ frames := 1, cells := 0, slots := 0, locals := 20 }) (roP D (tyL cB cI cJ cZ cS cT) [(x0, .inr (11, [.ref r_tape, .ref r_reader, .ref r_now, .ref r_trial, .ref r_images, .ref r_kept, .ref r_slots, .ref r_night, .ref r_other, .ref r_circle, .ref r_words, .ref r_law, .ref r_place, .ref r_drawn])), (r_slots, .inl (cS, 4, .inr (.inr (.inr (.inr (va_up (va_up (va_up (va_up (fun _ => none) 0 (some sl0)) 1 (some sl1)) 2 (some sl2)) 3 (some sl3))))))), (sl0, .inr (7, [.ref nb0, .int 0, .int 0, .int 0])), (sl1, .inr (7, [.ref nb1, .int 0, .int 0, .int 0])), (sl2, .inr (7, [.ref nb2, .int 0, .int 0, .int 0])), (sl3, .inr (7, [.ref nb3, .int 0, .int 0, .int 0]))] [.ref x0]) (vp_Si (fun r : Int32 => r = 0)) 0 0 (fun _ => False) := by
  refine Met.ofW (cc := cX11_slotsWithRow) (maxL := 3) (ret := (some .int)) (by decide) rfl ?_
  intro p e s m args below meth c s₁ B hml hv
  obtain ⟨rfl, hP, hK⟩ := hv
  have hx := B.exec
  have hb := B.bytes
  have hr := B.returns
  have hts : ∀ w ∈ wsL_law, w.before ([.ref x0] : List Value).toArray s = true := fun w h => atoms_spec (ws := Cond.code yX11_slotsWithRow cX11_slotsWithRow 3 (some .int) :: wsL_law) B.pre w (List.mem_cons_of_mem _ h)
  have hown : s.vm.findClass RX11 = some m.cls := findClass_of_methodNamed B.named
  have hlocks := B.notSynchronized
  have hl := lv_entry ([.ref x0]) (n := 3) (Nat.le_of_ble_eq_true rfl)
  rw [lg_entry_eq]
  generalize (lg_sl ([.ref x0]) ++ List.replicate (3 - (lg_sl ([.ref x0])).length) Slot.unset).toArray = ls at hl ⊢
  have hl : lv_has ls 3 [(0, .ref x0)] := hl
  have hP : va_P D vwCl [(x0, .inr (11, [.ref r_tape, .ref r_reader, .ref r_now, .ref r_trial, .ref r_images, .ref r_kept, .ref r_slots, .ref r_night, .ref r_other, .ref r_circle, .ref r_words, .ref r_law, .ref r_place, .ref r_drawn])), (r_slots, .inl (cS, 4, .inr (.inr (.inr (.inr (va_up (va_up (va_up (va_up (fun _ => none) 0 (some sl0)) 1 (some sl1)) 2 (some sl2)) 3 (some sl3))))))), (sl0, .inr (7, [.ref nb0, .int 0, .int 0, .int 0])), (sl1, .inr (7, [.ref nb1, .int 0, .int 0, .int 0])), (sl2, .inr (7, [.ref nb2, .int 0, .int 0, .int 0])), (sl3, .inr (7, [.ref nb3, .int 0, .int 0, .int 0]))] s.heap := hP
  refine lv_iconst (v := 0) hx hb dX11_slotsWithRow_0 (by decide) ?_
  refine lv_istore_n (lv' := [(1, .int 0), (0, .ref x0)]) hx hb dX11_slotsWithRow_1 rfl hl (by decide) rfl (fun ls hl => ?_)
  refine lv_iconst (v := 0) hx hb dX11_slotsWithRow_2 (by decide) ?_
  refine lv_istore_n (lv' := [(2, .int 0), (1, .int 0), (0, .ref x0)]) hx hb dX11_slotsWithRow_3 rfl hl (by decide) rfl (fun ls hl => ?_)
  refine lv_iload_n hx hb dX11_slotsWithRow_4 rfl (lv_at hl 0 rfl) ?_
  refine lv_iconst (v := 4) hx hb dX11_slotsWithRow_5 (by decide) ?_
  refine lv_icmp_ge (tgt := 30) hx hb dX11_slotsWithRow_6 (by decide) (fun c0 => absurd c0 (by decide)) (fun _ => ?_)
  refine lv_aload_n hx hb dX11_slotsWithRow_9 rfl (lv_at hl 2 rfl) ?_
  refine va_get (D := D) (ci := 11) (v := .ref r_slots) (C := RX11) (T := TX11) (N := 14) hx hb hts inlX11 hown hK hP 0 rfl rfl 6 (by decide) (hts _ (inr2 _ (List.mem_of_getElem? (i := 6) rfl))) (fun _ h9 => h9) rfl dX11_slotsWithRow_10 ?_
  refine lv_iload_n hx hb dX11_slotsWithRow_13 rfl (lv_at hl 0 rfl) ?_
  refine va_aldq hx hb hK hP 1 4 rfl rfl (by unfold vp_in; decide) dX11_slotsWithRow_14 ?_
  refine W.eq (g2 := F0 m 15 ls [.ref sl0]) rfl ?_
  refine roi (As := []) (rest := []) ⟨hx, hb, hml, hown, hts⟩ (k_Sl_has l D cB cI cJ cZ cS cT sl0 nb0 0 0 ) (cvB (n := 0) (inr51 _ (List.mem_of_getElem? (i := 23) rfl)) (inr52 _ (List.mem_of_getElem? (i := 0) rfl)) (inr52 _ (List.mem_of_getElem? (i := 1) rfl)) (inr2 _ (List.mem_of_getElem? (i := 8) rfl)) (inr52 _ (List.mem_of_getElem? (i := 2) rfl)) (by decide +kernel) hts rfl rfl ⟨Nat.le_of_ble_eq_true rfl, Nat.le_of_ble_eq_true rfl⟩) 0 7 rfl rfl rfl (hP.sub [2] rfl) hK rfl hl.1 rfl (Nat.le_of_ble_eq_true rfl) ⟨Nat.le_of_ble_eq_true rfl, Nat.le_of_ble_eq_true rfl⟩ dX11_slotsWithRow_15 (fun r_1 h_2 => ?_)
  obtain rfl := h_2
  refine lv_if_eq (tgt := 24) hx hb dX11_slotsWithRow_18 (by decide) (fun _ => ?_) (fun c0 => absurd c0 (by decide))
  refine lv_iinc (v := 1) (lv' := [(2, .int 1), (1, .int 0), (0, .ref x0)]) hx hb dX11_slotsWithRow_24 hl (k := 0) rfl (by decide) (by decide) rfl (fun ls hl => ?_)
  refine lv_goto (tgt := 4) hx hb dX11_slotsWithRow_27 (by decide) ?_
  refine lv_iload_n hx hb dX11_slotsWithRow_4 rfl (lv_at hl 0 rfl) ?_
  refine lv_iconst (v := 4) hx hb dX11_slotsWithRow_5 (by decide) ?_
  refine lv_icmp_ge (tgt := 30) hx hb dX11_slotsWithRow_6 (by decide) (fun c0 => absurd c0 (by decide)) (fun _ => ?_)
  refine lv_aload_n hx hb dX11_slotsWithRow_9 rfl (lv_at hl 2 rfl) ?_
  refine va_get (D := D) (ci := 11) (v := .ref r_slots) (C := RX11) (T := TX11) (N := 14) hx hb hts inlX11 hown hK hP 0 rfl rfl 6 (by decide) (hts _ (inr2 _ (List.mem_of_getElem? (i := 6) rfl))) (fun _ h9 => h9) rfl dX11_slotsWithRow_10 ?_
  refine lv_iload_n hx hb dX11_slotsWithRow_13 rfl (lv_at hl 0 rfl) ?_
  refine va_aldq hx hb hK hP 1 4 rfl rfl (by unfold vp_in; decide) dX11_slotsWithRow_14 ?_
  refine W.eq (g2 := F0 m 15 ls [.ref sl1]) rfl ?_
  refine roi (As := []) (rest := []) ⟨hx, hb, hml, hown, hts⟩ (k_Sl_has l D cB cI cJ cZ cS cT sl1 nb1 0 0 ) (cvB (n := 0) (inr51 _ (List.mem_of_getElem? (i := 23) rfl)) (inr52 _ (List.mem_of_getElem? (i := 0) rfl)) (inr52 _ (List.mem_of_getElem? (i := 1) rfl)) (inr2 _ (List.mem_of_getElem? (i := 8) rfl)) (inr52 _ (List.mem_of_getElem? (i := 2) rfl)) (by decide +kernel) hts rfl rfl ⟨Nat.le_of_ble_eq_true rfl, Nat.le_of_ble_eq_true rfl⟩) 0 7 rfl rfl rfl (hP.sub [3] rfl) hK rfl hl.1 rfl (Nat.le_of_ble_eq_true rfl) ⟨Nat.le_of_ble_eq_true rfl, Nat.le_of_ble_eq_true rfl⟩ dX11_slotsWithRow_15 (fun r_3 h_4 => ?_)
  obtain rfl := h_4
  refine lv_if_eq (tgt := 24) hx hb dX11_slotsWithRow_18 (by decide) (fun _ => ?_) (fun c0 => absurd c0 (by decide))
  refine lv_iinc (v := 2) (lv' := [(2, .int 2), (1, .int 0), (0, .ref x0)]) hx hb dX11_slotsWithRow_24 hl (k := 0) rfl (by decide) (by decide) rfl (fun ls hl => ?_)
  refine lv_goto (tgt := 4) hx hb dX11_slotsWithRow_27 (by decide) ?_
  refine lv_iload_n hx hb dX11_slotsWithRow_4 rfl (lv_at hl 0 rfl) ?_
  refine lv_iconst (v := 4) hx hb dX11_slotsWithRow_5 (by decide) ?_
  refine lv_icmp_ge (tgt := 30) hx hb dX11_slotsWithRow_6 (by decide) (fun c0 => absurd c0 (by decide)) (fun _ => ?_)
  refine lv_aload_n hx hb dX11_slotsWithRow_9 rfl (lv_at hl 2 rfl) ?_
  refine va_get (D := D) (ci := 11) (v := .ref r_slots) (C := RX11) (T := TX11) (N := 14) hx hb hts inlX11 hown hK hP 0 rfl rfl 6 (by decide) (hts _ (inr2 _ (List.mem_of_getElem? (i := 6) rfl))) (fun _ h9 => h9) rfl dX11_slotsWithRow_10 ?_
  refine lv_iload_n hx hb dX11_slotsWithRow_13 rfl (lv_at hl 0 rfl) ?_
  refine va_aldq hx hb hK hP 1 4 rfl rfl (by unfold vp_in; decide) dX11_slotsWithRow_14 ?_
  refine W.eq (g2 := F0 m 15 ls [.ref sl2]) rfl ?_
  refine roi (As := []) (rest := []) ⟨hx, hb, hml, hown, hts⟩ (k_Sl_has l D cB cI cJ cZ cS cT sl2 nb2 0 0 ) (cvB (n := 0) (inr51 _ (List.mem_of_getElem? (i := 23) rfl)) (inr52 _ (List.mem_of_getElem? (i := 0) rfl)) (inr52 _ (List.mem_of_getElem? (i := 1) rfl)) (inr2 _ (List.mem_of_getElem? (i := 8) rfl)) (inr52 _ (List.mem_of_getElem? (i := 2) rfl)) (by decide +kernel) hts rfl rfl ⟨Nat.le_of_ble_eq_true rfl, Nat.le_of_ble_eq_true rfl⟩) 0 7 rfl rfl rfl (hP.sub [4] rfl) hK rfl hl.1 rfl (Nat.le_of_ble_eq_true rfl) ⟨Nat.le_of_ble_eq_true rfl, Nat.le_of_ble_eq_true rfl⟩ dX11_slotsWithRow_15 (fun r_5 h_6 => ?_)
  obtain rfl := h_6
  refine lv_if_eq (tgt := 24) hx hb dX11_slotsWithRow_18 (by decide) (fun _ => ?_) (fun c0 => absurd c0 (by decide))
  refine lv_iinc (v := 3) (lv' := [(2, .int 3), (1, .int 0), (0, .ref x0)]) hx hb dX11_slotsWithRow_24 hl (k := 0) rfl (by decide) (by decide) rfl (fun ls hl => ?_)
  refine lv_goto (tgt := 4) hx hb dX11_slotsWithRow_27 (by decide) ?_
  refine lv_iload_n hx hb dX11_slotsWithRow_4 rfl (lv_at hl 0 rfl) ?_
  refine lv_iconst (v := 4) hx hb dX11_slotsWithRow_5 (by decide) ?_
  refine lv_icmp_ge (tgt := 30) hx hb dX11_slotsWithRow_6 (by decide) (fun c0 => absurd c0 (by decide)) (fun _ => ?_)
  refine lv_aload_n hx hb dX11_slotsWithRow_9 rfl (lv_at hl 2 rfl) ?_
  refine va_get (D := D) (ci := 11) (v := .ref r_slots) (C := RX11) (T := TX11) (N := 14) hx hb hts inlX11 hown hK hP 0 rfl rfl 6 (by decide) (hts _ (inr2 _ (List.mem_of_getElem? (i := 6) rfl))) (fun _ h9 => h9) rfl dX11_slotsWithRow_10 ?_
  refine lv_iload_n hx hb dX11_slotsWithRow_13 rfl (lv_at hl 0 rfl) ?_
  refine va_aldq hx hb hK hP 1 4 rfl rfl (by unfold vp_in; decide) dX11_slotsWithRow_14 ?_
  refine W.eq (g2 := F0 m 15 ls [.ref sl3]) rfl ?_
  refine roi (As := []) (rest := []) ⟨hx, hb, hml, hown, hts⟩ (k_Sl_has l D cB cI cJ cZ cS cT sl3 nb3 0 0 ) (cvB (n := 0) (inr51 _ (List.mem_of_getElem? (i := 23) rfl)) (inr52 _ (List.mem_of_getElem? (i := 0) rfl)) (inr52 _ (List.mem_of_getElem? (i := 1) rfl)) (inr2 _ (List.mem_of_getElem? (i := 8) rfl)) (inr52 _ (List.mem_of_getElem? (i := 2) rfl)) (by decide +kernel) hts rfl rfl ⟨Nat.le_of_ble_eq_true rfl, Nat.le_of_ble_eq_true rfl⟩) 0 7 rfl rfl rfl (hP.sub [5] rfl) hK rfl hl.1 rfl (Nat.le_of_ble_eq_true rfl) ⟨Nat.le_of_ble_eq_true rfl, Nat.le_of_ble_eq_true rfl⟩ dX11_slotsWithRow_15 (fun r_7 h_8 => ?_)
  obtain rfl := h_8
  refine lv_if_eq (tgt := 24) hx hb dX11_slotsWithRow_18 (by decide) (fun _ => ?_) (fun c0 => absurd c0 (by decide))
  refine lv_iinc (v := 4) (lv' := [(2, .int 4), (1, .int 0), (0, .ref x0)]) hx hb dX11_slotsWithRow_24 hl (k := 0) rfl (by decide) (by decide) rfl (fun ls hl => ?_)
  refine lv_goto (tgt := 4) hx hb dX11_slotsWithRow_27 (by decide) ?_
  refine lv_iload_n hx hb dX11_slotsWithRow_4 rfl (lv_at hl 0 rfl) ?_
  refine lv_iconst (v := 4) hx hb dX11_slotsWithRow_5 (by decide) ?_
  refine lv_icmp_ge (tgt := 30) hx hb dX11_slotsWithRow_6 (by decide) (fun _ => ?_) (fun c0 => absurd c0 (by decide))
  refine lv_iload_n hx hb dX11_slotsWithRow_30 rfl (lv_at hl 1 rfl) ?_
  exact W.iret (v := 0) hx hb hr (fun t ht hW => ⟨_, rfl, rfl, ht⟩) (fun _ h => by cases h) dX11_slotsWithRow_31

set_option maxHeartbeats 4000000 in
set_option maxRecDepth 100000 in
theorem kx_count (l : Launch) (D : va_G) (cB cI cJ cZ cS cT : ClassId) (x0 : Nat) (r_tape : Nat) (r_reader : Nat) (r_now : Nat) (r_trial : Nat) (r_images : Nat) (r_kept : Nat) (r_slots : Nat) (r_night : Nat) (r_other : Nat) (r_circle : Nat) (r_words : Nat) (r_law : Nat) (r_place : Nat) (r_drawn : Nat) (n_signs : Nat) (n_posts : Nat) (n_acts : Nat) (n_over : Nat) (n_steps : Nat) (n_before : Nat) (t_by : Nat) (sl0 : Nat) (sl1 : Nat) (sl2 : Nat) (sl3 : Nat) (nb0 : Nat) (nb1 : Nat) (nb2 : Nat) (nb3 : Nat) (a1 : Int32)  : Met l yX11_count (Cond.code yX11_count cX11_count 2 (some .int) :: wsL_law) ({ frames := 2, cells := 0, slots := 0, locals := 42 }) (roP D (tyL cB cI cJ cZ cS cT) [(x0, .inr (11, [.ref r_tape, .ref r_reader, .ref r_now, .ref r_trial, .ref r_images, .ref r_kept, .ref r_slots, .ref r_night, .ref r_other, .ref r_circle, .ref r_words, .ref r_law, .ref r_place, .ref r_drawn])), (r_now, .inr (8, [.int 0, .int 0, .int 0, .int 0, .int 0, .int 0, .int 0, .ref n_signs, .int 0, .ref n_posts, .int 0, .ref n_acts])), (n_acts, .inr (0, [.ref n_over, .ref n_steps, .ref n_before, .int 0])), (r_tape, .inr (9, [.ref t_by, .int 0])), (r_slots, .inl (cS, 4, .inr (.inr (.inr (.inr (va_up (va_up (va_up (va_up (fun _ => none) 0 (some sl0)) 1 (some sl1)) 2 (some sl2)) 3 (some sl3))))))), (sl0, .inr (7, [.ref nb0, .int 0, .int 0, .int 0])), (sl1, .inr (7, [.ref nb1, .int 0, .int 0, .int 0])), (sl2, .inr (7, [.ref nb2, .int 0, .int 0, .int 0])), (sl3, .inr (7, [.ref nb3, .int 0, .int 0, .int 0]))] [.ref x0, .int a1]) (vp_Si (fun r : Int32 => r = S_count a1)) 0 0 (fun _ => False) := by
  refine Met.ofW (cc := cX11_count) (maxL := 2) (ret := (some .int)) (by decide) rfl ?_
  intro p e s m args below meth c s₁ B hml hv
  obtain ⟨rfl, hP, hK⟩ := hv
  have hx := B.exec
  have hb := B.bytes
  have hr := B.returns
  have hts : ∀ w ∈ wsL_law, w.before ([.ref x0, .int a1] : List Value).toArray s = true := fun w h => atoms_spec (ws := Cond.code yX11_count cX11_count 2 (some .int) :: wsL_law) B.pre w (List.mem_cons_of_mem _ h)
  have hown : s.vm.findClass RX11 = some m.cls := findClass_of_methodNamed B.named
  have hlocks := B.notSynchronized
  have hl := lv_entry ([.ref x0, .int a1]) (n := 2) (Nat.le_of_ble_eq_true rfl)
  rw [lg_entry_eq]
  generalize (lg_sl ([.ref x0, .int a1]) ++ List.replicate (2 - (lg_sl ([.ref x0, .int a1])).length) Slot.unset).toArray = ls at hl ⊢
  have hl : lv_has ls 2 [(0, .ref x0), (1, .int a1)] := hl
  have hP : va_P D vwCl [(x0, .inr (11, [.ref r_tape, .ref r_reader, .ref r_now, .ref r_trial, .ref r_images, .ref r_kept, .ref r_slots, .ref r_night, .ref r_other, .ref r_circle, .ref r_words, .ref r_law, .ref r_place, .ref r_drawn])), (r_now, .inr (8, [.int 0, .int 0, .int 0, .int 0, .int 0, .int 0, .int 0, .ref n_signs, .int 0, .ref n_posts, .int 0, .ref n_acts])), (n_acts, .inr (0, [.ref n_over, .ref n_steps, .ref n_before, .int 0])), (r_tape, .inr (9, [.ref t_by, .int 0])), (r_slots, .inl (cS, 4, .inr (.inr (.inr (.inr (va_up (va_up (va_up (va_up (fun _ => none) 0 (some sl0)) 1 (some sl1)) 2 (some sl2)) 3 (some sl3))))))), (sl0, .inr (7, [.ref nb0, .int 0, .int 0, .int 0])), (sl1, .inr (7, [.ref nb1, .int 0, .int 0, .int 0])), (sl2, .inr (7, [.ref nb2, .int 0, .int 0, .int 0])), (sl3, .inr (7, [.ref nb3, .int 0, .int 0, .int 0]))] s.heap := hP
  refine lv_iload_n hx hb dX11_count_0 rfl (lv_at hl 1 rfl) ?_
  rcases sw_cases a1 12 (by decide) with c_1 | ⟨j9, hj9, c_1⟩
  · refine lv_tableOut (tgt := 160) hx hb dX11_count_1 c_1 (by decide) ?_
    refine lv_iconst (v := (-1)) hx hb dX11_count_160 (by decide) ?_
    exact W.iret (v := (-1)) hx hb hr (fun t ht hW => ⟨_, rfl, (by unfold S_count; repeat' split <;> first | rfl | (exfalso; omega)), ht⟩) (fun _ h => by cases h) dX11_count_161
  · rcases (show j9 = 0 ∨ j9 = 1 ∨ j9 = 2 ∨ j9 = 3 ∨ j9 = 4 ∨ j9 = 5 ∨ j9 = 6 ∨ j9 = 7 ∨ j9 = 8 ∨ j9 = 9 ∨ j9 = 10 ∨ j9 = 11 by omega) with rfl | rfl | rfl | rfl | rfl | rfl | rfl | rfl | rfl | rfl | rfl | rfl
    · obtain rfl : a1 = 0 := c_1
      have hl : lv_has ls 2 [(0, .ref x0), (1, .int 0)] := hl
      refine lv_tableIn (off := 63) (tgt := 64) hx hb dX11_count_1 (by decide) (by decide) (by decide) (by decide) ?_
      refine lv_aload_n hx hb dX11_count_64 rfl (lv_at hl 0 rfl) ?_
      refine va_get (D := D) (ci := 11) (v := .ref r_now) (C := RX11) (T := TX11) (N := 14) hx hb hts inlX11 hown hK hP 0 rfl rfl 2 (by decide) (hts _ (inr2 _ (List.mem_of_getElem? (i := 0) rfl))) (fun _ h9 => h9) rfl dX11_count_65 ?_
      refine roi (As := []) (rest := []) ⟨hx, hb, hml, hown, hts⟩ (k_St_tones l D cB cI cJ cZ cS cT r_now 0 0 0 0 0 0 0 n_signs 0 n_posts 0 n_acts ) (cvB (n := 0) (inr29 _ (List.mem_of_getElem? (i := 15) rfl)) (inr15 _ (List.mem_of_getElem? (i := 14) rfl)) (inr15 _ (List.mem_of_getElem? (i := 15) rfl)) (inr1 _ (List.mem_of_getElem? (i := 23) rfl)) (inr15 _ (List.mem_of_getElem? (i := 16) rfl)) (by decide +kernel) hts rfl rfl ⟨Nat.le_of_ble_eq_true rfl, Nat.le_of_ble_eq_true rfl⟩) 0 8 rfl rfl rfl (hP.sub [1] rfl) hK rfl hl.1 rfl (Nat.le_of_ble_eq_true rfl) ⟨Nat.le_of_ble_eq_true rfl, Nat.le_of_ble_eq_true rfl⟩ dX11_count_68 (fun r_2 h_3 => ?_)
      obtain rfl := h_3
      exact W.iret (v := 0) hx hb hr (fun t ht hW => ⟨_, rfl, (by decide), ht⟩) (fun _ h => by cases h) dX11_count_71
    · obtain rfl : a1 = 1 := c_1
      have hl : lv_has ls 2 [(0, .ref x0), (1, .int 1)] := hl
      refine lv_tableIn (off := 71) (tgt := 72) hx hb dX11_count_1 (by decide) (by decide) (by decide) (by decide) ?_
      refine lv_aload_n hx hb dX11_count_72 rfl (lv_at hl 0 rfl) ?_
      refine va_get (D := D) (ci := 11) (v := .ref r_now) (C := RX11) (T := TX11) (N := 14) hx hb hts inlX11 hown hK hP 0 rfl rfl 2 (by decide) (hts _ (inr2 _ (List.mem_of_getElem? (i := 0) rfl))) (fun _ h9 => h9) rfl dX11_count_73 ?_
      refine roi (As := []) (rest := []) ⟨hx, hb, hml, hown, hts⟩ (k_St_a l D cB cI cJ cZ cS cT r_now 0 0 0 0 0 0 0 n_signs 0 n_posts 0 n_acts ) (cvB (n := 0) (inr71 _ (List.mem_of_getElem? (i := 12) rfl)) (inr71 _ (List.mem_of_getElem? (i := 13) rfl)) (inr71 _ (List.mem_of_getElem? (i := 14) rfl)) (inr1 _ (List.mem_of_getElem? (i := 23) rfl)) (inr71 _ (List.mem_of_getElem? (i := 15) rfl)) (by decide +kernel) hts rfl rfl ⟨Nat.le_of_ble_eq_true rfl, Nat.le_of_ble_eq_true rfl⟩) 0 8 rfl rfl rfl (hP.sub [1] rfl) hK rfl hl.1 rfl (Nat.le_of_ble_eq_true rfl) ⟨Nat.le_of_ble_eq_true rfl, Nat.le_of_ble_eq_true rfl⟩ dX11_count_76 (fun r_4 h_5 => ?_)
      obtain rfl := h_5
      exact W.iret (v := 0) hx hb hr (fun t ht hW => ⟨_, rfl, (by decide), ht⟩) (fun _ h => by cases h) dX11_count_79
    · obtain rfl : a1 = 2 := c_1
      have hl : lv_has ls 2 [(0, .ref x0), (1, .int 2)] := hl
      refine lv_tableIn (off := 79) (tgt := 80) hx hb dX11_count_1 (by decide) (by decide) (by decide) (by decide) ?_
      refine lv_aload_n hx hb dX11_count_80 rfl (lv_at hl 0 rfl) ?_
      refine va_get (D := D) (ci := 11) (v := .ref r_now) (C := RX11) (T := TX11) (N := 14) hx hb hts inlX11 hown hK hP 0 rfl rfl 2 (by decide) (hts _ (inr2 _ (List.mem_of_getElem? (i := 0) rfl))) (fun _ h9 => h9) rfl dX11_count_81 ?_
      refine roi (As := []) (rest := []) ⟨hx, hb, hml, hown, hts⟩ (k_St_b l D cB cI cJ cZ cS cT r_now 0 0 0 0 0 0 0 n_signs 0 n_posts 0 n_acts ) (cvB (n := 0) (inr71 _ (List.mem_of_getElem? (i := 16) rfl)) (inr71 _ (List.mem_of_getElem? (i := 17) rfl)) (inr71 _ (List.mem_of_getElem? (i := 18) rfl)) (inr1 _ (List.mem_of_getElem? (i := 23) rfl)) (inr71 _ (List.mem_of_getElem? (i := 19) rfl)) (by decide +kernel) hts rfl rfl ⟨Nat.le_of_ble_eq_true rfl, Nat.le_of_ble_eq_true rfl⟩) 0 8 rfl rfl rfl (hP.sub [1] rfl) hK rfl hl.1 rfl (Nat.le_of_ble_eq_true rfl) ⟨Nat.le_of_ble_eq_true rfl, Nat.le_of_ble_eq_true rfl⟩ dX11_count_84 (fun r_6 h_7 => ?_)
      obtain rfl := h_7
      exact W.iret (v := 0) hx hb hr (fun t ht hW => ⟨_, rfl, (by decide), ht⟩) (fun _ h => by cases h) dX11_count_87
    · obtain rfl : a1 = 3 := c_1
      have hl : lv_has ls 2 [(0, .ref x0), (1, .int 3)] := hl
      refine lv_tableIn (off := 87) (tgt := 88) hx hb dX11_count_1 (by decide) (by decide) (by decide) (by decide) ?_
      refine lv_aload_n hx hb dX11_count_88 rfl (lv_at hl 0 rfl) ?_
      refine va_get (D := D) (ci := 11) (v := .ref r_now) (C := RX11) (T := TX11) (N := 14) hx hb hts inlX11 hown hK hP 0 rfl rfl 2 (by decide) (hts _ (inr2 _ (List.mem_of_getElem? (i := 0) rfl))) (fun _ h9 => h9) rfl dX11_count_89 ?_
      refine roi (As := []) (rest := []) ⟨hx, hb, hml, hown, hts⟩ (k_St_c l D cB cI cJ cZ cS cT r_now 0 0 0 0 0 0 0 n_signs 0 n_posts 0 n_acts ) (cvB (n := 0) (inr71 _ (List.mem_of_getElem? (i := 0) rfl)) (inr71 _ (List.mem_of_getElem? (i := 1) rfl)) (inr71 _ (List.mem_of_getElem? (i := 2) rfl)) (inr1 _ (List.mem_of_getElem? (i := 23) rfl)) (inr71 _ (List.mem_of_getElem? (i := 3) rfl)) (by decide +kernel) hts rfl rfl ⟨Nat.le_of_ble_eq_true rfl, Nat.le_of_ble_eq_true rfl⟩) 0 8 rfl rfl rfl (hP.sub [1] rfl) hK rfl hl.1 rfl (Nat.le_of_ble_eq_true rfl) ⟨Nat.le_of_ble_eq_true rfl, Nat.le_of_ble_eq_true rfl⟩ dX11_count_92 (fun r_8 h_9 => ?_)
      obtain rfl := h_9
      exact W.iret (v := 0) hx hb hr (fun t ht hW => ⟨_, rfl, (by decide), ht⟩) (fun _ h => by cases h) dX11_count_95
    · obtain rfl : a1 = 4 := c_1
      have hl : lv_has ls 2 [(0, .ref x0), (1, .int 4)] := hl
      refine lv_tableIn (off := 95) (tgt := 96) hx hb dX11_count_1 (by decide) (by decide) (by decide) (by decide) ?_
      refine lv_aload_n hx hb dX11_count_96 rfl (lv_at hl 0 rfl) ?_
      refine va_get (D := D) (ci := 11) (v := .ref r_now) (C := RX11) (T := TX11) (N := 14) hx hb hts inlX11 hown hK hP 0 rfl rfl 2 (by decide) (hts _ (inr2 _ (List.mem_of_getElem? (i := 0) rfl))) (fun _ h9 => h9) rfl dX11_count_97 ?_
      refine roi (As := []) (rest := []) ⟨hx, hb, hml, hown, hts⟩ (k_St_d l D cB cI cJ cZ cS cT r_now 0 0 0 0 0 0 0 n_signs 0 n_posts 0 n_acts ) (cvB (n := 0) (inr71 _ (List.mem_of_getElem? (i := 20) rfl)) (inr71 _ (List.mem_of_getElem? (i := 21) rfl)) (inr71 _ (List.mem_of_getElem? (i := 22) rfl)) (inr1 _ (List.mem_of_getElem? (i := 23) rfl)) (inr71 _ (List.mem_of_getElem? (i := 23) rfl)) (by decide +kernel) hts rfl rfl ⟨Nat.le_of_ble_eq_true rfl, Nat.le_of_ble_eq_true rfl⟩) 0 8 rfl rfl rfl (hP.sub [1] rfl) hK rfl hl.1 rfl (Nat.le_of_ble_eq_true rfl) ⟨Nat.le_of_ble_eq_true rfl, Nat.le_of_ble_eq_true rfl⟩ dX11_count_100 (fun r_10 h_11 => ?_)
      obtain rfl := h_11
      exact W.iret (v := 0) hx hb hr (fun t ht hW => ⟨_, rfl, (by decide), ht⟩) (fun _ h => by cases h) dX11_count_103
    · obtain rfl : a1 = 5 := c_1
      have hl : lv_has ls 2 [(0, .ref x0), (1, .int 5)] := hl
      refine lv_tableIn (off := 103) (tgt := 104) hx hb dX11_count_1 (by decide) (by decide) (by decide) (by decide) ?_
      refine lv_aload_n hx hb dX11_count_104 rfl (lv_at hl 0 rfl) ?_
      refine va_get (D := D) (ci := 11) (v := .ref r_now) (C := RX11) (T := TX11) (N := 14) hx hb hts inlX11 hown hK hP 0 rfl rfl 2 (by decide) (hts _ (inr2 _ (List.mem_of_getElem? (i := 0) rfl))) (fun _ h9 => h9) rfl dX11_count_105 ?_
      refine roi (As := []) (rest := []) ⟨hx, hb, hml, hown, hts⟩ (k_St_odds l D cB cI cJ cZ cS cT r_now 0 0 0 0 0 0 0 n_signs 0 n_posts 0 n_acts ) (cvB (n := 0) (inr64 _ (List.mem_of_getElem? (i := 3) rfl)) (inr64 _ (List.mem_of_getElem? (i := 4) rfl)) (inr64 _ (List.mem_of_getElem? (i := 5) rfl)) (inr1 _ (List.mem_of_getElem? (i := 23) rfl)) (inr64 _ (List.mem_of_getElem? (i := 6) rfl)) (by decide +kernel) hts rfl rfl ⟨Nat.le_of_ble_eq_true rfl, Nat.le_of_ble_eq_true rfl⟩) 0 8 rfl rfl rfl (hP.sub [1] rfl) hK rfl hl.1 rfl (Nat.le_of_ble_eq_true rfl) ⟨Nat.le_of_ble_eq_true rfl, Nat.le_of_ble_eq_true rfl⟩ dX11_count_108 (fun r_12 h_13 => ?_)
      obtain rfl := h_13
      exact W.iret (v := 0) hx hb hr (fun t ht hW => ⟨_, rfl, (by decide), ht⟩) (fun _ h => by cases h) dX11_count_111
    · obtain rfl : a1 = 6 := c_1
      have hl : lv_has ls 2 [(0, .ref x0), (1, .int 6)] := hl
      refine lv_tableIn (off := 111) (tgt := 112) hx hb dX11_count_1 (by decide) (by decide) (by decide) (by decide) ?_
      refine lv_aload_n hx hb dX11_count_112 rfl (lv_at hl 0 rfl) ?_
      refine va_get (D := D) (ci := 11) (v := .ref r_now) (C := RX11) (T := TX11) (N := 14) hx hb hts inlX11 hown hK hP 0 rfl rfl 2 (by decide) (hts _ (inr2 _ (List.mem_of_getElem? (i := 0) rfl))) (fun _ h9 => h9) rfl dX11_count_113 ?_
      refine roi (As := []) (rest := []) ⟨hx, hb, hml, hown, hts⟩ (k_St_signCount l D cB cI cJ cZ cS cT r_now 0 0 0 0 0 0 0 n_signs 0 n_posts 0 n_acts ) (cvB (n := 0) (inr21 _ (List.mem_of_getElem? (i := 4) rfl)) (inr15 _ (List.mem_of_getElem? (i := 10) rfl)) (inr15 _ (List.mem_of_getElem? (i := 11) rfl)) (inr1 _ (List.mem_of_getElem? (i := 23) rfl)) (inr15 _ (List.mem_of_getElem? (i := 12) rfl)) (by decide +kernel) hts rfl rfl ⟨Nat.le_of_ble_eq_true rfl, Nat.le_of_ble_eq_true rfl⟩) 0 8 rfl rfl rfl (hP.sub [1] rfl) hK rfl hl.1 rfl (Nat.le_of_ble_eq_true rfl) ⟨Nat.le_of_ble_eq_true rfl, Nat.le_of_ble_eq_true rfl⟩ dX11_count_116 (fun r_14 h_15 => ?_)
      obtain rfl := h_15
      exact W.iret (v := 0) hx hb hr (fun t ht hW => ⟨_, rfl, (by decide), ht⟩) (fun _ h => by cases h) dX11_count_119
    · obtain rfl : a1 = 7 := c_1
      have hl : lv_has ls 2 [(0, .ref x0), (1, .int 7)] := hl
      refine lv_tableIn (off := 119) (tgt := 120) hx hb dX11_count_1 (by decide) (by decide) (by decide) (by decide) ?_
      refine lv_aload_n hx hb dX11_count_120 rfl (lv_at hl 0 rfl) ?_
      refine va_get (D := D) (ci := 11) (v := .ref r_now) (C := RX11) (T := TX11) (N := 14) hx hb hts inlX11 hown hK hP 0 rfl rfl 2 (by decide) (hts _ (inr2 _ (List.mem_of_getElem? (i := 0) rfl))) (fun _ h9 => h9) rfl dX11_count_121 ?_
      refine roi (As := []) (rest := []) ⟨hx, hb, hml, hown, hts⟩ (k_St_postCount l D cB cI cJ cZ cS cT r_now 0 0 0 0 0 0 0 n_signs 0 n_posts 0 n_acts ) (cvB (n := 0) (inr21 _ (List.mem_of_getElem? (i := 17) rfl)) (inr16 _ (List.mem_of_getElem? (i := 6) rfl)) (inr16 _ (List.mem_of_getElem? (i := 7) rfl)) (inr1 _ (List.mem_of_getElem? (i := 23) rfl)) (inr16 _ (List.mem_of_getElem? (i := 8) rfl)) (by decide +kernel) hts rfl rfl ⟨Nat.le_of_ble_eq_true rfl, Nat.le_of_ble_eq_true rfl⟩) 0 8 rfl rfl rfl (hP.sub [1] rfl) hK rfl hl.1 rfl (Nat.le_of_ble_eq_true rfl) ⟨Nat.le_of_ble_eq_true rfl, Nat.le_of_ble_eq_true rfl⟩ dX11_count_124 (fun r_16 h_17 => ?_)
      obtain rfl := h_17
      exact W.iret (v := 0) hx hb hr (fun t ht hW => ⟨_, rfl, (by decide), ht⟩) (fun _ h => by cases h) dX11_count_127
    · obtain rfl : a1 = 8 := c_1
      have hl : lv_has ls 2 [(0, .ref x0), (1, .int 8)] := hl
      refine lv_tableIn (off := 127) (tgt := 128) hx hb dX11_count_1 (by decide) (by decide) (by decide) (by decide) ?_
      refine lv_aload_n hx hb dX11_count_128 rfl (lv_at hl 0 rfl) ?_
      refine va_get (D := D) (ci := 11) (v := .ref r_now) (C := RX11) (T := TX11) (N := 14) hx hb hts inlX11 hown hK hP 0 rfl rfl 2 (by decide) (hts _ (inr2 _ (List.mem_of_getElem? (i := 0) rfl))) (fun _ h9 => h9) rfl dX11_count_129 ?_
      refine roq (As := []) (rest := []) ⟨hx, hb, hml, hown, hts⟩ (k_St_acts l D cB cI cJ cZ cS cT r_now 0 0 0 0 0 0 0 n_signs 0 n_posts 0 n_acts ) (cvB (n := 0) (inr36 _ (List.mem_of_getElem? (i := 3) rfl)) (inr36 _ (List.mem_of_getElem? (i := 4) rfl)) (inr36 _ (List.mem_of_getElem? (i := 5) rfl)) (inr1 _ (List.mem_of_getElem? (i := 23) rfl)) (inr36 _ (List.mem_of_getElem? (i := 6) rfl)) (by decide +kernel) hts rfl rfl ⟨Nat.le_of_ble_eq_true rfl, Nat.le_of_ble_eq_true rfl⟩) 0 8 rfl rfl rfl (hP.sub [1] rfl) hK rfl hl.1 rfl (Nat.le_of_ble_eq_true rfl) ⟨Nat.le_of_ble_eq_true rfl, Nat.le_of_ble_eq_true rfl⟩ dX11_count_132 (fun r_18 h_19 => ?_)
      obtain rfl := h_19
      refine W.eq (g2 := F0 m 135 ls [.ref n_acts]) rfl ?_
      refine roi (As := []) (rest := []) ⟨hx, hb, hml, hown, hts⟩ (k_Ac_size l D cB cI cJ cZ cS cT n_acts n_over n_steps n_before 0 ) (cvB (n := 0) (inr66 _ (List.mem_of_getElem? (i := 8) rfl)) (inr66 _ (List.mem_of_getElem? (i := 9) rfl)) (inr66 _ (List.mem_of_getElem? (i := 10) rfl)) (inr4 _ (List.mem_of_getElem? (i := 5) rfl)) (inr66 _ (List.mem_of_getElem? (i := 11) rfl)) (by decide +kernel) hts rfl rfl ⟨Nat.le_of_ble_eq_true rfl, Nat.le_of_ble_eq_true rfl⟩) 0 0 rfl rfl rfl (hP.sub [2] rfl) hK rfl hl.1 rfl (Nat.le_of_ble_eq_true rfl) ⟨Nat.le_of_ble_eq_true rfl, Nat.le_of_ble_eq_true rfl⟩ dX11_count_135 (fun r_20 h_21 => ?_)
      obtain rfl := h_21
      exact W.iret (v := 0) hx hb hr (fun t ht hW => ⟨_, rfl, (by decide), ht⟩) (fun _ h => by cases h) dX11_count_138
    · obtain rfl : a1 = 9 := c_1
      have hl : lv_has ls 2 [(0, .ref x0), (1, .int 9)] := hl
      refine lv_tableIn (off := 138) (tgt := 139) hx hb dX11_count_1 (by decide) (by decide) (by decide) (by decide) ?_
      refine lv_aload_n hx hb dX11_count_139 rfl (lv_at hl 0 rfl) ?_
      refine va_get (D := D) (ci := 11) (v := .ref r_now) (C := RX11) (T := TX11) (N := 14) hx hb hts inlX11 hown hK hP 0 rfl rfl 2 (by decide) (hts _ (inr2 _ (List.mem_of_getElem? (i := 0) rfl))) (fun _ h9 => h9) rfl dX11_count_140 ?_
      refine roi (As := []) (rest := []) ⟨hx, hb, hml, hown, hts⟩ (k_St_lines l D cB cI cJ cZ cS cT r_now 0 0 0 0 0 0 0 n_signs 0 n_posts 0 n_acts ) (cvB (n := 0) (inr17 _ (List.mem_of_getElem? (i := 14) rfl)) (inr12 _ (List.mem_of_getElem? (i := 3) rfl)) (inr12 _ (List.mem_of_getElem? (i := 4) rfl)) (inr1 _ (List.mem_of_getElem? (i := 23) rfl)) (inr12 _ (List.mem_of_getElem? (i := 5) rfl)) (by decide +kernel) hts rfl rfl ⟨Nat.le_of_ble_eq_true rfl, Nat.le_of_ble_eq_true rfl⟩) 0 8 rfl rfl rfl (hP.sub [1] rfl) hK rfl hl.1 rfl (Nat.le_of_ble_eq_true rfl) ⟨Nat.le_of_ble_eq_true rfl, Nat.le_of_ble_eq_true rfl⟩ dX11_count_143 (fun r_22 h_23 => ?_)
      obtain rfl := h_23
      exact W.iret (v := 0) hx hb hr (fun t ht hW => ⟨_, rfl, (by decide), ht⟩) (fun _ h => by cases h) dX11_count_146
    · obtain rfl : a1 = 10 := c_1
      have hl : lv_has ls 2 [(0, .ref x0), (1, .int 10)] := hl
      refine lv_tableIn (off := 146) (tgt := 147) hx hb dX11_count_1 (by decide) (by decide) (by decide) (by decide) ?_
      refine lv_aload_n hx hb dX11_count_147 rfl (lv_at hl 0 rfl) ?_
      refine va_get (D := D) (ci := 11) (v := .ref r_tape) (C := RX11) (T := TX11) (N := 14) hx hb hts inlX11 hown hK hP 0 rfl rfl 0 (by decide) (hts _ (inr1 _ (List.mem_of_getElem? (i := 16) rfl))) (fun _ h9 => h9) rfl dX11_count_148 ?_
      refine roi (As := []) (rest := []) ⟨hx, hb, hml, hown, hts⟩ (k_Tp_size l D cB cI cJ cZ cS cT r_tape t_by 0 ) (cvB (n := 0) (inr7 _ (List.mem_of_getElem? (i := 22) rfl)) (inr7 _ (List.mem_of_getElem? (i := 23) rfl)) (inr8 _ (List.mem_of_getElem? (i := 0) rfl)) (inr1 _ (List.mem_of_getElem? (i := 15) rfl)) (inr8 _ (List.mem_of_getElem? (i := 1) rfl)) (by decide +kernel) hts rfl rfl ⟨Nat.le_of_ble_eq_true rfl, Nat.le_of_ble_eq_true rfl⟩) 0 9 rfl rfl rfl (hP.sub [3] rfl) hK rfl hl.1 rfl (Nat.le_of_ble_eq_true rfl) ⟨Nat.le_of_ble_eq_true rfl, Nat.le_of_ble_eq_true rfl⟩ dX11_count_151 (fun r_24 h_25 => ?_)
      obtain rfl := h_25
      exact W.iret (v := 0) hx hb hr (fun t ht hW => ⟨_, rfl, (by decide), ht⟩) (fun _ h => by cases h) dX11_count_154
    · obtain rfl : a1 = 11 := c_1
      have hl : lv_has ls 2 [(0, .ref x0), (1, .int 11)] := hl
      refine lv_tableIn (off := 154) (tgt := 155) hx hb dX11_count_1 (by decide) (by decide) (by decide) (by decide) ?_
      refine lv_aload_n hx hb dX11_count_155 rfl (lv_at hl 0 rfl) ?_
      refine roi (As := []) (rest := []) ⟨hx, hb, hml, hown, hts⟩ (k_slotsWithRow l D cB cI cJ cZ cS cT x0 r_tape r_reader r_now r_trial r_images r_kept r_slots r_night r_other r_circle r_words r_law r_place r_drawn sl0 sl1 sl2 sl3 nb0 nb1 nb2 nb3 ) (cvB (n := 0) (inr72 _ (List.mem_of_getElem? (i := 0) rfl)) (inr72 _ (List.mem_of_getElem? (i := 1) rfl)) (inr72 _ (List.mem_of_getElem? (i := 2) rfl)) (inr1 _ (List.mem_of_getElem? (i := 2) rfl)) (inr72 _ (List.mem_of_getElem? (i := 3) rfl)) (by decide +kernel) hts rfl rfl ⟨Nat.le_of_ble_eq_true rfl, Nat.le_of_ble_eq_true rfl⟩) 0 11 rfl rfl rfl (hP.sub [0, 4, 5, 6, 7, 8] rfl) hK rfl hl.1 rfl (Nat.le_of_ble_eq_true rfl) ⟨Nat.le_of_ble_eq_true rfl, Nat.le_of_ble_eq_true rfl⟩ dX11_count_156 (fun r_26 h_27 => ?_)
      obtain rfl := h_27
      exact W.iret (v := 0) hx hb hr (fun t ht hW => ⟨_, rfl, (by decide), ht⟩) (fun _ h => by cases h) dX11_count_159

set_option maxHeartbeats 4000000 in
set_option maxRecDepth 100000 in
theorem kx_back (l : Launch) (D : va_G) (cB cI cJ cZ cS cT : ClassId) (x0 : Nat) (r_tape : Nat) (r_reader : Nat) (r_now : Nat) (r_trial : Nat) (r_images : Nat) (r_kept : Nat) (r_slots : Nat) (r_night : Nat) (r_other : Nat) (r_circle : Nat) (r_words : Nat) (r_law : Nat) (r_place : Nat) (r_drawn : Nat) (a1 : Int32)  : Met l yX11_back (Cond.code yX11_back cX11_back 2 (some .int) :: wsL_law) ({ frames := 1, cells := 0, slots := 0, locals := 25 }) (roP D (tyL cB cI cJ cZ cS cT) [(x0, .inr (11, [.ref r_tape, .ref r_reader, .ref r_now, .ref r_trial, .ref r_images, .ref r_kept, .ref r_slots, .ref r_night, .ref r_other, .ref r_circle, .ref r_words, .ref r_law, .ref r_place, .ref r_drawn])), (r_kept, .inl (cZ, 3, .inl (fun _ => 0)))] [.ref x0, .int a1]) (vp_Si (fun r : Int32 => r = S_back a1)) 0 0 (fun _ => False) := by
  refine Met.ofW (cc := cX11_back) (maxL := 2) (ret := (some .int)) (by decide) rfl ?_
  intro p e s m args below meth c s₁ B hml hv
  obtain ⟨rfl, hP, hK⟩ := hv
  have hx := B.exec
  have hb := B.bytes
  have hr := B.returns
  have hts : ∀ w ∈ wsL_law, w.before ([.ref x0, .int a1] : List Value).toArray s = true := fun w h => atoms_spec (ws := Cond.code yX11_back cX11_back 2 (some .int) :: wsL_law) B.pre w (List.mem_cons_of_mem _ h)
  have hown : s.vm.findClass RX11 = some m.cls := findClass_of_methodNamed B.named
  have hlocks := B.notSynchronized
  have hl := lv_entry ([.ref x0, .int a1]) (n := 2) (Nat.le_of_ble_eq_true rfl)
  rw [lg_entry_eq]
  generalize (lg_sl ([.ref x0, .int a1]) ++ List.replicate (2 - (lg_sl ([.ref x0, .int a1])).length) Slot.unset).toArray = ls at hl ⊢
  have hl : lv_has ls 2 [(0, .ref x0), (1, .int a1)] := hl
  have hP : va_P D vwCl [(x0, .inr (11, [.ref r_tape, .ref r_reader, .ref r_now, .ref r_trial, .ref r_images, .ref r_kept, .ref r_slots, .ref r_night, .ref r_other, .ref r_circle, .ref r_words, .ref r_law, .ref r_place, .ref r_drawn])), (r_kept, .inl (cZ, 3, .inl (fun _ => 0)))] s.heap := hP
  refine lv_iload_n hx hb dX11_back_0 rfl (lv_at hl 1 rfl) ?_
  obtain ⟨t_1, et_1⟩ : ∃ v9 : Int64, (a1 : Int32).toInt64 = v9 := ⟨_, rfl⟩
  refine lv_i2l (v := t_1) hx hb dX11_back_1 et_1 ?_
  have ft_1 : t_1.toInt = a1.toInt := by rw [← et_1]; exact Int32.toInt_toInt64 _
  refine lv_lconst (v := 0) hx hb dX11_back_2 (by decide) ?_
  refine lv_ldc2 hx hb hown (hts _ (inr68 _ (List.mem_of_getElem? (i := 7) rfl))) dX11_back_3 ?_
  refine rosi (As := [.long t_1, .long 0, .long 2]) (rest := []) ⟨hx, hb, hml, hown, hts⟩ (k_outside l D cB cI cJ cZ cS cT t_1 0 2 ) (csB (n := 3) (inr8 _ (List.mem_of_getElem? (i := 16) rfl)) (inr8 _ (List.mem_of_getElem? (i := 17) rfl)) (inr1 _ (List.mem_of_getElem? (i := 2) rfl)) (inr8 _ (List.mem_of_getElem? (i := 18) rfl)) (by decide +kernel) hts rfl rfl ⟨Nat.le_of_ble_eq_true rfl, Nat.le_of_ble_eq_true rfl⟩) (hP.sub [] rfl) hK rfl hl.1 rfl (Nat.le_of_ble_eq_true rfl) ⟨Nat.le_of_ble_eq_true rfl, Nat.le_of_ble_eq_true rfl⟩ dX11_back_6 (fun r_2 h_3 => ?_)
  rcases h_3 with ⟨rfl, k_4⟩ | ⟨rfl, k_4⟩
  · have k_4 : t_1.toInt < 0 ∨ 2 < t_1.toInt := k_4
    refine lv_if_eq (tgt := 15) hx hb dX11_back_9 (by decide) (fun c0 => absurd c0 (by decide)) (fun _ => ?_)
    refine lv_bipush (v := (-2)) hx hb dX11_back_12 (by decide) ?_
    exact W.iret (v := (-2)) hx hb hr (fun t ht hW => ⟨_, rfl, (by unfold S_back; repeat' split <;> first | rfl | (exfalso; omega)), ht⟩) (fun _ h => by cases h) dX11_back_14
  · have k_4 : 0 ≤ t_1.toInt ∧ t_1.toInt ≤ 2 := k_4
    refine lv_if_eq (tgt := 15) hx hb dX11_back_9 (by decide) (fun _ => ?_) (fun c0 => absurd c0 (by decide))
    rcases in3 (x := a1) (by omega) (by omega) with rfl | rfl | rfl
    · have hl : lv_has ls 2 [(0, .ref x0), (1, .int 0)] := hl
      refine lv_aload_n hx hb dX11_back_15 rfl (lv_at hl 0 rfl) ?_
      refine va_get (D := D) (ci := 11) (v := .ref r_kept) (C := RX11) (T := TX11) (N := 14) hx hb hts inlX11 hown hK hP 0 rfl rfl 5 (by decide) (hts _ (inr2 _ (List.mem_of_getElem? (i := 4) rfl))) (fun _ h9 => h9) rfl dX11_back_16 ?_
      refine lv_iload_n hx hb dX11_back_19 rfl (lv_at hl 1 rfl) ?_
      refine z_zald (v := 0) hx hb hK hP 1 3 rfl rfl (by unfold vp_in; decide) rfl dX11_back_20 ?_
      refine lv_if_ne (tgt := 27) hx hb dX11_back_21 (by decide) (fun c0 => absurd c0 (by decide)) (fun _ => ?_)
      refine lv_bipush (v := (-6)) hx hb dX11_back_24 (by decide) ?_
      exact W.iret (v := (-6)) hx hb hr (fun t ht hW => ⟨_, rfl, (by decide), ht⟩) (fun _ h => by cases h) dX11_back_26
    · have hl : lv_has ls 2 [(0, .ref x0), (1, .int 1)] := hl
      refine lv_aload_n hx hb dX11_back_15 rfl (lv_at hl 0 rfl) ?_
      refine va_get (D := D) (ci := 11) (v := .ref r_kept) (C := RX11) (T := TX11) (N := 14) hx hb hts inlX11 hown hK hP 0 rfl rfl 5 (by decide) (hts _ (inr2 _ (List.mem_of_getElem? (i := 4) rfl))) (fun _ h9 => h9) rfl dX11_back_16 ?_
      refine lv_iload_n hx hb dX11_back_19 rfl (lv_at hl 1 rfl) ?_
      refine z_zald (v := 0) hx hb hK hP 1 3 rfl rfl (by unfold vp_in; decide) rfl dX11_back_20 ?_
      refine lv_if_ne (tgt := 27) hx hb dX11_back_21 (by decide) (fun c0 => absurd c0 (by decide)) (fun _ => ?_)
      refine lv_bipush (v := (-6)) hx hb dX11_back_24 (by decide) ?_
      exact W.iret (v := (-6)) hx hb hr (fun t ht hW => ⟨_, rfl, (by decide), ht⟩) (fun _ h => by cases h) dX11_back_26
    · have hl : lv_has ls 2 [(0, .ref x0), (1, .int 2)] := hl
      refine lv_aload_n hx hb dX11_back_15 rfl (lv_at hl 0 rfl) ?_
      refine va_get (D := D) (ci := 11) (v := .ref r_kept) (C := RX11) (T := TX11) (N := 14) hx hb hts inlX11 hown hK hP 0 rfl rfl 5 (by decide) (hts _ (inr2 _ (List.mem_of_getElem? (i := 4) rfl))) (fun _ h9 => h9) rfl dX11_back_16 ?_
      refine lv_iload_n hx hb dX11_back_19 rfl (lv_at hl 1 rfl) ?_
      refine z_zald (v := 0) hx hb hK hP 1 3 rfl rfl (by unfold vp_in; decide) rfl dX11_back_20 ?_
      refine lv_if_ne (tgt := 27) hx hb dX11_back_21 (by decide) (fun c0 => absurd c0 (by decide)) (fun _ => ?_)
      refine lv_bipush (v := (-6)) hx hb dX11_back_24 (by decide) ?_
      exact W.iret (v := (-6)) hx hb hr (fun t ht hW => ⟨_, rfl, (by decide), ht⟩) (fun _ h => by cases h) dX11_back_26

set_option maxHeartbeats 4000000 in
set_option maxRecDepth 100000 in
theorem kx_write (l : Launch) (D : va_G) (cB cI cJ cZ cS cT : ClassId) (x0 : Nat) (r_tape : Nat) (r_reader : Nat) (r_now : Nat) (r_trial : Nat) (r_images : Nat) (r_kept : Nat) (r_slots : Nat) (r_night : Nat) (r_other : Nat) (r_circle : Nat) (r_words : Nat) (r_law : Nat) (r_place : Nat) (r_drawn : Nat) (sl0 : Nat) (sl1 : Nat) (sl2 : Nat) (sl3 : Nat) (nb0 : Nat) (nb1 : Nat) (nb2 : Nat) (nb3 : Nat) (a1 : Int32) (a2 : Int32) (v3 : Int64)  : Met l yX11_write (Cond.code yX11_write cX11_write 6 (some .int) :: wsL_law) ({ frames := 2, cells := 0, slots := 0, locals := 45 }) (roP D (tyL cB cI cJ cZ cS cT) [(x0, .inr (11, [.ref r_tape, .ref r_reader, .ref r_now, .ref r_trial, .ref r_images, .ref r_kept, .ref r_slots, .ref r_night, .ref r_other, .ref r_circle, .ref r_words, .ref r_law, .ref r_place, .ref r_drawn])), (r_slots, .inl (cS, 4, .inr (.inr (.inr (.inr (va_up (va_up (va_up (va_up (fun _ => none) 0 (some sl0)) 1 (some sl1)) 2 (some sl2)) 3 (some sl3))))))), (sl0, .inr (7, [.ref nb0, .int 0, .int 0, .int 0])), (sl1, .inr (7, [.ref nb1, .int 0, .int 0, .int 0])), (sl2, .inr (7, [.ref nb2, .int 0, .int 0, .int 0])), (sl3, .inr (7, [.ref nb3, .int 0, .int 0, .int 0]))] [.ref x0, .int a1, .int a2, .long v3]) (vp_Si (fun r : Int32 => r = S_write a1)) 0 0 (fun _ => False) := by
  refine Met.ofW (cc := cX11_write) (maxL := 6) (ret := (some .int)) (by decide) rfl ?_
  intro p e s m args below meth c s₁ B hml hv
  obtain ⟨rfl, hP, hK⟩ := hv
  have hx := B.exec
  have hb := B.bytes
  have hr := B.returns
  have hts : ∀ w ∈ wsL_law, w.before ([.ref x0, .int a1, .int a2, .long v3] : List Value).toArray s = true := fun w h => atoms_spec (ws := Cond.code yX11_write cX11_write 6 (some .int) :: wsL_law) B.pre w (List.mem_cons_of_mem _ h)
  have hown : s.vm.findClass RX11 = some m.cls := findClass_of_methodNamed B.named
  have hlocks := B.notSynchronized
  have hl := lv_entry ([.ref x0, .int a1, .int a2, .long v3]) (n := 6) (Nat.le_of_ble_eq_true rfl)
  rw [lg_entry_eq]
  generalize (lg_sl ([.ref x0, .int a1, .int a2, .long v3]) ++ List.replicate (6 - (lg_sl ([.ref x0, .int a1, .int a2, .long v3])).length) Slot.unset).toArray = ls at hl ⊢
  have hl : lv_has ls 6 [(0, .ref x0), (1, .int a1), (2, .int a2), (3, .long v3)] := hl
  have hP : va_P D vwCl [(x0, .inr (11, [.ref r_tape, .ref r_reader, .ref r_now, .ref r_trial, .ref r_images, .ref r_kept, .ref r_slots, .ref r_night, .ref r_other, .ref r_circle, .ref r_words, .ref r_law, .ref r_place, .ref r_drawn])), (r_slots, .inl (cS, 4, .inr (.inr (.inr (.inr (va_up (va_up (va_up (va_up (fun _ => none) 0 (some sl0)) 1 (some sl1)) 2 (some sl2)) 3 (some sl3))))))), (sl0, .inr (7, [.ref nb0, .int 0, .int 0, .int 0])), (sl1, .inr (7, [.ref nb1, .int 0, .int 0, .int 0])), (sl2, .inr (7, [.ref nb2, .int 0, .int 0, .int 0])), (sl3, .inr (7, [.ref nb3, .int 0, .int 0, .int 0]))] s.heap := hP
  refine lv_iload_n hx hb dX11_write_0 rfl (lv_at hl 1 rfl) ?_
  refine rosi (As := [.int a1]) (rest := []) ⟨hx, hb, hml, hown, hts⟩ (k_noSlot l D cB cI cJ cZ cS cT a1 ) (csB (n := 1) (inr51 _ (List.mem_of_getElem? (i := 19) rfl)) (inr51 _ (List.mem_of_getElem? (i := 20) rfl)) (inr1 _ (List.mem_of_getElem? (i := 2) rfl)) (inr51 _ (List.mem_of_getElem? (i := 21) rfl)) (by decide +kernel) hts rfl rfl ⟨Nat.le_of_ble_eq_true rfl, Nat.le_of_ble_eq_true rfl⟩) (hP.sub [] rfl) hK rfl hl.1 rfl (Nat.le_of_ble_eq_true rfl) ⟨Nat.le_of_ble_eq_true rfl, Nat.le_of_ble_eq_true rfl⟩ dX11_write_1 (fun r_1 h_2 => ?_)
  rcases h_2 with ⟨rfl, k_3⟩ | ⟨rfl, k_3⟩
  · have k_3 : a1.toInt < 0 ∨ 3 < a1.toInt := k_3
    refine lv_if_eq (tgt := 10) hx hb dX11_write_4 (by decide) (fun c0 => absurd c0 (by decide)) (fun _ => ?_)
    refine lv_bipush (v := (-2)) hx hb dX11_write_7 (by decide) ?_
    exact W.iret (v := (-2)) hx hb hr (fun t ht hW => ⟨_, rfl, (by unfold S_write; repeat' split <;> first | rfl | (exfalso; omega)), ht⟩) (fun _ h => by cases h) dX11_write_9
  · have k_3 : 0 ≤ a1.toInt ∧ a1.toInt ≤ 3 := k_3
    refine lv_if_eq (tgt := 10) hx hb dX11_write_4 (by decide) (fun _ => ?_) (fun c0 => absurd c0 (by decide))
    rcases in4 (x := a1) (by omega) (by omega) with rfl | rfl | rfl | rfl
    · have hl : lv_has ls 6 [(0, .ref x0), (1, .int 0), (2, .int a2), (3, .long v3)] := hl
      refine lv_aload_n hx hb dX11_write_10 rfl (lv_at hl 0 rfl) ?_
      refine va_get (D := D) (ci := 11) (v := .ref r_slots) (C := RX11) (T := TX11) (N := 14) hx hb hts inlX11 hown hK hP 0 rfl rfl 6 (by decide) (hts _ (inr2 _ (List.mem_of_getElem? (i := 6) rfl))) (fun _ h9 => h9) rfl dX11_write_11 ?_
      refine lv_iload_n hx hb dX11_write_14 rfl (lv_at hl 1 rfl) ?_
      refine va_aldq hx hb hK hP 1 4 rfl rfl (by unfold vp_in; decide) dX11_write_15 ?_
      refine W.eq (g2 := F0 m 16 ls [.ref sl0]) rfl ?_
      refine lv_astore (lv' := [(5, .ref sl0), (0, .ref x0), (1, .int 0), (2, .int a2), (3, .long v3)]) hx hb dX11_write_16 hl (by decide) rfl (fun ls hl => ?_)
      refine lv_aload hx hb dX11_write_18 (lv_at hl 0 rfl) ?_
      refine roi (As := []) (rest := []) ⟨hx, hb, hml, hown, hts⟩ (k_Sl_has l D cB cI cJ cZ cS cT sl0 nb0 0 0 ) (cvB (n := 0) (inr51 _ (List.mem_of_getElem? (i := 23) rfl)) (inr52 _ (List.mem_of_getElem? (i := 0) rfl)) (inr52 _ (List.mem_of_getElem? (i := 1) rfl)) (inr2 _ (List.mem_of_getElem? (i := 8) rfl)) (inr52 _ (List.mem_of_getElem? (i := 2) rfl)) (by decide +kernel) hts rfl rfl ⟨Nat.le_of_ble_eq_true rfl, Nat.le_of_ble_eq_true rfl⟩) 0 7 rfl rfl rfl (hP.sub [2] rfl) hK rfl hl.1 rfl (Nat.le_of_ble_eq_true rfl) ⟨Nat.le_of_ble_eq_true rfl, Nat.le_of_ble_eq_true rfl⟩ dX11_write_20 (fun r_4 h_5 => ?_)
      obtain rfl := h_5
      refine lv_if_ne (tgt := 29) hx hb dX11_write_23 (by decide) (fun c0 => absurd c0 (by decide)) (fun _ => ?_)
      refine lv_bipush (v := (-6)) hx hb dX11_write_26 (by decide) ?_
      exact W.iret (v := (-6)) hx hb hr (fun t ht hW => ⟨_, rfl, (by decide), ht⟩) (fun _ h => by cases h) dX11_write_28
    · have hl : lv_has ls 6 [(0, .ref x0), (1, .int 1), (2, .int a2), (3, .long v3)] := hl
      refine lv_aload_n hx hb dX11_write_10 rfl (lv_at hl 0 rfl) ?_
      refine va_get (D := D) (ci := 11) (v := .ref r_slots) (C := RX11) (T := TX11) (N := 14) hx hb hts inlX11 hown hK hP 0 rfl rfl 6 (by decide) (hts _ (inr2 _ (List.mem_of_getElem? (i := 6) rfl))) (fun _ h9 => h9) rfl dX11_write_11 ?_
      refine lv_iload_n hx hb dX11_write_14 rfl (lv_at hl 1 rfl) ?_
      refine va_aldq hx hb hK hP 1 4 rfl rfl (by unfold vp_in; decide) dX11_write_15 ?_
      refine W.eq (g2 := F0 m 16 ls [.ref sl1]) rfl ?_
      refine lv_astore (lv' := [(5, .ref sl1), (0, .ref x0), (1, .int 1), (2, .int a2), (3, .long v3)]) hx hb dX11_write_16 hl (by decide) rfl (fun ls hl => ?_)
      refine lv_aload hx hb dX11_write_18 (lv_at hl 0 rfl) ?_
      refine roi (As := []) (rest := []) ⟨hx, hb, hml, hown, hts⟩ (k_Sl_has l D cB cI cJ cZ cS cT sl1 nb1 0 0 ) (cvB (n := 0) (inr51 _ (List.mem_of_getElem? (i := 23) rfl)) (inr52 _ (List.mem_of_getElem? (i := 0) rfl)) (inr52 _ (List.mem_of_getElem? (i := 1) rfl)) (inr2 _ (List.mem_of_getElem? (i := 8) rfl)) (inr52 _ (List.mem_of_getElem? (i := 2) rfl)) (by decide +kernel) hts rfl rfl ⟨Nat.le_of_ble_eq_true rfl, Nat.le_of_ble_eq_true rfl⟩) 0 7 rfl rfl rfl (hP.sub [3] rfl) hK rfl hl.1 rfl (Nat.le_of_ble_eq_true rfl) ⟨Nat.le_of_ble_eq_true rfl, Nat.le_of_ble_eq_true rfl⟩ dX11_write_20 (fun r_6 h_7 => ?_)
      obtain rfl := h_7
      refine lv_if_ne (tgt := 29) hx hb dX11_write_23 (by decide) (fun c0 => absurd c0 (by decide)) (fun _ => ?_)
      refine lv_bipush (v := (-6)) hx hb dX11_write_26 (by decide) ?_
      exact W.iret (v := (-6)) hx hb hr (fun t ht hW => ⟨_, rfl, (by decide), ht⟩) (fun _ h => by cases h) dX11_write_28
    · have hl : lv_has ls 6 [(0, .ref x0), (1, .int 2), (2, .int a2), (3, .long v3)] := hl
      refine lv_aload_n hx hb dX11_write_10 rfl (lv_at hl 0 rfl) ?_
      refine va_get (D := D) (ci := 11) (v := .ref r_slots) (C := RX11) (T := TX11) (N := 14) hx hb hts inlX11 hown hK hP 0 rfl rfl 6 (by decide) (hts _ (inr2 _ (List.mem_of_getElem? (i := 6) rfl))) (fun _ h9 => h9) rfl dX11_write_11 ?_
      refine lv_iload_n hx hb dX11_write_14 rfl (lv_at hl 1 rfl) ?_
      refine va_aldq hx hb hK hP 1 4 rfl rfl (by unfold vp_in; decide) dX11_write_15 ?_
      refine W.eq (g2 := F0 m 16 ls [.ref sl2]) rfl ?_
      refine lv_astore (lv' := [(5, .ref sl2), (0, .ref x0), (1, .int 2), (2, .int a2), (3, .long v3)]) hx hb dX11_write_16 hl (by decide) rfl (fun ls hl => ?_)
      refine lv_aload hx hb dX11_write_18 (lv_at hl 0 rfl) ?_
      refine roi (As := []) (rest := []) ⟨hx, hb, hml, hown, hts⟩ (k_Sl_has l D cB cI cJ cZ cS cT sl2 nb2 0 0 ) (cvB (n := 0) (inr51 _ (List.mem_of_getElem? (i := 23) rfl)) (inr52 _ (List.mem_of_getElem? (i := 0) rfl)) (inr52 _ (List.mem_of_getElem? (i := 1) rfl)) (inr2 _ (List.mem_of_getElem? (i := 8) rfl)) (inr52 _ (List.mem_of_getElem? (i := 2) rfl)) (by decide +kernel) hts rfl rfl ⟨Nat.le_of_ble_eq_true rfl, Nat.le_of_ble_eq_true rfl⟩) 0 7 rfl rfl rfl (hP.sub [4] rfl) hK rfl hl.1 rfl (Nat.le_of_ble_eq_true rfl) ⟨Nat.le_of_ble_eq_true rfl, Nat.le_of_ble_eq_true rfl⟩ dX11_write_20 (fun r_8 h_9 => ?_)
      obtain rfl := h_9
      refine lv_if_ne (tgt := 29) hx hb dX11_write_23 (by decide) (fun c0 => absurd c0 (by decide)) (fun _ => ?_)
      refine lv_bipush (v := (-6)) hx hb dX11_write_26 (by decide) ?_
      exact W.iret (v := (-6)) hx hb hr (fun t ht hW => ⟨_, rfl, (by decide), ht⟩) (fun _ h => by cases h) dX11_write_28
    · have hl : lv_has ls 6 [(0, .ref x0), (1, .int 3), (2, .int a2), (3, .long v3)] := hl
      refine lv_aload_n hx hb dX11_write_10 rfl (lv_at hl 0 rfl) ?_
      refine va_get (D := D) (ci := 11) (v := .ref r_slots) (C := RX11) (T := TX11) (N := 14) hx hb hts inlX11 hown hK hP 0 rfl rfl 6 (by decide) (hts _ (inr2 _ (List.mem_of_getElem? (i := 6) rfl))) (fun _ h9 => h9) rfl dX11_write_11 ?_
      refine lv_iload_n hx hb dX11_write_14 rfl (lv_at hl 1 rfl) ?_
      refine va_aldq hx hb hK hP 1 4 rfl rfl (by unfold vp_in; decide) dX11_write_15 ?_
      refine W.eq (g2 := F0 m 16 ls [.ref sl3]) rfl ?_
      refine lv_astore (lv' := [(5, .ref sl3), (0, .ref x0), (1, .int 3), (2, .int a2), (3, .long v3)]) hx hb dX11_write_16 hl (by decide) rfl (fun ls hl => ?_)
      refine lv_aload hx hb dX11_write_18 (lv_at hl 0 rfl) ?_
      refine roi (As := []) (rest := []) ⟨hx, hb, hml, hown, hts⟩ (k_Sl_has l D cB cI cJ cZ cS cT sl3 nb3 0 0 ) (cvB (n := 0) (inr51 _ (List.mem_of_getElem? (i := 23) rfl)) (inr52 _ (List.mem_of_getElem? (i := 0) rfl)) (inr52 _ (List.mem_of_getElem? (i := 1) rfl)) (inr2 _ (List.mem_of_getElem? (i := 8) rfl)) (inr52 _ (List.mem_of_getElem? (i := 2) rfl)) (by decide +kernel) hts rfl rfl ⟨Nat.le_of_ble_eq_true rfl, Nat.le_of_ble_eq_true rfl⟩) 0 7 rfl rfl rfl (hP.sub [5] rfl) hK rfl hl.1 rfl (Nat.le_of_ble_eq_true rfl) ⟨Nat.le_of_ble_eq_true rfl, Nat.le_of_ble_eq_true rfl⟩ dX11_write_20 (fun r_10 h_11 => ?_)
      obtain rfl := h_11
      refine lv_if_ne (tgt := 29) hx hb dX11_write_23 (by decide) (fun c0 => absurd c0 (by decide)) (fun _ => ?_)
      refine lv_bipush (v := (-6)) hx hb dX11_write_26 (by decide) ?_
      exact W.iret (v := (-6)) hx hb hr (fun t ht hW => ⟨_, rfl, (by decide), ht⟩) (fun _ h => by cases h) dX11_write_28

set_option maxHeartbeats 4000000 in
set_option maxRecDepth 100000 in
theorem kx_paste (l : Launch) (D : va_G) (cB cI cJ cZ cS cT : ClassId) (x0 : Nat) (r_tape : Nat) (r_reader : Nat) (r_now : Nat) (r_trial : Nat) (r_images : Nat) (r_kept : Nat) (r_slots : Nat) (r_night : Nat) (r_other : Nat) (r_circle : Nat) (r_words : Nat) (r_law : Nat) (r_place : Nat) (r_drawn : Nat) (sl0 : Nat) (sl1 : Nat) (sl2 : Nat) (sl3 : Nat) (nb0 : Nat) (nb1 : Nat) (nb2 : Nat) (nb3 : Nat) (a1 : Int32) (a2 : Int32) (a3 : Int32) (a4 : Int32) (a5 : Int32)  : Met l yX11_paste (Cond.code yX11_paste cX11_paste 8 (some .int) :: wsL_law) ({ frames := 2, cells := 0, slots := 0, locals := 45 }) (roP D (tyL cB cI cJ cZ cS cT) [(x0, .inr (11, [.ref r_tape, .ref r_reader, .ref r_now, .ref r_trial, .ref r_images, .ref r_kept, .ref r_slots, .ref r_night, .ref r_other, .ref r_circle, .ref r_words, .ref r_law, .ref r_place, .ref r_drawn])), (r_slots, .inl (cS, 4, .inr (.inr (.inr (.inr (va_up (va_up (va_up (va_up (fun _ => none) 0 (some sl0)) 1 (some sl1)) 2 (some sl2)) 3 (some sl3))))))), (sl0, .inr (7, [.ref nb0, .int 0, .int 0, .int 0])), (sl1, .inr (7, [.ref nb1, .int 0, .int 0, .int 0])), (sl2, .inr (7, [.ref nb2, .int 0, .int 0, .int 0])), (sl3, .inr (7, [.ref nb3, .int 0, .int 0, .int 0]))] [.ref x0, .int a1, .int a2, .int a3, .int a4, .int a5]) (vp_Si (fun r : Int32 => r = S_paste a1 a3)) 0 0 (fun _ => False) := by
  refine Met.ofW (cc := cX11_paste) (maxL := 8) (ret := (some .int)) (by decide) rfl ?_
  intro p e s m args below meth c s₁ B hml hv
  obtain ⟨rfl, hP, hK⟩ := hv
  have hx := B.exec
  have hb := B.bytes
  have hr := B.returns
  have hts : ∀ w ∈ wsL_law, w.before ([.ref x0, .int a1, .int a2, .int a3, .int a4, .int a5] : List Value).toArray s = true := fun w h => atoms_spec (ws := Cond.code yX11_paste cX11_paste 8 (some .int) :: wsL_law) B.pre w (List.mem_cons_of_mem _ h)
  have hown : s.vm.findClass RX11 = some m.cls := findClass_of_methodNamed B.named
  have hlocks := B.notSynchronized
  have hl := lv_entry ([.ref x0, .int a1, .int a2, .int a3, .int a4, .int a5]) (n := 8) (Nat.le_of_ble_eq_true rfl)
  rw [lg_entry_eq]
  generalize (lg_sl ([.ref x0, .int a1, .int a2, .int a3, .int a4, .int a5]) ++ List.replicate (8 - (lg_sl ([.ref x0, .int a1, .int a2, .int a3, .int a4, .int a5])).length) Slot.unset).toArray = ls at hl ⊢
  have hl : lv_has ls 8 [(0, .ref x0), (1, .int a1), (2, .int a2), (3, .int a3), (4, .int a4), (5, .int a5)] := hl
  have hP : va_P D vwCl [(x0, .inr (11, [.ref r_tape, .ref r_reader, .ref r_now, .ref r_trial, .ref r_images, .ref r_kept, .ref r_slots, .ref r_night, .ref r_other, .ref r_circle, .ref r_words, .ref r_law, .ref r_place, .ref r_drawn])), (r_slots, .inl (cS, 4, .inr (.inr (.inr (.inr (va_up (va_up (va_up (va_up (fun _ => none) 0 (some sl0)) 1 (some sl1)) 2 (some sl2)) 3 (some sl3))))))), (sl0, .inr (7, [.ref nb0, .int 0, .int 0, .int 0])), (sl1, .inr (7, [.ref nb1, .int 0, .int 0, .int 0])), (sl2, .inr (7, [.ref nb2, .int 0, .int 0, .int 0])), (sl3, .inr (7, [.ref nb3, .int 0, .int 0, .int 0]))] s.heap := hP
  refine lv_iload_n hx hb dX11_paste_0 rfl (lv_at hl 1 rfl) ?_
  refine rosi (As := [.int a1]) (rest := []) ⟨hx, hb, hml, hown, hts⟩ (k_noSlot l D cB cI cJ cZ cS cT a1 ) (csB (n := 1) (inr51 _ (List.mem_of_getElem? (i := 19) rfl)) (inr51 _ (List.mem_of_getElem? (i := 20) rfl)) (inr1 _ (List.mem_of_getElem? (i := 2) rfl)) (inr51 _ (List.mem_of_getElem? (i := 21) rfl)) (by decide +kernel) hts rfl rfl ⟨Nat.le_of_ble_eq_true rfl, Nat.le_of_ble_eq_true rfl⟩) (hP.sub [] rfl) hK rfl hl.1 rfl (Nat.le_of_ble_eq_true rfl) ⟨Nat.le_of_ble_eq_true rfl, Nat.le_of_ble_eq_true rfl⟩ dX11_paste_1 (fun r_1 h_2 => ?_)
  rcases h_2 with ⟨rfl, k_3⟩ | ⟨rfl, k_3⟩
  · have k_3 : a1.toInt < 0 ∨ 3 < a1.toInt := k_3
    refine lv_if_ne (tgt := 14) hx hb dX11_paste_4 (by decide) (fun _ => ?_) (fun c0 => absurd c0 (by decide))
    refine lv_bipush (v := (-2)) hx hb dX11_paste_14 (by decide) ?_
    exact W.iret (v := (-2)) hx hb hr (fun t ht hW => ⟨_, rfl, (by unfold S_paste; repeat' split <;> first | rfl | (exfalso; omega)), ht⟩) (fun _ h => by cases h) dX11_paste_16
  · have k_3 : 0 ≤ a1.toInt ∧ a1.toInt ≤ 3 := k_3
    refine lv_if_ne (tgt := 14) hx hb dX11_paste_4 (by decide) (fun c0 => absurd c0 (by decide)) (fun _ => ?_)
    refine lv_iload_n hx hb dX11_paste_7 rfl (lv_at hl 3 rfl) ?_
    refine rosi (As := [.int a3]) (rest := []) ⟨hx, hb, hml, hown, hts⟩ (k_noSlot l D cB cI cJ cZ cS cT a3 ) (csB (n := 1) (inr51 _ (List.mem_of_getElem? (i := 19) rfl)) (inr51 _ (List.mem_of_getElem? (i := 20) rfl)) (inr1 _ (List.mem_of_getElem? (i := 2) rfl)) (inr51 _ (List.mem_of_getElem? (i := 21) rfl)) (by decide +kernel) hts rfl rfl ⟨Nat.le_of_ble_eq_true rfl, Nat.le_of_ble_eq_true rfl⟩) (hP.sub [] rfl) hK rfl hl.1 rfl (Nat.le_of_ble_eq_true rfl) ⟨Nat.le_of_ble_eq_true rfl, Nat.le_of_ble_eq_true rfl⟩ dX11_paste_8 (fun r_4 h_5 => ?_)
    rcases h_5 with ⟨rfl, k_6⟩ | ⟨rfl, k_6⟩
    · have k_6 : a3.toInt < 0 ∨ 3 < a3.toInt := k_6
      refine lv_if_eq (tgt := 17) hx hb dX11_paste_11 (by decide) (fun c0 => absurd c0 (by decide)) (fun _ => ?_)
      refine lv_bipush (v := (-2)) hx hb dX11_paste_14 (by decide) ?_
      exact W.iret (v := (-2)) hx hb hr (fun t ht hW => ⟨_, rfl, (by unfold S_paste; repeat' split <;> first | rfl | (exfalso; omega)), ht⟩) (fun _ h => by cases h) dX11_paste_16
    · have k_6 : 0 ≤ a3.toInt ∧ a3.toInt ≤ 3 := k_6
      refine lv_if_eq (tgt := 17) hx hb dX11_paste_11 (by decide) (fun _ => ?_) (fun c0 => absurd c0 (by decide))
      rcases in4 (x := a1) (by omega) (by omega) with rfl | rfl | rfl | rfl
      · have hl : lv_has ls 8 [(0, .ref x0), (1, .int 0), (2, .int a2), (3, .int a3), (4, .int a4), (5, .int a5)] := hl
        refine lv_aload_n hx hb dX11_paste_17 rfl (lv_at hl 0 rfl) ?_
        refine va_get (D := D) (ci := 11) (v := .ref r_slots) (C := RX11) (T := TX11) (N := 14) hx hb hts inlX11 hown hK hP 0 rfl rfl 6 (by decide) (hts _ (inr2 _ (List.mem_of_getElem? (i := 6) rfl))) (fun _ h9 => h9) rfl dX11_paste_18 ?_
        refine lv_iload_n hx hb dX11_paste_21 rfl (lv_at hl 1 rfl) ?_
        refine va_aldq hx hb hK hP 1 4 rfl rfl (by unfold vp_in; decide) dX11_paste_22 ?_
        refine W.eq (g2 := F0 m 23 ls [.ref sl0]) rfl ?_
        refine lv_astore (lv' := [(6, .ref sl0), (0, .ref x0), (1, .int 0), (2, .int a2), (3, .int a3), (4, .int a4), (5, .int a5)]) hx hb dX11_paste_23 hl (by decide) rfl (fun ls hl => ?_)
        rcases in4 (x := a3) (by omega) (by omega) with rfl | rfl | rfl | rfl
        · have hl : lv_has ls 8 [(6, .ref sl0), (0, .ref x0), (1, .int 0), (2, .int a2), (3, .int 0), (4, .int a4), (5, .int a5)] := hl
          refine lv_aload_n hx hb dX11_paste_25 rfl (lv_at hl 1 rfl) ?_
          refine va_get (D := D) (ci := 11) (v := .ref r_slots) (C := RX11) (T := TX11) (N := 14) hx hb hts inlX11 hown hK hP 0 rfl rfl 6 (by decide) (hts _ (inr2 _ (List.mem_of_getElem? (i := 6) rfl))) (fun _ h9 => h9) rfl dX11_paste_26 ?_
          refine lv_iload_n hx hb dX11_paste_29 rfl (lv_at hl 4 rfl) ?_
          refine va_aldq hx hb hK hP 1 4 rfl rfl (by unfold vp_in; decide) dX11_paste_30 ?_
          refine W.eq (g2 := F0 m 31 ls [.ref sl0]) rfl ?_
          refine lv_astore (lv' := [(7, .ref sl0), (6, .ref sl0), (0, .ref x0), (1, .int 0), (2, .int a2), (3, .int 0), (4, .int a4), (5, .int a5)]) hx hb dX11_paste_31 hl (by decide) rfl (fun ls hl => ?_)
          refine lv_aload hx hb dX11_paste_33 (lv_at hl 1 rfl) ?_
          refine roi (As := []) (rest := []) ⟨hx, hb, hml, hown, hts⟩ (k_Sl_has l D cB cI cJ cZ cS cT sl0 nb0 0 0 ) (cvB (n := 0) (inr51 _ (List.mem_of_getElem? (i := 23) rfl)) (inr52 _ (List.mem_of_getElem? (i := 0) rfl)) (inr52 _ (List.mem_of_getElem? (i := 1) rfl)) (inr2 _ (List.mem_of_getElem? (i := 8) rfl)) (inr52 _ (List.mem_of_getElem? (i := 2) rfl)) (by decide +kernel) hts rfl rfl ⟨Nat.le_of_ble_eq_true rfl, Nat.le_of_ble_eq_true rfl⟩) 0 7 rfl rfl rfl (hP.sub [2] rfl) hK rfl hl.1 rfl (Nat.le_of_ble_eq_true rfl) ⟨Nat.le_of_ble_eq_true rfl, Nat.le_of_ble_eq_true rfl⟩ dX11_paste_35 (fun r_7 h_8 => ?_)
          obtain rfl := h_8
          refine lv_if_eq (tgt := 49) hx hb dX11_paste_38 (by decide) (fun _ => ?_) (fun c0 => absurd c0 (by decide))
          refine lv_bipush (v := (-6)) hx hb dX11_paste_49 (by decide) ?_
          exact W.iret (v := (-6)) hx hb hr (fun t ht hW => ⟨_, rfl, (by decide), ht⟩) (fun _ h => by cases h) dX11_paste_51
        · have hl : lv_has ls 8 [(6, .ref sl0), (0, .ref x0), (1, .int 0), (2, .int a2), (3, .int 1), (4, .int a4), (5, .int a5)] := hl
          refine lv_aload_n hx hb dX11_paste_25 rfl (lv_at hl 1 rfl) ?_
          refine va_get (D := D) (ci := 11) (v := .ref r_slots) (C := RX11) (T := TX11) (N := 14) hx hb hts inlX11 hown hK hP 0 rfl rfl 6 (by decide) (hts _ (inr2 _ (List.mem_of_getElem? (i := 6) rfl))) (fun _ h9 => h9) rfl dX11_paste_26 ?_
          refine lv_iload_n hx hb dX11_paste_29 rfl (lv_at hl 4 rfl) ?_
          refine va_aldq hx hb hK hP 1 4 rfl rfl (by unfold vp_in; decide) dX11_paste_30 ?_
          refine W.eq (g2 := F0 m 31 ls [.ref sl1]) rfl ?_
          refine lv_astore (lv' := [(7, .ref sl1), (6, .ref sl0), (0, .ref x0), (1, .int 0), (2, .int a2), (3, .int 1), (4, .int a4), (5, .int a5)]) hx hb dX11_paste_31 hl (by decide) rfl (fun ls hl => ?_)
          refine lv_aload hx hb dX11_paste_33 (lv_at hl 1 rfl) ?_
          refine roi (As := []) (rest := []) ⟨hx, hb, hml, hown, hts⟩ (k_Sl_has l D cB cI cJ cZ cS cT sl0 nb0 0 0 ) (cvB (n := 0) (inr51 _ (List.mem_of_getElem? (i := 23) rfl)) (inr52 _ (List.mem_of_getElem? (i := 0) rfl)) (inr52 _ (List.mem_of_getElem? (i := 1) rfl)) (inr2 _ (List.mem_of_getElem? (i := 8) rfl)) (inr52 _ (List.mem_of_getElem? (i := 2) rfl)) (by decide +kernel) hts rfl rfl ⟨Nat.le_of_ble_eq_true rfl, Nat.le_of_ble_eq_true rfl⟩) 0 7 rfl rfl rfl (hP.sub [2] rfl) hK rfl hl.1 rfl (Nat.le_of_ble_eq_true rfl) ⟨Nat.le_of_ble_eq_true rfl, Nat.le_of_ble_eq_true rfl⟩ dX11_paste_35 (fun r_9 h_10 => ?_)
          obtain rfl := h_10
          refine lv_if_eq (tgt := 49) hx hb dX11_paste_38 (by decide) (fun _ => ?_) (fun c0 => absurd c0 (by decide))
          refine lv_bipush (v := (-6)) hx hb dX11_paste_49 (by decide) ?_
          exact W.iret (v := (-6)) hx hb hr (fun t ht hW => ⟨_, rfl, (by decide), ht⟩) (fun _ h => by cases h) dX11_paste_51
        · have hl : lv_has ls 8 [(6, .ref sl0), (0, .ref x0), (1, .int 0), (2, .int a2), (3, .int 2), (4, .int a4), (5, .int a5)] := hl
          refine lv_aload_n hx hb dX11_paste_25 rfl (lv_at hl 1 rfl) ?_
          refine va_get (D := D) (ci := 11) (v := .ref r_slots) (C := RX11) (T := TX11) (N := 14) hx hb hts inlX11 hown hK hP 0 rfl rfl 6 (by decide) (hts _ (inr2 _ (List.mem_of_getElem? (i := 6) rfl))) (fun _ h9 => h9) rfl dX11_paste_26 ?_
          refine lv_iload_n hx hb dX11_paste_29 rfl (lv_at hl 4 rfl) ?_
          refine va_aldq hx hb hK hP 1 4 rfl rfl (by unfold vp_in; decide) dX11_paste_30 ?_
          refine W.eq (g2 := F0 m 31 ls [.ref sl2]) rfl ?_
          refine lv_astore (lv' := [(7, .ref sl2), (6, .ref sl0), (0, .ref x0), (1, .int 0), (2, .int a2), (3, .int 2), (4, .int a4), (5, .int a5)]) hx hb dX11_paste_31 hl (by decide) rfl (fun ls hl => ?_)
          refine lv_aload hx hb dX11_paste_33 (lv_at hl 1 rfl) ?_
          refine roi (As := []) (rest := []) ⟨hx, hb, hml, hown, hts⟩ (k_Sl_has l D cB cI cJ cZ cS cT sl0 nb0 0 0 ) (cvB (n := 0) (inr51 _ (List.mem_of_getElem? (i := 23) rfl)) (inr52 _ (List.mem_of_getElem? (i := 0) rfl)) (inr52 _ (List.mem_of_getElem? (i := 1) rfl)) (inr2 _ (List.mem_of_getElem? (i := 8) rfl)) (inr52 _ (List.mem_of_getElem? (i := 2) rfl)) (by decide +kernel) hts rfl rfl ⟨Nat.le_of_ble_eq_true rfl, Nat.le_of_ble_eq_true rfl⟩) 0 7 rfl rfl rfl (hP.sub [2] rfl) hK rfl hl.1 rfl (Nat.le_of_ble_eq_true rfl) ⟨Nat.le_of_ble_eq_true rfl, Nat.le_of_ble_eq_true rfl⟩ dX11_paste_35 (fun r_11 h_12 => ?_)
          obtain rfl := h_12
          refine lv_if_eq (tgt := 49) hx hb dX11_paste_38 (by decide) (fun _ => ?_) (fun c0 => absurd c0 (by decide))
          refine lv_bipush (v := (-6)) hx hb dX11_paste_49 (by decide) ?_
          exact W.iret (v := (-6)) hx hb hr (fun t ht hW => ⟨_, rfl, (by decide), ht⟩) (fun _ h => by cases h) dX11_paste_51
        · have hl : lv_has ls 8 [(6, .ref sl0), (0, .ref x0), (1, .int 0), (2, .int a2), (3, .int 3), (4, .int a4), (5, .int a5)] := hl
          refine lv_aload_n hx hb dX11_paste_25 rfl (lv_at hl 1 rfl) ?_
          refine va_get (D := D) (ci := 11) (v := .ref r_slots) (C := RX11) (T := TX11) (N := 14) hx hb hts inlX11 hown hK hP 0 rfl rfl 6 (by decide) (hts _ (inr2 _ (List.mem_of_getElem? (i := 6) rfl))) (fun _ h9 => h9) rfl dX11_paste_26 ?_
          refine lv_iload_n hx hb dX11_paste_29 rfl (lv_at hl 4 rfl) ?_
          refine va_aldq hx hb hK hP 1 4 rfl rfl (by unfold vp_in; decide) dX11_paste_30 ?_
          refine W.eq (g2 := F0 m 31 ls [.ref sl3]) rfl ?_
          refine lv_astore (lv' := [(7, .ref sl3), (6, .ref sl0), (0, .ref x0), (1, .int 0), (2, .int a2), (3, .int 3), (4, .int a4), (5, .int a5)]) hx hb dX11_paste_31 hl (by decide) rfl (fun ls hl => ?_)
          refine lv_aload hx hb dX11_paste_33 (lv_at hl 1 rfl) ?_
          refine roi (As := []) (rest := []) ⟨hx, hb, hml, hown, hts⟩ (k_Sl_has l D cB cI cJ cZ cS cT sl0 nb0 0 0 ) (cvB (n := 0) (inr51 _ (List.mem_of_getElem? (i := 23) rfl)) (inr52 _ (List.mem_of_getElem? (i := 0) rfl)) (inr52 _ (List.mem_of_getElem? (i := 1) rfl)) (inr2 _ (List.mem_of_getElem? (i := 8) rfl)) (inr52 _ (List.mem_of_getElem? (i := 2) rfl)) (by decide +kernel) hts rfl rfl ⟨Nat.le_of_ble_eq_true rfl, Nat.le_of_ble_eq_true rfl⟩) 0 7 rfl rfl rfl (hP.sub [2] rfl) hK rfl hl.1 rfl (Nat.le_of_ble_eq_true rfl) ⟨Nat.le_of_ble_eq_true rfl, Nat.le_of_ble_eq_true rfl⟩ dX11_paste_35 (fun r_13 h_14 => ?_)
          obtain rfl := h_14
          refine lv_if_eq (tgt := 49) hx hb dX11_paste_38 (by decide) (fun _ => ?_) (fun c0 => absurd c0 (by decide))
          refine lv_bipush (v := (-6)) hx hb dX11_paste_49 (by decide) ?_
          exact W.iret (v := (-6)) hx hb hr (fun t ht hW => ⟨_, rfl, (by decide), ht⟩) (fun _ h => by cases h) dX11_paste_51
      · have hl : lv_has ls 8 [(0, .ref x0), (1, .int 1), (2, .int a2), (3, .int a3), (4, .int a4), (5, .int a5)] := hl
        refine lv_aload_n hx hb dX11_paste_17 rfl (lv_at hl 0 rfl) ?_
        refine va_get (D := D) (ci := 11) (v := .ref r_slots) (C := RX11) (T := TX11) (N := 14) hx hb hts inlX11 hown hK hP 0 rfl rfl 6 (by decide) (hts _ (inr2 _ (List.mem_of_getElem? (i := 6) rfl))) (fun _ h9 => h9) rfl dX11_paste_18 ?_
        refine lv_iload_n hx hb dX11_paste_21 rfl (lv_at hl 1 rfl) ?_
        refine va_aldq hx hb hK hP 1 4 rfl rfl (by unfold vp_in; decide) dX11_paste_22 ?_
        refine W.eq (g2 := F0 m 23 ls [.ref sl1]) rfl ?_
        refine lv_astore (lv' := [(6, .ref sl1), (0, .ref x0), (1, .int 1), (2, .int a2), (3, .int a3), (4, .int a4), (5, .int a5)]) hx hb dX11_paste_23 hl (by decide) rfl (fun ls hl => ?_)
        rcases in4 (x := a3) (by omega) (by omega) with rfl | rfl | rfl | rfl
        · have hl : lv_has ls 8 [(6, .ref sl1), (0, .ref x0), (1, .int 1), (2, .int a2), (3, .int 0), (4, .int a4), (5, .int a5)] := hl
          refine lv_aload_n hx hb dX11_paste_25 rfl (lv_at hl 1 rfl) ?_
          refine va_get (D := D) (ci := 11) (v := .ref r_slots) (C := RX11) (T := TX11) (N := 14) hx hb hts inlX11 hown hK hP 0 rfl rfl 6 (by decide) (hts _ (inr2 _ (List.mem_of_getElem? (i := 6) rfl))) (fun _ h9 => h9) rfl dX11_paste_26 ?_
          refine lv_iload_n hx hb dX11_paste_29 rfl (lv_at hl 4 rfl) ?_
          refine va_aldq hx hb hK hP 1 4 rfl rfl (by unfold vp_in; decide) dX11_paste_30 ?_
          refine W.eq (g2 := F0 m 31 ls [.ref sl0]) rfl ?_
          refine lv_astore (lv' := [(7, .ref sl0), (6, .ref sl1), (0, .ref x0), (1, .int 1), (2, .int a2), (3, .int 0), (4, .int a4), (5, .int a5)]) hx hb dX11_paste_31 hl (by decide) rfl (fun ls hl => ?_)
          refine lv_aload hx hb dX11_paste_33 (lv_at hl 1 rfl) ?_
          refine roi (As := []) (rest := []) ⟨hx, hb, hml, hown, hts⟩ (k_Sl_has l D cB cI cJ cZ cS cT sl1 nb1 0 0 ) (cvB (n := 0) (inr51 _ (List.mem_of_getElem? (i := 23) rfl)) (inr52 _ (List.mem_of_getElem? (i := 0) rfl)) (inr52 _ (List.mem_of_getElem? (i := 1) rfl)) (inr2 _ (List.mem_of_getElem? (i := 8) rfl)) (inr52 _ (List.mem_of_getElem? (i := 2) rfl)) (by decide +kernel) hts rfl rfl ⟨Nat.le_of_ble_eq_true rfl, Nat.le_of_ble_eq_true rfl⟩) 0 7 rfl rfl rfl (hP.sub [3] rfl) hK rfl hl.1 rfl (Nat.le_of_ble_eq_true rfl) ⟨Nat.le_of_ble_eq_true rfl, Nat.le_of_ble_eq_true rfl⟩ dX11_paste_35 (fun r_15 h_16 => ?_)
          obtain rfl := h_16
          refine lv_if_eq (tgt := 49) hx hb dX11_paste_38 (by decide) (fun _ => ?_) (fun c0 => absurd c0 (by decide))
          refine lv_bipush (v := (-6)) hx hb dX11_paste_49 (by decide) ?_
          exact W.iret (v := (-6)) hx hb hr (fun t ht hW => ⟨_, rfl, (by decide), ht⟩) (fun _ h => by cases h) dX11_paste_51
        · have hl : lv_has ls 8 [(6, .ref sl1), (0, .ref x0), (1, .int 1), (2, .int a2), (3, .int 1), (4, .int a4), (5, .int a5)] := hl
          refine lv_aload_n hx hb dX11_paste_25 rfl (lv_at hl 1 rfl) ?_
          refine va_get (D := D) (ci := 11) (v := .ref r_slots) (C := RX11) (T := TX11) (N := 14) hx hb hts inlX11 hown hK hP 0 rfl rfl 6 (by decide) (hts _ (inr2 _ (List.mem_of_getElem? (i := 6) rfl))) (fun _ h9 => h9) rfl dX11_paste_26 ?_
          refine lv_iload_n hx hb dX11_paste_29 rfl (lv_at hl 4 rfl) ?_
          refine va_aldq hx hb hK hP 1 4 rfl rfl (by unfold vp_in; decide) dX11_paste_30 ?_
          refine W.eq (g2 := F0 m 31 ls [.ref sl1]) rfl ?_
          refine lv_astore (lv' := [(7, .ref sl1), (6, .ref sl1), (0, .ref x0), (1, .int 1), (2, .int a2), (3, .int 1), (4, .int a4), (5, .int a5)]) hx hb dX11_paste_31 hl (by decide) rfl (fun ls hl => ?_)
          refine lv_aload hx hb dX11_paste_33 (lv_at hl 1 rfl) ?_
          refine roi (As := []) (rest := []) ⟨hx, hb, hml, hown, hts⟩ (k_Sl_has l D cB cI cJ cZ cS cT sl1 nb1 0 0 ) (cvB (n := 0) (inr51 _ (List.mem_of_getElem? (i := 23) rfl)) (inr52 _ (List.mem_of_getElem? (i := 0) rfl)) (inr52 _ (List.mem_of_getElem? (i := 1) rfl)) (inr2 _ (List.mem_of_getElem? (i := 8) rfl)) (inr52 _ (List.mem_of_getElem? (i := 2) rfl)) (by decide +kernel) hts rfl rfl ⟨Nat.le_of_ble_eq_true rfl, Nat.le_of_ble_eq_true rfl⟩) 0 7 rfl rfl rfl (hP.sub [3] rfl) hK rfl hl.1 rfl (Nat.le_of_ble_eq_true rfl) ⟨Nat.le_of_ble_eq_true rfl, Nat.le_of_ble_eq_true rfl⟩ dX11_paste_35 (fun r_17 h_18 => ?_)
          obtain rfl := h_18
          refine lv_if_eq (tgt := 49) hx hb dX11_paste_38 (by decide) (fun _ => ?_) (fun c0 => absurd c0 (by decide))
          refine lv_bipush (v := (-6)) hx hb dX11_paste_49 (by decide) ?_
          exact W.iret (v := (-6)) hx hb hr (fun t ht hW => ⟨_, rfl, (by decide), ht⟩) (fun _ h => by cases h) dX11_paste_51
        · have hl : lv_has ls 8 [(6, .ref sl1), (0, .ref x0), (1, .int 1), (2, .int a2), (3, .int 2), (4, .int a4), (5, .int a5)] := hl
          refine lv_aload_n hx hb dX11_paste_25 rfl (lv_at hl 1 rfl) ?_
          refine va_get (D := D) (ci := 11) (v := .ref r_slots) (C := RX11) (T := TX11) (N := 14) hx hb hts inlX11 hown hK hP 0 rfl rfl 6 (by decide) (hts _ (inr2 _ (List.mem_of_getElem? (i := 6) rfl))) (fun _ h9 => h9) rfl dX11_paste_26 ?_
          refine lv_iload_n hx hb dX11_paste_29 rfl (lv_at hl 4 rfl) ?_
          refine va_aldq hx hb hK hP 1 4 rfl rfl (by unfold vp_in; decide) dX11_paste_30 ?_
          refine W.eq (g2 := F0 m 31 ls [.ref sl2]) rfl ?_
          refine lv_astore (lv' := [(7, .ref sl2), (6, .ref sl1), (0, .ref x0), (1, .int 1), (2, .int a2), (3, .int 2), (4, .int a4), (5, .int a5)]) hx hb dX11_paste_31 hl (by decide) rfl (fun ls hl => ?_)
          refine lv_aload hx hb dX11_paste_33 (lv_at hl 1 rfl) ?_
          refine roi (As := []) (rest := []) ⟨hx, hb, hml, hown, hts⟩ (k_Sl_has l D cB cI cJ cZ cS cT sl1 nb1 0 0 ) (cvB (n := 0) (inr51 _ (List.mem_of_getElem? (i := 23) rfl)) (inr52 _ (List.mem_of_getElem? (i := 0) rfl)) (inr52 _ (List.mem_of_getElem? (i := 1) rfl)) (inr2 _ (List.mem_of_getElem? (i := 8) rfl)) (inr52 _ (List.mem_of_getElem? (i := 2) rfl)) (by decide +kernel) hts rfl rfl ⟨Nat.le_of_ble_eq_true rfl, Nat.le_of_ble_eq_true rfl⟩) 0 7 rfl rfl rfl (hP.sub [3] rfl) hK rfl hl.1 rfl (Nat.le_of_ble_eq_true rfl) ⟨Nat.le_of_ble_eq_true rfl, Nat.le_of_ble_eq_true rfl⟩ dX11_paste_35 (fun r_19 h_20 => ?_)
          obtain rfl := h_20
          refine lv_if_eq (tgt := 49) hx hb dX11_paste_38 (by decide) (fun _ => ?_) (fun c0 => absurd c0 (by decide))
          refine lv_bipush (v := (-6)) hx hb dX11_paste_49 (by decide) ?_
          exact W.iret (v := (-6)) hx hb hr (fun t ht hW => ⟨_, rfl, (by decide), ht⟩) (fun _ h => by cases h) dX11_paste_51
        · have hl : lv_has ls 8 [(6, .ref sl1), (0, .ref x0), (1, .int 1), (2, .int a2), (3, .int 3), (4, .int a4), (5, .int a5)] := hl
          refine lv_aload_n hx hb dX11_paste_25 rfl (lv_at hl 1 rfl) ?_
          refine va_get (D := D) (ci := 11) (v := .ref r_slots) (C := RX11) (T := TX11) (N := 14) hx hb hts inlX11 hown hK hP 0 rfl rfl 6 (by decide) (hts _ (inr2 _ (List.mem_of_getElem? (i := 6) rfl))) (fun _ h9 => h9) rfl dX11_paste_26 ?_
          refine lv_iload_n hx hb dX11_paste_29 rfl (lv_at hl 4 rfl) ?_
          refine va_aldq hx hb hK hP 1 4 rfl rfl (by unfold vp_in; decide) dX11_paste_30 ?_
          refine W.eq (g2 := F0 m 31 ls [.ref sl3]) rfl ?_
          refine lv_astore (lv' := [(7, .ref sl3), (6, .ref sl1), (0, .ref x0), (1, .int 1), (2, .int a2), (3, .int 3), (4, .int a4), (5, .int a5)]) hx hb dX11_paste_31 hl (by decide) rfl (fun ls hl => ?_)
          refine lv_aload hx hb dX11_paste_33 (lv_at hl 1 rfl) ?_
          refine roi (As := []) (rest := []) ⟨hx, hb, hml, hown, hts⟩ (k_Sl_has l D cB cI cJ cZ cS cT sl1 nb1 0 0 ) (cvB (n := 0) (inr51 _ (List.mem_of_getElem? (i := 23) rfl)) (inr52 _ (List.mem_of_getElem? (i := 0) rfl)) (inr52 _ (List.mem_of_getElem? (i := 1) rfl)) (inr2 _ (List.mem_of_getElem? (i := 8) rfl)) (inr52 _ (List.mem_of_getElem? (i := 2) rfl)) (by decide +kernel) hts rfl rfl ⟨Nat.le_of_ble_eq_true rfl, Nat.le_of_ble_eq_true rfl⟩) 0 7 rfl rfl rfl (hP.sub [3] rfl) hK rfl hl.1 rfl (Nat.le_of_ble_eq_true rfl) ⟨Nat.le_of_ble_eq_true rfl, Nat.le_of_ble_eq_true rfl⟩ dX11_paste_35 (fun r_21 h_22 => ?_)
          obtain rfl := h_22
          refine lv_if_eq (tgt := 49) hx hb dX11_paste_38 (by decide) (fun _ => ?_) (fun c0 => absurd c0 (by decide))
          refine lv_bipush (v := (-6)) hx hb dX11_paste_49 (by decide) ?_
          exact W.iret (v := (-6)) hx hb hr (fun t ht hW => ⟨_, rfl, (by decide), ht⟩) (fun _ h => by cases h) dX11_paste_51
      · have hl : lv_has ls 8 [(0, .ref x0), (1, .int 2), (2, .int a2), (3, .int a3), (4, .int a4), (5, .int a5)] := hl
        refine lv_aload_n hx hb dX11_paste_17 rfl (lv_at hl 0 rfl) ?_
        refine va_get (D := D) (ci := 11) (v := .ref r_slots) (C := RX11) (T := TX11) (N := 14) hx hb hts inlX11 hown hK hP 0 rfl rfl 6 (by decide) (hts _ (inr2 _ (List.mem_of_getElem? (i := 6) rfl))) (fun _ h9 => h9) rfl dX11_paste_18 ?_
        refine lv_iload_n hx hb dX11_paste_21 rfl (lv_at hl 1 rfl) ?_
        refine va_aldq hx hb hK hP 1 4 rfl rfl (by unfold vp_in; decide) dX11_paste_22 ?_
        refine W.eq (g2 := F0 m 23 ls [.ref sl2]) rfl ?_
        refine lv_astore (lv' := [(6, .ref sl2), (0, .ref x0), (1, .int 2), (2, .int a2), (3, .int a3), (4, .int a4), (5, .int a5)]) hx hb dX11_paste_23 hl (by decide) rfl (fun ls hl => ?_)
        rcases in4 (x := a3) (by omega) (by omega) with rfl | rfl | rfl | rfl
        · have hl : lv_has ls 8 [(6, .ref sl2), (0, .ref x0), (1, .int 2), (2, .int a2), (3, .int 0), (4, .int a4), (5, .int a5)] := hl
          refine lv_aload_n hx hb dX11_paste_25 rfl (lv_at hl 1 rfl) ?_
          refine va_get (D := D) (ci := 11) (v := .ref r_slots) (C := RX11) (T := TX11) (N := 14) hx hb hts inlX11 hown hK hP 0 rfl rfl 6 (by decide) (hts _ (inr2 _ (List.mem_of_getElem? (i := 6) rfl))) (fun _ h9 => h9) rfl dX11_paste_26 ?_
          refine lv_iload_n hx hb dX11_paste_29 rfl (lv_at hl 4 rfl) ?_
          refine va_aldq hx hb hK hP 1 4 rfl rfl (by unfold vp_in; decide) dX11_paste_30 ?_
          refine W.eq (g2 := F0 m 31 ls [.ref sl0]) rfl ?_
          refine lv_astore (lv' := [(7, .ref sl0), (6, .ref sl2), (0, .ref x0), (1, .int 2), (2, .int a2), (3, .int 0), (4, .int a4), (5, .int a5)]) hx hb dX11_paste_31 hl (by decide) rfl (fun ls hl => ?_)
          refine lv_aload hx hb dX11_paste_33 (lv_at hl 1 rfl) ?_
          refine roi (As := []) (rest := []) ⟨hx, hb, hml, hown, hts⟩ (k_Sl_has l D cB cI cJ cZ cS cT sl2 nb2 0 0 ) (cvB (n := 0) (inr51 _ (List.mem_of_getElem? (i := 23) rfl)) (inr52 _ (List.mem_of_getElem? (i := 0) rfl)) (inr52 _ (List.mem_of_getElem? (i := 1) rfl)) (inr2 _ (List.mem_of_getElem? (i := 8) rfl)) (inr52 _ (List.mem_of_getElem? (i := 2) rfl)) (by decide +kernel) hts rfl rfl ⟨Nat.le_of_ble_eq_true rfl, Nat.le_of_ble_eq_true rfl⟩) 0 7 rfl rfl rfl (hP.sub [4] rfl) hK rfl hl.1 rfl (Nat.le_of_ble_eq_true rfl) ⟨Nat.le_of_ble_eq_true rfl, Nat.le_of_ble_eq_true rfl⟩ dX11_paste_35 (fun r_23 h_24 => ?_)
          obtain rfl := h_24
          refine lv_if_eq (tgt := 49) hx hb dX11_paste_38 (by decide) (fun _ => ?_) (fun c0 => absurd c0 (by decide))
          refine lv_bipush (v := (-6)) hx hb dX11_paste_49 (by decide) ?_
          exact W.iret (v := (-6)) hx hb hr (fun t ht hW => ⟨_, rfl, (by decide), ht⟩) (fun _ h => by cases h) dX11_paste_51
        · have hl : lv_has ls 8 [(6, .ref sl2), (0, .ref x0), (1, .int 2), (2, .int a2), (3, .int 1), (4, .int a4), (5, .int a5)] := hl
          refine lv_aload_n hx hb dX11_paste_25 rfl (lv_at hl 1 rfl) ?_
          refine va_get (D := D) (ci := 11) (v := .ref r_slots) (C := RX11) (T := TX11) (N := 14) hx hb hts inlX11 hown hK hP 0 rfl rfl 6 (by decide) (hts _ (inr2 _ (List.mem_of_getElem? (i := 6) rfl))) (fun _ h9 => h9) rfl dX11_paste_26 ?_
          refine lv_iload_n hx hb dX11_paste_29 rfl (lv_at hl 4 rfl) ?_
          refine va_aldq hx hb hK hP 1 4 rfl rfl (by unfold vp_in; decide) dX11_paste_30 ?_
          refine W.eq (g2 := F0 m 31 ls [.ref sl1]) rfl ?_
          refine lv_astore (lv' := [(7, .ref sl1), (6, .ref sl2), (0, .ref x0), (1, .int 2), (2, .int a2), (3, .int 1), (4, .int a4), (5, .int a5)]) hx hb dX11_paste_31 hl (by decide) rfl (fun ls hl => ?_)
          refine lv_aload hx hb dX11_paste_33 (lv_at hl 1 rfl) ?_
          refine roi (As := []) (rest := []) ⟨hx, hb, hml, hown, hts⟩ (k_Sl_has l D cB cI cJ cZ cS cT sl2 nb2 0 0 ) (cvB (n := 0) (inr51 _ (List.mem_of_getElem? (i := 23) rfl)) (inr52 _ (List.mem_of_getElem? (i := 0) rfl)) (inr52 _ (List.mem_of_getElem? (i := 1) rfl)) (inr2 _ (List.mem_of_getElem? (i := 8) rfl)) (inr52 _ (List.mem_of_getElem? (i := 2) rfl)) (by decide +kernel) hts rfl rfl ⟨Nat.le_of_ble_eq_true rfl, Nat.le_of_ble_eq_true rfl⟩) 0 7 rfl rfl rfl (hP.sub [4] rfl) hK rfl hl.1 rfl (Nat.le_of_ble_eq_true rfl) ⟨Nat.le_of_ble_eq_true rfl, Nat.le_of_ble_eq_true rfl⟩ dX11_paste_35 (fun r_25 h_26 => ?_)
          obtain rfl := h_26
          refine lv_if_eq (tgt := 49) hx hb dX11_paste_38 (by decide) (fun _ => ?_) (fun c0 => absurd c0 (by decide))
          refine lv_bipush (v := (-6)) hx hb dX11_paste_49 (by decide) ?_
          exact W.iret (v := (-6)) hx hb hr (fun t ht hW => ⟨_, rfl, (by decide), ht⟩) (fun _ h => by cases h) dX11_paste_51
        · have hl : lv_has ls 8 [(6, .ref sl2), (0, .ref x0), (1, .int 2), (2, .int a2), (3, .int 2), (4, .int a4), (5, .int a5)] := hl
          refine lv_aload_n hx hb dX11_paste_25 rfl (lv_at hl 1 rfl) ?_
          refine va_get (D := D) (ci := 11) (v := .ref r_slots) (C := RX11) (T := TX11) (N := 14) hx hb hts inlX11 hown hK hP 0 rfl rfl 6 (by decide) (hts _ (inr2 _ (List.mem_of_getElem? (i := 6) rfl))) (fun _ h9 => h9) rfl dX11_paste_26 ?_
          refine lv_iload_n hx hb dX11_paste_29 rfl (lv_at hl 4 rfl) ?_
          refine va_aldq hx hb hK hP 1 4 rfl rfl (by unfold vp_in; decide) dX11_paste_30 ?_
          refine W.eq (g2 := F0 m 31 ls [.ref sl2]) rfl ?_
          refine lv_astore (lv' := [(7, .ref sl2), (6, .ref sl2), (0, .ref x0), (1, .int 2), (2, .int a2), (3, .int 2), (4, .int a4), (5, .int a5)]) hx hb dX11_paste_31 hl (by decide) rfl (fun ls hl => ?_)
          refine lv_aload hx hb dX11_paste_33 (lv_at hl 1 rfl) ?_
          refine roi (As := []) (rest := []) ⟨hx, hb, hml, hown, hts⟩ (k_Sl_has l D cB cI cJ cZ cS cT sl2 nb2 0 0 ) (cvB (n := 0) (inr51 _ (List.mem_of_getElem? (i := 23) rfl)) (inr52 _ (List.mem_of_getElem? (i := 0) rfl)) (inr52 _ (List.mem_of_getElem? (i := 1) rfl)) (inr2 _ (List.mem_of_getElem? (i := 8) rfl)) (inr52 _ (List.mem_of_getElem? (i := 2) rfl)) (by decide +kernel) hts rfl rfl ⟨Nat.le_of_ble_eq_true rfl, Nat.le_of_ble_eq_true rfl⟩) 0 7 rfl rfl rfl (hP.sub [4] rfl) hK rfl hl.1 rfl (Nat.le_of_ble_eq_true rfl) ⟨Nat.le_of_ble_eq_true rfl, Nat.le_of_ble_eq_true rfl⟩ dX11_paste_35 (fun r_27 h_28 => ?_)
          obtain rfl := h_28
          refine lv_if_eq (tgt := 49) hx hb dX11_paste_38 (by decide) (fun _ => ?_) (fun c0 => absurd c0 (by decide))
          refine lv_bipush (v := (-6)) hx hb dX11_paste_49 (by decide) ?_
          exact W.iret (v := (-6)) hx hb hr (fun t ht hW => ⟨_, rfl, (by decide), ht⟩) (fun _ h => by cases h) dX11_paste_51
        · have hl : lv_has ls 8 [(6, .ref sl2), (0, .ref x0), (1, .int 2), (2, .int a2), (3, .int 3), (4, .int a4), (5, .int a5)] := hl
          refine lv_aload_n hx hb dX11_paste_25 rfl (lv_at hl 1 rfl) ?_
          refine va_get (D := D) (ci := 11) (v := .ref r_slots) (C := RX11) (T := TX11) (N := 14) hx hb hts inlX11 hown hK hP 0 rfl rfl 6 (by decide) (hts _ (inr2 _ (List.mem_of_getElem? (i := 6) rfl))) (fun _ h9 => h9) rfl dX11_paste_26 ?_
          refine lv_iload_n hx hb dX11_paste_29 rfl (lv_at hl 4 rfl) ?_
          refine va_aldq hx hb hK hP 1 4 rfl rfl (by unfold vp_in; decide) dX11_paste_30 ?_
          refine W.eq (g2 := F0 m 31 ls [.ref sl3]) rfl ?_
          refine lv_astore (lv' := [(7, .ref sl3), (6, .ref sl2), (0, .ref x0), (1, .int 2), (2, .int a2), (3, .int 3), (4, .int a4), (5, .int a5)]) hx hb dX11_paste_31 hl (by decide) rfl (fun ls hl => ?_)
          refine lv_aload hx hb dX11_paste_33 (lv_at hl 1 rfl) ?_
          refine roi (As := []) (rest := []) ⟨hx, hb, hml, hown, hts⟩ (k_Sl_has l D cB cI cJ cZ cS cT sl2 nb2 0 0 ) (cvB (n := 0) (inr51 _ (List.mem_of_getElem? (i := 23) rfl)) (inr52 _ (List.mem_of_getElem? (i := 0) rfl)) (inr52 _ (List.mem_of_getElem? (i := 1) rfl)) (inr2 _ (List.mem_of_getElem? (i := 8) rfl)) (inr52 _ (List.mem_of_getElem? (i := 2) rfl)) (by decide +kernel) hts rfl rfl ⟨Nat.le_of_ble_eq_true rfl, Nat.le_of_ble_eq_true rfl⟩) 0 7 rfl rfl rfl (hP.sub [4] rfl) hK rfl hl.1 rfl (Nat.le_of_ble_eq_true rfl) ⟨Nat.le_of_ble_eq_true rfl, Nat.le_of_ble_eq_true rfl⟩ dX11_paste_35 (fun r_29 h_30 => ?_)
          obtain rfl := h_30
          refine lv_if_eq (tgt := 49) hx hb dX11_paste_38 (by decide) (fun _ => ?_) (fun c0 => absurd c0 (by decide))
          refine lv_bipush (v := (-6)) hx hb dX11_paste_49 (by decide) ?_
          exact W.iret (v := (-6)) hx hb hr (fun t ht hW => ⟨_, rfl, (by decide), ht⟩) (fun _ h => by cases h) dX11_paste_51
      · have hl : lv_has ls 8 [(0, .ref x0), (1, .int 3), (2, .int a2), (3, .int a3), (4, .int a4), (5, .int a5)] := hl
        refine lv_aload_n hx hb dX11_paste_17 rfl (lv_at hl 0 rfl) ?_
        refine va_get (D := D) (ci := 11) (v := .ref r_slots) (C := RX11) (T := TX11) (N := 14) hx hb hts inlX11 hown hK hP 0 rfl rfl 6 (by decide) (hts _ (inr2 _ (List.mem_of_getElem? (i := 6) rfl))) (fun _ h9 => h9) rfl dX11_paste_18 ?_
        refine lv_iload_n hx hb dX11_paste_21 rfl (lv_at hl 1 rfl) ?_
        refine va_aldq hx hb hK hP 1 4 rfl rfl (by unfold vp_in; decide) dX11_paste_22 ?_
        refine W.eq (g2 := F0 m 23 ls [.ref sl3]) rfl ?_
        refine lv_astore (lv' := [(6, .ref sl3), (0, .ref x0), (1, .int 3), (2, .int a2), (3, .int a3), (4, .int a4), (5, .int a5)]) hx hb dX11_paste_23 hl (by decide) rfl (fun ls hl => ?_)
        rcases in4 (x := a3) (by omega) (by omega) with rfl | rfl | rfl | rfl
        · have hl : lv_has ls 8 [(6, .ref sl3), (0, .ref x0), (1, .int 3), (2, .int a2), (3, .int 0), (4, .int a4), (5, .int a5)] := hl
          refine lv_aload_n hx hb dX11_paste_25 rfl (lv_at hl 1 rfl) ?_
          refine va_get (D := D) (ci := 11) (v := .ref r_slots) (C := RX11) (T := TX11) (N := 14) hx hb hts inlX11 hown hK hP 0 rfl rfl 6 (by decide) (hts _ (inr2 _ (List.mem_of_getElem? (i := 6) rfl))) (fun _ h9 => h9) rfl dX11_paste_26 ?_
          refine lv_iload_n hx hb dX11_paste_29 rfl (lv_at hl 4 rfl) ?_
          refine va_aldq hx hb hK hP 1 4 rfl rfl (by unfold vp_in; decide) dX11_paste_30 ?_
          refine W.eq (g2 := F0 m 31 ls [.ref sl0]) rfl ?_
          refine lv_astore (lv' := [(7, .ref sl0), (6, .ref sl3), (0, .ref x0), (1, .int 3), (2, .int a2), (3, .int 0), (4, .int a4), (5, .int a5)]) hx hb dX11_paste_31 hl (by decide) rfl (fun ls hl => ?_)
          refine lv_aload hx hb dX11_paste_33 (lv_at hl 1 rfl) ?_
          refine roi (As := []) (rest := []) ⟨hx, hb, hml, hown, hts⟩ (k_Sl_has l D cB cI cJ cZ cS cT sl3 nb3 0 0 ) (cvB (n := 0) (inr51 _ (List.mem_of_getElem? (i := 23) rfl)) (inr52 _ (List.mem_of_getElem? (i := 0) rfl)) (inr52 _ (List.mem_of_getElem? (i := 1) rfl)) (inr2 _ (List.mem_of_getElem? (i := 8) rfl)) (inr52 _ (List.mem_of_getElem? (i := 2) rfl)) (by decide +kernel) hts rfl rfl ⟨Nat.le_of_ble_eq_true rfl, Nat.le_of_ble_eq_true rfl⟩) 0 7 rfl rfl rfl (hP.sub [5] rfl) hK rfl hl.1 rfl (Nat.le_of_ble_eq_true rfl) ⟨Nat.le_of_ble_eq_true rfl, Nat.le_of_ble_eq_true rfl⟩ dX11_paste_35 (fun r_31 h_32 => ?_)
          obtain rfl := h_32
          refine lv_if_eq (tgt := 49) hx hb dX11_paste_38 (by decide) (fun _ => ?_) (fun c0 => absurd c0 (by decide))
          refine lv_bipush (v := (-6)) hx hb dX11_paste_49 (by decide) ?_
          exact W.iret (v := (-6)) hx hb hr (fun t ht hW => ⟨_, rfl, (by decide), ht⟩) (fun _ h => by cases h) dX11_paste_51
        · have hl : lv_has ls 8 [(6, .ref sl3), (0, .ref x0), (1, .int 3), (2, .int a2), (3, .int 1), (4, .int a4), (5, .int a5)] := hl
          refine lv_aload_n hx hb dX11_paste_25 rfl (lv_at hl 1 rfl) ?_
          refine va_get (D := D) (ci := 11) (v := .ref r_slots) (C := RX11) (T := TX11) (N := 14) hx hb hts inlX11 hown hK hP 0 rfl rfl 6 (by decide) (hts _ (inr2 _ (List.mem_of_getElem? (i := 6) rfl))) (fun _ h9 => h9) rfl dX11_paste_26 ?_
          refine lv_iload_n hx hb dX11_paste_29 rfl (lv_at hl 4 rfl) ?_
          refine va_aldq hx hb hK hP 1 4 rfl rfl (by unfold vp_in; decide) dX11_paste_30 ?_
          refine W.eq (g2 := F0 m 31 ls [.ref sl1]) rfl ?_
          refine lv_astore (lv' := [(7, .ref sl1), (6, .ref sl3), (0, .ref x0), (1, .int 3), (2, .int a2), (3, .int 1), (4, .int a4), (5, .int a5)]) hx hb dX11_paste_31 hl (by decide) rfl (fun ls hl => ?_)
          refine lv_aload hx hb dX11_paste_33 (lv_at hl 1 rfl) ?_
          refine roi (As := []) (rest := []) ⟨hx, hb, hml, hown, hts⟩ (k_Sl_has l D cB cI cJ cZ cS cT sl3 nb3 0 0 ) (cvB (n := 0) (inr51 _ (List.mem_of_getElem? (i := 23) rfl)) (inr52 _ (List.mem_of_getElem? (i := 0) rfl)) (inr52 _ (List.mem_of_getElem? (i := 1) rfl)) (inr2 _ (List.mem_of_getElem? (i := 8) rfl)) (inr52 _ (List.mem_of_getElem? (i := 2) rfl)) (by decide +kernel) hts rfl rfl ⟨Nat.le_of_ble_eq_true rfl, Nat.le_of_ble_eq_true rfl⟩) 0 7 rfl rfl rfl (hP.sub [5] rfl) hK rfl hl.1 rfl (Nat.le_of_ble_eq_true rfl) ⟨Nat.le_of_ble_eq_true rfl, Nat.le_of_ble_eq_true rfl⟩ dX11_paste_35 (fun r_33 h_34 => ?_)
          obtain rfl := h_34
          refine lv_if_eq (tgt := 49) hx hb dX11_paste_38 (by decide) (fun _ => ?_) (fun c0 => absurd c0 (by decide))
          refine lv_bipush (v := (-6)) hx hb dX11_paste_49 (by decide) ?_
          exact W.iret (v := (-6)) hx hb hr (fun t ht hW => ⟨_, rfl, (by decide), ht⟩) (fun _ h => by cases h) dX11_paste_51
        · have hl : lv_has ls 8 [(6, .ref sl3), (0, .ref x0), (1, .int 3), (2, .int a2), (3, .int 2), (4, .int a4), (5, .int a5)] := hl
          refine lv_aload_n hx hb dX11_paste_25 rfl (lv_at hl 1 rfl) ?_
          refine va_get (D := D) (ci := 11) (v := .ref r_slots) (C := RX11) (T := TX11) (N := 14) hx hb hts inlX11 hown hK hP 0 rfl rfl 6 (by decide) (hts _ (inr2 _ (List.mem_of_getElem? (i := 6) rfl))) (fun _ h9 => h9) rfl dX11_paste_26 ?_
          refine lv_iload_n hx hb dX11_paste_29 rfl (lv_at hl 4 rfl) ?_
          refine va_aldq hx hb hK hP 1 4 rfl rfl (by unfold vp_in; decide) dX11_paste_30 ?_
          refine W.eq (g2 := F0 m 31 ls [.ref sl2]) rfl ?_
          refine lv_astore (lv' := [(7, .ref sl2), (6, .ref sl3), (0, .ref x0), (1, .int 3), (2, .int a2), (3, .int 2), (4, .int a4), (5, .int a5)]) hx hb dX11_paste_31 hl (by decide) rfl (fun ls hl => ?_)
          refine lv_aload hx hb dX11_paste_33 (lv_at hl 1 rfl) ?_
          refine roi (As := []) (rest := []) ⟨hx, hb, hml, hown, hts⟩ (k_Sl_has l D cB cI cJ cZ cS cT sl3 nb3 0 0 ) (cvB (n := 0) (inr51 _ (List.mem_of_getElem? (i := 23) rfl)) (inr52 _ (List.mem_of_getElem? (i := 0) rfl)) (inr52 _ (List.mem_of_getElem? (i := 1) rfl)) (inr2 _ (List.mem_of_getElem? (i := 8) rfl)) (inr52 _ (List.mem_of_getElem? (i := 2) rfl)) (by decide +kernel) hts rfl rfl ⟨Nat.le_of_ble_eq_true rfl, Nat.le_of_ble_eq_true rfl⟩) 0 7 rfl rfl rfl (hP.sub [5] rfl) hK rfl hl.1 rfl (Nat.le_of_ble_eq_true rfl) ⟨Nat.le_of_ble_eq_true rfl, Nat.le_of_ble_eq_true rfl⟩ dX11_paste_35 (fun r_35 h_36 => ?_)
          obtain rfl := h_36
          refine lv_if_eq (tgt := 49) hx hb dX11_paste_38 (by decide) (fun _ => ?_) (fun c0 => absurd c0 (by decide))
          refine lv_bipush (v := (-6)) hx hb dX11_paste_49 (by decide) ?_
          exact W.iret (v := (-6)) hx hb hr (fun t ht hW => ⟨_, rfl, (by decide), ht⟩) (fun _ h => by cases h) dX11_paste_51
        · have hl : lv_has ls 8 [(6, .ref sl3), (0, .ref x0), (1, .int 3), (2, .int a2), (3, .int 3), (4, .int a4), (5, .int a5)] := hl
          refine lv_aload_n hx hb dX11_paste_25 rfl (lv_at hl 1 rfl) ?_
          refine va_get (D := D) (ci := 11) (v := .ref r_slots) (C := RX11) (T := TX11) (N := 14) hx hb hts inlX11 hown hK hP 0 rfl rfl 6 (by decide) (hts _ (inr2 _ (List.mem_of_getElem? (i := 6) rfl))) (fun _ h9 => h9) rfl dX11_paste_26 ?_
          refine lv_iload_n hx hb dX11_paste_29 rfl (lv_at hl 4 rfl) ?_
          refine va_aldq hx hb hK hP 1 4 rfl rfl (by unfold vp_in; decide) dX11_paste_30 ?_
          refine W.eq (g2 := F0 m 31 ls [.ref sl3]) rfl ?_
          refine lv_astore (lv' := [(7, .ref sl3), (6, .ref sl3), (0, .ref x0), (1, .int 3), (2, .int a2), (3, .int 3), (4, .int a4), (5, .int a5)]) hx hb dX11_paste_31 hl (by decide) rfl (fun ls hl => ?_)
          refine lv_aload hx hb dX11_paste_33 (lv_at hl 1 rfl) ?_
          refine roi (As := []) (rest := []) ⟨hx, hb, hml, hown, hts⟩ (k_Sl_has l D cB cI cJ cZ cS cT sl3 nb3 0 0 ) (cvB (n := 0) (inr51 _ (List.mem_of_getElem? (i := 23) rfl)) (inr52 _ (List.mem_of_getElem? (i := 0) rfl)) (inr52 _ (List.mem_of_getElem? (i := 1) rfl)) (inr2 _ (List.mem_of_getElem? (i := 8) rfl)) (inr52 _ (List.mem_of_getElem? (i := 2) rfl)) (by decide +kernel) hts rfl rfl ⟨Nat.le_of_ble_eq_true rfl, Nat.le_of_ble_eq_true rfl⟩) 0 7 rfl rfl rfl (hP.sub [5] rfl) hK rfl hl.1 rfl (Nat.le_of_ble_eq_true rfl) ⟨Nat.le_of_ble_eq_true rfl, Nat.le_of_ble_eq_true rfl⟩ dX11_paste_35 (fun r_37 h_38 => ?_)
          obtain rfl := h_38
          refine lv_if_eq (tgt := 49) hx hb dX11_paste_38 (by decide) (fun _ => ?_) (fun c0 => absurd c0 (by decide))
          refine lv_bipush (v := (-6)) hx hb dX11_paste_49 (by decide) ?_
          exact W.iret (v := (-6)) hx hb hr (fun t ht hW => ⟨_, rfl, (by decide), ht⟩) (fun _ h => by cases h) dX11_paste_51

set_option maxHeartbeats 4000000 in
set_option maxRecDepth 100000 in
theorem k_add0 (l : Launch) (D : va_G) (cB cI cJ cZ cS cT : ClassId) (sz : Nat) (h0 : Nat) (by_ : Nat) (f : Nat → Int32) (v : Int32)  : Met l yX9_add (Cond.code yX9_add cX9_add 3 none :: wsL_law) ({ frames := 0, cells := 0, slots := 0, locals := 0 }) (wrP D (tyL cB cI cJ cZ cS cT) [(h0, .inr (9, [.ref by_, .int 0])), (by_, .inl (cB, 500, .inl f))] sz [.ref h0, .int v]) (va_Qv (fun x : (Nat → Int32) => True) (atW D (tyL cB cI cJ cZ cS cT) (va_A [(h0, .inr (9, [.ref by_, .int 0])), (by_, .inl (cB, 500, .inl f))] sz) (fun x : (Nat → Int32) => [(h0, .inr (9, [.ref by_, .int 4])), (by_, .inl (cB, 500, .inl x))])) (va_A [(h0, .inr (9, [.ref by_, .int 0])), (by_, .inl (cB, 500, .inl f))] sz)) 0 0 (va_A [(h0, .inr (9, [.ref by_, .int 0])), (by_, .inl (cB, 500, .inl f))] sz) := by
  refine Met.ofW (cc := cX9_add) (maxL := 3) (ret := none) (by decide) rfl ?_
  intro p e s m args below meth c s₁ B hml hv
  obtain ⟨rfl, hsz, hP, hK, hD0, hN⟩ := hv
  have hx := B.exec
  have hb := B.bytes
  have hr := B.returns
  have hts : ∀ w ∈ wsL_law, w.before ([.ref h0, .int v] : List Value).toArray s = true := fun w h => atoms_spec (ws := Cond.code yX9_add cX9_add 3 none :: wsL_law) B.pre w (List.mem_cons_of_mem _ h)
  have hown : s.vm.findClass RX9 = some m.cls := findClass_of_methodNamed B.named
  have hlocks := B.notSynchronized
  subst hsz
  have hD := hD0.self (sz := s.heap.size)
  generalize hAe : va_A [(h0, .inr (9, [.ref by_, .int 0])), (by_, .inl (cB, 500, .inl f))] s.heap.size = A at hD ⊢
  have hA : ∀ q : Nat, s.heap.size ≤ q → A q := fun q h => by rw [← hAe]; exact Or.inr h
  have hS : va_S A s.heap s.heap [] := va_S.rf
  have hl := lv_entry ([.ref h0, .int v]) (n := 3) (Nat.le_of_ble_eq_true rfl)
  rw [lg_entry_eq]
  generalize (lg_sl ([.ref h0, .int v]) ++ List.replicate (3 - (lg_sl ([.ref h0, .int v])).length) Slot.unset).toArray = ls at hl ⊢
  have hl : lv_has ls 3 [(0, .ref h0), (1, .int v)] := hl
  have hP : va_P D vwCl [(h0, .inr (9, [.ref by_, .int 0])), (by_, .inl (cB, 500, .inl f))] s.heap := hP
  refine lv_bipush (v := 24) hx hb dX9_add_0 (by decide) ?_
  refine lv_istore_n (lv' := [(2, .int 24), (0, .ref h0), (1, .int v)]) hx hb dX9_add_2 rfl hl (by decide) rfl (fun ls hl => ?_)
  refine lv_iload_n hx hb dX9_add_3 rfl (lv_at hl 0 rfl) ?_
  refine lv_if_lt (tgt := 48) hx hb dX9_add_4 (by decide) (fun c0 => absurd c0 (by decide)) (fun _ => ?_)
  refine lv_aload_n hx hb dX9_add_7 rfl (lv_at hl 1 rfl) ?_
  refine va_get (D := D) (ci := 9) (v := .int 0) (C := RX9) (T := TX9) (N := 2) hx hb hts inlX9 hown hK hP 0 rfl rfl 1 (by decide) (hts _ (inr8 _ (List.mem_of_getElem? (i := 2) rfl))) (fun _ h9 => h9) rfl dX9_add_8 ?_
  refine lv_aload_n hx hb dX9_add_11 rfl (lv_at hl 1 rfl) ?_
  refine va_get (D := D) (ci := 9) (v := .ref by_) (C := RX9) (T := TX9) (N := 2) hx hb hts inlX9 hown hK hP 0 rfl rfl 0 (by decide) (hts _ (inr3 _ (List.mem_of_getElem? (i := 14) rfl))) (fun _ h9 => h9) rfl dX9_add_12 ?_
  refine va_alen (v := 500) hx hb hK hP 1 0 rfl rfl rfl dX9_add_15 ?_
  refine lv_icmp_ge (tgt := 42) hx hb dX9_add_16 (by decide) (fun c0 => absurd c0 (by decide)) (fun _ => ?_)
  refine lv_aload_n hx hb dX9_add_19 rfl (lv_at hl 1 rfl) ?_
  refine va_get (D := D) (ci := 9) (v := .ref by_) (C := RX9) (T := TX9) (N := 2) hx hb hts inlX9 hown hK hP 0 rfl rfl 0 (by decide) (hts _ (inr3 _ (List.mem_of_getElem? (i := 14) rfl))) (fun _ h9 => h9) rfl dX9_add_20 ?_
  refine lv_aload_n hx hb dX9_add_23 rfl (lv_at hl 1 rfl) ?_
  refine va_get (D := D) (ci := 9) (v := .int 0) (C := RX9) (T := TX9) (N := 2) hx hb hts inlX9 hown hK hP 0 rfl rfl 1 (by decide) (hts _ (inr8 _ (List.mem_of_getElem? (i := 2) rfl))) (fun _ h9 => h9) rfl dX9_add_24 ?_
  refine lv_iload_n hx hb dX9_add_27 rfl (lv_at hl 2 rfl) ?_
  refine lv_iload_n hx hb dX9_add_28 rfl (lv_at hl 0 rfl) ?_
  obtain ⟨t_1, et_1⟩ : ∃ v9 : Int32, v >>> (24 &&& 31) = v9 := ⟨_, rfl⟩
  refine z_ishr (v := t_1) hx hb dX9_add_29 et_1 ?_
  obtain ⟨t_2, et_2⟩ : ∃ v9 : Int32, (t_1 : Int32).toInt8.toInt32 = v9 := ⟨_, rfl⟩
  refine lv_i2b (v := t_2) hx hb dX9_add_30 et_2 ?_
  refine va_bast hx hb hK hP hD hS 1 0 rfl rfl (by unfold vp_in; decide) dX9_add_31 (fun H locs hP hD hS => ?_)
  have hP : va_P D vwCl [(h0, .inr (9, [.ref by_, .int 0])), (by_, .inl (cB, 500, .inl (upd f (0 : Int32).toNatClampNeg (vp_nar .byte t_2))))] H := hP
  have hD : va_D A [(h0, .inr (9, [.ref by_, .int 0])), (by_, .inl (cB, 500, .inl (upd f (0 : Int32).toNatClampNeg (vp_nar .byte t_2))))] := hD
  obtain ⟨g_3, eg_3⟩ : ∃ v9 : Nat → Int32, (upd f (0 : Int32).toNatClampNeg (vp_nar .byte t_2)) = v9 := ⟨_, rfl⟩
  rw [eg_3] at hP hD
  have hP : va_P D vwCl [(h0, .inr (9, [.ref by_, .int 0])), (by_, .inl (cB, 500, .inl g_3))] H := hP
  have hD : va_D A [(h0, .inr (9, [.ref by_, .int 0])), (by_, .inl (cB, 500, .inl g_3))] := hD
  refine lv_aload_n hx hb dX9_add_32 rfl (lv_at hl 1 rfl) ?_
  refine lv_dup hx hb dX9_add_33 rfl ?_
  refine va_get (D := D) (ci := 9) (v := .int 0) (C := RX9) (T := TX9) (N := 2) hx hb hts inlX9 hown hK hP 0 rfl rfl 1 (by decide) (hts _ (inr8 _ (List.mem_of_getElem? (i := 2) rfl))) (fun _ h9 => h9) rfl dX9_add_34 ?_
  refine lv_iconst (v := 1) hx hb dX9_add_37 (by decide) ?_
  refine z_iadd (v := 1) hx hb dX9_add_38 (by decide) ?_
  refine va_put (D := D) (ci := 9) (v := .int 1) (ty := .int) (C := RX9) (T := TX9) (N := 2) hx hb hts inlX9 tyX9 tyX9_ok nmX9 hown hK hP hD hS 0 rfl rfl 1 (by decide) (hts _ (inr8 _ (List.mem_of_getElem? (i := 2) rfl))) (fun _ h9 => h9) rfl (by decide +kernel) rfl rfl (Nat.le_of_ble_eq_true rfl) dX9_add_39 (fun H locs hP hD hS => ?_)
  have hP : va_P D vwCl [(h0, .inr (9, [.ref by_, .int 1])), (by_, .inl (cB, 500, .inl g_3))] H := hP
  have hD : va_D A [(h0, .inr (9, [.ref by_, .int 1])), (by_, .inl (cB, 500, .inl g_3))] := hD
  refine lv_iinc (v := 16) (lv' := [(2, .int 16), (0, .ref h0), (1, .int v)]) hx hb dX9_add_42 hl (k := 0) rfl (by decide) (by decide) rfl (fun ls hl => ?_)
  refine lv_goto (tgt := 3) hx hb dX9_add_45 (by decide) ?_
  refine lv_iload_n hx hb dX9_add_3 rfl (lv_at hl 0 rfl) ?_
  refine lv_if_lt (tgt := 48) hx hb dX9_add_4 (by decide) (fun c0 => absurd c0 (by decide)) (fun _ => ?_)
  refine lv_aload_n hx hb dX9_add_7 rfl (lv_at hl 1 rfl) ?_
  refine va_get (D := D) (ci := 9) (v := .int 1) (C := RX9) (T := TX9) (N := 2) hx hb hts inlX9 hown hK hP 0 rfl rfl 1 (by decide) (hts _ (inr8 _ (List.mem_of_getElem? (i := 2) rfl))) (fun _ h9 => h9) rfl dX9_add_8 ?_
  refine lv_aload_n hx hb dX9_add_11 rfl (lv_at hl 1 rfl) ?_
  refine va_get (D := D) (ci := 9) (v := .ref by_) (C := RX9) (T := TX9) (N := 2) hx hb hts inlX9 hown hK hP 0 rfl rfl 0 (by decide) (hts _ (inr3 _ (List.mem_of_getElem? (i := 14) rfl))) (fun _ h9 => h9) rfl dX9_add_12 ?_
  refine va_alen (v := 500) hx hb hK hP 1 0 rfl rfl rfl dX9_add_15 ?_
  refine lv_icmp_ge (tgt := 42) hx hb dX9_add_16 (by decide) (fun c0 => absurd c0 (by decide)) (fun _ => ?_)
  refine lv_aload_n hx hb dX9_add_19 rfl (lv_at hl 1 rfl) ?_
  refine va_get (D := D) (ci := 9) (v := .ref by_) (C := RX9) (T := TX9) (N := 2) hx hb hts inlX9 hown hK hP 0 rfl rfl 0 (by decide) (hts _ (inr3 _ (List.mem_of_getElem? (i := 14) rfl))) (fun _ h9 => h9) rfl dX9_add_20 ?_
  refine lv_aload_n hx hb dX9_add_23 rfl (lv_at hl 1 rfl) ?_
  refine va_get (D := D) (ci := 9) (v := .int 1) (C := RX9) (T := TX9) (N := 2) hx hb hts inlX9 hown hK hP 0 rfl rfl 1 (by decide) (hts _ (inr8 _ (List.mem_of_getElem? (i := 2) rfl))) (fun _ h9 => h9) rfl dX9_add_24 ?_
  refine lv_iload_n hx hb dX9_add_27 rfl (lv_at hl 2 rfl) ?_
  refine lv_iload_n hx hb dX9_add_28 rfl (lv_at hl 0 rfl) ?_
  obtain ⟨t_4, et_4⟩ : ∃ v9 : Int32, v >>> (16 &&& 31) = v9 := ⟨_, rfl⟩
  refine z_ishr (v := t_4) hx hb dX9_add_29 et_4 ?_
  obtain ⟨t_5, et_5⟩ : ∃ v9 : Int32, (t_4 : Int32).toInt8.toInt32 = v9 := ⟨_, rfl⟩
  refine lv_i2b (v := t_5) hx hb dX9_add_30 et_5 ?_
  refine va_bast hx hb hK hP hD hS 1 0 rfl rfl (by unfold vp_in; decide) dX9_add_31 (fun H locs hP hD hS => ?_)
  have hP : va_P D vwCl [(h0, .inr (9, [.ref by_, .int 1])), (by_, .inl (cB, 500, .inl (upd g_3 (1 : Int32).toNatClampNeg (vp_nar .byte t_5))))] H := hP
  have hD : va_D A [(h0, .inr (9, [.ref by_, .int 1])), (by_, .inl (cB, 500, .inl (upd g_3 (1 : Int32).toNatClampNeg (vp_nar .byte t_5))))] := hD
  obtain ⟨g_6, eg_6⟩ : ∃ v9 : Nat → Int32, (upd g_3 (1 : Int32).toNatClampNeg (vp_nar .byte t_5)) = v9 := ⟨_, rfl⟩
  rw [eg_6] at hP hD
  have hP : va_P D vwCl [(h0, .inr (9, [.ref by_, .int 1])), (by_, .inl (cB, 500, .inl g_6))] H := hP
  have hD : va_D A [(h0, .inr (9, [.ref by_, .int 1])), (by_, .inl (cB, 500, .inl g_6))] := hD
  refine lv_aload_n hx hb dX9_add_32 rfl (lv_at hl 1 rfl) ?_
  refine lv_dup hx hb dX9_add_33 rfl ?_
  refine va_get (D := D) (ci := 9) (v := .int 1) (C := RX9) (T := TX9) (N := 2) hx hb hts inlX9 hown hK hP 0 rfl rfl 1 (by decide) (hts _ (inr8 _ (List.mem_of_getElem? (i := 2) rfl))) (fun _ h9 => h9) rfl dX9_add_34 ?_
  refine lv_iconst (v := 1) hx hb dX9_add_37 (by decide) ?_
  refine z_iadd (v := 2) hx hb dX9_add_38 (by decide) ?_
  refine va_put (D := D) (ci := 9) (v := .int 2) (ty := .int) (C := RX9) (T := TX9) (N := 2) hx hb hts inlX9 tyX9 tyX9_ok nmX9 hown hK hP hD hS 0 rfl rfl 1 (by decide) (hts _ (inr8 _ (List.mem_of_getElem? (i := 2) rfl))) (fun _ h9 => h9) rfl (by decide +kernel) rfl rfl (Nat.le_of_ble_eq_true rfl) dX9_add_39 (fun H locs hP hD hS => ?_)
  have hP : va_P D vwCl [(h0, .inr (9, [.ref by_, .int 2])), (by_, .inl (cB, 500, .inl g_6))] H := hP
  have hD : va_D A [(h0, .inr (9, [.ref by_, .int 2])), (by_, .inl (cB, 500, .inl g_6))] := hD
  refine lv_iinc (v := 8) (lv' := [(2, .int 8), (0, .ref h0), (1, .int v)]) hx hb dX9_add_42 hl (k := 0) rfl (by decide) (by decide) rfl (fun ls hl => ?_)
  refine lv_goto (tgt := 3) hx hb dX9_add_45 (by decide) ?_
  refine lv_iload_n hx hb dX9_add_3 rfl (lv_at hl 0 rfl) ?_
  refine lv_if_lt (tgt := 48) hx hb dX9_add_4 (by decide) (fun c0 => absurd c0 (by decide)) (fun _ => ?_)
  refine lv_aload_n hx hb dX9_add_7 rfl (lv_at hl 1 rfl) ?_
  refine va_get (D := D) (ci := 9) (v := .int 2) (C := RX9) (T := TX9) (N := 2) hx hb hts inlX9 hown hK hP 0 rfl rfl 1 (by decide) (hts _ (inr8 _ (List.mem_of_getElem? (i := 2) rfl))) (fun _ h9 => h9) rfl dX9_add_8 ?_
  refine lv_aload_n hx hb dX9_add_11 rfl (lv_at hl 1 rfl) ?_
  refine va_get (D := D) (ci := 9) (v := .ref by_) (C := RX9) (T := TX9) (N := 2) hx hb hts inlX9 hown hK hP 0 rfl rfl 0 (by decide) (hts _ (inr3 _ (List.mem_of_getElem? (i := 14) rfl))) (fun _ h9 => h9) rfl dX9_add_12 ?_
  refine va_alen (v := 500) hx hb hK hP 1 0 rfl rfl rfl dX9_add_15 ?_
  refine lv_icmp_ge (tgt := 42) hx hb dX9_add_16 (by decide) (fun c0 => absurd c0 (by decide)) (fun _ => ?_)
  refine lv_aload_n hx hb dX9_add_19 rfl (lv_at hl 1 rfl) ?_
  refine va_get (D := D) (ci := 9) (v := .ref by_) (C := RX9) (T := TX9) (N := 2) hx hb hts inlX9 hown hK hP 0 rfl rfl 0 (by decide) (hts _ (inr3 _ (List.mem_of_getElem? (i := 14) rfl))) (fun _ h9 => h9) rfl dX9_add_20 ?_
  refine lv_aload_n hx hb dX9_add_23 rfl (lv_at hl 1 rfl) ?_
  refine va_get (D := D) (ci := 9) (v := .int 2) (C := RX9) (T := TX9) (N := 2) hx hb hts inlX9 hown hK hP 0 rfl rfl 1 (by decide) (hts _ (inr8 _ (List.mem_of_getElem? (i := 2) rfl))) (fun _ h9 => h9) rfl dX9_add_24 ?_
  refine lv_iload_n hx hb dX9_add_27 rfl (lv_at hl 2 rfl) ?_
  refine lv_iload_n hx hb dX9_add_28 rfl (lv_at hl 0 rfl) ?_
  obtain ⟨t_7, et_7⟩ : ∃ v9 : Int32, v >>> (8 &&& 31) = v9 := ⟨_, rfl⟩
  refine z_ishr (v := t_7) hx hb dX9_add_29 et_7 ?_
  obtain ⟨t_8, et_8⟩ : ∃ v9 : Int32, (t_7 : Int32).toInt8.toInt32 = v9 := ⟨_, rfl⟩
  refine lv_i2b (v := t_8) hx hb dX9_add_30 et_8 ?_
  refine va_bast hx hb hK hP hD hS 1 0 rfl rfl (by unfold vp_in; decide) dX9_add_31 (fun H locs hP hD hS => ?_)
  have hP : va_P D vwCl [(h0, .inr (9, [.ref by_, .int 2])), (by_, .inl (cB, 500, .inl (upd g_6 (2 : Int32).toNatClampNeg (vp_nar .byte t_8))))] H := hP
  have hD : va_D A [(h0, .inr (9, [.ref by_, .int 2])), (by_, .inl (cB, 500, .inl (upd g_6 (2 : Int32).toNatClampNeg (vp_nar .byte t_8))))] := hD
  obtain ⟨g_9, eg_9⟩ : ∃ v9 : Nat → Int32, (upd g_6 (2 : Int32).toNatClampNeg (vp_nar .byte t_8)) = v9 := ⟨_, rfl⟩
  rw [eg_9] at hP hD
  have hP : va_P D vwCl [(h0, .inr (9, [.ref by_, .int 2])), (by_, .inl (cB, 500, .inl g_9))] H := hP
  have hD : va_D A [(h0, .inr (9, [.ref by_, .int 2])), (by_, .inl (cB, 500, .inl g_9))] := hD
  refine lv_aload_n hx hb dX9_add_32 rfl (lv_at hl 1 rfl) ?_
  refine lv_dup hx hb dX9_add_33 rfl ?_
  refine va_get (D := D) (ci := 9) (v := .int 2) (C := RX9) (T := TX9) (N := 2) hx hb hts inlX9 hown hK hP 0 rfl rfl 1 (by decide) (hts _ (inr8 _ (List.mem_of_getElem? (i := 2) rfl))) (fun _ h9 => h9) rfl dX9_add_34 ?_
  refine lv_iconst (v := 1) hx hb dX9_add_37 (by decide) ?_
  refine z_iadd (v := 3) hx hb dX9_add_38 (by decide) ?_
  refine va_put (D := D) (ci := 9) (v := .int 3) (ty := .int) (C := RX9) (T := TX9) (N := 2) hx hb hts inlX9 tyX9 tyX9_ok nmX9 hown hK hP hD hS 0 rfl rfl 1 (by decide) (hts _ (inr8 _ (List.mem_of_getElem? (i := 2) rfl))) (fun _ h9 => h9) rfl (by decide +kernel) rfl rfl (Nat.le_of_ble_eq_true rfl) dX9_add_39 (fun H locs hP hD hS => ?_)
  have hP : va_P D vwCl [(h0, .inr (9, [.ref by_, .int 3])), (by_, .inl (cB, 500, .inl g_9))] H := hP
  have hD : va_D A [(h0, .inr (9, [.ref by_, .int 3])), (by_, .inl (cB, 500, .inl g_9))] := hD
  refine lv_iinc (v := 0) (lv' := [(2, .int 0), (0, .ref h0), (1, .int v)]) hx hb dX9_add_42 hl (k := 0) rfl (by decide) (by decide) rfl (fun ls hl => ?_)
  refine lv_goto (tgt := 3) hx hb dX9_add_45 (by decide) ?_
  refine lv_iload_n hx hb dX9_add_3 rfl (lv_at hl 0 rfl) ?_
  refine lv_if_lt (tgt := 48) hx hb dX9_add_4 (by decide) (fun c0 => absurd c0 (by decide)) (fun _ => ?_)
  refine lv_aload_n hx hb dX9_add_7 rfl (lv_at hl 1 rfl) ?_
  refine va_get (D := D) (ci := 9) (v := .int 3) (C := RX9) (T := TX9) (N := 2) hx hb hts inlX9 hown hK hP 0 rfl rfl 1 (by decide) (hts _ (inr8 _ (List.mem_of_getElem? (i := 2) rfl))) (fun _ h9 => h9) rfl dX9_add_8 ?_
  refine lv_aload_n hx hb dX9_add_11 rfl (lv_at hl 1 rfl) ?_
  refine va_get (D := D) (ci := 9) (v := .ref by_) (C := RX9) (T := TX9) (N := 2) hx hb hts inlX9 hown hK hP 0 rfl rfl 0 (by decide) (hts _ (inr3 _ (List.mem_of_getElem? (i := 14) rfl))) (fun _ h9 => h9) rfl dX9_add_12 ?_
  refine va_alen (v := 500) hx hb hK hP 1 0 rfl rfl rfl dX9_add_15 ?_
  refine lv_icmp_ge (tgt := 42) hx hb dX9_add_16 (by decide) (fun c0 => absurd c0 (by decide)) (fun _ => ?_)
  refine lv_aload_n hx hb dX9_add_19 rfl (lv_at hl 1 rfl) ?_
  refine va_get (D := D) (ci := 9) (v := .ref by_) (C := RX9) (T := TX9) (N := 2) hx hb hts inlX9 hown hK hP 0 rfl rfl 0 (by decide) (hts _ (inr3 _ (List.mem_of_getElem? (i := 14) rfl))) (fun _ h9 => h9) rfl dX9_add_20 ?_
  refine lv_aload_n hx hb dX9_add_23 rfl (lv_at hl 1 rfl) ?_
  refine va_get (D := D) (ci := 9) (v := .int 3) (C := RX9) (T := TX9) (N := 2) hx hb hts inlX9 hown hK hP 0 rfl rfl 1 (by decide) (hts _ (inr8 _ (List.mem_of_getElem? (i := 2) rfl))) (fun _ h9 => h9) rfl dX9_add_24 ?_
  refine lv_iload_n hx hb dX9_add_27 rfl (lv_at hl 2 rfl) ?_
  refine lv_iload_n hx hb dX9_add_28 rfl (lv_at hl 0 rfl) ?_
  obtain ⟨t_10, et_10⟩ : ∃ v9 : Int32, v >>> (0 &&& 31) = v9 := ⟨_, rfl⟩
  refine z_ishr (v := t_10) hx hb dX9_add_29 et_10 ?_
  obtain ⟨t_11, et_11⟩ : ∃ v9 : Int32, (t_10 : Int32).toInt8.toInt32 = v9 := ⟨_, rfl⟩
  refine lv_i2b (v := t_11) hx hb dX9_add_30 et_11 ?_
  refine va_bast hx hb hK hP hD hS 1 0 rfl rfl (by unfold vp_in; decide) dX9_add_31 (fun H locs hP hD hS => ?_)
  have hP : va_P D vwCl [(h0, .inr (9, [.ref by_, .int 3])), (by_, .inl (cB, 500, .inl (upd g_9 (3 : Int32).toNatClampNeg (vp_nar .byte t_11))))] H := hP
  have hD : va_D A [(h0, .inr (9, [.ref by_, .int 3])), (by_, .inl (cB, 500, .inl (upd g_9 (3 : Int32).toNatClampNeg (vp_nar .byte t_11))))] := hD
  obtain ⟨g_12, eg_12⟩ : ∃ v9 : Nat → Int32, (upd g_9 (3 : Int32).toNatClampNeg (vp_nar .byte t_11)) = v9 := ⟨_, rfl⟩
  rw [eg_12] at hP hD
  have hP : va_P D vwCl [(h0, .inr (9, [.ref by_, .int 3])), (by_, .inl (cB, 500, .inl g_12))] H := hP
  have hD : va_D A [(h0, .inr (9, [.ref by_, .int 3])), (by_, .inl (cB, 500, .inl g_12))] := hD
  refine lv_aload_n hx hb dX9_add_32 rfl (lv_at hl 1 rfl) ?_
  refine lv_dup hx hb dX9_add_33 rfl ?_
  refine va_get (D := D) (ci := 9) (v := .int 3) (C := RX9) (T := TX9) (N := 2) hx hb hts inlX9 hown hK hP 0 rfl rfl 1 (by decide) (hts _ (inr8 _ (List.mem_of_getElem? (i := 2) rfl))) (fun _ h9 => h9) rfl dX9_add_34 ?_
  refine lv_iconst (v := 1) hx hb dX9_add_37 (by decide) ?_
  refine z_iadd (v := 4) hx hb dX9_add_38 (by decide) ?_
  refine va_put (D := D) (ci := 9) (v := .int 4) (ty := .int) (C := RX9) (T := TX9) (N := 2) hx hb hts inlX9 tyX9 tyX9_ok nmX9 hown hK hP hD hS 0 rfl rfl 1 (by decide) (hts _ (inr8 _ (List.mem_of_getElem? (i := 2) rfl))) (fun _ h9 => h9) rfl (by decide +kernel) rfl rfl (Nat.le_of_ble_eq_true rfl) dX9_add_39 (fun H locs hP hD hS => ?_)
  have hP : va_P D vwCl [(h0, .inr (9, [.ref by_, .int 4])), (by_, .inl (cB, 500, .inl g_12))] H := hP
  have hD : va_D A [(h0, .inr (9, [.ref by_, .int 4])), (by_, .inl (cB, 500, .inl g_12))] := hD
  refine lv_iinc (v := (-8)) (lv' := [(2, .int (-8)), (0, .ref h0), (1, .int v)]) hx hb dX9_add_42 hl (k := 0) rfl (by decide) (by decide) rfl (fun ls hl => ?_)
  refine lv_goto (tgt := 3) hx hb dX9_add_45 (by decide) ?_
  refine lv_iload_n hx hb dX9_add_3 rfl (lv_at hl 0 rfl) ?_
  refine lv_if_lt (tgt := 48) hx hb dX9_add_4 (by decide) (fun _ => ?_) (fun c0 => absurd c0 (by decide))
  have hP9 := hP.sub (ws' := [(h0, .inr (9, [.ref by_, .int 4])), (by_, .inl (cB, 500, .inl g_12))]) [0, 1] rfl
  have hD9 := hD.sub (ws' := [(h0, .inr (9, [.ref by_, .int 4])), (by_, .inl (cB, 500, .inl g_12))]) [0, 1] (by decide) rfl
  exact W.vret hx hb hr (fun t ht hW => ⟨⟨g_12, rfl, trivial, by rw [ht]; exact hP9, va_K.moved hW.alike hK, hD9⟩, hS.F ht⟩) hS.2.2 dX9_add_48

set_option maxHeartbeats 4000000 in
set_option maxRecDepth 100000 in
theorem k_add4 (l : Launch) (D : va_G) (cB cI cJ cZ cS cT : ClassId) (sz : Nat) (h0 : Nat) (by_ : Nat) (f : Nat → Int32) (v : Int32)  : Met l yX9_add (Cond.code yX9_add cX9_add 3 none :: wsL_law) ({ frames := 0, cells := 0, slots := 0, locals := 0 }) (wrP D (tyL cB cI cJ cZ cS cT) [(h0, .inr (9, [.ref by_, .int 4])), (by_, .inl (cB, 500, .inl f))] sz [.ref h0, .int v]) (va_Qv (fun x : (Nat → Int32) => True) (atW D (tyL cB cI cJ cZ cS cT) (va_A [(h0, .inr (9, [.ref by_, .int 4])), (by_, .inl (cB, 500, .inl f))] sz) (fun x : (Nat → Int32) => [(h0, .inr (9, [.ref by_, .int 8])), (by_, .inl (cB, 500, .inl x))])) (va_A [(h0, .inr (9, [.ref by_, .int 4])), (by_, .inl (cB, 500, .inl f))] sz)) 0 0 (va_A [(h0, .inr (9, [.ref by_, .int 4])), (by_, .inl (cB, 500, .inl f))] sz) := by
  refine Met.ofW (cc := cX9_add) (maxL := 3) (ret := none) (by decide) rfl ?_
  intro p e s m args below meth c s₁ B hml hv
  obtain ⟨rfl, hsz, hP, hK, hD0, hN⟩ := hv
  have hx := B.exec
  have hb := B.bytes
  have hr := B.returns
  have hts : ∀ w ∈ wsL_law, w.before ([.ref h0, .int v] : List Value).toArray s = true := fun w h => atoms_spec (ws := Cond.code yX9_add cX9_add 3 none :: wsL_law) B.pre w (List.mem_cons_of_mem _ h)
  have hown : s.vm.findClass RX9 = some m.cls := findClass_of_methodNamed B.named
  have hlocks := B.notSynchronized
  subst hsz
  have hD := hD0.self (sz := s.heap.size)
  generalize hAe : va_A [(h0, .inr (9, [.ref by_, .int 4])), (by_, .inl (cB, 500, .inl f))] s.heap.size = A at hD ⊢
  have hA : ∀ q : Nat, s.heap.size ≤ q → A q := fun q h => by rw [← hAe]; exact Or.inr h
  have hS : va_S A s.heap s.heap [] := va_S.rf
  have hl := lv_entry ([.ref h0, .int v]) (n := 3) (Nat.le_of_ble_eq_true rfl)
  rw [lg_entry_eq]
  generalize (lg_sl ([.ref h0, .int v]) ++ List.replicate (3 - (lg_sl ([.ref h0, .int v])).length) Slot.unset).toArray = ls at hl ⊢
  have hl : lv_has ls 3 [(0, .ref h0), (1, .int v)] := hl
  have hP : va_P D vwCl [(h0, .inr (9, [.ref by_, .int 4])), (by_, .inl (cB, 500, .inl f))] s.heap := hP
  refine lv_bipush (v := 24) hx hb dX9_add_0 (by decide) ?_
  refine lv_istore_n (lv' := [(2, .int 24), (0, .ref h0), (1, .int v)]) hx hb dX9_add_2 rfl hl (by decide) rfl (fun ls hl => ?_)
  refine lv_iload_n hx hb dX9_add_3 rfl (lv_at hl 0 rfl) ?_
  refine lv_if_lt (tgt := 48) hx hb dX9_add_4 (by decide) (fun c0 => absurd c0 (by decide)) (fun _ => ?_)
  refine lv_aload_n hx hb dX9_add_7 rfl (lv_at hl 1 rfl) ?_
  refine va_get (D := D) (ci := 9) (v := .int 4) (C := RX9) (T := TX9) (N := 2) hx hb hts inlX9 hown hK hP 0 rfl rfl 1 (by decide) (hts _ (inr8 _ (List.mem_of_getElem? (i := 2) rfl))) (fun _ h9 => h9) rfl dX9_add_8 ?_
  refine lv_aload_n hx hb dX9_add_11 rfl (lv_at hl 1 rfl) ?_
  refine va_get (D := D) (ci := 9) (v := .ref by_) (C := RX9) (T := TX9) (N := 2) hx hb hts inlX9 hown hK hP 0 rfl rfl 0 (by decide) (hts _ (inr3 _ (List.mem_of_getElem? (i := 14) rfl))) (fun _ h9 => h9) rfl dX9_add_12 ?_
  refine va_alen (v := 500) hx hb hK hP 1 0 rfl rfl rfl dX9_add_15 ?_
  refine lv_icmp_ge (tgt := 42) hx hb dX9_add_16 (by decide) (fun c0 => absurd c0 (by decide)) (fun _ => ?_)
  refine lv_aload_n hx hb dX9_add_19 rfl (lv_at hl 1 rfl) ?_
  refine va_get (D := D) (ci := 9) (v := .ref by_) (C := RX9) (T := TX9) (N := 2) hx hb hts inlX9 hown hK hP 0 rfl rfl 0 (by decide) (hts _ (inr3 _ (List.mem_of_getElem? (i := 14) rfl))) (fun _ h9 => h9) rfl dX9_add_20 ?_
  refine lv_aload_n hx hb dX9_add_23 rfl (lv_at hl 1 rfl) ?_
  refine va_get (D := D) (ci := 9) (v := .int 4) (C := RX9) (T := TX9) (N := 2) hx hb hts inlX9 hown hK hP 0 rfl rfl 1 (by decide) (hts _ (inr8 _ (List.mem_of_getElem? (i := 2) rfl))) (fun _ h9 => h9) rfl dX9_add_24 ?_
  refine lv_iload_n hx hb dX9_add_27 rfl (lv_at hl 2 rfl) ?_
  refine lv_iload_n hx hb dX9_add_28 rfl (lv_at hl 0 rfl) ?_
  obtain ⟨t_1, et_1⟩ : ∃ v9 : Int32, v >>> (24 &&& 31) = v9 := ⟨_, rfl⟩
  refine z_ishr (v := t_1) hx hb dX9_add_29 et_1 ?_
  obtain ⟨t_2, et_2⟩ : ∃ v9 : Int32, (t_1 : Int32).toInt8.toInt32 = v9 := ⟨_, rfl⟩
  refine lv_i2b (v := t_2) hx hb dX9_add_30 et_2 ?_
  refine va_bast hx hb hK hP hD hS 1 0 rfl rfl (by unfold vp_in; decide) dX9_add_31 (fun H locs hP hD hS => ?_)
  have hP : va_P D vwCl [(h0, .inr (9, [.ref by_, .int 4])), (by_, .inl (cB, 500, .inl (upd f (4 : Int32).toNatClampNeg (vp_nar .byte t_2))))] H := hP
  have hD : va_D A [(h0, .inr (9, [.ref by_, .int 4])), (by_, .inl (cB, 500, .inl (upd f (4 : Int32).toNatClampNeg (vp_nar .byte t_2))))] := hD
  obtain ⟨g_3, eg_3⟩ : ∃ v9 : Nat → Int32, (upd f (4 : Int32).toNatClampNeg (vp_nar .byte t_2)) = v9 := ⟨_, rfl⟩
  rw [eg_3] at hP hD
  have hP : va_P D vwCl [(h0, .inr (9, [.ref by_, .int 4])), (by_, .inl (cB, 500, .inl g_3))] H := hP
  have hD : va_D A [(h0, .inr (9, [.ref by_, .int 4])), (by_, .inl (cB, 500, .inl g_3))] := hD
  refine lv_aload_n hx hb dX9_add_32 rfl (lv_at hl 1 rfl) ?_
  refine lv_dup hx hb dX9_add_33 rfl ?_
  refine va_get (D := D) (ci := 9) (v := .int 4) (C := RX9) (T := TX9) (N := 2) hx hb hts inlX9 hown hK hP 0 rfl rfl 1 (by decide) (hts _ (inr8 _ (List.mem_of_getElem? (i := 2) rfl))) (fun _ h9 => h9) rfl dX9_add_34 ?_
  refine lv_iconst (v := 1) hx hb dX9_add_37 (by decide) ?_
  refine z_iadd (v := 5) hx hb dX9_add_38 (by decide) ?_
  refine va_put (D := D) (ci := 9) (v := .int 5) (ty := .int) (C := RX9) (T := TX9) (N := 2) hx hb hts inlX9 tyX9 tyX9_ok nmX9 hown hK hP hD hS 0 rfl rfl 1 (by decide) (hts _ (inr8 _ (List.mem_of_getElem? (i := 2) rfl))) (fun _ h9 => h9) rfl (by decide +kernel) rfl rfl (Nat.le_of_ble_eq_true rfl) dX9_add_39 (fun H locs hP hD hS => ?_)
  have hP : va_P D vwCl [(h0, .inr (9, [.ref by_, .int 5])), (by_, .inl (cB, 500, .inl g_3))] H := hP
  have hD : va_D A [(h0, .inr (9, [.ref by_, .int 5])), (by_, .inl (cB, 500, .inl g_3))] := hD
  refine lv_iinc (v := 16) (lv' := [(2, .int 16), (0, .ref h0), (1, .int v)]) hx hb dX9_add_42 hl (k := 0) rfl (by decide) (by decide) rfl (fun ls hl => ?_)
  refine lv_goto (tgt := 3) hx hb dX9_add_45 (by decide) ?_
  refine lv_iload_n hx hb dX9_add_3 rfl (lv_at hl 0 rfl) ?_
  refine lv_if_lt (tgt := 48) hx hb dX9_add_4 (by decide) (fun c0 => absurd c0 (by decide)) (fun _ => ?_)
  refine lv_aload_n hx hb dX9_add_7 rfl (lv_at hl 1 rfl) ?_
  refine va_get (D := D) (ci := 9) (v := .int 5) (C := RX9) (T := TX9) (N := 2) hx hb hts inlX9 hown hK hP 0 rfl rfl 1 (by decide) (hts _ (inr8 _ (List.mem_of_getElem? (i := 2) rfl))) (fun _ h9 => h9) rfl dX9_add_8 ?_
  refine lv_aload_n hx hb dX9_add_11 rfl (lv_at hl 1 rfl) ?_
  refine va_get (D := D) (ci := 9) (v := .ref by_) (C := RX9) (T := TX9) (N := 2) hx hb hts inlX9 hown hK hP 0 rfl rfl 0 (by decide) (hts _ (inr3 _ (List.mem_of_getElem? (i := 14) rfl))) (fun _ h9 => h9) rfl dX9_add_12 ?_
  refine va_alen (v := 500) hx hb hK hP 1 0 rfl rfl rfl dX9_add_15 ?_
  refine lv_icmp_ge (tgt := 42) hx hb dX9_add_16 (by decide) (fun c0 => absurd c0 (by decide)) (fun _ => ?_)
  refine lv_aload_n hx hb dX9_add_19 rfl (lv_at hl 1 rfl) ?_
  refine va_get (D := D) (ci := 9) (v := .ref by_) (C := RX9) (T := TX9) (N := 2) hx hb hts inlX9 hown hK hP 0 rfl rfl 0 (by decide) (hts _ (inr3 _ (List.mem_of_getElem? (i := 14) rfl))) (fun _ h9 => h9) rfl dX9_add_20 ?_
  refine lv_aload_n hx hb dX9_add_23 rfl (lv_at hl 1 rfl) ?_
  refine va_get (D := D) (ci := 9) (v := .int 5) (C := RX9) (T := TX9) (N := 2) hx hb hts inlX9 hown hK hP 0 rfl rfl 1 (by decide) (hts _ (inr8 _ (List.mem_of_getElem? (i := 2) rfl))) (fun _ h9 => h9) rfl dX9_add_24 ?_
  refine lv_iload_n hx hb dX9_add_27 rfl (lv_at hl 2 rfl) ?_
  refine lv_iload_n hx hb dX9_add_28 rfl (lv_at hl 0 rfl) ?_
  obtain ⟨t_4, et_4⟩ : ∃ v9 : Int32, v >>> (16 &&& 31) = v9 := ⟨_, rfl⟩
  refine z_ishr (v := t_4) hx hb dX9_add_29 et_4 ?_
  obtain ⟨t_5, et_5⟩ : ∃ v9 : Int32, (t_4 : Int32).toInt8.toInt32 = v9 := ⟨_, rfl⟩
  refine lv_i2b (v := t_5) hx hb dX9_add_30 et_5 ?_
  refine va_bast hx hb hK hP hD hS 1 0 rfl rfl (by unfold vp_in; decide) dX9_add_31 (fun H locs hP hD hS => ?_)
  have hP : va_P D vwCl [(h0, .inr (9, [.ref by_, .int 5])), (by_, .inl (cB, 500, .inl (upd g_3 (5 : Int32).toNatClampNeg (vp_nar .byte t_5))))] H := hP
  have hD : va_D A [(h0, .inr (9, [.ref by_, .int 5])), (by_, .inl (cB, 500, .inl (upd g_3 (5 : Int32).toNatClampNeg (vp_nar .byte t_5))))] := hD
  obtain ⟨g_6, eg_6⟩ : ∃ v9 : Nat → Int32, (upd g_3 (5 : Int32).toNatClampNeg (vp_nar .byte t_5)) = v9 := ⟨_, rfl⟩
  rw [eg_6] at hP hD
  have hP : va_P D vwCl [(h0, .inr (9, [.ref by_, .int 5])), (by_, .inl (cB, 500, .inl g_6))] H := hP
  have hD : va_D A [(h0, .inr (9, [.ref by_, .int 5])), (by_, .inl (cB, 500, .inl g_6))] := hD
  refine lv_aload_n hx hb dX9_add_32 rfl (lv_at hl 1 rfl) ?_
  refine lv_dup hx hb dX9_add_33 rfl ?_
  refine va_get (D := D) (ci := 9) (v := .int 5) (C := RX9) (T := TX9) (N := 2) hx hb hts inlX9 hown hK hP 0 rfl rfl 1 (by decide) (hts _ (inr8 _ (List.mem_of_getElem? (i := 2) rfl))) (fun _ h9 => h9) rfl dX9_add_34 ?_
  refine lv_iconst (v := 1) hx hb dX9_add_37 (by decide) ?_
  refine z_iadd (v := 6) hx hb dX9_add_38 (by decide) ?_
  refine va_put (D := D) (ci := 9) (v := .int 6) (ty := .int) (C := RX9) (T := TX9) (N := 2) hx hb hts inlX9 tyX9 tyX9_ok nmX9 hown hK hP hD hS 0 rfl rfl 1 (by decide) (hts _ (inr8 _ (List.mem_of_getElem? (i := 2) rfl))) (fun _ h9 => h9) rfl (by decide +kernel) rfl rfl (Nat.le_of_ble_eq_true rfl) dX9_add_39 (fun H locs hP hD hS => ?_)
  have hP : va_P D vwCl [(h0, .inr (9, [.ref by_, .int 6])), (by_, .inl (cB, 500, .inl g_6))] H := hP
  have hD : va_D A [(h0, .inr (9, [.ref by_, .int 6])), (by_, .inl (cB, 500, .inl g_6))] := hD
  refine lv_iinc (v := 8) (lv' := [(2, .int 8), (0, .ref h0), (1, .int v)]) hx hb dX9_add_42 hl (k := 0) rfl (by decide) (by decide) rfl (fun ls hl => ?_)
  refine lv_goto (tgt := 3) hx hb dX9_add_45 (by decide) ?_
  refine lv_iload_n hx hb dX9_add_3 rfl (lv_at hl 0 rfl) ?_
  refine lv_if_lt (tgt := 48) hx hb dX9_add_4 (by decide) (fun c0 => absurd c0 (by decide)) (fun _ => ?_)
  refine lv_aload_n hx hb dX9_add_7 rfl (lv_at hl 1 rfl) ?_
  refine va_get (D := D) (ci := 9) (v := .int 6) (C := RX9) (T := TX9) (N := 2) hx hb hts inlX9 hown hK hP 0 rfl rfl 1 (by decide) (hts _ (inr8 _ (List.mem_of_getElem? (i := 2) rfl))) (fun _ h9 => h9) rfl dX9_add_8 ?_
  refine lv_aload_n hx hb dX9_add_11 rfl (lv_at hl 1 rfl) ?_
  refine va_get (D := D) (ci := 9) (v := .ref by_) (C := RX9) (T := TX9) (N := 2) hx hb hts inlX9 hown hK hP 0 rfl rfl 0 (by decide) (hts _ (inr3 _ (List.mem_of_getElem? (i := 14) rfl))) (fun _ h9 => h9) rfl dX9_add_12 ?_
  refine va_alen (v := 500) hx hb hK hP 1 0 rfl rfl rfl dX9_add_15 ?_
  refine lv_icmp_ge (tgt := 42) hx hb dX9_add_16 (by decide) (fun c0 => absurd c0 (by decide)) (fun _ => ?_)
  refine lv_aload_n hx hb dX9_add_19 rfl (lv_at hl 1 rfl) ?_
  refine va_get (D := D) (ci := 9) (v := .ref by_) (C := RX9) (T := TX9) (N := 2) hx hb hts inlX9 hown hK hP 0 rfl rfl 0 (by decide) (hts _ (inr3 _ (List.mem_of_getElem? (i := 14) rfl))) (fun _ h9 => h9) rfl dX9_add_20 ?_
  refine lv_aload_n hx hb dX9_add_23 rfl (lv_at hl 1 rfl) ?_
  refine va_get (D := D) (ci := 9) (v := .int 6) (C := RX9) (T := TX9) (N := 2) hx hb hts inlX9 hown hK hP 0 rfl rfl 1 (by decide) (hts _ (inr8 _ (List.mem_of_getElem? (i := 2) rfl))) (fun _ h9 => h9) rfl dX9_add_24 ?_
  refine lv_iload_n hx hb dX9_add_27 rfl (lv_at hl 2 rfl) ?_
  refine lv_iload_n hx hb dX9_add_28 rfl (lv_at hl 0 rfl) ?_
  obtain ⟨t_7, et_7⟩ : ∃ v9 : Int32, v >>> (8 &&& 31) = v9 := ⟨_, rfl⟩
  refine z_ishr (v := t_7) hx hb dX9_add_29 et_7 ?_
  obtain ⟨t_8, et_8⟩ : ∃ v9 : Int32, (t_7 : Int32).toInt8.toInt32 = v9 := ⟨_, rfl⟩
  refine lv_i2b (v := t_8) hx hb dX9_add_30 et_8 ?_
  refine va_bast hx hb hK hP hD hS 1 0 rfl rfl (by unfold vp_in; decide) dX9_add_31 (fun H locs hP hD hS => ?_)
  have hP : va_P D vwCl [(h0, .inr (9, [.ref by_, .int 6])), (by_, .inl (cB, 500, .inl (upd g_6 (6 : Int32).toNatClampNeg (vp_nar .byte t_8))))] H := hP
  have hD : va_D A [(h0, .inr (9, [.ref by_, .int 6])), (by_, .inl (cB, 500, .inl (upd g_6 (6 : Int32).toNatClampNeg (vp_nar .byte t_8))))] := hD
  obtain ⟨g_9, eg_9⟩ : ∃ v9 : Nat → Int32, (upd g_6 (6 : Int32).toNatClampNeg (vp_nar .byte t_8)) = v9 := ⟨_, rfl⟩
  rw [eg_9] at hP hD
  have hP : va_P D vwCl [(h0, .inr (9, [.ref by_, .int 6])), (by_, .inl (cB, 500, .inl g_9))] H := hP
  have hD : va_D A [(h0, .inr (9, [.ref by_, .int 6])), (by_, .inl (cB, 500, .inl g_9))] := hD
  refine lv_aload_n hx hb dX9_add_32 rfl (lv_at hl 1 rfl) ?_
  refine lv_dup hx hb dX9_add_33 rfl ?_
  refine va_get (D := D) (ci := 9) (v := .int 6) (C := RX9) (T := TX9) (N := 2) hx hb hts inlX9 hown hK hP 0 rfl rfl 1 (by decide) (hts _ (inr8 _ (List.mem_of_getElem? (i := 2) rfl))) (fun _ h9 => h9) rfl dX9_add_34 ?_
  refine lv_iconst (v := 1) hx hb dX9_add_37 (by decide) ?_
  refine z_iadd (v := 7) hx hb dX9_add_38 (by decide) ?_
  refine va_put (D := D) (ci := 9) (v := .int 7) (ty := .int) (C := RX9) (T := TX9) (N := 2) hx hb hts inlX9 tyX9 tyX9_ok nmX9 hown hK hP hD hS 0 rfl rfl 1 (by decide) (hts _ (inr8 _ (List.mem_of_getElem? (i := 2) rfl))) (fun _ h9 => h9) rfl (by decide +kernel) rfl rfl (Nat.le_of_ble_eq_true rfl) dX9_add_39 (fun H locs hP hD hS => ?_)
  have hP : va_P D vwCl [(h0, .inr (9, [.ref by_, .int 7])), (by_, .inl (cB, 500, .inl g_9))] H := hP
  have hD : va_D A [(h0, .inr (9, [.ref by_, .int 7])), (by_, .inl (cB, 500, .inl g_9))] := hD
  refine lv_iinc (v := 0) (lv' := [(2, .int 0), (0, .ref h0), (1, .int v)]) hx hb dX9_add_42 hl (k := 0) rfl (by decide) (by decide) rfl (fun ls hl => ?_)
  refine lv_goto (tgt := 3) hx hb dX9_add_45 (by decide) ?_
  refine lv_iload_n hx hb dX9_add_3 rfl (lv_at hl 0 rfl) ?_
  refine lv_if_lt (tgt := 48) hx hb dX9_add_4 (by decide) (fun c0 => absurd c0 (by decide)) (fun _ => ?_)
  refine lv_aload_n hx hb dX9_add_7 rfl (lv_at hl 1 rfl) ?_
  refine va_get (D := D) (ci := 9) (v := .int 7) (C := RX9) (T := TX9) (N := 2) hx hb hts inlX9 hown hK hP 0 rfl rfl 1 (by decide) (hts _ (inr8 _ (List.mem_of_getElem? (i := 2) rfl))) (fun _ h9 => h9) rfl dX9_add_8 ?_
  refine lv_aload_n hx hb dX9_add_11 rfl (lv_at hl 1 rfl) ?_
  refine va_get (D := D) (ci := 9) (v := .ref by_) (C := RX9) (T := TX9) (N := 2) hx hb hts inlX9 hown hK hP 0 rfl rfl 0 (by decide) (hts _ (inr3 _ (List.mem_of_getElem? (i := 14) rfl))) (fun _ h9 => h9) rfl dX9_add_12 ?_
  refine va_alen (v := 500) hx hb hK hP 1 0 rfl rfl rfl dX9_add_15 ?_
  refine lv_icmp_ge (tgt := 42) hx hb dX9_add_16 (by decide) (fun c0 => absurd c0 (by decide)) (fun _ => ?_)
  refine lv_aload_n hx hb dX9_add_19 rfl (lv_at hl 1 rfl) ?_
  refine va_get (D := D) (ci := 9) (v := .ref by_) (C := RX9) (T := TX9) (N := 2) hx hb hts inlX9 hown hK hP 0 rfl rfl 0 (by decide) (hts _ (inr3 _ (List.mem_of_getElem? (i := 14) rfl))) (fun _ h9 => h9) rfl dX9_add_20 ?_
  refine lv_aload_n hx hb dX9_add_23 rfl (lv_at hl 1 rfl) ?_
  refine va_get (D := D) (ci := 9) (v := .int 7) (C := RX9) (T := TX9) (N := 2) hx hb hts inlX9 hown hK hP 0 rfl rfl 1 (by decide) (hts _ (inr8 _ (List.mem_of_getElem? (i := 2) rfl))) (fun _ h9 => h9) rfl dX9_add_24 ?_
  refine lv_iload_n hx hb dX9_add_27 rfl (lv_at hl 2 rfl) ?_
  refine lv_iload_n hx hb dX9_add_28 rfl (lv_at hl 0 rfl) ?_
  obtain ⟨t_10, et_10⟩ : ∃ v9 : Int32, v >>> (0 &&& 31) = v9 := ⟨_, rfl⟩
  refine z_ishr (v := t_10) hx hb dX9_add_29 et_10 ?_
  obtain ⟨t_11, et_11⟩ : ∃ v9 : Int32, (t_10 : Int32).toInt8.toInt32 = v9 := ⟨_, rfl⟩
  refine lv_i2b (v := t_11) hx hb dX9_add_30 et_11 ?_
  refine va_bast hx hb hK hP hD hS 1 0 rfl rfl (by unfold vp_in; decide) dX9_add_31 (fun H locs hP hD hS => ?_)
  have hP : va_P D vwCl [(h0, .inr (9, [.ref by_, .int 7])), (by_, .inl (cB, 500, .inl (upd g_9 (7 : Int32).toNatClampNeg (vp_nar .byte t_11))))] H := hP
  have hD : va_D A [(h0, .inr (9, [.ref by_, .int 7])), (by_, .inl (cB, 500, .inl (upd g_9 (7 : Int32).toNatClampNeg (vp_nar .byte t_11))))] := hD
  obtain ⟨g_12, eg_12⟩ : ∃ v9 : Nat → Int32, (upd g_9 (7 : Int32).toNatClampNeg (vp_nar .byte t_11)) = v9 := ⟨_, rfl⟩
  rw [eg_12] at hP hD
  have hP : va_P D vwCl [(h0, .inr (9, [.ref by_, .int 7])), (by_, .inl (cB, 500, .inl g_12))] H := hP
  have hD : va_D A [(h0, .inr (9, [.ref by_, .int 7])), (by_, .inl (cB, 500, .inl g_12))] := hD
  refine lv_aload_n hx hb dX9_add_32 rfl (lv_at hl 1 rfl) ?_
  refine lv_dup hx hb dX9_add_33 rfl ?_
  refine va_get (D := D) (ci := 9) (v := .int 7) (C := RX9) (T := TX9) (N := 2) hx hb hts inlX9 hown hK hP 0 rfl rfl 1 (by decide) (hts _ (inr8 _ (List.mem_of_getElem? (i := 2) rfl))) (fun _ h9 => h9) rfl dX9_add_34 ?_
  refine lv_iconst (v := 1) hx hb dX9_add_37 (by decide) ?_
  refine z_iadd (v := 8) hx hb dX9_add_38 (by decide) ?_
  refine va_put (D := D) (ci := 9) (v := .int 8) (ty := .int) (C := RX9) (T := TX9) (N := 2) hx hb hts inlX9 tyX9 tyX9_ok nmX9 hown hK hP hD hS 0 rfl rfl 1 (by decide) (hts _ (inr8 _ (List.mem_of_getElem? (i := 2) rfl))) (fun _ h9 => h9) rfl (by decide +kernel) rfl rfl (Nat.le_of_ble_eq_true rfl) dX9_add_39 (fun H locs hP hD hS => ?_)
  have hP : va_P D vwCl [(h0, .inr (9, [.ref by_, .int 8])), (by_, .inl (cB, 500, .inl g_12))] H := hP
  have hD : va_D A [(h0, .inr (9, [.ref by_, .int 8])), (by_, .inl (cB, 500, .inl g_12))] := hD
  refine lv_iinc (v := (-8)) (lv' := [(2, .int (-8)), (0, .ref h0), (1, .int v)]) hx hb dX9_add_42 hl (k := 0) rfl (by decide) (by decide) rfl (fun ls hl => ?_)
  refine lv_goto (tgt := 3) hx hb dX9_add_45 (by decide) ?_
  refine lv_iload_n hx hb dX9_add_3 rfl (lv_at hl 0 rfl) ?_
  refine lv_if_lt (tgt := 48) hx hb dX9_add_4 (by decide) (fun _ => ?_) (fun c0 => absurd c0 (by decide))
  have hP9 := hP.sub (ws' := [(h0, .inr (9, [.ref by_, .int 8])), (by_, .inl (cB, 500, .inl g_12))]) [0, 1] rfl
  have hD9 := hD.sub (ws' := [(h0, .inr (9, [.ref by_, .int 8])), (by_, .inl (cB, 500, .inl g_12))]) [0, 1] (by decide) rfl
  exact W.vret hx hb hr (fun t ht hW => ⟨⟨g_12, rfl, trivial, by rw [ht]; exact hP9, va_K.moved hW.alike hK, hD9⟩, hS.F ht⟩) hS.2.2 dX9_add_48

set_option maxHeartbeats 4000000 in
set_option maxRecDepth 100000 in
theorem k_add8 (l : Launch) (D : va_G) (cB cI cJ cZ cS cT : ClassId) (sz : Nat) (h0 : Nat) (by_ : Nat) (f : Nat → Int32) (v : Int32)  : Met l yX9_add (Cond.code yX9_add cX9_add 3 none :: wsL_law) ({ frames := 0, cells := 0, slots := 0, locals := 0 }) (wrP D (tyL cB cI cJ cZ cS cT) [(h0, .inr (9, [.ref by_, .int 8])), (by_, .inl (cB, 500, .inl f))] sz [.ref h0, .int v]) (va_Qv (fun x : (Nat → Int32) => True) (atW D (tyL cB cI cJ cZ cS cT) (va_A [(h0, .inr (9, [.ref by_, .int 8])), (by_, .inl (cB, 500, .inl f))] sz) (fun x : (Nat → Int32) => [(h0, .inr (9, [.ref by_, .int 12])), (by_, .inl (cB, 500, .inl x))])) (va_A [(h0, .inr (9, [.ref by_, .int 8])), (by_, .inl (cB, 500, .inl f))] sz)) 0 0 (va_A [(h0, .inr (9, [.ref by_, .int 8])), (by_, .inl (cB, 500, .inl f))] sz) := by
  refine Met.ofW (cc := cX9_add) (maxL := 3) (ret := none) (by decide) rfl ?_
  intro p e s m args below meth c s₁ B hml hv
  obtain ⟨rfl, hsz, hP, hK, hD0, hN⟩ := hv
  have hx := B.exec
  have hb := B.bytes
  have hr := B.returns
  have hts : ∀ w ∈ wsL_law, w.before ([.ref h0, .int v] : List Value).toArray s = true := fun w h => atoms_spec (ws := Cond.code yX9_add cX9_add 3 none :: wsL_law) B.pre w (List.mem_cons_of_mem _ h)
  have hown : s.vm.findClass RX9 = some m.cls := findClass_of_methodNamed B.named
  have hlocks := B.notSynchronized
  subst hsz
  have hD := hD0.self (sz := s.heap.size)
  generalize hAe : va_A [(h0, .inr (9, [.ref by_, .int 8])), (by_, .inl (cB, 500, .inl f))] s.heap.size = A at hD ⊢
  have hA : ∀ q : Nat, s.heap.size ≤ q → A q := fun q h => by rw [← hAe]; exact Or.inr h
  have hS : va_S A s.heap s.heap [] := va_S.rf
  have hl := lv_entry ([.ref h0, .int v]) (n := 3) (Nat.le_of_ble_eq_true rfl)
  rw [lg_entry_eq]
  generalize (lg_sl ([.ref h0, .int v]) ++ List.replicate (3 - (lg_sl ([.ref h0, .int v])).length) Slot.unset).toArray = ls at hl ⊢
  have hl : lv_has ls 3 [(0, .ref h0), (1, .int v)] := hl
  have hP : va_P D vwCl [(h0, .inr (9, [.ref by_, .int 8])), (by_, .inl (cB, 500, .inl f))] s.heap := hP
  refine lv_bipush (v := 24) hx hb dX9_add_0 (by decide) ?_
  refine lv_istore_n (lv' := [(2, .int 24), (0, .ref h0), (1, .int v)]) hx hb dX9_add_2 rfl hl (by decide) rfl (fun ls hl => ?_)
  refine lv_iload_n hx hb dX9_add_3 rfl (lv_at hl 0 rfl) ?_
  refine lv_if_lt (tgt := 48) hx hb dX9_add_4 (by decide) (fun c0 => absurd c0 (by decide)) (fun _ => ?_)
  refine lv_aload_n hx hb dX9_add_7 rfl (lv_at hl 1 rfl) ?_
  refine va_get (D := D) (ci := 9) (v := .int 8) (C := RX9) (T := TX9) (N := 2) hx hb hts inlX9 hown hK hP 0 rfl rfl 1 (by decide) (hts _ (inr8 _ (List.mem_of_getElem? (i := 2) rfl))) (fun _ h9 => h9) rfl dX9_add_8 ?_
  refine lv_aload_n hx hb dX9_add_11 rfl (lv_at hl 1 rfl) ?_
  refine va_get (D := D) (ci := 9) (v := .ref by_) (C := RX9) (T := TX9) (N := 2) hx hb hts inlX9 hown hK hP 0 rfl rfl 0 (by decide) (hts _ (inr3 _ (List.mem_of_getElem? (i := 14) rfl))) (fun _ h9 => h9) rfl dX9_add_12 ?_
  refine va_alen (v := 500) hx hb hK hP 1 0 rfl rfl rfl dX9_add_15 ?_
  refine lv_icmp_ge (tgt := 42) hx hb dX9_add_16 (by decide) (fun c0 => absurd c0 (by decide)) (fun _ => ?_)
  refine lv_aload_n hx hb dX9_add_19 rfl (lv_at hl 1 rfl) ?_
  refine va_get (D := D) (ci := 9) (v := .ref by_) (C := RX9) (T := TX9) (N := 2) hx hb hts inlX9 hown hK hP 0 rfl rfl 0 (by decide) (hts _ (inr3 _ (List.mem_of_getElem? (i := 14) rfl))) (fun _ h9 => h9) rfl dX9_add_20 ?_
  refine lv_aload_n hx hb dX9_add_23 rfl (lv_at hl 1 rfl) ?_
  refine va_get (D := D) (ci := 9) (v := .int 8) (C := RX9) (T := TX9) (N := 2) hx hb hts inlX9 hown hK hP 0 rfl rfl 1 (by decide) (hts _ (inr8 _ (List.mem_of_getElem? (i := 2) rfl))) (fun _ h9 => h9) rfl dX9_add_24 ?_
  refine lv_iload_n hx hb dX9_add_27 rfl (lv_at hl 2 rfl) ?_
  refine lv_iload_n hx hb dX9_add_28 rfl (lv_at hl 0 rfl) ?_
  obtain ⟨t_1, et_1⟩ : ∃ v9 : Int32, v >>> (24 &&& 31) = v9 := ⟨_, rfl⟩
  refine z_ishr (v := t_1) hx hb dX9_add_29 et_1 ?_
  obtain ⟨t_2, et_2⟩ : ∃ v9 : Int32, (t_1 : Int32).toInt8.toInt32 = v9 := ⟨_, rfl⟩
  refine lv_i2b (v := t_2) hx hb dX9_add_30 et_2 ?_
  refine va_bast hx hb hK hP hD hS 1 0 rfl rfl (by unfold vp_in; decide) dX9_add_31 (fun H locs hP hD hS => ?_)
  have hP : va_P D vwCl [(h0, .inr (9, [.ref by_, .int 8])), (by_, .inl (cB, 500, .inl (upd f (8 : Int32).toNatClampNeg (vp_nar .byte t_2))))] H := hP
  have hD : va_D A [(h0, .inr (9, [.ref by_, .int 8])), (by_, .inl (cB, 500, .inl (upd f (8 : Int32).toNatClampNeg (vp_nar .byte t_2))))] := hD
  obtain ⟨g_3, eg_3⟩ : ∃ v9 : Nat → Int32, (upd f (8 : Int32).toNatClampNeg (vp_nar .byte t_2)) = v9 := ⟨_, rfl⟩
  rw [eg_3] at hP hD
  have hP : va_P D vwCl [(h0, .inr (9, [.ref by_, .int 8])), (by_, .inl (cB, 500, .inl g_3))] H := hP
  have hD : va_D A [(h0, .inr (9, [.ref by_, .int 8])), (by_, .inl (cB, 500, .inl g_3))] := hD
  refine lv_aload_n hx hb dX9_add_32 rfl (lv_at hl 1 rfl) ?_
  refine lv_dup hx hb dX9_add_33 rfl ?_
  refine va_get (D := D) (ci := 9) (v := .int 8) (C := RX9) (T := TX9) (N := 2) hx hb hts inlX9 hown hK hP 0 rfl rfl 1 (by decide) (hts _ (inr8 _ (List.mem_of_getElem? (i := 2) rfl))) (fun _ h9 => h9) rfl dX9_add_34 ?_
  refine lv_iconst (v := 1) hx hb dX9_add_37 (by decide) ?_
  refine z_iadd (v := 9) hx hb dX9_add_38 (by decide) ?_
  refine va_put (D := D) (ci := 9) (v := .int 9) (ty := .int) (C := RX9) (T := TX9) (N := 2) hx hb hts inlX9 tyX9 tyX9_ok nmX9 hown hK hP hD hS 0 rfl rfl 1 (by decide) (hts _ (inr8 _ (List.mem_of_getElem? (i := 2) rfl))) (fun _ h9 => h9) rfl (by decide +kernel) rfl rfl (Nat.le_of_ble_eq_true rfl) dX9_add_39 (fun H locs hP hD hS => ?_)
  have hP : va_P D vwCl [(h0, .inr (9, [.ref by_, .int 9])), (by_, .inl (cB, 500, .inl g_3))] H := hP
  have hD : va_D A [(h0, .inr (9, [.ref by_, .int 9])), (by_, .inl (cB, 500, .inl g_3))] := hD
  refine lv_iinc (v := 16) (lv' := [(2, .int 16), (0, .ref h0), (1, .int v)]) hx hb dX9_add_42 hl (k := 0) rfl (by decide) (by decide) rfl (fun ls hl => ?_)
  refine lv_goto (tgt := 3) hx hb dX9_add_45 (by decide) ?_
  refine lv_iload_n hx hb dX9_add_3 rfl (lv_at hl 0 rfl) ?_
  refine lv_if_lt (tgt := 48) hx hb dX9_add_4 (by decide) (fun c0 => absurd c0 (by decide)) (fun _ => ?_)
  refine lv_aload_n hx hb dX9_add_7 rfl (lv_at hl 1 rfl) ?_
  refine va_get (D := D) (ci := 9) (v := .int 9) (C := RX9) (T := TX9) (N := 2) hx hb hts inlX9 hown hK hP 0 rfl rfl 1 (by decide) (hts _ (inr8 _ (List.mem_of_getElem? (i := 2) rfl))) (fun _ h9 => h9) rfl dX9_add_8 ?_
  refine lv_aload_n hx hb dX9_add_11 rfl (lv_at hl 1 rfl) ?_
  refine va_get (D := D) (ci := 9) (v := .ref by_) (C := RX9) (T := TX9) (N := 2) hx hb hts inlX9 hown hK hP 0 rfl rfl 0 (by decide) (hts _ (inr3 _ (List.mem_of_getElem? (i := 14) rfl))) (fun _ h9 => h9) rfl dX9_add_12 ?_
  refine va_alen (v := 500) hx hb hK hP 1 0 rfl rfl rfl dX9_add_15 ?_
  refine lv_icmp_ge (tgt := 42) hx hb dX9_add_16 (by decide) (fun c0 => absurd c0 (by decide)) (fun _ => ?_)
  refine lv_aload_n hx hb dX9_add_19 rfl (lv_at hl 1 rfl) ?_
  refine va_get (D := D) (ci := 9) (v := .ref by_) (C := RX9) (T := TX9) (N := 2) hx hb hts inlX9 hown hK hP 0 rfl rfl 0 (by decide) (hts _ (inr3 _ (List.mem_of_getElem? (i := 14) rfl))) (fun _ h9 => h9) rfl dX9_add_20 ?_
  refine lv_aload_n hx hb dX9_add_23 rfl (lv_at hl 1 rfl) ?_
  refine va_get (D := D) (ci := 9) (v := .int 9) (C := RX9) (T := TX9) (N := 2) hx hb hts inlX9 hown hK hP 0 rfl rfl 1 (by decide) (hts _ (inr8 _ (List.mem_of_getElem? (i := 2) rfl))) (fun _ h9 => h9) rfl dX9_add_24 ?_
  refine lv_iload_n hx hb dX9_add_27 rfl (lv_at hl 2 rfl) ?_
  refine lv_iload_n hx hb dX9_add_28 rfl (lv_at hl 0 rfl) ?_
  obtain ⟨t_4, et_4⟩ : ∃ v9 : Int32, v >>> (16 &&& 31) = v9 := ⟨_, rfl⟩
  refine z_ishr (v := t_4) hx hb dX9_add_29 et_4 ?_
  obtain ⟨t_5, et_5⟩ : ∃ v9 : Int32, (t_4 : Int32).toInt8.toInt32 = v9 := ⟨_, rfl⟩
  refine lv_i2b (v := t_5) hx hb dX9_add_30 et_5 ?_
  refine va_bast hx hb hK hP hD hS 1 0 rfl rfl (by unfold vp_in; decide) dX9_add_31 (fun H locs hP hD hS => ?_)
  have hP : va_P D vwCl [(h0, .inr (9, [.ref by_, .int 9])), (by_, .inl (cB, 500, .inl (upd g_3 (9 : Int32).toNatClampNeg (vp_nar .byte t_5))))] H := hP
  have hD : va_D A [(h0, .inr (9, [.ref by_, .int 9])), (by_, .inl (cB, 500, .inl (upd g_3 (9 : Int32).toNatClampNeg (vp_nar .byte t_5))))] := hD
  obtain ⟨g_6, eg_6⟩ : ∃ v9 : Nat → Int32, (upd g_3 (9 : Int32).toNatClampNeg (vp_nar .byte t_5)) = v9 := ⟨_, rfl⟩
  rw [eg_6] at hP hD
  have hP : va_P D vwCl [(h0, .inr (9, [.ref by_, .int 9])), (by_, .inl (cB, 500, .inl g_6))] H := hP
  have hD : va_D A [(h0, .inr (9, [.ref by_, .int 9])), (by_, .inl (cB, 500, .inl g_6))] := hD
  refine lv_aload_n hx hb dX9_add_32 rfl (lv_at hl 1 rfl) ?_
  refine lv_dup hx hb dX9_add_33 rfl ?_
  refine va_get (D := D) (ci := 9) (v := .int 9) (C := RX9) (T := TX9) (N := 2) hx hb hts inlX9 hown hK hP 0 rfl rfl 1 (by decide) (hts _ (inr8 _ (List.mem_of_getElem? (i := 2) rfl))) (fun _ h9 => h9) rfl dX9_add_34 ?_
  refine lv_iconst (v := 1) hx hb dX9_add_37 (by decide) ?_
  refine z_iadd (v := 10) hx hb dX9_add_38 (by decide) ?_
  refine va_put (D := D) (ci := 9) (v := .int 10) (ty := .int) (C := RX9) (T := TX9) (N := 2) hx hb hts inlX9 tyX9 tyX9_ok nmX9 hown hK hP hD hS 0 rfl rfl 1 (by decide) (hts _ (inr8 _ (List.mem_of_getElem? (i := 2) rfl))) (fun _ h9 => h9) rfl (by decide +kernel) rfl rfl (Nat.le_of_ble_eq_true rfl) dX9_add_39 (fun H locs hP hD hS => ?_)
  have hP : va_P D vwCl [(h0, .inr (9, [.ref by_, .int 10])), (by_, .inl (cB, 500, .inl g_6))] H := hP
  have hD : va_D A [(h0, .inr (9, [.ref by_, .int 10])), (by_, .inl (cB, 500, .inl g_6))] := hD
  refine lv_iinc (v := 8) (lv' := [(2, .int 8), (0, .ref h0), (1, .int v)]) hx hb dX9_add_42 hl (k := 0) rfl (by decide) (by decide) rfl (fun ls hl => ?_)
  refine lv_goto (tgt := 3) hx hb dX9_add_45 (by decide) ?_
  refine lv_iload_n hx hb dX9_add_3 rfl (lv_at hl 0 rfl) ?_
  refine lv_if_lt (tgt := 48) hx hb dX9_add_4 (by decide) (fun c0 => absurd c0 (by decide)) (fun _ => ?_)
  refine lv_aload_n hx hb dX9_add_7 rfl (lv_at hl 1 rfl) ?_
  refine va_get (D := D) (ci := 9) (v := .int 10) (C := RX9) (T := TX9) (N := 2) hx hb hts inlX9 hown hK hP 0 rfl rfl 1 (by decide) (hts _ (inr8 _ (List.mem_of_getElem? (i := 2) rfl))) (fun _ h9 => h9) rfl dX9_add_8 ?_
  refine lv_aload_n hx hb dX9_add_11 rfl (lv_at hl 1 rfl) ?_
  refine va_get (D := D) (ci := 9) (v := .ref by_) (C := RX9) (T := TX9) (N := 2) hx hb hts inlX9 hown hK hP 0 rfl rfl 0 (by decide) (hts _ (inr3 _ (List.mem_of_getElem? (i := 14) rfl))) (fun _ h9 => h9) rfl dX9_add_12 ?_
  refine va_alen (v := 500) hx hb hK hP 1 0 rfl rfl rfl dX9_add_15 ?_
  refine lv_icmp_ge (tgt := 42) hx hb dX9_add_16 (by decide) (fun c0 => absurd c0 (by decide)) (fun _ => ?_)
  refine lv_aload_n hx hb dX9_add_19 rfl (lv_at hl 1 rfl) ?_
  refine va_get (D := D) (ci := 9) (v := .ref by_) (C := RX9) (T := TX9) (N := 2) hx hb hts inlX9 hown hK hP 0 rfl rfl 0 (by decide) (hts _ (inr3 _ (List.mem_of_getElem? (i := 14) rfl))) (fun _ h9 => h9) rfl dX9_add_20 ?_
  refine lv_aload_n hx hb dX9_add_23 rfl (lv_at hl 1 rfl) ?_
  refine va_get (D := D) (ci := 9) (v := .int 10) (C := RX9) (T := TX9) (N := 2) hx hb hts inlX9 hown hK hP 0 rfl rfl 1 (by decide) (hts _ (inr8 _ (List.mem_of_getElem? (i := 2) rfl))) (fun _ h9 => h9) rfl dX9_add_24 ?_
  refine lv_iload_n hx hb dX9_add_27 rfl (lv_at hl 2 rfl) ?_
  refine lv_iload_n hx hb dX9_add_28 rfl (lv_at hl 0 rfl) ?_
  obtain ⟨t_7, et_7⟩ : ∃ v9 : Int32, v >>> (8 &&& 31) = v9 := ⟨_, rfl⟩
  refine z_ishr (v := t_7) hx hb dX9_add_29 et_7 ?_
  obtain ⟨t_8, et_8⟩ : ∃ v9 : Int32, (t_7 : Int32).toInt8.toInt32 = v9 := ⟨_, rfl⟩
  refine lv_i2b (v := t_8) hx hb dX9_add_30 et_8 ?_
  refine va_bast hx hb hK hP hD hS 1 0 rfl rfl (by unfold vp_in; decide) dX9_add_31 (fun H locs hP hD hS => ?_)
  have hP : va_P D vwCl [(h0, .inr (9, [.ref by_, .int 10])), (by_, .inl (cB, 500, .inl (upd g_6 (10 : Int32).toNatClampNeg (vp_nar .byte t_8))))] H := hP
  have hD : va_D A [(h0, .inr (9, [.ref by_, .int 10])), (by_, .inl (cB, 500, .inl (upd g_6 (10 : Int32).toNatClampNeg (vp_nar .byte t_8))))] := hD
  obtain ⟨g_9, eg_9⟩ : ∃ v9 : Nat → Int32, (upd g_6 (10 : Int32).toNatClampNeg (vp_nar .byte t_8)) = v9 := ⟨_, rfl⟩
  rw [eg_9] at hP hD
  have hP : va_P D vwCl [(h0, .inr (9, [.ref by_, .int 10])), (by_, .inl (cB, 500, .inl g_9))] H := hP
  have hD : va_D A [(h0, .inr (9, [.ref by_, .int 10])), (by_, .inl (cB, 500, .inl g_9))] := hD
  refine lv_aload_n hx hb dX9_add_32 rfl (lv_at hl 1 rfl) ?_
  refine lv_dup hx hb dX9_add_33 rfl ?_
  refine va_get (D := D) (ci := 9) (v := .int 10) (C := RX9) (T := TX9) (N := 2) hx hb hts inlX9 hown hK hP 0 rfl rfl 1 (by decide) (hts _ (inr8 _ (List.mem_of_getElem? (i := 2) rfl))) (fun _ h9 => h9) rfl dX9_add_34 ?_
  refine lv_iconst (v := 1) hx hb dX9_add_37 (by decide) ?_
  refine z_iadd (v := 11) hx hb dX9_add_38 (by decide) ?_
  refine va_put (D := D) (ci := 9) (v := .int 11) (ty := .int) (C := RX9) (T := TX9) (N := 2) hx hb hts inlX9 tyX9 tyX9_ok nmX9 hown hK hP hD hS 0 rfl rfl 1 (by decide) (hts _ (inr8 _ (List.mem_of_getElem? (i := 2) rfl))) (fun _ h9 => h9) rfl (by decide +kernel) rfl rfl (Nat.le_of_ble_eq_true rfl) dX9_add_39 (fun H locs hP hD hS => ?_)
  have hP : va_P D vwCl [(h0, .inr (9, [.ref by_, .int 11])), (by_, .inl (cB, 500, .inl g_9))] H := hP
  have hD : va_D A [(h0, .inr (9, [.ref by_, .int 11])), (by_, .inl (cB, 500, .inl g_9))] := hD
  refine lv_iinc (v := 0) (lv' := [(2, .int 0), (0, .ref h0), (1, .int v)]) hx hb dX9_add_42 hl (k := 0) rfl (by decide) (by decide) rfl (fun ls hl => ?_)
  refine lv_goto (tgt := 3) hx hb dX9_add_45 (by decide) ?_
  refine lv_iload_n hx hb dX9_add_3 rfl (lv_at hl 0 rfl) ?_
  refine lv_if_lt (tgt := 48) hx hb dX9_add_4 (by decide) (fun c0 => absurd c0 (by decide)) (fun _ => ?_)
  refine lv_aload_n hx hb dX9_add_7 rfl (lv_at hl 1 rfl) ?_
  refine va_get (D := D) (ci := 9) (v := .int 11) (C := RX9) (T := TX9) (N := 2) hx hb hts inlX9 hown hK hP 0 rfl rfl 1 (by decide) (hts _ (inr8 _ (List.mem_of_getElem? (i := 2) rfl))) (fun _ h9 => h9) rfl dX9_add_8 ?_
  refine lv_aload_n hx hb dX9_add_11 rfl (lv_at hl 1 rfl) ?_
  refine va_get (D := D) (ci := 9) (v := .ref by_) (C := RX9) (T := TX9) (N := 2) hx hb hts inlX9 hown hK hP 0 rfl rfl 0 (by decide) (hts _ (inr3 _ (List.mem_of_getElem? (i := 14) rfl))) (fun _ h9 => h9) rfl dX9_add_12 ?_
  refine va_alen (v := 500) hx hb hK hP 1 0 rfl rfl rfl dX9_add_15 ?_
  refine lv_icmp_ge (tgt := 42) hx hb dX9_add_16 (by decide) (fun c0 => absurd c0 (by decide)) (fun _ => ?_)
  refine lv_aload_n hx hb dX9_add_19 rfl (lv_at hl 1 rfl) ?_
  refine va_get (D := D) (ci := 9) (v := .ref by_) (C := RX9) (T := TX9) (N := 2) hx hb hts inlX9 hown hK hP 0 rfl rfl 0 (by decide) (hts _ (inr3 _ (List.mem_of_getElem? (i := 14) rfl))) (fun _ h9 => h9) rfl dX9_add_20 ?_
  refine lv_aload_n hx hb dX9_add_23 rfl (lv_at hl 1 rfl) ?_
  refine va_get (D := D) (ci := 9) (v := .int 11) (C := RX9) (T := TX9) (N := 2) hx hb hts inlX9 hown hK hP 0 rfl rfl 1 (by decide) (hts _ (inr8 _ (List.mem_of_getElem? (i := 2) rfl))) (fun _ h9 => h9) rfl dX9_add_24 ?_
  refine lv_iload_n hx hb dX9_add_27 rfl (lv_at hl 2 rfl) ?_
  refine lv_iload_n hx hb dX9_add_28 rfl (lv_at hl 0 rfl) ?_
  obtain ⟨t_10, et_10⟩ : ∃ v9 : Int32, v >>> (0 &&& 31) = v9 := ⟨_, rfl⟩
  refine z_ishr (v := t_10) hx hb dX9_add_29 et_10 ?_
  obtain ⟨t_11, et_11⟩ : ∃ v9 : Int32, (t_10 : Int32).toInt8.toInt32 = v9 := ⟨_, rfl⟩
  refine lv_i2b (v := t_11) hx hb dX9_add_30 et_11 ?_
  refine va_bast hx hb hK hP hD hS 1 0 rfl rfl (by unfold vp_in; decide) dX9_add_31 (fun H locs hP hD hS => ?_)
  have hP : va_P D vwCl [(h0, .inr (9, [.ref by_, .int 11])), (by_, .inl (cB, 500, .inl (upd g_9 (11 : Int32).toNatClampNeg (vp_nar .byte t_11))))] H := hP
  have hD : va_D A [(h0, .inr (9, [.ref by_, .int 11])), (by_, .inl (cB, 500, .inl (upd g_9 (11 : Int32).toNatClampNeg (vp_nar .byte t_11))))] := hD
  obtain ⟨g_12, eg_12⟩ : ∃ v9 : Nat → Int32, (upd g_9 (11 : Int32).toNatClampNeg (vp_nar .byte t_11)) = v9 := ⟨_, rfl⟩
  rw [eg_12] at hP hD
  have hP : va_P D vwCl [(h0, .inr (9, [.ref by_, .int 11])), (by_, .inl (cB, 500, .inl g_12))] H := hP
  have hD : va_D A [(h0, .inr (9, [.ref by_, .int 11])), (by_, .inl (cB, 500, .inl g_12))] := hD
  refine lv_aload_n hx hb dX9_add_32 rfl (lv_at hl 1 rfl) ?_
  refine lv_dup hx hb dX9_add_33 rfl ?_
  refine va_get (D := D) (ci := 9) (v := .int 11) (C := RX9) (T := TX9) (N := 2) hx hb hts inlX9 hown hK hP 0 rfl rfl 1 (by decide) (hts _ (inr8 _ (List.mem_of_getElem? (i := 2) rfl))) (fun _ h9 => h9) rfl dX9_add_34 ?_
  refine lv_iconst (v := 1) hx hb dX9_add_37 (by decide) ?_
  refine z_iadd (v := 12) hx hb dX9_add_38 (by decide) ?_
  refine va_put (D := D) (ci := 9) (v := .int 12) (ty := .int) (C := RX9) (T := TX9) (N := 2) hx hb hts inlX9 tyX9 tyX9_ok nmX9 hown hK hP hD hS 0 rfl rfl 1 (by decide) (hts _ (inr8 _ (List.mem_of_getElem? (i := 2) rfl))) (fun _ h9 => h9) rfl (by decide +kernel) rfl rfl (Nat.le_of_ble_eq_true rfl) dX9_add_39 (fun H locs hP hD hS => ?_)
  have hP : va_P D vwCl [(h0, .inr (9, [.ref by_, .int 12])), (by_, .inl (cB, 500, .inl g_12))] H := hP
  have hD : va_D A [(h0, .inr (9, [.ref by_, .int 12])), (by_, .inl (cB, 500, .inl g_12))] := hD
  refine lv_iinc (v := (-8)) (lv' := [(2, .int (-8)), (0, .ref h0), (1, .int v)]) hx hb dX9_add_42 hl (k := 0) rfl (by decide) (by decide) rfl (fun ls hl => ?_)
  refine lv_goto (tgt := 3) hx hb dX9_add_45 (by decide) ?_
  refine lv_iload_n hx hb dX9_add_3 rfl (lv_at hl 0 rfl) ?_
  refine lv_if_lt (tgt := 48) hx hb dX9_add_4 (by decide) (fun _ => ?_) (fun c0 => absurd c0 (by decide))
  have hP9 := hP.sub (ws' := [(h0, .inr (9, [.ref by_, .int 12])), (by_, .inl (cB, 500, .inl g_12))]) [0, 1] rfl
  have hD9 := hD.sub (ws' := [(h0, .inr (9, [.ref by_, .int 12])), (by_, .inl (cB, 500, .inl g_12))]) [0, 1] (by decide) rfl
  exact W.vret hx hb hr (fun t ht hW => ⟨⟨g_12, rfl, trivial, by rw [ht]; exact hP9, va_K.moved hW.alike hK, hD9⟩, hS.F ht⟩) hS.2.2 dX9_add_48

set_option maxHeartbeats 4000000 in
set_option maxRecDepth 100000 in
theorem k_add12 (l : Launch) (D : va_G) (cB cI cJ cZ cS cT : ClassId) (sz : Nat) (h0 : Nat) (by_ : Nat) (f : Nat → Int32) (v : Int32)  : Met l yX9_add (Cond.code yX9_add cX9_add 3 none :: wsL_law) ({ frames := 0, cells := 0, slots := 0, locals := 0 }) (wrP D (tyL cB cI cJ cZ cS cT) [(h0, .inr (9, [.ref by_, .int 12])), (by_, .inl (cB, 500, .inl f))] sz [.ref h0, .int v]) (va_Qv (fun x : (Nat → Int32) => True) (atW D (tyL cB cI cJ cZ cS cT) (va_A [(h0, .inr (9, [.ref by_, .int 12])), (by_, .inl (cB, 500, .inl f))] sz) (fun x : (Nat → Int32) => [(h0, .inr (9, [.ref by_, .int 16])), (by_, .inl (cB, 500, .inl x))])) (va_A [(h0, .inr (9, [.ref by_, .int 12])), (by_, .inl (cB, 500, .inl f))] sz)) 0 0 (va_A [(h0, .inr (9, [.ref by_, .int 12])), (by_, .inl (cB, 500, .inl f))] sz) := by
  refine Met.ofW (cc := cX9_add) (maxL := 3) (ret := none) (by decide) rfl ?_
  intro p e s m args below meth c s₁ B hml hv
  obtain ⟨rfl, hsz, hP, hK, hD0, hN⟩ := hv
  have hx := B.exec
  have hb := B.bytes
  have hr := B.returns
  have hts : ∀ w ∈ wsL_law, w.before ([.ref h0, .int v] : List Value).toArray s = true := fun w h => atoms_spec (ws := Cond.code yX9_add cX9_add 3 none :: wsL_law) B.pre w (List.mem_cons_of_mem _ h)
  have hown : s.vm.findClass RX9 = some m.cls := findClass_of_methodNamed B.named
  have hlocks := B.notSynchronized
  subst hsz
  have hD := hD0.self (sz := s.heap.size)
  generalize hAe : va_A [(h0, .inr (9, [.ref by_, .int 12])), (by_, .inl (cB, 500, .inl f))] s.heap.size = A at hD ⊢
  have hA : ∀ q : Nat, s.heap.size ≤ q → A q := fun q h => by rw [← hAe]; exact Or.inr h
  have hS : va_S A s.heap s.heap [] := va_S.rf
  have hl := lv_entry ([.ref h0, .int v]) (n := 3) (Nat.le_of_ble_eq_true rfl)
  rw [lg_entry_eq]
  generalize (lg_sl ([.ref h0, .int v]) ++ List.replicate (3 - (lg_sl ([.ref h0, .int v])).length) Slot.unset).toArray = ls at hl ⊢
  have hl : lv_has ls 3 [(0, .ref h0), (1, .int v)] := hl
  have hP : va_P D vwCl [(h0, .inr (9, [.ref by_, .int 12])), (by_, .inl (cB, 500, .inl f))] s.heap := hP
  refine lv_bipush (v := 24) hx hb dX9_add_0 (by decide) ?_
  refine lv_istore_n (lv' := [(2, .int 24), (0, .ref h0), (1, .int v)]) hx hb dX9_add_2 rfl hl (by decide) rfl (fun ls hl => ?_)
  refine lv_iload_n hx hb dX9_add_3 rfl (lv_at hl 0 rfl) ?_
  refine lv_if_lt (tgt := 48) hx hb dX9_add_4 (by decide) (fun c0 => absurd c0 (by decide)) (fun _ => ?_)
  refine lv_aload_n hx hb dX9_add_7 rfl (lv_at hl 1 rfl) ?_
  refine va_get (D := D) (ci := 9) (v := .int 12) (C := RX9) (T := TX9) (N := 2) hx hb hts inlX9 hown hK hP 0 rfl rfl 1 (by decide) (hts _ (inr8 _ (List.mem_of_getElem? (i := 2) rfl))) (fun _ h9 => h9) rfl dX9_add_8 ?_
  refine lv_aload_n hx hb dX9_add_11 rfl (lv_at hl 1 rfl) ?_
  refine va_get (D := D) (ci := 9) (v := .ref by_) (C := RX9) (T := TX9) (N := 2) hx hb hts inlX9 hown hK hP 0 rfl rfl 0 (by decide) (hts _ (inr3 _ (List.mem_of_getElem? (i := 14) rfl))) (fun _ h9 => h9) rfl dX9_add_12 ?_
  refine va_alen (v := 500) hx hb hK hP 1 0 rfl rfl rfl dX9_add_15 ?_
  refine lv_icmp_ge (tgt := 42) hx hb dX9_add_16 (by decide) (fun c0 => absurd c0 (by decide)) (fun _ => ?_)
  refine lv_aload_n hx hb dX9_add_19 rfl (lv_at hl 1 rfl) ?_
  refine va_get (D := D) (ci := 9) (v := .ref by_) (C := RX9) (T := TX9) (N := 2) hx hb hts inlX9 hown hK hP 0 rfl rfl 0 (by decide) (hts _ (inr3 _ (List.mem_of_getElem? (i := 14) rfl))) (fun _ h9 => h9) rfl dX9_add_20 ?_
  refine lv_aload_n hx hb dX9_add_23 rfl (lv_at hl 1 rfl) ?_
  refine va_get (D := D) (ci := 9) (v := .int 12) (C := RX9) (T := TX9) (N := 2) hx hb hts inlX9 hown hK hP 0 rfl rfl 1 (by decide) (hts _ (inr8 _ (List.mem_of_getElem? (i := 2) rfl))) (fun _ h9 => h9) rfl dX9_add_24 ?_
  refine lv_iload_n hx hb dX9_add_27 rfl (lv_at hl 2 rfl) ?_
  refine lv_iload_n hx hb dX9_add_28 rfl (lv_at hl 0 rfl) ?_
  obtain ⟨t_1, et_1⟩ : ∃ v9 : Int32, v >>> (24 &&& 31) = v9 := ⟨_, rfl⟩
  refine z_ishr (v := t_1) hx hb dX9_add_29 et_1 ?_
  obtain ⟨t_2, et_2⟩ : ∃ v9 : Int32, (t_1 : Int32).toInt8.toInt32 = v9 := ⟨_, rfl⟩
  refine lv_i2b (v := t_2) hx hb dX9_add_30 et_2 ?_
  refine va_bast hx hb hK hP hD hS 1 0 rfl rfl (by unfold vp_in; decide) dX9_add_31 (fun H locs hP hD hS => ?_)
  have hP : va_P D vwCl [(h0, .inr (9, [.ref by_, .int 12])), (by_, .inl (cB, 500, .inl (upd f (12 : Int32).toNatClampNeg (vp_nar .byte t_2))))] H := hP
  have hD : va_D A [(h0, .inr (9, [.ref by_, .int 12])), (by_, .inl (cB, 500, .inl (upd f (12 : Int32).toNatClampNeg (vp_nar .byte t_2))))] := hD
  obtain ⟨g_3, eg_3⟩ : ∃ v9 : Nat → Int32, (upd f (12 : Int32).toNatClampNeg (vp_nar .byte t_2)) = v9 := ⟨_, rfl⟩
  rw [eg_3] at hP hD
  have hP : va_P D vwCl [(h0, .inr (9, [.ref by_, .int 12])), (by_, .inl (cB, 500, .inl g_3))] H := hP
  have hD : va_D A [(h0, .inr (9, [.ref by_, .int 12])), (by_, .inl (cB, 500, .inl g_3))] := hD
  refine lv_aload_n hx hb dX9_add_32 rfl (lv_at hl 1 rfl) ?_
  refine lv_dup hx hb dX9_add_33 rfl ?_
  refine va_get (D := D) (ci := 9) (v := .int 12) (C := RX9) (T := TX9) (N := 2) hx hb hts inlX9 hown hK hP 0 rfl rfl 1 (by decide) (hts _ (inr8 _ (List.mem_of_getElem? (i := 2) rfl))) (fun _ h9 => h9) rfl dX9_add_34 ?_
  refine lv_iconst (v := 1) hx hb dX9_add_37 (by decide) ?_
  refine z_iadd (v := 13) hx hb dX9_add_38 (by decide) ?_
  refine va_put (D := D) (ci := 9) (v := .int 13) (ty := .int) (C := RX9) (T := TX9) (N := 2) hx hb hts inlX9 tyX9 tyX9_ok nmX9 hown hK hP hD hS 0 rfl rfl 1 (by decide) (hts _ (inr8 _ (List.mem_of_getElem? (i := 2) rfl))) (fun _ h9 => h9) rfl (by decide +kernel) rfl rfl (Nat.le_of_ble_eq_true rfl) dX9_add_39 (fun H locs hP hD hS => ?_)
  have hP : va_P D vwCl [(h0, .inr (9, [.ref by_, .int 13])), (by_, .inl (cB, 500, .inl g_3))] H := hP
  have hD : va_D A [(h0, .inr (9, [.ref by_, .int 13])), (by_, .inl (cB, 500, .inl g_3))] := hD
  refine lv_iinc (v := 16) (lv' := [(2, .int 16), (0, .ref h0), (1, .int v)]) hx hb dX9_add_42 hl (k := 0) rfl (by decide) (by decide) rfl (fun ls hl => ?_)
  refine lv_goto (tgt := 3) hx hb dX9_add_45 (by decide) ?_
  refine lv_iload_n hx hb dX9_add_3 rfl (lv_at hl 0 rfl) ?_
  refine lv_if_lt (tgt := 48) hx hb dX9_add_4 (by decide) (fun c0 => absurd c0 (by decide)) (fun _ => ?_)
  refine lv_aload_n hx hb dX9_add_7 rfl (lv_at hl 1 rfl) ?_
  refine va_get (D := D) (ci := 9) (v := .int 13) (C := RX9) (T := TX9) (N := 2) hx hb hts inlX9 hown hK hP 0 rfl rfl 1 (by decide) (hts _ (inr8 _ (List.mem_of_getElem? (i := 2) rfl))) (fun _ h9 => h9) rfl dX9_add_8 ?_
  refine lv_aload_n hx hb dX9_add_11 rfl (lv_at hl 1 rfl) ?_
  refine va_get (D := D) (ci := 9) (v := .ref by_) (C := RX9) (T := TX9) (N := 2) hx hb hts inlX9 hown hK hP 0 rfl rfl 0 (by decide) (hts _ (inr3 _ (List.mem_of_getElem? (i := 14) rfl))) (fun _ h9 => h9) rfl dX9_add_12 ?_
  refine va_alen (v := 500) hx hb hK hP 1 0 rfl rfl rfl dX9_add_15 ?_
  refine lv_icmp_ge (tgt := 42) hx hb dX9_add_16 (by decide) (fun c0 => absurd c0 (by decide)) (fun _ => ?_)
  refine lv_aload_n hx hb dX9_add_19 rfl (lv_at hl 1 rfl) ?_
  refine va_get (D := D) (ci := 9) (v := .ref by_) (C := RX9) (T := TX9) (N := 2) hx hb hts inlX9 hown hK hP 0 rfl rfl 0 (by decide) (hts _ (inr3 _ (List.mem_of_getElem? (i := 14) rfl))) (fun _ h9 => h9) rfl dX9_add_20 ?_
  refine lv_aload_n hx hb dX9_add_23 rfl (lv_at hl 1 rfl) ?_
  refine va_get (D := D) (ci := 9) (v := .int 13) (C := RX9) (T := TX9) (N := 2) hx hb hts inlX9 hown hK hP 0 rfl rfl 1 (by decide) (hts _ (inr8 _ (List.mem_of_getElem? (i := 2) rfl))) (fun _ h9 => h9) rfl dX9_add_24 ?_
  refine lv_iload_n hx hb dX9_add_27 rfl (lv_at hl 2 rfl) ?_
  refine lv_iload_n hx hb dX9_add_28 rfl (lv_at hl 0 rfl) ?_
  obtain ⟨t_4, et_4⟩ : ∃ v9 : Int32, v >>> (16 &&& 31) = v9 := ⟨_, rfl⟩
  refine z_ishr (v := t_4) hx hb dX9_add_29 et_4 ?_
  obtain ⟨t_5, et_5⟩ : ∃ v9 : Int32, (t_4 : Int32).toInt8.toInt32 = v9 := ⟨_, rfl⟩
  refine lv_i2b (v := t_5) hx hb dX9_add_30 et_5 ?_
  refine va_bast hx hb hK hP hD hS 1 0 rfl rfl (by unfold vp_in; decide) dX9_add_31 (fun H locs hP hD hS => ?_)
  have hP : va_P D vwCl [(h0, .inr (9, [.ref by_, .int 13])), (by_, .inl (cB, 500, .inl (upd g_3 (13 : Int32).toNatClampNeg (vp_nar .byte t_5))))] H := hP
  have hD : va_D A [(h0, .inr (9, [.ref by_, .int 13])), (by_, .inl (cB, 500, .inl (upd g_3 (13 : Int32).toNatClampNeg (vp_nar .byte t_5))))] := hD
  obtain ⟨g_6, eg_6⟩ : ∃ v9 : Nat → Int32, (upd g_3 (13 : Int32).toNatClampNeg (vp_nar .byte t_5)) = v9 := ⟨_, rfl⟩
  rw [eg_6] at hP hD
  have hP : va_P D vwCl [(h0, .inr (9, [.ref by_, .int 13])), (by_, .inl (cB, 500, .inl g_6))] H := hP
  have hD : va_D A [(h0, .inr (9, [.ref by_, .int 13])), (by_, .inl (cB, 500, .inl g_6))] := hD
  refine lv_aload_n hx hb dX9_add_32 rfl (lv_at hl 1 rfl) ?_
  refine lv_dup hx hb dX9_add_33 rfl ?_
  refine va_get (D := D) (ci := 9) (v := .int 13) (C := RX9) (T := TX9) (N := 2) hx hb hts inlX9 hown hK hP 0 rfl rfl 1 (by decide) (hts _ (inr8 _ (List.mem_of_getElem? (i := 2) rfl))) (fun _ h9 => h9) rfl dX9_add_34 ?_
  refine lv_iconst (v := 1) hx hb dX9_add_37 (by decide) ?_
  refine z_iadd (v := 14) hx hb dX9_add_38 (by decide) ?_
  refine va_put (D := D) (ci := 9) (v := .int 14) (ty := .int) (C := RX9) (T := TX9) (N := 2) hx hb hts inlX9 tyX9 tyX9_ok nmX9 hown hK hP hD hS 0 rfl rfl 1 (by decide) (hts _ (inr8 _ (List.mem_of_getElem? (i := 2) rfl))) (fun _ h9 => h9) rfl (by decide +kernel) rfl rfl (Nat.le_of_ble_eq_true rfl) dX9_add_39 (fun H locs hP hD hS => ?_)
  have hP : va_P D vwCl [(h0, .inr (9, [.ref by_, .int 14])), (by_, .inl (cB, 500, .inl g_6))] H := hP
  have hD : va_D A [(h0, .inr (9, [.ref by_, .int 14])), (by_, .inl (cB, 500, .inl g_6))] := hD
  refine lv_iinc (v := 8) (lv' := [(2, .int 8), (0, .ref h0), (1, .int v)]) hx hb dX9_add_42 hl (k := 0) rfl (by decide) (by decide) rfl (fun ls hl => ?_)
  refine lv_goto (tgt := 3) hx hb dX9_add_45 (by decide) ?_
  refine lv_iload_n hx hb dX9_add_3 rfl (lv_at hl 0 rfl) ?_
  refine lv_if_lt (tgt := 48) hx hb dX9_add_4 (by decide) (fun c0 => absurd c0 (by decide)) (fun _ => ?_)
  refine lv_aload_n hx hb dX9_add_7 rfl (lv_at hl 1 rfl) ?_
  refine va_get (D := D) (ci := 9) (v := .int 14) (C := RX9) (T := TX9) (N := 2) hx hb hts inlX9 hown hK hP 0 rfl rfl 1 (by decide) (hts _ (inr8 _ (List.mem_of_getElem? (i := 2) rfl))) (fun _ h9 => h9) rfl dX9_add_8 ?_
  refine lv_aload_n hx hb dX9_add_11 rfl (lv_at hl 1 rfl) ?_
  refine va_get (D := D) (ci := 9) (v := .ref by_) (C := RX9) (T := TX9) (N := 2) hx hb hts inlX9 hown hK hP 0 rfl rfl 0 (by decide) (hts _ (inr3 _ (List.mem_of_getElem? (i := 14) rfl))) (fun _ h9 => h9) rfl dX9_add_12 ?_
  refine va_alen (v := 500) hx hb hK hP 1 0 rfl rfl rfl dX9_add_15 ?_
  refine lv_icmp_ge (tgt := 42) hx hb dX9_add_16 (by decide) (fun c0 => absurd c0 (by decide)) (fun _ => ?_)
  refine lv_aload_n hx hb dX9_add_19 rfl (lv_at hl 1 rfl) ?_
  refine va_get (D := D) (ci := 9) (v := .ref by_) (C := RX9) (T := TX9) (N := 2) hx hb hts inlX9 hown hK hP 0 rfl rfl 0 (by decide) (hts _ (inr3 _ (List.mem_of_getElem? (i := 14) rfl))) (fun _ h9 => h9) rfl dX9_add_20 ?_
  refine lv_aload_n hx hb dX9_add_23 rfl (lv_at hl 1 rfl) ?_
  refine va_get (D := D) (ci := 9) (v := .int 14) (C := RX9) (T := TX9) (N := 2) hx hb hts inlX9 hown hK hP 0 rfl rfl 1 (by decide) (hts _ (inr8 _ (List.mem_of_getElem? (i := 2) rfl))) (fun _ h9 => h9) rfl dX9_add_24 ?_
  refine lv_iload_n hx hb dX9_add_27 rfl (lv_at hl 2 rfl) ?_
  refine lv_iload_n hx hb dX9_add_28 rfl (lv_at hl 0 rfl) ?_
  obtain ⟨t_7, et_7⟩ : ∃ v9 : Int32, v >>> (8 &&& 31) = v9 := ⟨_, rfl⟩
  refine z_ishr (v := t_7) hx hb dX9_add_29 et_7 ?_
  obtain ⟨t_8, et_8⟩ : ∃ v9 : Int32, (t_7 : Int32).toInt8.toInt32 = v9 := ⟨_, rfl⟩
  refine lv_i2b (v := t_8) hx hb dX9_add_30 et_8 ?_
  refine va_bast hx hb hK hP hD hS 1 0 rfl rfl (by unfold vp_in; decide) dX9_add_31 (fun H locs hP hD hS => ?_)
  have hP : va_P D vwCl [(h0, .inr (9, [.ref by_, .int 14])), (by_, .inl (cB, 500, .inl (upd g_6 (14 : Int32).toNatClampNeg (vp_nar .byte t_8))))] H := hP
  have hD : va_D A [(h0, .inr (9, [.ref by_, .int 14])), (by_, .inl (cB, 500, .inl (upd g_6 (14 : Int32).toNatClampNeg (vp_nar .byte t_8))))] := hD
  obtain ⟨g_9, eg_9⟩ : ∃ v9 : Nat → Int32, (upd g_6 (14 : Int32).toNatClampNeg (vp_nar .byte t_8)) = v9 := ⟨_, rfl⟩
  rw [eg_9] at hP hD
  have hP : va_P D vwCl [(h0, .inr (9, [.ref by_, .int 14])), (by_, .inl (cB, 500, .inl g_9))] H := hP
  have hD : va_D A [(h0, .inr (9, [.ref by_, .int 14])), (by_, .inl (cB, 500, .inl g_9))] := hD
  refine lv_aload_n hx hb dX9_add_32 rfl (lv_at hl 1 rfl) ?_
  refine lv_dup hx hb dX9_add_33 rfl ?_
  refine va_get (D := D) (ci := 9) (v := .int 14) (C := RX9) (T := TX9) (N := 2) hx hb hts inlX9 hown hK hP 0 rfl rfl 1 (by decide) (hts _ (inr8 _ (List.mem_of_getElem? (i := 2) rfl))) (fun _ h9 => h9) rfl dX9_add_34 ?_
  refine lv_iconst (v := 1) hx hb dX9_add_37 (by decide) ?_
  refine z_iadd (v := 15) hx hb dX9_add_38 (by decide) ?_
  refine va_put (D := D) (ci := 9) (v := .int 15) (ty := .int) (C := RX9) (T := TX9) (N := 2) hx hb hts inlX9 tyX9 tyX9_ok nmX9 hown hK hP hD hS 0 rfl rfl 1 (by decide) (hts _ (inr8 _ (List.mem_of_getElem? (i := 2) rfl))) (fun _ h9 => h9) rfl (by decide +kernel) rfl rfl (Nat.le_of_ble_eq_true rfl) dX9_add_39 (fun H locs hP hD hS => ?_)
  have hP : va_P D vwCl [(h0, .inr (9, [.ref by_, .int 15])), (by_, .inl (cB, 500, .inl g_9))] H := hP
  have hD : va_D A [(h0, .inr (9, [.ref by_, .int 15])), (by_, .inl (cB, 500, .inl g_9))] := hD
  refine lv_iinc (v := 0) (lv' := [(2, .int 0), (0, .ref h0), (1, .int v)]) hx hb dX9_add_42 hl (k := 0) rfl (by decide) (by decide) rfl (fun ls hl => ?_)
  refine lv_goto (tgt := 3) hx hb dX9_add_45 (by decide) ?_
  refine lv_iload_n hx hb dX9_add_3 rfl (lv_at hl 0 rfl) ?_
  refine lv_if_lt (tgt := 48) hx hb dX9_add_4 (by decide) (fun c0 => absurd c0 (by decide)) (fun _ => ?_)
  refine lv_aload_n hx hb dX9_add_7 rfl (lv_at hl 1 rfl) ?_
  refine va_get (D := D) (ci := 9) (v := .int 15) (C := RX9) (T := TX9) (N := 2) hx hb hts inlX9 hown hK hP 0 rfl rfl 1 (by decide) (hts _ (inr8 _ (List.mem_of_getElem? (i := 2) rfl))) (fun _ h9 => h9) rfl dX9_add_8 ?_
  refine lv_aload_n hx hb dX9_add_11 rfl (lv_at hl 1 rfl) ?_
  refine va_get (D := D) (ci := 9) (v := .ref by_) (C := RX9) (T := TX9) (N := 2) hx hb hts inlX9 hown hK hP 0 rfl rfl 0 (by decide) (hts _ (inr3 _ (List.mem_of_getElem? (i := 14) rfl))) (fun _ h9 => h9) rfl dX9_add_12 ?_
  refine va_alen (v := 500) hx hb hK hP 1 0 rfl rfl rfl dX9_add_15 ?_
  refine lv_icmp_ge (tgt := 42) hx hb dX9_add_16 (by decide) (fun c0 => absurd c0 (by decide)) (fun _ => ?_)
  refine lv_aload_n hx hb dX9_add_19 rfl (lv_at hl 1 rfl) ?_
  refine va_get (D := D) (ci := 9) (v := .ref by_) (C := RX9) (T := TX9) (N := 2) hx hb hts inlX9 hown hK hP 0 rfl rfl 0 (by decide) (hts _ (inr3 _ (List.mem_of_getElem? (i := 14) rfl))) (fun _ h9 => h9) rfl dX9_add_20 ?_
  refine lv_aload_n hx hb dX9_add_23 rfl (lv_at hl 1 rfl) ?_
  refine va_get (D := D) (ci := 9) (v := .int 15) (C := RX9) (T := TX9) (N := 2) hx hb hts inlX9 hown hK hP 0 rfl rfl 1 (by decide) (hts _ (inr8 _ (List.mem_of_getElem? (i := 2) rfl))) (fun _ h9 => h9) rfl dX9_add_24 ?_
  refine lv_iload_n hx hb dX9_add_27 rfl (lv_at hl 2 rfl) ?_
  refine lv_iload_n hx hb dX9_add_28 rfl (lv_at hl 0 rfl) ?_
  obtain ⟨t_10, et_10⟩ : ∃ v9 : Int32, v >>> (0 &&& 31) = v9 := ⟨_, rfl⟩
  refine z_ishr (v := t_10) hx hb dX9_add_29 et_10 ?_
  obtain ⟨t_11, et_11⟩ : ∃ v9 : Int32, (t_10 : Int32).toInt8.toInt32 = v9 := ⟨_, rfl⟩
  refine lv_i2b (v := t_11) hx hb dX9_add_30 et_11 ?_
  refine va_bast hx hb hK hP hD hS 1 0 rfl rfl (by unfold vp_in; decide) dX9_add_31 (fun H locs hP hD hS => ?_)
  have hP : va_P D vwCl [(h0, .inr (9, [.ref by_, .int 15])), (by_, .inl (cB, 500, .inl (upd g_9 (15 : Int32).toNatClampNeg (vp_nar .byte t_11))))] H := hP
  have hD : va_D A [(h0, .inr (9, [.ref by_, .int 15])), (by_, .inl (cB, 500, .inl (upd g_9 (15 : Int32).toNatClampNeg (vp_nar .byte t_11))))] := hD
  obtain ⟨g_12, eg_12⟩ : ∃ v9 : Nat → Int32, (upd g_9 (15 : Int32).toNatClampNeg (vp_nar .byte t_11)) = v9 := ⟨_, rfl⟩
  rw [eg_12] at hP hD
  have hP : va_P D vwCl [(h0, .inr (9, [.ref by_, .int 15])), (by_, .inl (cB, 500, .inl g_12))] H := hP
  have hD : va_D A [(h0, .inr (9, [.ref by_, .int 15])), (by_, .inl (cB, 500, .inl g_12))] := hD
  refine lv_aload_n hx hb dX9_add_32 rfl (lv_at hl 1 rfl) ?_
  refine lv_dup hx hb dX9_add_33 rfl ?_
  refine va_get (D := D) (ci := 9) (v := .int 15) (C := RX9) (T := TX9) (N := 2) hx hb hts inlX9 hown hK hP 0 rfl rfl 1 (by decide) (hts _ (inr8 _ (List.mem_of_getElem? (i := 2) rfl))) (fun _ h9 => h9) rfl dX9_add_34 ?_
  refine lv_iconst (v := 1) hx hb dX9_add_37 (by decide) ?_
  refine z_iadd (v := 16) hx hb dX9_add_38 (by decide) ?_
  refine va_put (D := D) (ci := 9) (v := .int 16) (ty := .int) (C := RX9) (T := TX9) (N := 2) hx hb hts inlX9 tyX9 tyX9_ok nmX9 hown hK hP hD hS 0 rfl rfl 1 (by decide) (hts _ (inr8 _ (List.mem_of_getElem? (i := 2) rfl))) (fun _ h9 => h9) rfl (by decide +kernel) rfl rfl (Nat.le_of_ble_eq_true rfl) dX9_add_39 (fun H locs hP hD hS => ?_)
  have hP : va_P D vwCl [(h0, .inr (9, [.ref by_, .int 16])), (by_, .inl (cB, 500, .inl g_12))] H := hP
  have hD : va_D A [(h0, .inr (9, [.ref by_, .int 16])), (by_, .inl (cB, 500, .inl g_12))] := hD
  refine lv_iinc (v := (-8)) (lv' := [(2, .int (-8)), (0, .ref h0), (1, .int v)]) hx hb dX9_add_42 hl (k := 0) rfl (by decide) (by decide) rfl (fun ls hl => ?_)
  refine lv_goto (tgt := 3) hx hb dX9_add_45 (by decide) ?_
  refine lv_iload_n hx hb dX9_add_3 rfl (lv_at hl 0 rfl) ?_
  refine lv_if_lt (tgt := 48) hx hb dX9_add_4 (by decide) (fun _ => ?_) (fun c0 => absurd c0 (by decide))
  have hP9 := hP.sub (ws' := [(h0, .inr (9, [.ref by_, .int 16])), (by_, .inl (cB, 500, .inl g_12))]) [0, 1] rfl
  have hD9 := hD.sub (ws' := [(h0, .inr (9, [.ref by_, .int 16])), (by_, .inl (cB, 500, .inl g_12))]) [0, 1] (by decide) rfl
  exact W.vret hx hb hr (fun t ht hW => ⟨⟨g_12, rfl, trivial, by rw [ht]; exact hP9, va_K.moved hW.alike hK, hD9⟩, hS.F ht⟩) hS.2.2 dX9_add_48

set_option maxHeartbeats 4000000 in
set_option maxRecDepth 100000 in
theorem k_add16 (l : Launch) (D : va_G) (cB cI cJ cZ cS cT : ClassId) (sz : Nat) (h0 : Nat) (by_ : Nat) (f : Nat → Int32) (v : Int32)  : Met l yX9_add (Cond.code yX9_add cX9_add 3 none :: wsL_law) ({ frames := 0, cells := 0, slots := 0, locals := 0 }) (wrP D (tyL cB cI cJ cZ cS cT) [(h0, .inr (9, [.ref by_, .int 16])), (by_, .inl (cB, 500, .inl f))] sz [.ref h0, .int v]) (va_Qv (fun x : (Nat → Int32) => True) (atW D (tyL cB cI cJ cZ cS cT) (va_A [(h0, .inr (9, [.ref by_, .int 16])), (by_, .inl (cB, 500, .inl f))] sz) (fun x : (Nat → Int32) => [(h0, .inr (9, [.ref by_, .int 20])), (by_, .inl (cB, 500, .inl x))])) (va_A [(h0, .inr (9, [.ref by_, .int 16])), (by_, .inl (cB, 500, .inl f))] sz)) 0 0 (va_A [(h0, .inr (9, [.ref by_, .int 16])), (by_, .inl (cB, 500, .inl f))] sz) := by
  refine Met.ofW (cc := cX9_add) (maxL := 3) (ret := none) (by decide) rfl ?_
  intro p e s m args below meth c s₁ B hml hv
  obtain ⟨rfl, hsz, hP, hK, hD0, hN⟩ := hv
  have hx := B.exec
  have hb := B.bytes
  have hr := B.returns
  have hts : ∀ w ∈ wsL_law, w.before ([.ref h0, .int v] : List Value).toArray s = true := fun w h => atoms_spec (ws := Cond.code yX9_add cX9_add 3 none :: wsL_law) B.pre w (List.mem_cons_of_mem _ h)
  have hown : s.vm.findClass RX9 = some m.cls := findClass_of_methodNamed B.named
  have hlocks := B.notSynchronized
  subst hsz
  have hD := hD0.self (sz := s.heap.size)
  generalize hAe : va_A [(h0, .inr (9, [.ref by_, .int 16])), (by_, .inl (cB, 500, .inl f))] s.heap.size = A at hD ⊢
  have hA : ∀ q : Nat, s.heap.size ≤ q → A q := fun q h => by rw [← hAe]; exact Or.inr h
  have hS : va_S A s.heap s.heap [] := va_S.rf
  have hl := lv_entry ([.ref h0, .int v]) (n := 3) (Nat.le_of_ble_eq_true rfl)
  rw [lg_entry_eq]
  generalize (lg_sl ([.ref h0, .int v]) ++ List.replicate (3 - (lg_sl ([.ref h0, .int v])).length) Slot.unset).toArray = ls at hl ⊢
  have hl : lv_has ls 3 [(0, .ref h0), (1, .int v)] := hl
  have hP : va_P D vwCl [(h0, .inr (9, [.ref by_, .int 16])), (by_, .inl (cB, 500, .inl f))] s.heap := hP
  refine lv_bipush (v := 24) hx hb dX9_add_0 (by decide) ?_
  refine lv_istore_n (lv' := [(2, .int 24), (0, .ref h0), (1, .int v)]) hx hb dX9_add_2 rfl hl (by decide) rfl (fun ls hl => ?_)
  refine lv_iload_n hx hb dX9_add_3 rfl (lv_at hl 0 rfl) ?_
  refine lv_if_lt (tgt := 48) hx hb dX9_add_4 (by decide) (fun c0 => absurd c0 (by decide)) (fun _ => ?_)
  refine lv_aload_n hx hb dX9_add_7 rfl (lv_at hl 1 rfl) ?_
  refine va_get (D := D) (ci := 9) (v := .int 16) (C := RX9) (T := TX9) (N := 2) hx hb hts inlX9 hown hK hP 0 rfl rfl 1 (by decide) (hts _ (inr8 _ (List.mem_of_getElem? (i := 2) rfl))) (fun _ h9 => h9) rfl dX9_add_8 ?_
  refine lv_aload_n hx hb dX9_add_11 rfl (lv_at hl 1 rfl) ?_
  refine va_get (D := D) (ci := 9) (v := .ref by_) (C := RX9) (T := TX9) (N := 2) hx hb hts inlX9 hown hK hP 0 rfl rfl 0 (by decide) (hts _ (inr3 _ (List.mem_of_getElem? (i := 14) rfl))) (fun _ h9 => h9) rfl dX9_add_12 ?_
  refine va_alen (v := 500) hx hb hK hP 1 0 rfl rfl rfl dX9_add_15 ?_
  refine lv_icmp_ge (tgt := 42) hx hb dX9_add_16 (by decide) (fun c0 => absurd c0 (by decide)) (fun _ => ?_)
  refine lv_aload_n hx hb dX9_add_19 rfl (lv_at hl 1 rfl) ?_
  refine va_get (D := D) (ci := 9) (v := .ref by_) (C := RX9) (T := TX9) (N := 2) hx hb hts inlX9 hown hK hP 0 rfl rfl 0 (by decide) (hts _ (inr3 _ (List.mem_of_getElem? (i := 14) rfl))) (fun _ h9 => h9) rfl dX9_add_20 ?_
  refine lv_aload_n hx hb dX9_add_23 rfl (lv_at hl 1 rfl) ?_
  refine va_get (D := D) (ci := 9) (v := .int 16) (C := RX9) (T := TX9) (N := 2) hx hb hts inlX9 hown hK hP 0 rfl rfl 1 (by decide) (hts _ (inr8 _ (List.mem_of_getElem? (i := 2) rfl))) (fun _ h9 => h9) rfl dX9_add_24 ?_
  refine lv_iload_n hx hb dX9_add_27 rfl (lv_at hl 2 rfl) ?_
  refine lv_iload_n hx hb dX9_add_28 rfl (lv_at hl 0 rfl) ?_
  obtain ⟨t_1, et_1⟩ : ∃ v9 : Int32, v >>> (24 &&& 31) = v9 := ⟨_, rfl⟩
  refine z_ishr (v := t_1) hx hb dX9_add_29 et_1 ?_
  obtain ⟨t_2, et_2⟩ : ∃ v9 : Int32, (t_1 : Int32).toInt8.toInt32 = v9 := ⟨_, rfl⟩
  refine lv_i2b (v := t_2) hx hb dX9_add_30 et_2 ?_
  refine va_bast hx hb hK hP hD hS 1 0 rfl rfl (by unfold vp_in; decide) dX9_add_31 (fun H locs hP hD hS => ?_)
  have hP : va_P D vwCl [(h0, .inr (9, [.ref by_, .int 16])), (by_, .inl (cB, 500, .inl (upd f (16 : Int32).toNatClampNeg (vp_nar .byte t_2))))] H := hP
  have hD : va_D A [(h0, .inr (9, [.ref by_, .int 16])), (by_, .inl (cB, 500, .inl (upd f (16 : Int32).toNatClampNeg (vp_nar .byte t_2))))] := hD
  obtain ⟨g_3, eg_3⟩ : ∃ v9 : Nat → Int32, (upd f (16 : Int32).toNatClampNeg (vp_nar .byte t_2)) = v9 := ⟨_, rfl⟩
  rw [eg_3] at hP hD
  have hP : va_P D vwCl [(h0, .inr (9, [.ref by_, .int 16])), (by_, .inl (cB, 500, .inl g_3))] H := hP
  have hD : va_D A [(h0, .inr (9, [.ref by_, .int 16])), (by_, .inl (cB, 500, .inl g_3))] := hD
  refine lv_aload_n hx hb dX9_add_32 rfl (lv_at hl 1 rfl) ?_
  refine lv_dup hx hb dX9_add_33 rfl ?_
  refine va_get (D := D) (ci := 9) (v := .int 16) (C := RX9) (T := TX9) (N := 2) hx hb hts inlX9 hown hK hP 0 rfl rfl 1 (by decide) (hts _ (inr8 _ (List.mem_of_getElem? (i := 2) rfl))) (fun _ h9 => h9) rfl dX9_add_34 ?_
  refine lv_iconst (v := 1) hx hb dX9_add_37 (by decide) ?_
  refine z_iadd (v := 17) hx hb dX9_add_38 (by decide) ?_
  refine va_put (D := D) (ci := 9) (v := .int 17) (ty := .int) (C := RX9) (T := TX9) (N := 2) hx hb hts inlX9 tyX9 tyX9_ok nmX9 hown hK hP hD hS 0 rfl rfl 1 (by decide) (hts _ (inr8 _ (List.mem_of_getElem? (i := 2) rfl))) (fun _ h9 => h9) rfl (by decide +kernel) rfl rfl (Nat.le_of_ble_eq_true rfl) dX9_add_39 (fun H locs hP hD hS => ?_)
  have hP : va_P D vwCl [(h0, .inr (9, [.ref by_, .int 17])), (by_, .inl (cB, 500, .inl g_3))] H := hP
  have hD : va_D A [(h0, .inr (9, [.ref by_, .int 17])), (by_, .inl (cB, 500, .inl g_3))] := hD
  refine lv_iinc (v := 16) (lv' := [(2, .int 16), (0, .ref h0), (1, .int v)]) hx hb dX9_add_42 hl (k := 0) rfl (by decide) (by decide) rfl (fun ls hl => ?_)
  refine lv_goto (tgt := 3) hx hb dX9_add_45 (by decide) ?_
  refine lv_iload_n hx hb dX9_add_3 rfl (lv_at hl 0 rfl) ?_
  refine lv_if_lt (tgt := 48) hx hb dX9_add_4 (by decide) (fun c0 => absurd c0 (by decide)) (fun _ => ?_)
  refine lv_aload_n hx hb dX9_add_7 rfl (lv_at hl 1 rfl) ?_
  refine va_get (D := D) (ci := 9) (v := .int 17) (C := RX9) (T := TX9) (N := 2) hx hb hts inlX9 hown hK hP 0 rfl rfl 1 (by decide) (hts _ (inr8 _ (List.mem_of_getElem? (i := 2) rfl))) (fun _ h9 => h9) rfl dX9_add_8 ?_
  refine lv_aload_n hx hb dX9_add_11 rfl (lv_at hl 1 rfl) ?_
  refine va_get (D := D) (ci := 9) (v := .ref by_) (C := RX9) (T := TX9) (N := 2) hx hb hts inlX9 hown hK hP 0 rfl rfl 0 (by decide) (hts _ (inr3 _ (List.mem_of_getElem? (i := 14) rfl))) (fun _ h9 => h9) rfl dX9_add_12 ?_
  refine va_alen (v := 500) hx hb hK hP 1 0 rfl rfl rfl dX9_add_15 ?_
  refine lv_icmp_ge (tgt := 42) hx hb dX9_add_16 (by decide) (fun c0 => absurd c0 (by decide)) (fun _ => ?_)
  refine lv_aload_n hx hb dX9_add_19 rfl (lv_at hl 1 rfl) ?_
  refine va_get (D := D) (ci := 9) (v := .ref by_) (C := RX9) (T := TX9) (N := 2) hx hb hts inlX9 hown hK hP 0 rfl rfl 0 (by decide) (hts _ (inr3 _ (List.mem_of_getElem? (i := 14) rfl))) (fun _ h9 => h9) rfl dX9_add_20 ?_
  refine lv_aload_n hx hb dX9_add_23 rfl (lv_at hl 1 rfl) ?_
  refine va_get (D := D) (ci := 9) (v := .int 17) (C := RX9) (T := TX9) (N := 2) hx hb hts inlX9 hown hK hP 0 rfl rfl 1 (by decide) (hts _ (inr8 _ (List.mem_of_getElem? (i := 2) rfl))) (fun _ h9 => h9) rfl dX9_add_24 ?_
  refine lv_iload_n hx hb dX9_add_27 rfl (lv_at hl 2 rfl) ?_
  refine lv_iload_n hx hb dX9_add_28 rfl (lv_at hl 0 rfl) ?_
  obtain ⟨t_4, et_4⟩ : ∃ v9 : Int32, v >>> (16 &&& 31) = v9 := ⟨_, rfl⟩
  refine z_ishr (v := t_4) hx hb dX9_add_29 et_4 ?_
  obtain ⟨t_5, et_5⟩ : ∃ v9 : Int32, (t_4 : Int32).toInt8.toInt32 = v9 := ⟨_, rfl⟩
  refine lv_i2b (v := t_5) hx hb dX9_add_30 et_5 ?_
  refine va_bast hx hb hK hP hD hS 1 0 rfl rfl (by unfold vp_in; decide) dX9_add_31 (fun H locs hP hD hS => ?_)
  have hP : va_P D vwCl [(h0, .inr (9, [.ref by_, .int 17])), (by_, .inl (cB, 500, .inl (upd g_3 (17 : Int32).toNatClampNeg (vp_nar .byte t_5))))] H := hP
  have hD : va_D A [(h0, .inr (9, [.ref by_, .int 17])), (by_, .inl (cB, 500, .inl (upd g_3 (17 : Int32).toNatClampNeg (vp_nar .byte t_5))))] := hD
  obtain ⟨g_6, eg_6⟩ : ∃ v9 : Nat → Int32, (upd g_3 (17 : Int32).toNatClampNeg (vp_nar .byte t_5)) = v9 := ⟨_, rfl⟩
  rw [eg_6] at hP hD
  have hP : va_P D vwCl [(h0, .inr (9, [.ref by_, .int 17])), (by_, .inl (cB, 500, .inl g_6))] H := hP
  have hD : va_D A [(h0, .inr (9, [.ref by_, .int 17])), (by_, .inl (cB, 500, .inl g_6))] := hD
  refine lv_aload_n hx hb dX9_add_32 rfl (lv_at hl 1 rfl) ?_
  refine lv_dup hx hb dX9_add_33 rfl ?_
  refine va_get (D := D) (ci := 9) (v := .int 17) (C := RX9) (T := TX9) (N := 2) hx hb hts inlX9 hown hK hP 0 rfl rfl 1 (by decide) (hts _ (inr8 _ (List.mem_of_getElem? (i := 2) rfl))) (fun _ h9 => h9) rfl dX9_add_34 ?_
  refine lv_iconst (v := 1) hx hb dX9_add_37 (by decide) ?_
  refine z_iadd (v := 18) hx hb dX9_add_38 (by decide) ?_
  refine va_put (D := D) (ci := 9) (v := .int 18) (ty := .int) (C := RX9) (T := TX9) (N := 2) hx hb hts inlX9 tyX9 tyX9_ok nmX9 hown hK hP hD hS 0 rfl rfl 1 (by decide) (hts _ (inr8 _ (List.mem_of_getElem? (i := 2) rfl))) (fun _ h9 => h9) rfl (by decide +kernel) rfl rfl (Nat.le_of_ble_eq_true rfl) dX9_add_39 (fun H locs hP hD hS => ?_)
  have hP : va_P D vwCl [(h0, .inr (9, [.ref by_, .int 18])), (by_, .inl (cB, 500, .inl g_6))] H := hP
  have hD : va_D A [(h0, .inr (9, [.ref by_, .int 18])), (by_, .inl (cB, 500, .inl g_6))] := hD
  refine lv_iinc (v := 8) (lv' := [(2, .int 8), (0, .ref h0), (1, .int v)]) hx hb dX9_add_42 hl (k := 0) rfl (by decide) (by decide) rfl (fun ls hl => ?_)
  refine lv_goto (tgt := 3) hx hb dX9_add_45 (by decide) ?_
  refine lv_iload_n hx hb dX9_add_3 rfl (lv_at hl 0 rfl) ?_
  refine lv_if_lt (tgt := 48) hx hb dX9_add_4 (by decide) (fun c0 => absurd c0 (by decide)) (fun _ => ?_)
  refine lv_aload_n hx hb dX9_add_7 rfl (lv_at hl 1 rfl) ?_
  refine va_get (D := D) (ci := 9) (v := .int 18) (C := RX9) (T := TX9) (N := 2) hx hb hts inlX9 hown hK hP 0 rfl rfl 1 (by decide) (hts _ (inr8 _ (List.mem_of_getElem? (i := 2) rfl))) (fun _ h9 => h9) rfl dX9_add_8 ?_
  refine lv_aload_n hx hb dX9_add_11 rfl (lv_at hl 1 rfl) ?_
  refine va_get (D := D) (ci := 9) (v := .ref by_) (C := RX9) (T := TX9) (N := 2) hx hb hts inlX9 hown hK hP 0 rfl rfl 0 (by decide) (hts _ (inr3 _ (List.mem_of_getElem? (i := 14) rfl))) (fun _ h9 => h9) rfl dX9_add_12 ?_
  refine va_alen (v := 500) hx hb hK hP 1 0 rfl rfl rfl dX9_add_15 ?_
  refine lv_icmp_ge (tgt := 42) hx hb dX9_add_16 (by decide) (fun c0 => absurd c0 (by decide)) (fun _ => ?_)
  refine lv_aload_n hx hb dX9_add_19 rfl (lv_at hl 1 rfl) ?_
  refine va_get (D := D) (ci := 9) (v := .ref by_) (C := RX9) (T := TX9) (N := 2) hx hb hts inlX9 hown hK hP 0 rfl rfl 0 (by decide) (hts _ (inr3 _ (List.mem_of_getElem? (i := 14) rfl))) (fun _ h9 => h9) rfl dX9_add_20 ?_
  refine lv_aload_n hx hb dX9_add_23 rfl (lv_at hl 1 rfl) ?_
  refine va_get (D := D) (ci := 9) (v := .int 18) (C := RX9) (T := TX9) (N := 2) hx hb hts inlX9 hown hK hP 0 rfl rfl 1 (by decide) (hts _ (inr8 _ (List.mem_of_getElem? (i := 2) rfl))) (fun _ h9 => h9) rfl dX9_add_24 ?_
  refine lv_iload_n hx hb dX9_add_27 rfl (lv_at hl 2 rfl) ?_
  refine lv_iload_n hx hb dX9_add_28 rfl (lv_at hl 0 rfl) ?_
  obtain ⟨t_7, et_7⟩ : ∃ v9 : Int32, v >>> (8 &&& 31) = v9 := ⟨_, rfl⟩
  refine z_ishr (v := t_7) hx hb dX9_add_29 et_7 ?_
  obtain ⟨t_8, et_8⟩ : ∃ v9 : Int32, (t_7 : Int32).toInt8.toInt32 = v9 := ⟨_, rfl⟩
  refine lv_i2b (v := t_8) hx hb dX9_add_30 et_8 ?_
  refine va_bast hx hb hK hP hD hS 1 0 rfl rfl (by unfold vp_in; decide) dX9_add_31 (fun H locs hP hD hS => ?_)
  have hP : va_P D vwCl [(h0, .inr (9, [.ref by_, .int 18])), (by_, .inl (cB, 500, .inl (upd g_6 (18 : Int32).toNatClampNeg (vp_nar .byte t_8))))] H := hP
  have hD : va_D A [(h0, .inr (9, [.ref by_, .int 18])), (by_, .inl (cB, 500, .inl (upd g_6 (18 : Int32).toNatClampNeg (vp_nar .byte t_8))))] := hD
  obtain ⟨g_9, eg_9⟩ : ∃ v9 : Nat → Int32, (upd g_6 (18 : Int32).toNatClampNeg (vp_nar .byte t_8)) = v9 := ⟨_, rfl⟩
  rw [eg_9] at hP hD
  have hP : va_P D vwCl [(h0, .inr (9, [.ref by_, .int 18])), (by_, .inl (cB, 500, .inl g_9))] H := hP
  have hD : va_D A [(h0, .inr (9, [.ref by_, .int 18])), (by_, .inl (cB, 500, .inl g_9))] := hD
  refine lv_aload_n hx hb dX9_add_32 rfl (lv_at hl 1 rfl) ?_
  refine lv_dup hx hb dX9_add_33 rfl ?_
  refine va_get (D := D) (ci := 9) (v := .int 18) (C := RX9) (T := TX9) (N := 2) hx hb hts inlX9 hown hK hP 0 rfl rfl 1 (by decide) (hts _ (inr8 _ (List.mem_of_getElem? (i := 2) rfl))) (fun _ h9 => h9) rfl dX9_add_34 ?_
  refine lv_iconst (v := 1) hx hb dX9_add_37 (by decide) ?_
  refine z_iadd (v := 19) hx hb dX9_add_38 (by decide) ?_
  refine va_put (D := D) (ci := 9) (v := .int 19) (ty := .int) (C := RX9) (T := TX9) (N := 2) hx hb hts inlX9 tyX9 tyX9_ok nmX9 hown hK hP hD hS 0 rfl rfl 1 (by decide) (hts _ (inr8 _ (List.mem_of_getElem? (i := 2) rfl))) (fun _ h9 => h9) rfl (by decide +kernel) rfl rfl (Nat.le_of_ble_eq_true rfl) dX9_add_39 (fun H locs hP hD hS => ?_)
  have hP : va_P D vwCl [(h0, .inr (9, [.ref by_, .int 19])), (by_, .inl (cB, 500, .inl g_9))] H := hP
  have hD : va_D A [(h0, .inr (9, [.ref by_, .int 19])), (by_, .inl (cB, 500, .inl g_9))] := hD
  refine lv_iinc (v := 0) (lv' := [(2, .int 0), (0, .ref h0), (1, .int v)]) hx hb dX9_add_42 hl (k := 0) rfl (by decide) (by decide) rfl (fun ls hl => ?_)
  refine lv_goto (tgt := 3) hx hb dX9_add_45 (by decide) ?_
  refine lv_iload_n hx hb dX9_add_3 rfl (lv_at hl 0 rfl) ?_
  refine lv_if_lt (tgt := 48) hx hb dX9_add_4 (by decide) (fun c0 => absurd c0 (by decide)) (fun _ => ?_)
  refine lv_aload_n hx hb dX9_add_7 rfl (lv_at hl 1 rfl) ?_
  refine va_get (D := D) (ci := 9) (v := .int 19) (C := RX9) (T := TX9) (N := 2) hx hb hts inlX9 hown hK hP 0 rfl rfl 1 (by decide) (hts _ (inr8 _ (List.mem_of_getElem? (i := 2) rfl))) (fun _ h9 => h9) rfl dX9_add_8 ?_
  refine lv_aload_n hx hb dX9_add_11 rfl (lv_at hl 1 rfl) ?_
  refine va_get (D := D) (ci := 9) (v := .ref by_) (C := RX9) (T := TX9) (N := 2) hx hb hts inlX9 hown hK hP 0 rfl rfl 0 (by decide) (hts _ (inr3 _ (List.mem_of_getElem? (i := 14) rfl))) (fun _ h9 => h9) rfl dX9_add_12 ?_
  refine va_alen (v := 500) hx hb hK hP 1 0 rfl rfl rfl dX9_add_15 ?_
  refine lv_icmp_ge (tgt := 42) hx hb dX9_add_16 (by decide) (fun c0 => absurd c0 (by decide)) (fun _ => ?_)
  refine lv_aload_n hx hb dX9_add_19 rfl (lv_at hl 1 rfl) ?_
  refine va_get (D := D) (ci := 9) (v := .ref by_) (C := RX9) (T := TX9) (N := 2) hx hb hts inlX9 hown hK hP 0 rfl rfl 0 (by decide) (hts _ (inr3 _ (List.mem_of_getElem? (i := 14) rfl))) (fun _ h9 => h9) rfl dX9_add_20 ?_
  refine lv_aload_n hx hb dX9_add_23 rfl (lv_at hl 1 rfl) ?_
  refine va_get (D := D) (ci := 9) (v := .int 19) (C := RX9) (T := TX9) (N := 2) hx hb hts inlX9 hown hK hP 0 rfl rfl 1 (by decide) (hts _ (inr8 _ (List.mem_of_getElem? (i := 2) rfl))) (fun _ h9 => h9) rfl dX9_add_24 ?_
  refine lv_iload_n hx hb dX9_add_27 rfl (lv_at hl 2 rfl) ?_
  refine lv_iload_n hx hb dX9_add_28 rfl (lv_at hl 0 rfl) ?_
  obtain ⟨t_10, et_10⟩ : ∃ v9 : Int32, v >>> (0 &&& 31) = v9 := ⟨_, rfl⟩
  refine z_ishr (v := t_10) hx hb dX9_add_29 et_10 ?_
  obtain ⟨t_11, et_11⟩ : ∃ v9 : Int32, (t_10 : Int32).toInt8.toInt32 = v9 := ⟨_, rfl⟩
  refine lv_i2b (v := t_11) hx hb dX9_add_30 et_11 ?_
  refine va_bast hx hb hK hP hD hS 1 0 rfl rfl (by unfold vp_in; decide) dX9_add_31 (fun H locs hP hD hS => ?_)
  have hP : va_P D vwCl [(h0, .inr (9, [.ref by_, .int 19])), (by_, .inl (cB, 500, .inl (upd g_9 (19 : Int32).toNatClampNeg (vp_nar .byte t_11))))] H := hP
  have hD : va_D A [(h0, .inr (9, [.ref by_, .int 19])), (by_, .inl (cB, 500, .inl (upd g_9 (19 : Int32).toNatClampNeg (vp_nar .byte t_11))))] := hD
  obtain ⟨g_12, eg_12⟩ : ∃ v9 : Nat → Int32, (upd g_9 (19 : Int32).toNatClampNeg (vp_nar .byte t_11)) = v9 := ⟨_, rfl⟩
  rw [eg_12] at hP hD
  have hP : va_P D vwCl [(h0, .inr (9, [.ref by_, .int 19])), (by_, .inl (cB, 500, .inl g_12))] H := hP
  have hD : va_D A [(h0, .inr (9, [.ref by_, .int 19])), (by_, .inl (cB, 500, .inl g_12))] := hD
  refine lv_aload_n hx hb dX9_add_32 rfl (lv_at hl 1 rfl) ?_
  refine lv_dup hx hb dX9_add_33 rfl ?_
  refine va_get (D := D) (ci := 9) (v := .int 19) (C := RX9) (T := TX9) (N := 2) hx hb hts inlX9 hown hK hP 0 rfl rfl 1 (by decide) (hts _ (inr8 _ (List.mem_of_getElem? (i := 2) rfl))) (fun _ h9 => h9) rfl dX9_add_34 ?_
  refine lv_iconst (v := 1) hx hb dX9_add_37 (by decide) ?_
  refine z_iadd (v := 20) hx hb dX9_add_38 (by decide) ?_
  refine va_put (D := D) (ci := 9) (v := .int 20) (ty := .int) (C := RX9) (T := TX9) (N := 2) hx hb hts inlX9 tyX9 tyX9_ok nmX9 hown hK hP hD hS 0 rfl rfl 1 (by decide) (hts _ (inr8 _ (List.mem_of_getElem? (i := 2) rfl))) (fun _ h9 => h9) rfl (by decide +kernel) rfl rfl (Nat.le_of_ble_eq_true rfl) dX9_add_39 (fun H locs hP hD hS => ?_)
  have hP : va_P D vwCl [(h0, .inr (9, [.ref by_, .int 20])), (by_, .inl (cB, 500, .inl g_12))] H := hP
  have hD : va_D A [(h0, .inr (9, [.ref by_, .int 20])), (by_, .inl (cB, 500, .inl g_12))] := hD
  refine lv_iinc (v := (-8)) (lv' := [(2, .int (-8)), (0, .ref h0), (1, .int v)]) hx hb dX9_add_42 hl (k := 0) rfl (by decide) (by decide) rfl (fun ls hl => ?_)
  refine lv_goto (tgt := 3) hx hb dX9_add_45 (by decide) ?_
  refine lv_iload_n hx hb dX9_add_3 rfl (lv_at hl 0 rfl) ?_
  refine lv_if_lt (tgt := 48) hx hb dX9_add_4 (by decide) (fun _ => ?_) (fun c0 => absurd c0 (by decide))
  have hP9 := hP.sub (ws' := [(h0, .inr (9, [.ref by_, .int 20])), (by_, .inl (cB, 500, .inl g_12))]) [0, 1] rfl
  have hD9 := hD.sub (ws' := [(h0, .inr (9, [.ref by_, .int 20])), (by_, .inl (cB, 500, .inl g_12))]) [0, 1] (by decide) rfl
  exact W.vret hx hb hr (fun t ht hW => ⟨⟨g_12, rfl, trivial, by rw [ht]; exact hP9, va_K.moved hW.alike hK, hD9⟩, hS.F ht⟩) hS.2.2 dX9_add_48

set_option maxHeartbeats 4000000 in
set_option maxRecDepth 100000 in
theorem kx_feed (l : Launch) (D : va_G) (cB cI cJ cZ cS cT : ClassId) (sz : Nat) (x0 : Nat) (r_tape : Nat) (r_reader : Nat) (r_now : Nat) (r_trial : Nat) (r_images : Nat) (r_kept : Nat) (r_slots : Nat) (r_night : Nat) (r_other : Nat) (r_circle : Nat) (r_words : Nat) (r_law : Nat) (r_place : Nat) (r_drawn : Nat) (t_by : Nat) (f : Nat → Int32) (a1 : Int32) (a2 : Int32) (a3 : Int32) (a4 : Int32) (a5 : Int32)  : Met l yX11_feed (Cond.code yX11_feed cX11_feed 6 (some .int) :: wsL_law) ({ frames := 1, cells := 0, slots := 0, locals := 22 }) (wrP D (tyL cB cI cJ cZ cS cT) [(x0, .inr (11, [.ref r_tape, .ref r_reader, .ref r_now, .ref r_trial, .ref r_images, .ref r_kept, .ref r_slots, .ref r_night, .ref r_other, .ref r_circle, .ref r_words, .ref r_law, .ref r_place, .ref r_drawn])), (r_tape, .inr (9, [.ref t_by, .int 0])), (t_by, .inl (cB, 500, .inl f))] sz [.ref x0, .int a1, .int a2, .int a3, .int a4, .int a5]) (va_Qi (fun (r : Int32) (x : Unit) => r = 20) (atW D (tyL cB cI cJ cZ cS cT) (va_A [(x0, .inr (11, [.ref r_tape, .ref r_reader, .ref r_now, .ref r_trial, .ref r_images, .ref r_kept, .ref r_slots, .ref r_night, .ref r_other, .ref r_circle, .ref r_words, .ref r_law, .ref r_place, .ref r_drawn])), (r_tape, .inr (9, [.ref t_by, .int 0])), (t_by, .inl (cB, 500, .inl f))] sz) (fun x : Unit => [])) (va_A [(x0, .inr (11, [.ref r_tape, .ref r_reader, .ref r_now, .ref r_trial, .ref r_images, .ref r_kept, .ref r_slots, .ref r_night, .ref r_other, .ref r_circle, .ref r_words, .ref r_law, .ref r_place, .ref r_drawn])), (r_tape, .inr (9, [.ref t_by, .int 0])), (t_by, .inl (cB, 500, .inl f))] sz)) 0 0 (va_A [(x0, .inr (11, [.ref r_tape, .ref r_reader, .ref r_now, .ref r_trial, .ref r_images, .ref r_kept, .ref r_slots, .ref r_night, .ref r_other, .ref r_circle, .ref r_words, .ref r_law, .ref r_place, .ref r_drawn])), (r_tape, .inr (9, [.ref t_by, .int 0])), (t_by, .inl (cB, 500, .inl f))] sz) := by
  refine Met.ofW (cc := cX11_feed) (maxL := 6) (ret := (some .int)) (by decide) rfl ?_
  intro p e s m args below meth c s₁ B hml hv
  obtain ⟨rfl, hsz, hP, hK, hD0, hN⟩ := hv
  have hx := B.exec
  have hb := B.bytes
  have hr := B.returns
  have hts : ∀ w ∈ wsL_law, w.before ([.ref x0, .int a1, .int a2, .int a3, .int a4, .int a5] : List Value).toArray s = true := fun w h => atoms_spec (ws := Cond.code yX11_feed cX11_feed 6 (some .int) :: wsL_law) B.pre w (List.mem_cons_of_mem _ h)
  have hown : s.vm.findClass RX11 = some m.cls := findClass_of_methodNamed B.named
  have hlocks := B.notSynchronized
  subst hsz
  have hD := hD0.self (sz := s.heap.size)
  generalize hAe : va_A [(x0, .inr (11, [.ref r_tape, .ref r_reader, .ref r_now, .ref r_trial, .ref r_images, .ref r_kept, .ref r_slots, .ref r_night, .ref r_other, .ref r_circle, .ref r_words, .ref r_law, .ref r_place, .ref r_drawn])), (r_tape, .inr (9, [.ref t_by, .int 0])), (t_by, .inl (cB, 500, .inl f))] s.heap.size = A at hD ⊢
  have hA : ∀ q : Nat, s.heap.size ≤ q → A q := fun q h => by rw [← hAe]; exact Or.inr h
  have hS : va_S A s.heap s.heap [] := va_S.rf
  have hl := lv_entry ([.ref x0, .int a1, .int a2, .int a3, .int a4, .int a5]) (n := 6) (Nat.le_of_ble_eq_true rfl)
  rw [lg_entry_eq]
  generalize (lg_sl ([.ref x0, .int a1, .int a2, .int a3, .int a4, .int a5]) ++ List.replicate (6 - (lg_sl ([.ref x0, .int a1, .int a2, .int a3, .int a4, .int a5])).length) Slot.unset).toArray = ls at hl ⊢
  have hl : lv_has ls 6 [(0, .ref x0), (1, .int a1), (2, .int a2), (3, .int a3), (4, .int a4), (5, .int a5)] := hl
  have hP : va_P D vwCl [(x0, .inr (11, [.ref r_tape, .ref r_reader, .ref r_now, .ref r_trial, .ref r_images, .ref r_kept, .ref r_slots, .ref r_night, .ref r_other, .ref r_circle, .ref r_words, .ref r_law, .ref r_place, .ref r_drawn])), (r_tape, .inr (9, [.ref t_by, .int 0])), (t_by, .inl (cB, 500, .inl f))] s.heap := hP
  refine lv_aload_n hx hb dX11_feed_0 rfl (lv_at hl 0 rfl) ?_
  refine va_get (D := D) (ci := 11) (v := .ref r_tape) (C := RX11) (T := TX11) (N := 14) hx hb hts inlX11 hown hK hP 0 rfl rfl 0 (by decide) (hts _ (inr1 _ (List.mem_of_getElem? (i := 16) rfl))) (fun _ h9 => h9) rfl dX11_feed_1 ?_
  refine roi (As := []) (rest := []) ⟨hx, hb, hml, hown, hts⟩ (k_Tp_size l D cB cI cJ cZ cS cT r_tape t_by 0 ) (cvB (n := 0) (inr7 _ (List.mem_of_getElem? (i := 22) rfl)) (inr7 _ (List.mem_of_getElem? (i := 23) rfl)) (inr8 _ (List.mem_of_getElem? (i := 0) rfl)) (inr1 _ (List.mem_of_getElem? (i := 15) rfl)) (inr8 _ (List.mem_of_getElem? (i := 1) rfl)) (by decide +kernel) hts rfl rfl ⟨Nat.le_of_ble_eq_true rfl, Nat.le_of_ble_eq_true rfl⟩) 0 9 rfl rfl rfl (hP.sub [1] rfl) hK rfl hl.1 rfl (Nat.le_of_ble_eq_true rfl) ⟨Nat.le_of_ble_eq_true rfl, Nat.le_of_ble_eq_true rfl⟩ dX11_feed_4 (fun r_1 h_2 => ?_)
  obtain rfl := h_2
  refine lv_bipush (v := 20) hx hb dX11_feed_7 (by decide) ?_
  refine z_iadd (v := 20) hx hb dX11_feed_9 (by decide) ?_
  refine lv_sipush (v := 500) hx hb dX11_feed_10 (by decide) ?_
  refine lv_icmp_le (tgt := 18) hx hb dX11_feed_13 (by decide) (fun _ => ?_) (fun c0 => absurd c0 (by decide))
  refine lv_aload_n hx hb dX11_feed_18 rfl (lv_at hl 0 rfl) ?_
  refine va_get (D := D) (ci := 11) (v := .ref r_tape) (C := RX11) (T := TX11) (N := 14) hx hb hts inlX11 hown hK hP 0 rfl rfl 0 (by decide) (hts _ (inr1 _ (List.mem_of_getElem? (i := 16) rfl))) (fun _ h9 => h9) rfl dX11_feed_19 ?_
  refine lv_iload_n hx hb dX11_feed_22 rfl (lv_at hl 1 rfl) ?_
  refine wrVv (As := [.int a1]) (rest := []) (wr := [(x0, .inr (11, [.ref r_tape, .ref r_reader, .ref r_now, .ref r_trial, .ref r_images, .ref r_kept, .ref r_slots, .ref r_night, .ref r_other, .ref r_circle, .ref r_words, .ref r_law, .ref r_place, .ref r_drawn]))]) ⟨hx, hb, hml, hown, hts⟩ (k_add0 l D cB cI cJ cZ cS cT s.heap.size r_tape t_by f a1 ) hP hD hS hA hK hN [1, 2] [0] rfl rfl (by decide) (by decide) (by decide) (cvB (n := 1) (inr8 _ (List.mem_of_getElem? (i := 3) rfl)) (inr8 _ (List.mem_of_getElem? (i := 4) rfl)) (inr8 _ (List.mem_of_getElem? (i := 5) rfl)) (inr1 _ (List.mem_of_getElem? (i := 15) rfl)) (inr8 _ (List.mem_of_getElem? (i := 6) rfl)) (by decide +kernel) hts rfl rfl ⟨Nat.le_of_ble_eq_true rfl, Nat.le_of_ble_eq_true rfl⟩) 0 9 rfl rfl rfl rfl hl.1 rfl (Nat.le_of_ble_eq_true rfl) ⟨Nat.le_of_ble_eq_true rfl, Nat.le_of_ble_eq_true rfl⟩ dX11_feed_23 (fun x9 H locs h_4 hP hD hS => ?_)
  obtain ⟨g_5, rfl⟩ : ∃ z, z = x9 := ⟨_, rfl⟩
  have hP : va_P D vwCl [(x0, .inr (11, [.ref r_tape, .ref r_reader, .ref r_now, .ref r_trial, .ref r_images, .ref r_kept, .ref r_slots, .ref r_night, .ref r_other, .ref r_circle, .ref r_words, .ref r_law, .ref r_place, .ref r_drawn])), (r_tape, .inr (9, [.ref t_by, .int 4])), (t_by, .inl (cB, 500, .inl g_5))] H := hP
  have hD : va_D A [(x0, .inr (11, [.ref r_tape, .ref r_reader, .ref r_now, .ref r_trial, .ref r_images, .ref r_kept, .ref r_slots, .ref r_night, .ref r_other, .ref r_circle, .ref r_words, .ref r_law, .ref r_place, .ref r_drawn])), (r_tape, .inr (9, [.ref t_by, .int 4])), (t_by, .inl (cB, 500, .inl g_5))] := hD
  refine lv_aload_n hx hb dX11_feed_26 rfl (lv_at hl 0 rfl) ?_
  refine va_get (D := D) (ci := 11) (v := .ref r_tape) (C := RX11) (T := TX11) (N := 14) hx hb hts inlX11 hown hK hP 0 rfl rfl 0 (by decide) (hts _ (inr1 _ (List.mem_of_getElem? (i := 16) rfl))) (fun _ h9 => h9) rfl dX11_feed_27 ?_
  refine lv_iload_n hx hb dX11_feed_30 rfl (lv_at hl 2 rfl) ?_
  refine wrVv (As := [.int a2]) (rest := []) (wr := [(x0, .inr (11, [.ref r_tape, .ref r_reader, .ref r_now, .ref r_trial, .ref r_images, .ref r_kept, .ref r_slots, .ref r_night, .ref r_other, .ref r_circle, .ref r_words, .ref r_law, .ref r_place, .ref r_drawn]))]) ⟨hx, hb, hml, hown, hts⟩ (k_add4 l D cB cI cJ cZ cS cT H.size r_tape t_by g_5 a2 ) hP hD hS hA hK hN [1, 2] [0] rfl rfl (by decide) (by decide) (by decide) (cvB (n := 1) (inr8 _ (List.mem_of_getElem? (i := 3) rfl)) (inr8 _ (List.mem_of_getElem? (i := 4) rfl)) (inr8 _ (List.mem_of_getElem? (i := 5) rfl)) (inr1 _ (List.mem_of_getElem? (i := 15) rfl)) (inr8 _ (List.mem_of_getElem? (i := 6) rfl)) (by decide +kernel) hts rfl rfl ⟨Nat.le_of_ble_eq_true rfl, Nat.le_of_ble_eq_true rfl⟩) 0 9 rfl rfl rfl rfl hl.1 rfl (Nat.le_of_ble_eq_true rfl) ⟨Nat.le_of_ble_eq_true rfl, Nat.le_of_ble_eq_true rfl⟩ dX11_feed_31 (fun x9 H locs h_7 hP hD hS => ?_)
  obtain ⟨g_8, rfl⟩ : ∃ z, z = x9 := ⟨_, rfl⟩
  have hP : va_P D vwCl [(x0, .inr (11, [.ref r_tape, .ref r_reader, .ref r_now, .ref r_trial, .ref r_images, .ref r_kept, .ref r_slots, .ref r_night, .ref r_other, .ref r_circle, .ref r_words, .ref r_law, .ref r_place, .ref r_drawn])), (r_tape, .inr (9, [.ref t_by, .int 8])), (t_by, .inl (cB, 500, .inl g_8))] H := hP
  have hD : va_D A [(x0, .inr (11, [.ref r_tape, .ref r_reader, .ref r_now, .ref r_trial, .ref r_images, .ref r_kept, .ref r_slots, .ref r_night, .ref r_other, .ref r_circle, .ref r_words, .ref r_law, .ref r_place, .ref r_drawn])), (r_tape, .inr (9, [.ref t_by, .int 8])), (t_by, .inl (cB, 500, .inl g_8))] := hD
  refine lv_aload_n hx hb dX11_feed_34 rfl (lv_at hl 0 rfl) ?_
  refine va_get (D := D) (ci := 11) (v := .ref r_tape) (C := RX11) (T := TX11) (N := 14) hx hb hts inlX11 hown hK hP 0 rfl rfl 0 (by decide) (hts _ (inr1 _ (List.mem_of_getElem? (i := 16) rfl))) (fun _ h9 => h9) rfl dX11_feed_35 ?_
  refine lv_iload_n hx hb dX11_feed_38 rfl (lv_at hl 3 rfl) ?_
  refine wrVv (As := [.int a3]) (rest := []) (wr := [(x0, .inr (11, [.ref r_tape, .ref r_reader, .ref r_now, .ref r_trial, .ref r_images, .ref r_kept, .ref r_slots, .ref r_night, .ref r_other, .ref r_circle, .ref r_words, .ref r_law, .ref r_place, .ref r_drawn]))]) ⟨hx, hb, hml, hown, hts⟩ (k_add8 l D cB cI cJ cZ cS cT H.size r_tape t_by g_8 a3 ) hP hD hS hA hK hN [1, 2] [0] rfl rfl (by decide) (by decide) (by decide) (cvB (n := 1) (inr8 _ (List.mem_of_getElem? (i := 3) rfl)) (inr8 _ (List.mem_of_getElem? (i := 4) rfl)) (inr8 _ (List.mem_of_getElem? (i := 5) rfl)) (inr1 _ (List.mem_of_getElem? (i := 15) rfl)) (inr8 _ (List.mem_of_getElem? (i := 6) rfl)) (by decide +kernel) hts rfl rfl ⟨Nat.le_of_ble_eq_true rfl, Nat.le_of_ble_eq_true rfl⟩) 0 9 rfl rfl rfl rfl hl.1 rfl (Nat.le_of_ble_eq_true rfl) ⟨Nat.le_of_ble_eq_true rfl, Nat.le_of_ble_eq_true rfl⟩ dX11_feed_39 (fun x9 H locs h_10 hP hD hS => ?_)
  obtain ⟨g_11, rfl⟩ : ∃ z, z = x9 := ⟨_, rfl⟩
  have hP : va_P D vwCl [(x0, .inr (11, [.ref r_tape, .ref r_reader, .ref r_now, .ref r_trial, .ref r_images, .ref r_kept, .ref r_slots, .ref r_night, .ref r_other, .ref r_circle, .ref r_words, .ref r_law, .ref r_place, .ref r_drawn])), (r_tape, .inr (9, [.ref t_by, .int 12])), (t_by, .inl (cB, 500, .inl g_11))] H := hP
  have hD : va_D A [(x0, .inr (11, [.ref r_tape, .ref r_reader, .ref r_now, .ref r_trial, .ref r_images, .ref r_kept, .ref r_slots, .ref r_night, .ref r_other, .ref r_circle, .ref r_words, .ref r_law, .ref r_place, .ref r_drawn])), (r_tape, .inr (9, [.ref t_by, .int 12])), (t_by, .inl (cB, 500, .inl g_11))] := hD
  refine lv_aload_n hx hb dX11_feed_42 rfl (lv_at hl 0 rfl) ?_
  refine va_get (D := D) (ci := 11) (v := .ref r_tape) (C := RX11) (T := TX11) (N := 14) hx hb hts inlX11 hown hK hP 0 rfl rfl 0 (by decide) (hts _ (inr1 _ (List.mem_of_getElem? (i := 16) rfl))) (fun _ h9 => h9) rfl dX11_feed_43 ?_
  refine lv_iload hx hb dX11_feed_46 (lv_at hl 4 rfl) ?_
  refine wrVv (As := [.int a4]) (rest := []) (wr := [(x0, .inr (11, [.ref r_tape, .ref r_reader, .ref r_now, .ref r_trial, .ref r_images, .ref r_kept, .ref r_slots, .ref r_night, .ref r_other, .ref r_circle, .ref r_words, .ref r_law, .ref r_place, .ref r_drawn]))]) ⟨hx, hb, hml, hown, hts⟩ (k_add12 l D cB cI cJ cZ cS cT H.size r_tape t_by g_11 a4 ) hP hD hS hA hK hN [1, 2] [0] rfl rfl (by decide) (by decide) (by decide) (cvB (n := 1) (inr8 _ (List.mem_of_getElem? (i := 3) rfl)) (inr8 _ (List.mem_of_getElem? (i := 4) rfl)) (inr8 _ (List.mem_of_getElem? (i := 5) rfl)) (inr1 _ (List.mem_of_getElem? (i := 15) rfl)) (inr8 _ (List.mem_of_getElem? (i := 6) rfl)) (by decide +kernel) hts rfl rfl ⟨Nat.le_of_ble_eq_true rfl, Nat.le_of_ble_eq_true rfl⟩) 0 9 rfl rfl rfl rfl hl.1 rfl (Nat.le_of_ble_eq_true rfl) ⟨Nat.le_of_ble_eq_true rfl, Nat.le_of_ble_eq_true rfl⟩ dX11_feed_48 (fun x9 H locs h_13 hP hD hS => ?_)
  obtain ⟨g_14, rfl⟩ : ∃ z, z = x9 := ⟨_, rfl⟩
  have hP : va_P D vwCl [(x0, .inr (11, [.ref r_tape, .ref r_reader, .ref r_now, .ref r_trial, .ref r_images, .ref r_kept, .ref r_slots, .ref r_night, .ref r_other, .ref r_circle, .ref r_words, .ref r_law, .ref r_place, .ref r_drawn])), (r_tape, .inr (9, [.ref t_by, .int 16])), (t_by, .inl (cB, 500, .inl g_14))] H := hP
  have hD : va_D A [(x0, .inr (11, [.ref r_tape, .ref r_reader, .ref r_now, .ref r_trial, .ref r_images, .ref r_kept, .ref r_slots, .ref r_night, .ref r_other, .ref r_circle, .ref r_words, .ref r_law, .ref r_place, .ref r_drawn])), (r_tape, .inr (9, [.ref t_by, .int 16])), (t_by, .inl (cB, 500, .inl g_14))] := hD
  refine lv_aload_n hx hb dX11_feed_51 rfl (lv_at hl 0 rfl) ?_
  refine va_get (D := D) (ci := 11) (v := .ref r_tape) (C := RX11) (T := TX11) (N := 14) hx hb hts inlX11 hown hK hP 0 rfl rfl 0 (by decide) (hts _ (inr1 _ (List.mem_of_getElem? (i := 16) rfl))) (fun _ h9 => h9) rfl dX11_feed_52 ?_
  refine lv_iload hx hb dX11_feed_55 (lv_at hl 5 rfl) ?_
  refine wrVv (As := [.int a5]) (rest := []) (wr := [(x0, .inr (11, [.ref r_tape, .ref r_reader, .ref r_now, .ref r_trial, .ref r_images, .ref r_kept, .ref r_slots, .ref r_night, .ref r_other, .ref r_circle, .ref r_words, .ref r_law, .ref r_place, .ref r_drawn]))]) ⟨hx, hb, hml, hown, hts⟩ (k_add16 l D cB cI cJ cZ cS cT H.size r_tape t_by g_14 a5 ) hP hD hS hA hK hN [1, 2] [0] rfl rfl (by decide) (by decide) (by decide) (cvB (n := 1) (inr8 _ (List.mem_of_getElem? (i := 3) rfl)) (inr8 _ (List.mem_of_getElem? (i := 4) rfl)) (inr8 _ (List.mem_of_getElem? (i := 5) rfl)) (inr1 _ (List.mem_of_getElem? (i := 15) rfl)) (inr8 _ (List.mem_of_getElem? (i := 6) rfl)) (by decide +kernel) hts rfl rfl ⟨Nat.le_of_ble_eq_true rfl, Nat.le_of_ble_eq_true rfl⟩) 0 9 rfl rfl rfl rfl hl.1 rfl (Nat.le_of_ble_eq_true rfl) ⟨Nat.le_of_ble_eq_true rfl, Nat.le_of_ble_eq_true rfl⟩ dX11_feed_57 (fun x9 H locs h_16 hP hD hS => ?_)
  obtain ⟨g_17, rfl⟩ : ∃ z, z = x9 := ⟨_, rfl⟩
  have hP : va_P D vwCl [(x0, .inr (11, [.ref r_tape, .ref r_reader, .ref r_now, .ref r_trial, .ref r_images, .ref r_kept, .ref r_slots, .ref r_night, .ref r_other, .ref r_circle, .ref r_words, .ref r_law, .ref r_place, .ref r_drawn])), (r_tape, .inr (9, [.ref t_by, .int 20])), (t_by, .inl (cB, 500, .inl g_17))] H := hP
  have hD : va_D A [(x0, .inr (11, [.ref r_tape, .ref r_reader, .ref r_now, .ref r_trial, .ref r_images, .ref r_kept, .ref r_slots, .ref r_night, .ref r_other, .ref r_circle, .ref r_words, .ref r_law, .ref r_place, .ref r_drawn])), (r_tape, .inr (9, [.ref t_by, .int 20])), (t_by, .inl (cB, 500, .inl g_17))] := hD
  refine lv_aload_n hx hb dX11_feed_60 rfl (lv_at hl 0 rfl) ?_
  refine va_get (D := D) (ci := 11) (v := .ref r_tape) (C := RX11) (T := TX11) (N := 14) hx hb hts inlX11 hown hK hP 0 rfl rfl 0 (by decide) (hts _ (inr1 _ (List.mem_of_getElem? (i := 16) rfl))) (fun _ h9 => h9) rfl dX11_feed_61 ?_
  refine roi (As := []) (rest := []) ⟨hx, hb, hml, hown, hts⟩ (k_Tp_size l D cB cI cJ cZ cS cT r_tape t_by 20 ) (cvB (n := 0) (inr7 _ (List.mem_of_getElem? (i := 22) rfl)) (inr7 _ (List.mem_of_getElem? (i := 23) rfl)) (inr8 _ (List.mem_of_getElem? (i := 0) rfl)) (inr1 _ (List.mem_of_getElem? (i := 15) rfl)) (inr8 _ (List.mem_of_getElem? (i := 1) rfl)) (by decide +kernel) hts rfl rfl ⟨Nat.le_of_ble_eq_true rfl, Nat.le_of_ble_eq_true rfl⟩) 0 9 rfl rfl rfl (hP.sub [1] rfl) hK rfl hl.1 rfl (Nat.le_of_ble_eq_true rfl) ⟨Nat.le_of_ble_eq_true rfl, Nat.le_of_ble_eq_true rfl⟩ dX11_feed_64 (fun r_18 h_19 => ?_)
  obtain rfl := h_19
  have hP9 := hP.sub (ws' := []) [] rfl
  have hD9 := hD.sub (ws' := []) [] (by decide) rfl
  exact W.iret (v := 20) hx hb hr (fun t ht hW => ⟨⟨20, (), rfl, rfl, by rw [ht]; exact hP9, va_K.moved hW.alike hK, hD9⟩, hS.F ht⟩) hS.2.2 dX11_feed_67

set_option maxHeartbeats 4000000 in
set_option maxRecDepth 100000 in
theorem k_cut0 (l : Launch) (D : va_G) (cB cI cJ cZ cS cT : ClassId) (sz : Nat) (h0 : Nat) (by_ : Nat)  : Met l yX9_cut (Cond.code yX9_cut cX9_cut 2 none :: wsL_law) ({ frames := 0, cells := 0, slots := 0, locals := 0 }) (wrP D (tyL cB cI cJ cZ cS cT) [(h0, .inr (9, [.ref by_, .int 0]))] sz [.ref h0, .int 0]) (va_Qv (fun x : Unit => True) (atW D (tyL cB cI cJ cZ cS cT) (va_A [(h0, .inr (9, [.ref by_, .int 0]))] sz) (fun x : Unit => [(h0, .inr (9, [.ref by_, .int 0]))])) (va_A [(h0, .inr (9, [.ref by_, .int 0]))] sz)) 0 0 (va_A [(h0, .inr (9, [.ref by_, .int 0]))] sz) := by
  refine Met.ofW (cc := cX9_cut) (maxL := 2) (ret := none) (by decide) rfl ?_
  intro p e s m args below meth c s₁ B hml hv
  obtain ⟨rfl, hsz, hP, hK, hD0, hN⟩ := hv
  have hx := B.exec
  have hb := B.bytes
  have hr := B.returns
  have hts : ∀ w ∈ wsL_law, w.before ([.ref h0, .int 0] : List Value).toArray s = true := fun w h => atoms_spec (ws := Cond.code yX9_cut cX9_cut 2 none :: wsL_law) B.pre w (List.mem_cons_of_mem _ h)
  have hown : s.vm.findClass RX9 = some m.cls := findClass_of_methodNamed B.named
  have hlocks := B.notSynchronized
  subst hsz
  have hD := hD0.self (sz := s.heap.size)
  generalize hAe : va_A [(h0, .inr (9, [.ref by_, .int 0]))] s.heap.size = A at hD ⊢
  have hA : ∀ q : Nat, s.heap.size ≤ q → A q := fun q h => by rw [← hAe]; exact Or.inr h
  have hS : va_S A s.heap s.heap [] := va_S.rf
  have hl := lv_entry ([.ref h0, .int 0]) (n := 2) (Nat.le_of_ble_eq_true rfl)
  rw [lg_entry_eq]
  generalize (lg_sl ([.ref h0, .int 0]) ++ List.replicate (2 - (lg_sl ([.ref h0, .int 0])).length) Slot.unset).toArray = ls at hl ⊢
  have hl : lv_has ls 2 [(0, .ref h0), (1, .int 0)] := hl
  have hP : va_P D vwCl [(h0, .inr (9, [.ref by_, .int 0]))] s.heap := hP
  refine lv_iload_n hx hb dX9_cut_0 rfl (lv_at hl 1 rfl) ?_
  refine lv_if_lt (tgt := 17) hx hb dX9_cut_1 (by decide) (fun c0 => absurd c0 (by decide)) (fun _ => ?_)
  refine lv_iload_n hx hb dX9_cut_4 rfl (lv_at hl 1 rfl) ?_
  refine lv_aload_n hx hb dX9_cut_5 rfl (lv_at hl 0 rfl) ?_
  refine va_get (D := D) (ci := 9) (v := .int 0) (C := RX9) (T := TX9) (N := 2) hx hb hts inlX9 hown hK hP 0 rfl rfl 1 (by decide) (hts _ (inr8 _ (List.mem_of_getElem? (i := 2) rfl))) (fun _ h9 => h9) rfl dX9_cut_6 ?_
  refine lv_icmp_gt (tgt := 17) hx hb dX9_cut_9 (by decide) (fun c0 => absurd c0 (by decide)) (fun _ => ?_)
  refine lv_aload_n hx hb dX9_cut_12 rfl (lv_at hl 0 rfl) ?_
  refine lv_iload_n hx hb dX9_cut_13 rfl (lv_at hl 1 rfl) ?_
  refine va_put (D := D) (ci := 9) (v := .int 0) (ty := .int) (C := RX9) (T := TX9) (N := 2) hx hb hts inlX9 tyX9 tyX9_ok nmX9 hown hK hP hD hS 0 rfl rfl 1 (by decide) (hts _ (inr8 _ (List.mem_of_getElem? (i := 2) rfl))) (fun _ h9 => h9) rfl (by decide +kernel) rfl rfl (Nat.le_of_ble_eq_true rfl) dX9_cut_14 (fun H locs hP hD hS => ?_)
  have hP : va_P D vwCl [(h0, .inr (9, [.ref by_, .int 0]))] H := hP
  have hD : va_D A [(h0, .inr (9, [.ref by_, .int 0]))] := hD
  have hP9 := hP.sub (ws' := [(h0, .inr (9, [.ref by_, .int 0]))]) [0] rfl
  have hD9 := hD.sub (ws' := [(h0, .inr (9, [.ref by_, .int 0]))]) [0] (by decide) rfl
  exact W.vret hx hb hr (fun t ht hW => ⟨⟨(), rfl, trivial, by rw [ht]; exact hP9, va_K.moved hW.alike hK, hD9⟩, hS.F ht⟩) hS.2.2 dX9_cut_17

set_option maxHeartbeats 4000000 in
set_option maxRecDepth 100000 in
theorem kx_end (l : Launch) (D : va_G) (cB cI cJ cZ cS cT : ClassId) (sz : Nat) (x0 : Nat) (r_tape : Nat) (r_reader : Nat) (r_now : Nat) (r_trial : Nat) (r_images : Nat) (r_kept : Nat) (r_slots : Nat) (r_night : Nat) (r_other : Nat) (r_circle : Nat) (r_words : Nat) (r_law : Nat) (r_place : Nat) (r_drawn : Nat) (t_by : Nat) (a1 : Int32)  : Met l yX11_end (Cond.code yX11_end cX11_end 2 (some .int) :: wsL_law) ({ frames := 1, cells := 0, slots := 0, locals := 25 }) (wrP D (tyL cB cI cJ cZ cS cT) [(x0, .inr (11, [.ref r_tape, .ref r_reader, .ref r_now, .ref r_trial, .ref r_images, .ref r_kept, .ref r_slots, .ref r_night, .ref r_other, .ref r_circle, .ref r_words, .ref r_law, .ref r_place, .ref r_drawn])), (r_tape, .inr (9, [.ref t_by, .int 0]))] sz [.ref x0, .int a1]) (va_Qi (fun (r : Int32) (x : Unit) => r = S_end a1) (atW D (tyL cB cI cJ cZ cS cT) (va_A [(x0, .inr (11, [.ref r_tape, .ref r_reader, .ref r_now, .ref r_trial, .ref r_images, .ref r_kept, .ref r_slots, .ref r_night, .ref r_other, .ref r_circle, .ref r_words, .ref r_law, .ref r_place, .ref r_drawn])), (r_tape, .inr (9, [.ref t_by, .int 0]))] sz) (fun x : Unit => [])) (va_A [(x0, .inr (11, [.ref r_tape, .ref r_reader, .ref r_now, .ref r_trial, .ref r_images, .ref r_kept, .ref r_slots, .ref r_night, .ref r_other, .ref r_circle, .ref r_words, .ref r_law, .ref r_place, .ref r_drawn])), (r_tape, .inr (9, [.ref t_by, .int 0]))] sz)) 0 0 (va_A [(x0, .inr (11, [.ref r_tape, .ref r_reader, .ref r_now, .ref r_trial, .ref r_images, .ref r_kept, .ref r_slots, .ref r_night, .ref r_other, .ref r_circle, .ref r_words, .ref r_law, .ref r_place, .ref r_drawn])), (r_tape, .inr (9, [.ref t_by, .int 0]))] sz) := by
  refine Met.ofW (cc := cX11_end) (maxL := 2) (ret := (some .int)) (by decide) rfl ?_
  intro p e s m args below meth c s₁ B hml hv
  obtain ⟨rfl, hsz, hP, hK, hD0, hN⟩ := hv
  have hx := B.exec
  have hb := B.bytes
  have hr := B.returns
  have hts : ∀ w ∈ wsL_law, w.before ([.ref x0, .int a1] : List Value).toArray s = true := fun w h => atoms_spec (ws := Cond.code yX11_end cX11_end 2 (some .int) :: wsL_law) B.pre w (List.mem_cons_of_mem _ h)
  have hown : s.vm.findClass RX11 = some m.cls := findClass_of_methodNamed B.named
  have hlocks := B.notSynchronized
  subst hsz
  have hD := hD0.self (sz := s.heap.size)
  generalize hAe : va_A [(x0, .inr (11, [.ref r_tape, .ref r_reader, .ref r_now, .ref r_trial, .ref r_images, .ref r_kept, .ref r_slots, .ref r_night, .ref r_other, .ref r_circle, .ref r_words, .ref r_law, .ref r_place, .ref r_drawn])), (r_tape, .inr (9, [.ref t_by, .int 0]))] s.heap.size = A at hD ⊢
  have hA : ∀ q : Nat, s.heap.size ≤ q → A q := fun q h => by rw [← hAe]; exact Or.inr h
  have hS : va_S A s.heap s.heap [] := va_S.rf
  have hl := lv_entry ([.ref x0, .int a1]) (n := 2) (Nat.le_of_ble_eq_true rfl)
  rw [lg_entry_eq]
  generalize (lg_sl ([.ref x0, .int a1]) ++ List.replicate (2 - (lg_sl ([.ref x0, .int a1])).length) Slot.unset).toArray = ls at hl ⊢
  have hl : lv_has ls 2 [(0, .ref x0), (1, .int a1)] := hl
  have hP : va_P D vwCl [(x0, .inr (11, [.ref r_tape, .ref r_reader, .ref r_now, .ref r_trial, .ref r_images, .ref r_kept, .ref r_slots, .ref r_night, .ref r_other, .ref r_circle, .ref r_words, .ref r_law, .ref r_place, .ref r_drawn])), (r_tape, .inr (9, [.ref t_by, .int 0]))] s.heap := hP
  refine lv_iload_n hx hb dX11_end_0 rfl (lv_at hl 1 rfl) ?_
  obtain ⟨t_1, et_1⟩ : ∃ v9 : Int64, (a1 : Int32).toInt64 = v9 := ⟨_, rfl⟩
  refine lv_i2l (v := t_1) hx hb dX11_end_1 et_1 ?_
  have ft_1 : t_1.toInt = a1.toInt := by rw [← et_1]; exact Int32.toInt_toInt64 _
  refine lv_lconst (v := 0) hx hb dX11_end_2 (by decide) ?_
  refine lv_aload_n hx hb dX11_end_3 rfl (lv_at hl 0 rfl) ?_
  refine va_get (D := D) (ci := 11) (v := .ref r_tape) (C := RX11) (T := TX11) (N := 14) hx hb hts inlX11 hown hK hP 0 rfl rfl 0 (by decide) (hts _ (inr1 _ (List.mem_of_getElem? (i := 16) rfl))) (fun _ h9 => h9) rfl dX11_end_4 ?_
  refine roi (As := []) (rest := [.long 0, .long t_1]) ⟨hx, hb, hml, hown, hts⟩ (k_Tp_size l D cB cI cJ cZ cS cT r_tape t_by 0 ) (cvB (n := 0) (inr7 _ (List.mem_of_getElem? (i := 22) rfl)) (inr7 _ (List.mem_of_getElem? (i := 23) rfl)) (inr8 _ (List.mem_of_getElem? (i := 0) rfl)) (inr1 _ (List.mem_of_getElem? (i := 15) rfl)) (inr8 _ (List.mem_of_getElem? (i := 1) rfl)) (by decide +kernel) hts rfl rfl ⟨Nat.le_of_ble_eq_true rfl, Nat.le_of_ble_eq_true rfl⟩) 0 9 rfl rfl rfl (hP.sub [1] rfl) hK rfl hl.1 rfl (Nat.le_of_ble_eq_true rfl) ⟨Nat.le_of_ble_eq_true rfl, Nat.le_of_ble_eq_true rfl⟩ dX11_end_7 (fun r_2 h_3 => ?_)
  obtain rfl := h_3
  refine lv_i2l (v := 0) hx hb dX11_end_10 (by decide) ?_
  refine rosi (As := [.long t_1, .long 0, .long 0]) (rest := []) ⟨hx, hb, hml, hown, hts⟩ (k_outside l D cB cI cJ cZ cS cT t_1 0 0 ) (csB (n := 3) (inr8 _ (List.mem_of_getElem? (i := 16) rfl)) (inr8 _ (List.mem_of_getElem? (i := 17) rfl)) (inr1 _ (List.mem_of_getElem? (i := 2) rfl)) (inr8 _ (List.mem_of_getElem? (i := 18) rfl)) (by decide +kernel) hts rfl rfl ⟨Nat.le_of_ble_eq_true rfl, Nat.le_of_ble_eq_true rfl⟩) (hP.sub [] rfl) hK rfl hl.1 rfl (Nat.le_of_ble_eq_true rfl) ⟨Nat.le_of_ble_eq_true rfl, Nat.le_of_ble_eq_true rfl⟩ dX11_end_11 (fun r_4 h_5 => ?_)
  rcases h_5 with ⟨rfl, k_6⟩ | ⟨rfl, k_6⟩
  · have k_6 : t_1.toInt < 0 ∨ 0 < t_1.toInt := k_6
    refine lv_if_eq (tgt := 19) hx hb dX11_end_14 (by decide) (fun c0 => absurd c0 (by decide)) (fun _ => ?_)
    refine lv_iconst (v := (-1)) hx hb dX11_end_17 (by decide) ?_
    have hP9 := hP.sub (ws' := []) [] rfl
    have hD9 := hD.sub (ws' := []) [] (by decide) rfl
    exact W.iret (v := (-1)) hx hb hr (fun t ht hW => ⟨⟨(-1), (), rfl, (by unfold S_end; repeat' split <;> first | rfl | (exfalso; omega)), by rw [ht]; exact hP9, va_K.moved hW.alike hK, hD9⟩, hS.F ht⟩) hS.2.2 dX11_end_18
  · have k_6 : 0 ≤ t_1.toInt ∧ t_1.toInt ≤ 0 := k_6
    refine lv_if_eq (tgt := 19) hx hb dX11_end_14 (by decide) (fun _ => ?_) (fun c0 => absurd c0 (by decide))
    obtain rfl := in1 (x := a1) (by omega) (by omega)
    have hl : lv_has ls 2 [(0, .ref x0), (1, .int 0)] := hl
    refine lv_aload_n hx hb dX11_end_19 rfl (lv_at hl 0 rfl) ?_
    refine va_get (D := D) (ci := 11) (v := .ref r_tape) (C := RX11) (T := TX11) (N := 14) hx hb hts inlX11 hown hK hP 0 rfl rfl 0 (by decide) (hts _ (inr1 _ (List.mem_of_getElem? (i := 16) rfl))) (fun _ h9 => h9) rfl dX11_end_20 ?_
    refine lv_iload_n hx hb dX11_end_23 rfl (lv_at hl 1 rfl) ?_
    refine wrVv (As := [.int 0]) (rest := []) (wr := [(x0, .inr (11, [.ref r_tape, .ref r_reader, .ref r_now, .ref r_trial, .ref r_images, .ref r_kept, .ref r_slots, .ref r_night, .ref r_other, .ref r_circle, .ref r_words, .ref r_law, .ref r_place, .ref r_drawn]))]) ⟨hx, hb, hml, hown, hts⟩ (k_cut0 l D cB cI cJ cZ cS cT s.heap.size r_tape t_by ) hP hD hS hA hK hN [1] [0] rfl rfl (by decide) (by decide) (by decide) (cvB (n := 1) (inr8 _ (List.mem_of_getElem? (i := 19) rfl)) (inr8 _ (List.mem_of_getElem? (i := 20) rfl)) (inr8 _ (List.mem_of_getElem? (i := 21) rfl)) (inr1 _ (List.mem_of_getElem? (i := 15) rfl)) (inr8 _ (List.mem_of_getElem? (i := 22) rfl)) (by decide +kernel) hts rfl rfl ⟨Nat.le_of_ble_eq_true rfl, Nat.le_of_ble_eq_true rfl⟩) 0 9 rfl rfl rfl rfl hl.1 rfl (Nat.le_of_ble_eq_true rfl) ⟨Nat.le_of_ble_eq_true rfl, Nat.le_of_ble_eq_true rfl⟩ dX11_end_24 (fun x9 H locs h_8 hP hD hS => ?_)
    have hP : va_P D vwCl [(x0, .inr (11, [.ref r_tape, .ref r_reader, .ref r_now, .ref r_trial, .ref r_images, .ref r_kept, .ref r_slots, .ref r_night, .ref r_other, .ref r_circle, .ref r_words, .ref r_law, .ref r_place, .ref r_drawn])), (r_tape, .inr (9, [.ref t_by, .int 0]))] H := hP
    have hD : va_D A [(x0, .inr (11, [.ref r_tape, .ref r_reader, .ref r_now, .ref r_trial, .ref r_images, .ref r_kept, .ref r_slots, .ref r_night, .ref r_other, .ref r_circle, .ref r_words, .ref r_law, .ref r_place, .ref r_drawn])), (r_tape, .inr (9, [.ref t_by, .int 0]))] := hD
    refine lv_iload_n hx hb dX11_end_27 rfl (lv_at hl 1 rfl) ?_
    have hP9 := hP.sub (ws' := []) [] rfl
    have hD9 := hD.sub (ws' := []) [] (by decide) rfl
    exact W.iret (v := 0) hx hb hr (fun t ht hW => ⟨⟨0, (), rfl, (by decide), by rw [ht]; exact hP9, va_K.moved hW.alike hK, hD9⟩, hS.F ht⟩) hS.2.2 dX11_end_28

set_option maxHeartbeats 4000000 in
set_option maxRecDepth 100000 in
theorem k_make (l : Launch) (D : va_G) (cB cI cJ cZ cS cT : ClassId) (sz : Nat) (h0 : Nat) (nb : Nat) (wi : Int32) (si : Int32) (ma : Int32) (f : Nat → Int64) (a1 : Int32) (a2 : Int32)  : Met l yX7_make (Cond.code yX7_make cX7_make 3 none :: wsL_law) ({ frames := 1, cells := 0, slots := 0, locals := 24 }) (wrP D (tyL cB cI cJ cZ cS cT) [(h0, .inr (7, [.ref nb, .int wi, .int si, .int ma])), (nb, .inl (cJ, 60, .inr (.inl f)))] sz [.ref h0, .int a1, .int a2]) (va_Qv (fun x : Int32 × (Nat → Int64) => True) (atW D (tyL cB cI cJ cZ cS cT) (va_A [(h0, .inr (7, [.ref nb, .int wi, .int si, .int ma])), (nb, .inl (cJ, 60, .inr (.inl f)))] sz) (fun x : Int32 × (Nat → Int64) => [(h0, .inr (7, [.ref nb, .int a1, .int x.1, .int 1])), (nb, .inl (cJ, 60, .inr (.inl x.2)))])) (va_A [(h0, .inr (7, [.ref nb, .int wi, .int si, .int ma])), (nb, .inl (cJ, 60, .inr (.inl f)))] sz)) 0 0 (va_A [(h0, .inr (7, [.ref nb, .int wi, .int si, .int ma])), (nb, .inl (cJ, 60, .inr (.inl f)))] sz) := by
  refine Met.ofW (cc := cX7_make) (maxL := 3) (ret := none) (by decide) rfl ?_
  intro p e s m args below meth c s₁ B hml hv
  obtain ⟨rfl, hsz, hP, hK, hD0, hN⟩ := hv
  have hx := B.exec
  have hb := B.bytes
  have hr := B.returns
  have hts : ∀ w ∈ wsL_law, w.before ([.ref h0, .int a1, .int a2] : List Value).toArray s = true := fun w h => atoms_spec (ws := Cond.code yX7_make cX7_make 3 none :: wsL_law) B.pre w (List.mem_cons_of_mem _ h)
  have hown : s.vm.findClass RX7 = some m.cls := findClass_of_methodNamed B.named
  have hlocks := B.notSynchronized
  subst hsz
  have hD := hD0.self (sz := s.heap.size)
  generalize hAe : va_A [(h0, .inr (7, [.ref nb, .int wi, .int si, .int ma])), (nb, .inl (cJ, 60, .inr (.inl f)))] s.heap.size = A at hD ⊢
  have hA : ∀ q : Nat, s.heap.size ≤ q → A q := fun q h => by rw [← hAe]; exact Or.inr h
  have hS : va_S A s.heap s.heap [] := va_S.rf
  have hl := lv_entry ([.ref h0, .int a1, .int a2]) (n := 3) (Nat.le_of_ble_eq_true rfl)
  rw [lg_entry_eq]
  generalize (lg_sl ([.ref h0, .int a1, .int a2]) ++ List.replicate (3 - (lg_sl ([.ref h0, .int a1, .int a2])).length) Slot.unset).toArray = ls at hl ⊢
  have hl : lv_has ls 3 [(0, .ref h0), (1, .int a1), (2, .int a2)] := hl
  have hP : va_P D vwCl [(h0, .inr (7, [.ref nb, .int wi, .int si, .int ma])), (nb, .inl (cJ, 60, .inr (.inl f)))] s.heap := hP
  refine lv_aload_n hx hb dX7_make_0 rfl (lv_at hl 0 rfl) ?_
  refine lv_iload_n hx hb dX7_make_1 rfl (lv_at hl 1 rfl) ?_
  refine va_put (D := D) (ci := 7) (v := .int a1) (ty := .int) (C := RX7) (T := TX7) (N := 4) hx hb hts inlX7 tyX7 tyX7_ok nmX7 hown hK hP hD hS 0 rfl rfl 1 (by decide) (hts _ (inr73 _ (List.mem_of_getElem? (i := 9) rfl))) (fun _ h9 => h9) rfl (by decide +kernel) rfl rfl (Nat.le_of_ble_eq_true rfl) dX7_make_2 (fun H locs hP hD hS => ?_)
  have hP : va_P D vwCl [(h0, .inr (7, [.ref nb, .int a1, .int si, .int ma])), (nb, .inl (cJ, 60, .inr (.inl f)))] H := hP
  have hD : va_D A [(h0, .inr (7, [.ref nb, .int a1, .int si, .int ma])), (nb, .inl (cJ, 60, .inr (.inl f)))] := hD
  refine lv_aload_n hx hb dX7_make_5 rfl (lv_at hl 0 rfl) ?_
  refine lv_iconst (v := 0) hx hb dX7_make_6 (by decide) ?_
  refine lv_iload_n hx hb dX7_make_7 rfl (lv_at hl 2 rfl) ?_
  refine lv_aload_n hx hb dX7_make_8 rfl (lv_at hl 0 rfl) ?_
  refine va_get (D := D) (ci := 7) (v := .ref nb) (C := RX7) (T := TX7) (N := 4) hx hb hts inlX7 hown hK hP 0 rfl rfl 0 (by decide) (hts _ (inr4 _ (List.mem_of_getElem? (i := 22) rfl))) (fun _ h9 => h9) rfl dX7_make_9 ?_
  refine va_alen (v := 60) hx hb hK hP 1 2 rfl rfl rfl dX7_make_12 ?_
  refine va_mmin hx hb (by rw [hml]; exact hl.1.symm) hown (hts _ (inr73 _ (List.mem_of_getElem? (i := 10) rfl))) (hts _ (inr18 _ (List.mem_of_getElem? (i := 11) rfl))) (hts _ (inr18 _ (List.mem_of_getElem? (i := 12) rfl))) (hts _ (inr18 _ (List.mem_of_getElem? (i := 13) rfl))) (Nat.le_of_ble_eq_true rfl) (Nat.le_of_ble_eq_true rfl) (Nat.le_of_ble_eq_true rfl) (Nat.le_of_ble_eq_true rfl) dX7_make_13 ?_
  refine lv_topi (fun t_1 et_1 => ?_)
  refine va_mmax hx hb (by rw [hml]; exact hl.1.symm) hown (hts _ (inr73 _ (List.mem_of_getElem? (i := 11) rfl))) (hts _ (inr32 _ (List.mem_of_getElem? (i := 5) rfl))) (hts _ (inr18 _ (List.mem_of_getElem? (i := 12) rfl))) (hts _ (inr32 _ (List.mem_of_getElem? (i := 6) rfl))) (Nat.le_of_ble_eq_true rfl) (Nat.le_of_ble_eq_true rfl) (Nat.le_of_ble_eq_true rfl) (Nat.le_of_ble_eq_true rfl) dX7_make_16 ?_
  refine lv_topi (fun t_2 et_2 => ?_)
  refine va_put (D := D) (ci := 7) (v := .int t_2) (ty := .int) (C := RX7) (T := TX7) (N := 4) hx hb hts inlX7 tyX7 tyX7_ok nmX7 hown hK hP hD hS 0 rfl rfl 2 (by decide) (hts _ (inr52 _ (List.mem_of_getElem? (i := 8) rfl))) (fun _ h9 => h9) rfl (by decide +kernel) rfl rfl (Nat.le_of_ble_eq_true rfl) dX7_make_19 (fun H locs hP hD hS => ?_)
  have hP : va_P D vwCl [(h0, .inr (7, [.ref nb, .int a1, .int t_2, .int ma])), (nb, .inl (cJ, 60, .inr (.inl f)))] H := hP
  have hD : va_D A [(h0, .inr (7, [.ref nb, .int a1, .int t_2, .int ma])), (nb, .inl (cJ, 60, .inr (.inl f)))] := hD
  refine lv_aload_n hx hb dX7_make_22 rfl (lv_at hl 0 rfl) ?_
  refine lv_iconst (v := 1) hx hb dX7_make_23 (by decide) ?_
  refine va_put (D := D) (ci := 7) (v := .int 1) (ty := .boolean) (C := RX7) (T := TX7) (N := 4) hx hb hts inlX7 tyX7 tyX7_ok nmX7 hown hK hP hD hS 0 rfl rfl 3 (by decide) (hts _ (inr52 _ (List.mem_of_getElem? (i := 3) rfl))) (fun _ h9 => h9) rfl (by decide +kernel) rfl rfl (Nat.le_of_ble_eq_true rfl) dX7_make_24 (fun H locs hP hD hS => ?_)
  have hP : va_P D vwCl [(h0, .inr (7, [.ref nb, .int a1, .int t_2, .int 1])), (nb, .inl (cJ, 60, .inr (.inl f)))] H := hP
  have hD : va_D A [(h0, .inr (7, [.ref nb, .int a1, .int t_2, .int 1])), (nb, .inl (cJ, 60, .inr (.inl f)))] := hD
  refine lv_aload_n hx hb dX7_make_27 rfl (lv_at hl 0 rfl) ?_
  refine va_get (D := D) (ci := 7) (v := .ref nb) (C := RX7) (T := TX7) (N := 4) hx hb hts inlX7 hown hK hP 0 rfl rfl 0 (by decide) (hts _ (inr4 _ (List.mem_of_getElem? (i := 22) rfl))) (fun _ h9 => h9) rfl dX7_make_28 ?_
  refine lv_lconst (v := 0) hx hb dX7_make_31 (by decide) ?_
  refine wrSv (As := [.ref nb, .long 0]) (rest := []) (wr := [(h0, .inr (7, [.ref nb, .int a1, .int t_2, .int 1]))]) ⟨hx, hb, hml, hown, hts⟩ (k_fillJ l D cB cI cJ cZ cS cT H.size nb 60 f 0 (by decide)) hP hD hS hA hK hN [1] [0] rfl rfl (by decide) (by decide) (by decide) (csX (n := 2) (inr73 _ (List.mem_of_getElem? (i := 12) rfl)) (inr73 _ (List.mem_of_getElem? (i := 13) rfl)) (inr4 _ (List.mem_of_getElem? (i := 16) rfl)) (inr73 _ (List.mem_of_getElem? (i := 14) rfl)) (by decide +kernel) hts rfl rfl ⟨Nat.le_of_ble_eq_true rfl, Nat.le_of_ble_eq_true rfl⟩) rfl hl.1 rfl (Nat.le_of_ble_eq_true rfl) ⟨Nat.le_of_ble_eq_true rfl, Nat.le_of_ble_eq_true rfl⟩ dX7_make_32 (fun x9 H locs h_4 hP hD hS => ?_)
  obtain ⟨g_5, rfl⟩ : ∃ z, z = x9 := ⟨_, rfl⟩
  have hP : va_P D vwCl [(h0, .inr (7, [.ref nb, .int a1, .int t_2, .int 1])), (nb, .inl (cJ, 60, .inr (.inl g_5)))] H := hP
  have hD : va_D A [(h0, .inr (7, [.ref nb, .int a1, .int t_2, .int 1])), (nb, .inl (cJ, 60, .inr (.inl g_5)))] := hD
  have hP9 := hP.sub (ws' := [(h0, .inr (7, [.ref nb, .int a1, .int t_2, .int 1])), (nb, .inl (cJ, 60, .inr (.inl g_5)))]) [0, 1] rfl
  have hD9 := hD.sub (ws' := [(h0, .inr (7, [.ref nb, .int a1, .int t_2, .int 1])), (nb, .inl (cJ, 60, .inr (.inl g_5)))]) [0, 1] (by decide) rfl
  exact W.vret hx hb hr (fun t ht hW => ⟨⟨(t_2, g_5), rfl, trivial, by rw [ht]; exact hP9, va_K.moved hW.alike hK, hD9⟩, hS.F ht⟩) hS.2.2 dX7_make_35

set_option maxHeartbeats 4000000 in
set_option maxRecDepth 100000 in
theorem kx_row (l : Launch) (D : va_G) (cB cI cJ cZ cS cT : ClassId) (sz : Nat) (x0 : Nat) (r_tape : Nat) (r_reader : Nat) (r_now : Nat) (r_trial : Nat) (r_images : Nat) (r_kept : Nat) (r_slots : Nat) (r_night : Nat) (r_other : Nat) (r_circle : Nat) (r_words : Nat) (r_law : Nat) (r_place : Nat) (r_drawn : Nat) (sl0 : Nat) (sl1 : Nat) (sl2 : Nat) (sl3 : Nat) (nb0 : Nat) (nb1 : Nat) (nb2 : Nat) (nb3 : Nat) (f0 : Nat → Int64) (f1 : Nat → Int64) (f2 : Nat → Int64) (f3 : Nat → Int64) (a1 : Int32) (a2 : Int32) (a3 : Int32)  : Met l yX11_row (Cond.code yX11_row cX11_row 4 (some .int) :: wsL_law) ({ frames := 2, cells := 0, slots := 0, locals := 46 }) (wrP D (tyL cB cI cJ cZ cS cT) [(x0, .inr (11, [.ref r_tape, .ref r_reader, .ref r_now, .ref r_trial, .ref r_images, .ref r_kept, .ref r_slots, .ref r_night, .ref r_other, .ref r_circle, .ref r_words, .ref r_law, .ref r_place, .ref r_drawn])), (r_slots, .inl (cS, 4, .inr (.inr (.inr (.inr (va_up (va_up (va_up (va_up (fun _ => none) 0 (some sl0)) 1 (some sl1)) 2 (some sl2)) 3 (some sl3))))))), (sl0, .inr (7, [.ref nb0, .int 0, .int 0, .int 0])), (sl1, .inr (7, [.ref nb1, .int 0, .int 0, .int 0])), (sl2, .inr (7, [.ref nb2, .int 0, .int 0, .int 0])), (sl3, .inr (7, [.ref nb3, .int 0, .int 0, .int 0])), (nb0, .inl (cJ, 60, .inr (.inl f0))), (nb1, .inl (cJ, 60, .inr (.inl f1))), (nb2, .inl (cJ, 60, .inr (.inl f2))), (nb3, .inl (cJ, 60, .inr (.inl f3)))] sz [.ref x0, .int a1, .int a2, .int a3]) (va_Qi (fun (r : Int32) (x : Unit) => r = S_row a1 a2 a3) (atW D (tyL cB cI cJ cZ cS cT) (va_A [(x0, .inr (11, [.ref r_tape, .ref r_reader, .ref r_now, .ref r_trial, .ref r_images, .ref r_kept, .ref r_slots, .ref r_night, .ref r_other, .ref r_circle, .ref r_words, .ref r_law, .ref r_place, .ref r_drawn])), (r_slots, .inl (cS, 4, .inr (.inr (.inr (.inr (va_up (va_up (va_up (va_up (fun _ => none) 0 (some sl0)) 1 (some sl1)) 2 (some sl2)) 3 (some sl3))))))), (sl0, .inr (7, [.ref nb0, .int 0, .int 0, .int 0])), (sl1, .inr (7, [.ref nb1, .int 0, .int 0, .int 0])), (sl2, .inr (7, [.ref nb2, .int 0, .int 0, .int 0])), (sl3, .inr (7, [.ref nb3, .int 0, .int 0, .int 0])), (nb0, .inl (cJ, 60, .inr (.inl f0))), (nb1, .inl (cJ, 60, .inr (.inl f1))), (nb2, .inl (cJ, 60, .inr (.inl f2))), (nb3, .inl (cJ, 60, .inr (.inl f3)))] sz) (fun x : Unit => [])) (va_A [(x0, .inr (11, [.ref r_tape, .ref r_reader, .ref r_now, .ref r_trial, .ref r_images, .ref r_kept, .ref r_slots, .ref r_night, .ref r_other, .ref r_circle, .ref r_words, .ref r_law, .ref r_place, .ref r_drawn])), (r_slots, .inl (cS, 4, .inr (.inr (.inr (.inr (va_up (va_up (va_up (va_up (fun _ => none) 0 (some sl0)) 1 (some sl1)) 2 (some sl2)) 3 (some sl3))))))), (sl0, .inr (7, [.ref nb0, .int 0, .int 0, .int 0])), (sl1, .inr (7, [.ref nb1, .int 0, .int 0, .int 0])), (sl2, .inr (7, [.ref nb2, .int 0, .int 0, .int 0])), (sl3, .inr (7, [.ref nb3, .int 0, .int 0, .int 0])), (nb0, .inl (cJ, 60, .inr (.inl f0))), (nb1, .inl (cJ, 60, .inr (.inl f1))), (nb2, .inl (cJ, 60, .inr (.inl f2))), (nb3, .inl (cJ, 60, .inr (.inl f3)))] sz)) 0 0 (va_A [(x0, .inr (11, [.ref r_tape, .ref r_reader, .ref r_now, .ref r_trial, .ref r_images, .ref r_kept, .ref r_slots, .ref r_night, .ref r_other, .ref r_circle, .ref r_words, .ref r_law, .ref r_place, .ref r_drawn])), (r_slots, .inl (cS, 4, .inr (.inr (.inr (.inr (va_up (va_up (va_up (va_up (fun _ => none) 0 (some sl0)) 1 (some sl1)) 2 (some sl2)) 3 (some sl3))))))), (sl0, .inr (7, [.ref nb0, .int 0, .int 0, .int 0])), (sl1, .inr (7, [.ref nb1, .int 0, .int 0, .int 0])), (sl2, .inr (7, [.ref nb2, .int 0, .int 0, .int 0])), (sl3, .inr (7, [.ref nb3, .int 0, .int 0, .int 0])), (nb0, .inl (cJ, 60, .inr (.inl f0))), (nb1, .inl (cJ, 60, .inr (.inl f1))), (nb2, .inl (cJ, 60, .inr (.inl f2))), (nb3, .inl (cJ, 60, .inr (.inl f3)))] sz) := by
  refine Met.ofW (cc := cX11_row) (maxL := 4) (ret := (some .int)) (by decide) rfl ?_
  intro p e s m args below meth c s₁ B hml hv
  obtain ⟨rfl, hsz, hP, hK, hD0, hN⟩ := hv
  have hx := B.exec
  have hb := B.bytes
  have hr := B.returns
  have hts : ∀ w ∈ wsL_law, w.before ([.ref x0, .int a1, .int a2, .int a3] : List Value).toArray s = true := fun w h => atoms_spec (ws := Cond.code yX11_row cX11_row 4 (some .int) :: wsL_law) B.pre w (List.mem_cons_of_mem _ h)
  have hown : s.vm.findClass RX11 = some m.cls := findClass_of_methodNamed B.named
  have hlocks := B.notSynchronized
  subst hsz
  have hD := hD0.self (sz := s.heap.size)
  generalize hAe : va_A [(x0, .inr (11, [.ref r_tape, .ref r_reader, .ref r_now, .ref r_trial, .ref r_images, .ref r_kept, .ref r_slots, .ref r_night, .ref r_other, .ref r_circle, .ref r_words, .ref r_law, .ref r_place, .ref r_drawn])), (r_slots, .inl (cS, 4, .inr (.inr (.inr (.inr (va_up (va_up (va_up (va_up (fun _ => none) 0 (some sl0)) 1 (some sl1)) 2 (some sl2)) 3 (some sl3))))))), (sl0, .inr (7, [.ref nb0, .int 0, .int 0, .int 0])), (sl1, .inr (7, [.ref nb1, .int 0, .int 0, .int 0])), (sl2, .inr (7, [.ref nb2, .int 0, .int 0, .int 0])), (sl3, .inr (7, [.ref nb3, .int 0, .int 0, .int 0])), (nb0, .inl (cJ, 60, .inr (.inl f0))), (nb1, .inl (cJ, 60, .inr (.inl f1))), (nb2, .inl (cJ, 60, .inr (.inl f2))), (nb3, .inl (cJ, 60, .inr (.inl f3)))] s.heap.size = A at hD ⊢
  have hA : ∀ q : Nat, s.heap.size ≤ q → A q := fun q h => by rw [← hAe]; exact Or.inr h
  have hS : va_S A s.heap s.heap [] := va_S.rf
  have hl := lv_entry ([.ref x0, .int a1, .int a2, .int a3]) (n := 4) (Nat.le_of_ble_eq_true rfl)
  rw [lg_entry_eq]
  generalize (lg_sl ([.ref x0, .int a1, .int a2, .int a3]) ++ List.replicate (4 - (lg_sl ([.ref x0, .int a1, .int a2, .int a3])).length) Slot.unset).toArray = ls at hl ⊢
  have hl : lv_has ls 4 [(0, .ref x0), (1, .int a1), (2, .int a2), (3, .int a3)] := hl
  have hP : va_P D vwCl [(x0, .inr (11, [.ref r_tape, .ref r_reader, .ref r_now, .ref r_trial, .ref r_images, .ref r_kept, .ref r_slots, .ref r_night, .ref r_other, .ref r_circle, .ref r_words, .ref r_law, .ref r_place, .ref r_drawn])), (r_slots, .inl (cS, 4, .inr (.inr (.inr (.inr (va_up (va_up (va_up (va_up (fun _ => none) 0 (some sl0)) 1 (some sl1)) 2 (some sl2)) 3 (some sl3))))))), (sl0, .inr (7, [.ref nb0, .int 0, .int 0, .int 0])), (sl1, .inr (7, [.ref nb1, .int 0, .int 0, .int 0])), (sl2, .inr (7, [.ref nb2, .int 0, .int 0, .int 0])), (sl3, .inr (7, [.ref nb3, .int 0, .int 0, .int 0])), (nb0, .inl (cJ, 60, .inr (.inl f0))), (nb1, .inl (cJ, 60, .inr (.inl f1))), (nb2, .inl (cJ, 60, .inr (.inl f2))), (nb3, .inl (cJ, 60, .inr (.inl f3)))] s.heap := hP
  refine lv_iload_n hx hb dX11_row_0 rfl (lv_at hl 1 rfl) ?_
  refine rosi (As := [.int a1]) (rest := []) ⟨hx, hb, hml, hown, hts⟩ (k_noSlot l D cB cI cJ cZ cS cT a1 ) (csB (n := 1) (inr51 _ (List.mem_of_getElem? (i := 19) rfl)) (inr51 _ (List.mem_of_getElem? (i := 20) rfl)) (inr1 _ (List.mem_of_getElem? (i := 2) rfl)) (inr51 _ (List.mem_of_getElem? (i := 21) rfl)) (by decide +kernel) hts rfl rfl ⟨Nat.le_of_ble_eq_true rfl, Nat.le_of_ble_eq_true rfl⟩) (hP.sub [] rfl) hK rfl hl.1 rfl (Nat.le_of_ble_eq_true rfl) ⟨Nat.le_of_ble_eq_true rfl, Nat.le_of_ble_eq_true rfl⟩ dX11_row_1 (fun r_1 h_2 => ?_)
  rcases h_2 with ⟨rfl, k_3⟩ | ⟨rfl, k_3⟩
  · have k_3 : a1.toInt < 0 ∨ 3 < a1.toInt := k_3
    refine lv_if_ne (tgt := 25) hx hb dX11_row_4 (by decide) (fun _ => ?_) (fun c0 => absurd c0 (by decide))
    refine lv_bipush (v := (-2)) hx hb dX11_row_25 (by decide) ?_
    have hP9 := hP.sub (ws' := []) [] rfl
    have hD9 := hD.sub (ws' := []) [] (by decide) rfl
    exact W.iret (v := (-2)) hx hb hr (fun t ht hW => ⟨⟨(-2), (), rfl, (by unfold S_row; repeat' split <;> first | rfl | (exfalso; omega) | (simp_all; omega)), by rw [ht]; exact hP9, va_K.moved hW.alike hK, hD9⟩, hS.F ht⟩) hS.2.2 dX11_row_27
  · have k_3 : 0 ≤ a1.toInt ∧ a1.toInt ≤ 3 := k_3
    refine lv_if_ne (tgt := 25) hx hb dX11_row_4 (by decide) (fun c0 => absurd c0 (by decide)) (fun _ => ?_)
    refine lv_iload_n hx hb dX11_row_7 rfl (lv_at hl 2 rfl) ?_
    obtain ⟨t_4, et_4⟩ : ∃ v9 : Int64, (a2 : Int32).toInt64 = v9 := ⟨_, rfl⟩
    refine lv_i2l (v := t_4) hx hb dX11_row_8 et_4 ?_
    have ft_4 : t_4.toInt = a2.toInt := by rw [← et_4]; exact Int32.toInt_toInt64 _
    refine lv_lconst (v := 0) hx hb dX11_row_9 (by decide) ?_
    refine lv_ldc2 hx hb hown (hts _ (inr51 _ (List.mem_of_getElem? (i := 22) rfl))) dX11_row_10 ?_
    refine rosi (As := [.long t_4, .long 0, .long 3]) (rest := []) ⟨hx, hb, hml, hown, hts⟩ (k_outside l D cB cI cJ cZ cS cT t_4 0 3 ) (csB (n := 3) (inr8 _ (List.mem_of_getElem? (i := 16) rfl)) (inr8 _ (List.mem_of_getElem? (i := 17) rfl)) (inr1 _ (List.mem_of_getElem? (i := 2) rfl)) (inr8 _ (List.mem_of_getElem? (i := 18) rfl)) (by decide +kernel) hts rfl rfl ⟨Nat.le_of_ble_eq_true rfl, Nat.le_of_ble_eq_true rfl⟩) (hP.sub [] rfl) hK rfl hl.1 rfl (Nat.le_of_ble_eq_true rfl) ⟨Nat.le_of_ble_eq_true rfl, Nat.le_of_ble_eq_true rfl⟩ dX11_row_13 (fun r_5 h_6 => ?_)
    rcases h_6 with ⟨rfl, k_7⟩ | ⟨rfl, k_7⟩
    · have k_7 : t_4.toInt < 0 ∨ 3 < t_4.toInt := k_7
      refine lv_if_ne (tgt := 25) hx hb dX11_row_16 (by decide) (fun _ => ?_) (fun c0 => absurd c0 (by decide))
      refine lv_bipush (v := (-2)) hx hb dX11_row_25 (by decide) ?_
      have hP9 := hP.sub (ws' := []) [] rfl
      have hD9 := hD.sub (ws' := []) [] (by decide) rfl
      exact W.iret (v := (-2)) hx hb hr (fun t ht hW => ⟨⟨(-2), (), rfl, (by unfold S_row; repeat' split <;> first | rfl | (exfalso; omega) | (simp_all; omega)), by rw [ht]; exact hP9, va_K.moved hW.alike hK, hD9⟩, hS.F ht⟩) hS.2.2 dX11_row_27
    · have k_7 : 0 ≤ t_4.toInt ∧ t_4.toInt ≤ 3 := k_7
      refine lv_if_ne (tgt := 25) hx hb dX11_row_16 (by decide) (fun c0 => absurd c0 (by decide)) (fun _ => ?_)
      refine lv_iload_n hx hb dX11_row_19 rfl (lv_at hl 3 rfl) ?_
      refine lv_bipush (v := 60) hx hb dX11_row_20 (by decide) ?_
      refine lv_icmp_le (tgt := 28) hx hb dX11_row_22 (by decide) (fun c_8 => ?_) (fun c_8 => ?_)
      · have c_8 : a3.toInt ≤ 60 := ci_le_t c_8
        refine lv_iload_n hx hb dX11_row_28 rfl (lv_at hl 3 rfl) ?_
        refine lv_if_ge (tgt := 35) hx hb dX11_row_29 (by decide) (fun c_9 => ?_) (fun c_9 => ?_)
        · have c_9 : 0 ≤ a3.toInt := ci_ge_t c_9
          rcases in4 (x := a1) (by omega) (by omega) with rfl | rfl | rfl | rfl
          · have hl : lv_has ls 4 [(0, .ref x0), (1, .int 0), (2, .int a2), (3, .int a3)] := hl
            refine lv_aload_n hx hb dX11_row_35 rfl (lv_at hl 0 rfl) ?_
            refine va_get (D := D) (ci := 11) (v := .ref r_slots) (C := RX11) (T := TX11) (N := 14) hx hb hts inlX11 hown hK hP 0 rfl rfl 6 (by decide) (hts _ (inr2 _ (List.mem_of_getElem? (i := 6) rfl))) (fun _ h9 => h9) rfl dX11_row_36 ?_
            refine lv_iload_n hx hb dX11_row_39 rfl (lv_at hl 1 rfl) ?_
            refine va_aldq hx hb hK hP 1 4 rfl rfl (by unfold vp_in; decide) dX11_row_40 ?_
            refine W.eq (g2 := F0 m 41 ls [.ref sl0]) rfl ?_
            refine lv_iload_n hx hb dX11_row_41 rfl (lv_at hl 2 rfl) ?_
            refine lv_iload_n hx hb dX11_row_42 rfl (lv_at hl 3 rfl) ?_
            refine wrVv (As := [.int a2, .int a3]) (rest := []) (wr := [(x0, .inr (11, [.ref r_tape, .ref r_reader, .ref r_now, .ref r_trial, .ref r_images, .ref r_kept, .ref r_slots, .ref r_night, .ref r_other, .ref r_circle, .ref r_words, .ref r_law, .ref r_place, .ref r_drawn])), (r_slots, .inl (cS, 4, .inr (.inr (.inr (.inr (va_up (va_up (va_up (va_up (fun _ => none) 0 (some sl0)) 1 (some sl1)) 2 (some sl2)) 3 (some sl3))))))), (sl1, .inr (7, [.ref nb1, .int 0, .int 0, .int 0])), (sl2, .inr (7, [.ref nb2, .int 0, .int 0, .int 0])), (sl3, .inr (7, [.ref nb3, .int 0, .int 0, .int 0])), (nb1, .inl (cJ, 60, .inr (.inl f1))), (nb2, .inl (cJ, 60, .inr (.inl f2))), (nb3, .inl (cJ, 60, .inr (.inl f3)))]) ⟨hx, hb, hml, hown, hts⟩ (k_make l D cB cI cJ cZ cS cT s.heap.size sl0 nb0 0 0 0 f0 a2 a3 ) hP hD hS hA hK hN [2, 6] [0, 1, 3, 4, 5, 7, 8, 9] rfl rfl (by decide) (by decide) (by decide) (cvB (n := 2) (inr73 _ (List.mem_of_getElem? (i := 5) rfl)) (inr73 _ (List.mem_of_getElem? (i := 6) rfl)) (inr73 _ (List.mem_of_getElem? (i := 7) rfl)) (inr2 _ (List.mem_of_getElem? (i := 8) rfl)) (inr73 _ (List.mem_of_getElem? (i := 8) rfl)) (by decide +kernel) hts rfl rfl ⟨Nat.le_of_ble_eq_true rfl, Nat.le_of_ble_eq_true rfl⟩) 0 7 rfl rfl rfl rfl hl.1 rfl (Nat.le_of_ble_eq_true rfl) ⟨Nat.le_of_ble_eq_true rfl, Nat.le_of_ble_eq_true rfl⟩ dX11_row_43 (fun x9 H locs h_11 hP hD hS => ?_)
            obtain ⟨g_12, g_13⟩ := x9
            have hP : va_P D vwCl [(x0, .inr (11, [.ref r_tape, .ref r_reader, .ref r_now, .ref r_trial, .ref r_images, .ref r_kept, .ref r_slots, .ref r_night, .ref r_other, .ref r_circle, .ref r_words, .ref r_law, .ref r_place, .ref r_drawn])), (r_slots, .inl (cS, 4, .inr (.inr (.inr (.inr (va_up (va_up (va_up (va_up (fun _ => none) 0 (some sl0)) 1 (some sl1)) 2 (some sl2)) 3 (some sl3))))))), (sl1, .inr (7, [.ref nb1, .int 0, .int 0, .int 0])), (sl2, .inr (7, [.ref nb2, .int 0, .int 0, .int 0])), (sl3, .inr (7, [.ref nb3, .int 0, .int 0, .int 0])), (nb1, .inl (cJ, 60, .inr (.inl f1))), (nb2, .inl (cJ, 60, .inr (.inl f2))), (nb3, .inl (cJ, 60, .inr (.inl f3))), (sl0, .inr (7, [.ref nb0, .int a2, .int g_12, .int 1])), (nb0, .inl (cJ, 60, .inr (.inl g_13)))] H := hP
            have hD : va_D A [(x0, .inr (11, [.ref r_tape, .ref r_reader, .ref r_now, .ref r_trial, .ref r_images, .ref r_kept, .ref r_slots, .ref r_night, .ref r_other, .ref r_circle, .ref r_words, .ref r_law, .ref r_place, .ref r_drawn])), (r_slots, .inl (cS, 4, .inr (.inr (.inr (.inr (va_up (va_up (va_up (va_up (fun _ => none) 0 (some sl0)) 1 (some sl1)) 2 (some sl2)) 3 (some sl3))))))), (sl1, .inr (7, [.ref nb1, .int 0, .int 0, .int 0])), (sl2, .inr (7, [.ref nb2, .int 0, .int 0, .int 0])), (sl3, .inr (7, [.ref nb3, .int 0, .int 0, .int 0])), (nb1, .inl (cJ, 60, .inr (.inl f1))), (nb2, .inl (cJ, 60, .inr (.inl f2))), (nb3, .inl (cJ, 60, .inr (.inl f3))), (sl0, .inr (7, [.ref nb0, .int a2, .int g_12, .int 1])), (nb0, .inl (cJ, 60, .inr (.inl g_13)))] := hD
            refine lv_iconst (v := 0) hx hb dX11_row_46 (by decide) ?_
            have hP9 := hP.sub (ws' := []) [] rfl
            have hD9 := hD.sub (ws' := []) [] (by decide) rfl
            exact W.iret (v := 0) hx hb hr (fun t ht hW => ⟨⟨0, (), rfl, (by show (0 : Int32) = S_row _ _ _; unfold S_row; rw [if_pos ⟨by decide, by decide, by omega, by omega, by omega⟩, if_neg (by omega)]), by rw [ht]; exact hP9, va_K.moved hW.alike hK, hD9⟩, hS.F ht⟩) hS.2.2 dX11_row_47
          · have hl : lv_has ls 4 [(0, .ref x0), (1, .int 1), (2, .int a2), (3, .int a3)] := hl
            refine lv_aload_n hx hb dX11_row_35 rfl (lv_at hl 0 rfl) ?_
            refine va_get (D := D) (ci := 11) (v := .ref r_slots) (C := RX11) (T := TX11) (N := 14) hx hb hts inlX11 hown hK hP 0 rfl rfl 6 (by decide) (hts _ (inr2 _ (List.mem_of_getElem? (i := 6) rfl))) (fun _ h9 => h9) rfl dX11_row_36 ?_
            refine lv_iload_n hx hb dX11_row_39 rfl (lv_at hl 1 rfl) ?_
            refine va_aldq hx hb hK hP 1 4 rfl rfl (by unfold vp_in; decide) dX11_row_40 ?_
            refine W.eq (g2 := F0 m 41 ls [.ref sl1]) rfl ?_
            refine lv_iload_n hx hb dX11_row_41 rfl (lv_at hl 2 rfl) ?_
            refine lv_iload_n hx hb dX11_row_42 rfl (lv_at hl 3 rfl) ?_
            refine wrVv (As := [.int a2, .int a3]) (rest := []) (wr := [(x0, .inr (11, [.ref r_tape, .ref r_reader, .ref r_now, .ref r_trial, .ref r_images, .ref r_kept, .ref r_slots, .ref r_night, .ref r_other, .ref r_circle, .ref r_words, .ref r_law, .ref r_place, .ref r_drawn])), (r_slots, .inl (cS, 4, .inr (.inr (.inr (.inr (va_up (va_up (va_up (va_up (fun _ => none) 0 (some sl0)) 1 (some sl1)) 2 (some sl2)) 3 (some sl3))))))), (sl0, .inr (7, [.ref nb0, .int 0, .int 0, .int 0])), (sl2, .inr (7, [.ref nb2, .int 0, .int 0, .int 0])), (sl3, .inr (7, [.ref nb3, .int 0, .int 0, .int 0])), (nb0, .inl (cJ, 60, .inr (.inl f0))), (nb2, .inl (cJ, 60, .inr (.inl f2))), (nb3, .inl (cJ, 60, .inr (.inl f3)))]) ⟨hx, hb, hml, hown, hts⟩ (k_make l D cB cI cJ cZ cS cT s.heap.size sl1 nb1 0 0 0 f1 a2 a3 ) hP hD hS hA hK hN [3, 7] [0, 1, 2, 4, 5, 6, 8, 9] rfl rfl (by decide) (by decide) (by decide) (cvB (n := 2) (inr73 _ (List.mem_of_getElem? (i := 5) rfl)) (inr73 _ (List.mem_of_getElem? (i := 6) rfl)) (inr73 _ (List.mem_of_getElem? (i := 7) rfl)) (inr2 _ (List.mem_of_getElem? (i := 8) rfl)) (inr73 _ (List.mem_of_getElem? (i := 8) rfl)) (by decide +kernel) hts rfl rfl ⟨Nat.le_of_ble_eq_true rfl, Nat.le_of_ble_eq_true rfl⟩) 0 7 rfl rfl rfl rfl hl.1 rfl (Nat.le_of_ble_eq_true rfl) ⟨Nat.le_of_ble_eq_true rfl, Nat.le_of_ble_eq_true rfl⟩ dX11_row_43 (fun x9 H locs h_15 hP hD hS => ?_)
            obtain ⟨g_16, g_17⟩ := x9
            have hP : va_P D vwCl [(x0, .inr (11, [.ref r_tape, .ref r_reader, .ref r_now, .ref r_trial, .ref r_images, .ref r_kept, .ref r_slots, .ref r_night, .ref r_other, .ref r_circle, .ref r_words, .ref r_law, .ref r_place, .ref r_drawn])), (r_slots, .inl (cS, 4, .inr (.inr (.inr (.inr (va_up (va_up (va_up (va_up (fun _ => none) 0 (some sl0)) 1 (some sl1)) 2 (some sl2)) 3 (some sl3))))))), (sl0, .inr (7, [.ref nb0, .int 0, .int 0, .int 0])), (sl2, .inr (7, [.ref nb2, .int 0, .int 0, .int 0])), (sl3, .inr (7, [.ref nb3, .int 0, .int 0, .int 0])), (nb0, .inl (cJ, 60, .inr (.inl f0))), (nb2, .inl (cJ, 60, .inr (.inl f2))), (nb3, .inl (cJ, 60, .inr (.inl f3))), (sl1, .inr (7, [.ref nb1, .int a2, .int g_16, .int 1])), (nb1, .inl (cJ, 60, .inr (.inl g_17)))] H := hP
            have hD : va_D A [(x0, .inr (11, [.ref r_tape, .ref r_reader, .ref r_now, .ref r_trial, .ref r_images, .ref r_kept, .ref r_slots, .ref r_night, .ref r_other, .ref r_circle, .ref r_words, .ref r_law, .ref r_place, .ref r_drawn])), (r_slots, .inl (cS, 4, .inr (.inr (.inr (.inr (va_up (va_up (va_up (va_up (fun _ => none) 0 (some sl0)) 1 (some sl1)) 2 (some sl2)) 3 (some sl3))))))), (sl0, .inr (7, [.ref nb0, .int 0, .int 0, .int 0])), (sl2, .inr (7, [.ref nb2, .int 0, .int 0, .int 0])), (sl3, .inr (7, [.ref nb3, .int 0, .int 0, .int 0])), (nb0, .inl (cJ, 60, .inr (.inl f0))), (nb2, .inl (cJ, 60, .inr (.inl f2))), (nb3, .inl (cJ, 60, .inr (.inl f3))), (sl1, .inr (7, [.ref nb1, .int a2, .int g_16, .int 1])), (nb1, .inl (cJ, 60, .inr (.inl g_17)))] := hD
            refine lv_iconst (v := 0) hx hb dX11_row_46 (by decide) ?_
            have hP9 := hP.sub (ws' := []) [] rfl
            have hD9 := hD.sub (ws' := []) [] (by decide) rfl
            exact W.iret (v := 0) hx hb hr (fun t ht hW => ⟨⟨0, (), rfl, (by show (0 : Int32) = S_row _ _ _; unfold S_row; rw [if_pos ⟨by decide, by decide, by omega, by omega, by omega⟩, if_neg (by omega)]), by rw [ht]; exact hP9, va_K.moved hW.alike hK, hD9⟩, hS.F ht⟩) hS.2.2 dX11_row_47
          · have hl : lv_has ls 4 [(0, .ref x0), (1, .int 2), (2, .int a2), (3, .int a3)] := hl
            refine lv_aload_n hx hb dX11_row_35 rfl (lv_at hl 0 rfl) ?_
            refine va_get (D := D) (ci := 11) (v := .ref r_slots) (C := RX11) (T := TX11) (N := 14) hx hb hts inlX11 hown hK hP 0 rfl rfl 6 (by decide) (hts _ (inr2 _ (List.mem_of_getElem? (i := 6) rfl))) (fun _ h9 => h9) rfl dX11_row_36 ?_
            refine lv_iload_n hx hb dX11_row_39 rfl (lv_at hl 1 rfl) ?_
            refine va_aldq hx hb hK hP 1 4 rfl rfl (by unfold vp_in; decide) dX11_row_40 ?_
            refine W.eq (g2 := F0 m 41 ls [.ref sl2]) rfl ?_
            refine lv_iload_n hx hb dX11_row_41 rfl (lv_at hl 2 rfl) ?_
            refine lv_iload_n hx hb dX11_row_42 rfl (lv_at hl 3 rfl) ?_
            refine wrVv (As := [.int a2, .int a3]) (rest := []) (wr := [(x0, .inr (11, [.ref r_tape, .ref r_reader, .ref r_now, .ref r_trial, .ref r_images, .ref r_kept, .ref r_slots, .ref r_night, .ref r_other, .ref r_circle, .ref r_words, .ref r_law, .ref r_place, .ref r_drawn])), (r_slots, .inl (cS, 4, .inr (.inr (.inr (.inr (va_up (va_up (va_up (va_up (fun _ => none) 0 (some sl0)) 1 (some sl1)) 2 (some sl2)) 3 (some sl3))))))), (sl0, .inr (7, [.ref nb0, .int 0, .int 0, .int 0])), (sl1, .inr (7, [.ref nb1, .int 0, .int 0, .int 0])), (sl3, .inr (7, [.ref nb3, .int 0, .int 0, .int 0])), (nb0, .inl (cJ, 60, .inr (.inl f0))), (nb1, .inl (cJ, 60, .inr (.inl f1))), (nb3, .inl (cJ, 60, .inr (.inl f3)))]) ⟨hx, hb, hml, hown, hts⟩ (k_make l D cB cI cJ cZ cS cT s.heap.size sl2 nb2 0 0 0 f2 a2 a3 ) hP hD hS hA hK hN [4, 8] [0, 1, 2, 3, 5, 6, 7, 9] rfl rfl (by decide) (by decide) (by decide) (cvB (n := 2) (inr73 _ (List.mem_of_getElem? (i := 5) rfl)) (inr73 _ (List.mem_of_getElem? (i := 6) rfl)) (inr73 _ (List.mem_of_getElem? (i := 7) rfl)) (inr2 _ (List.mem_of_getElem? (i := 8) rfl)) (inr73 _ (List.mem_of_getElem? (i := 8) rfl)) (by decide +kernel) hts rfl rfl ⟨Nat.le_of_ble_eq_true rfl, Nat.le_of_ble_eq_true rfl⟩) 0 7 rfl rfl rfl rfl hl.1 rfl (Nat.le_of_ble_eq_true rfl) ⟨Nat.le_of_ble_eq_true rfl, Nat.le_of_ble_eq_true rfl⟩ dX11_row_43 (fun x9 H locs h_19 hP hD hS => ?_)
            obtain ⟨g_20, g_21⟩ := x9
            have hP : va_P D vwCl [(x0, .inr (11, [.ref r_tape, .ref r_reader, .ref r_now, .ref r_trial, .ref r_images, .ref r_kept, .ref r_slots, .ref r_night, .ref r_other, .ref r_circle, .ref r_words, .ref r_law, .ref r_place, .ref r_drawn])), (r_slots, .inl (cS, 4, .inr (.inr (.inr (.inr (va_up (va_up (va_up (va_up (fun _ => none) 0 (some sl0)) 1 (some sl1)) 2 (some sl2)) 3 (some sl3))))))), (sl0, .inr (7, [.ref nb0, .int 0, .int 0, .int 0])), (sl1, .inr (7, [.ref nb1, .int 0, .int 0, .int 0])), (sl3, .inr (7, [.ref nb3, .int 0, .int 0, .int 0])), (nb0, .inl (cJ, 60, .inr (.inl f0))), (nb1, .inl (cJ, 60, .inr (.inl f1))), (nb3, .inl (cJ, 60, .inr (.inl f3))), (sl2, .inr (7, [.ref nb2, .int a2, .int g_20, .int 1])), (nb2, .inl (cJ, 60, .inr (.inl g_21)))] H := hP
            have hD : va_D A [(x0, .inr (11, [.ref r_tape, .ref r_reader, .ref r_now, .ref r_trial, .ref r_images, .ref r_kept, .ref r_slots, .ref r_night, .ref r_other, .ref r_circle, .ref r_words, .ref r_law, .ref r_place, .ref r_drawn])), (r_slots, .inl (cS, 4, .inr (.inr (.inr (.inr (va_up (va_up (va_up (va_up (fun _ => none) 0 (some sl0)) 1 (some sl1)) 2 (some sl2)) 3 (some sl3))))))), (sl0, .inr (7, [.ref nb0, .int 0, .int 0, .int 0])), (sl1, .inr (7, [.ref nb1, .int 0, .int 0, .int 0])), (sl3, .inr (7, [.ref nb3, .int 0, .int 0, .int 0])), (nb0, .inl (cJ, 60, .inr (.inl f0))), (nb1, .inl (cJ, 60, .inr (.inl f1))), (nb3, .inl (cJ, 60, .inr (.inl f3))), (sl2, .inr (7, [.ref nb2, .int a2, .int g_20, .int 1])), (nb2, .inl (cJ, 60, .inr (.inl g_21)))] := hD
            refine lv_iconst (v := 0) hx hb dX11_row_46 (by decide) ?_
            have hP9 := hP.sub (ws' := []) [] rfl
            have hD9 := hD.sub (ws' := []) [] (by decide) rfl
            exact W.iret (v := 0) hx hb hr (fun t ht hW => ⟨⟨0, (), rfl, (by show (0 : Int32) = S_row _ _ _; unfold S_row; rw [if_pos ⟨by decide, by decide, by omega, by omega, by omega⟩, if_neg (by omega)]), by rw [ht]; exact hP9, va_K.moved hW.alike hK, hD9⟩, hS.F ht⟩) hS.2.2 dX11_row_47
          · have hl : lv_has ls 4 [(0, .ref x0), (1, .int 3), (2, .int a2), (3, .int a3)] := hl
            refine lv_aload_n hx hb dX11_row_35 rfl (lv_at hl 0 rfl) ?_
            refine va_get (D := D) (ci := 11) (v := .ref r_slots) (C := RX11) (T := TX11) (N := 14) hx hb hts inlX11 hown hK hP 0 rfl rfl 6 (by decide) (hts _ (inr2 _ (List.mem_of_getElem? (i := 6) rfl))) (fun _ h9 => h9) rfl dX11_row_36 ?_
            refine lv_iload_n hx hb dX11_row_39 rfl (lv_at hl 1 rfl) ?_
            refine va_aldq hx hb hK hP 1 4 rfl rfl (by unfold vp_in; decide) dX11_row_40 ?_
            refine W.eq (g2 := F0 m 41 ls [.ref sl3]) rfl ?_
            refine lv_iload_n hx hb dX11_row_41 rfl (lv_at hl 2 rfl) ?_
            refine lv_iload_n hx hb dX11_row_42 rfl (lv_at hl 3 rfl) ?_
            refine wrVv (As := [.int a2, .int a3]) (rest := []) (wr := [(x0, .inr (11, [.ref r_tape, .ref r_reader, .ref r_now, .ref r_trial, .ref r_images, .ref r_kept, .ref r_slots, .ref r_night, .ref r_other, .ref r_circle, .ref r_words, .ref r_law, .ref r_place, .ref r_drawn])), (r_slots, .inl (cS, 4, .inr (.inr (.inr (.inr (va_up (va_up (va_up (va_up (fun _ => none) 0 (some sl0)) 1 (some sl1)) 2 (some sl2)) 3 (some sl3))))))), (sl0, .inr (7, [.ref nb0, .int 0, .int 0, .int 0])), (sl1, .inr (7, [.ref nb1, .int 0, .int 0, .int 0])), (sl2, .inr (7, [.ref nb2, .int 0, .int 0, .int 0])), (nb0, .inl (cJ, 60, .inr (.inl f0))), (nb1, .inl (cJ, 60, .inr (.inl f1))), (nb2, .inl (cJ, 60, .inr (.inl f2)))]) ⟨hx, hb, hml, hown, hts⟩ (k_make l D cB cI cJ cZ cS cT s.heap.size sl3 nb3 0 0 0 f3 a2 a3 ) hP hD hS hA hK hN [5, 9] [0, 1, 2, 3, 4, 6, 7, 8] rfl rfl (by decide) (by decide) (by decide) (cvB (n := 2) (inr73 _ (List.mem_of_getElem? (i := 5) rfl)) (inr73 _ (List.mem_of_getElem? (i := 6) rfl)) (inr73 _ (List.mem_of_getElem? (i := 7) rfl)) (inr2 _ (List.mem_of_getElem? (i := 8) rfl)) (inr73 _ (List.mem_of_getElem? (i := 8) rfl)) (by decide +kernel) hts rfl rfl ⟨Nat.le_of_ble_eq_true rfl, Nat.le_of_ble_eq_true rfl⟩) 0 7 rfl rfl rfl rfl hl.1 rfl (Nat.le_of_ble_eq_true rfl) ⟨Nat.le_of_ble_eq_true rfl, Nat.le_of_ble_eq_true rfl⟩ dX11_row_43 (fun x9 H locs h_23 hP hD hS => ?_)
            obtain ⟨g_24, g_25⟩ := x9
            have hP : va_P D vwCl [(x0, .inr (11, [.ref r_tape, .ref r_reader, .ref r_now, .ref r_trial, .ref r_images, .ref r_kept, .ref r_slots, .ref r_night, .ref r_other, .ref r_circle, .ref r_words, .ref r_law, .ref r_place, .ref r_drawn])), (r_slots, .inl (cS, 4, .inr (.inr (.inr (.inr (va_up (va_up (va_up (va_up (fun _ => none) 0 (some sl0)) 1 (some sl1)) 2 (some sl2)) 3 (some sl3))))))), (sl0, .inr (7, [.ref nb0, .int 0, .int 0, .int 0])), (sl1, .inr (7, [.ref nb1, .int 0, .int 0, .int 0])), (sl2, .inr (7, [.ref nb2, .int 0, .int 0, .int 0])), (nb0, .inl (cJ, 60, .inr (.inl f0))), (nb1, .inl (cJ, 60, .inr (.inl f1))), (nb2, .inl (cJ, 60, .inr (.inl f2))), (sl3, .inr (7, [.ref nb3, .int a2, .int g_24, .int 1])), (nb3, .inl (cJ, 60, .inr (.inl g_25)))] H := hP
            have hD : va_D A [(x0, .inr (11, [.ref r_tape, .ref r_reader, .ref r_now, .ref r_trial, .ref r_images, .ref r_kept, .ref r_slots, .ref r_night, .ref r_other, .ref r_circle, .ref r_words, .ref r_law, .ref r_place, .ref r_drawn])), (r_slots, .inl (cS, 4, .inr (.inr (.inr (.inr (va_up (va_up (va_up (va_up (fun _ => none) 0 (some sl0)) 1 (some sl1)) 2 (some sl2)) 3 (some sl3))))))), (sl0, .inr (7, [.ref nb0, .int 0, .int 0, .int 0])), (sl1, .inr (7, [.ref nb1, .int 0, .int 0, .int 0])), (sl2, .inr (7, [.ref nb2, .int 0, .int 0, .int 0])), (nb0, .inl (cJ, 60, .inr (.inl f0))), (nb1, .inl (cJ, 60, .inr (.inl f1))), (nb2, .inl (cJ, 60, .inr (.inl f2))), (sl3, .inr (7, [.ref nb3, .int a2, .int g_24, .int 1])), (nb3, .inl (cJ, 60, .inr (.inl g_25)))] := hD
            refine lv_iconst (v := 0) hx hb dX11_row_46 (by decide) ?_
            have hP9 := hP.sub (ws' := []) [] rfl
            have hD9 := hD.sub (ws' := []) [] (by decide) rfl
            exact W.iret (v := 0) hx hb hr (fun t ht hW => ⟨⟨0, (), rfl, (by show (0 : Int32) = S_row _ _ _; unfold S_row; rw [if_pos ⟨by decide, by decide, by omega, by omega, by omega⟩, if_neg (by omega)]), by rw [ht]; exact hP9, va_K.moved hW.alike hK, hD9⟩, hS.F ht⟩) hS.2.2 dX11_row_47
        · have c_9 : a3.toInt < 0 := ci_ge_f c_9
          refine lv_bipush (v := (-3)) hx hb dX11_row_32 (by decide) ?_
          have hP9 := hP.sub (ws' := []) [] rfl
          have hD9 := hD.sub (ws' := []) [] (by decide) rfl
          exact W.iret (v := (-3)) hx hb hr (fun t ht hW => ⟨⟨(-3), (), rfl, (by unfold S_row; repeat' split <;> first | rfl | (exfalso; omega) | (simp_all; omega)), by rw [ht]; exact hP9, va_K.moved hW.alike hK, hD9⟩, hS.F ht⟩) hS.2.2 dX11_row_34
      · have c_8 : 60 < a3.toInt := ci_le_f c_8
        refine lv_bipush (v := (-2)) hx hb dX11_row_25 (by decide) ?_
        have hP9 := hP.sub (ws' := []) [] rfl
        have hD9 := hD.sub (ws' := []) [] (by decide) rfl
        exact W.iret (v := (-2)) hx hb hr (fun t ht hW => ⟨⟨(-2), (), rfl, (by unfold S_row; repeat' split <;> first | rfl | (exfalso; omega) | (simp_all; omega)), by rw [ht]; exact hP9, va_K.moved hW.alike hK, hD9⟩, hS.F ht⟩) hS.2.2 dX11_row_27

set_option maxHeartbeats 4000000 in
set_option maxRecDepth 100000 in
theorem k_setHead (l : Launch) (D : va_G) (cB cI cJ cZ cS cT : ClassId) (sz : Nat) (h0 : Nat) (v_tones : Int32) (v_a : Int32) (v_b : Int32) (v_c : Int32) (v_d : Int32) (v_odds : Int32) (v_lines : Int32) (v_signs : Nat) (v_signCount : Int32) (v_posts : Nat) (v_postCount : Int32) (v_acts : Nat) (a1 : Int32) (a2 : Int32) (a3 : Int32)  : Met l yX8_setHead (Cond.code yX8_setHead cX8_setHead 4 none :: wsL_law) ({ frames := 0, cells := 0, slots := 0, locals := 0 }) (wrP D (tyL cB cI cJ cZ cS cT) [(h0, .inr (8, [.int v_tones, .int v_a, .int v_b, .int v_c, .int v_d, .int v_odds, .int v_lines, .ref v_signs, .int v_signCount, .ref v_posts, .int v_postCount, .ref v_acts]))] sz [.ref h0, .int a1, .int a2, .int a3]) (va_Qv (fun x : Unit => True) (atW D (tyL cB cI cJ cZ cS cT) (va_A [(h0, .inr (8, [.int v_tones, .int v_a, .int v_b, .int v_c, .int v_d, .int v_odds, .int v_lines, .ref v_signs, .int v_signCount, .ref v_posts, .int v_postCount, .ref v_acts]))] sz) (fun x : Unit => [(h0, .inr (8, [.int a1, .int v_a, .int v_b, .int v_c, .int a2, .int a3, .int v_lines, .ref v_signs, .int v_signCount, .ref v_posts, .int v_postCount, .ref v_acts]))])) (va_A [(h0, .inr (8, [.int v_tones, .int v_a, .int v_b, .int v_c, .int v_d, .int v_odds, .int v_lines, .ref v_signs, .int v_signCount, .ref v_posts, .int v_postCount, .ref v_acts]))] sz)) 0 0 (va_A [(h0, .inr (8, [.int v_tones, .int v_a, .int v_b, .int v_c, .int v_d, .int v_odds, .int v_lines, .ref v_signs, .int v_signCount, .ref v_posts, .int v_postCount, .ref v_acts]))] sz) := by
  refine Met.ofW (cc := cX8_setHead) (maxL := 4) (ret := none) (by decide) rfl ?_
  intro p e s m args below meth c s₁ B hml hv
  obtain ⟨rfl, hsz, hP, hK, hD0, hN⟩ := hv
  have hx := B.exec
  have hb := B.bytes
  have hr := B.returns
  have hts : ∀ w ∈ wsL_law, w.before ([.ref h0, .int a1, .int a2, .int a3] : List Value).toArray s = true := fun w h => atoms_spec (ws := Cond.code yX8_setHead cX8_setHead 4 none :: wsL_law) B.pre w (List.mem_cons_of_mem _ h)
  have hown : s.vm.findClass RX8 = some m.cls := findClass_of_methodNamed B.named
  have hlocks := B.notSynchronized
  subst hsz
  have hD := hD0.self (sz := s.heap.size)
  generalize hAe : va_A [(h0, .inr (8, [.int v_tones, .int v_a, .int v_b, .int v_c, .int v_d, .int v_odds, .int v_lines, .ref v_signs, .int v_signCount, .ref v_posts, .int v_postCount, .ref v_acts]))] s.heap.size = A at hD ⊢
  have hA : ∀ q : Nat, s.heap.size ≤ q → A q := fun q h => by rw [← hAe]; exact Or.inr h
  have hS : va_S A s.heap s.heap [] := va_S.rf
  have hl := lv_entry ([.ref h0, .int a1, .int a2, .int a3]) (n := 4) (Nat.le_of_ble_eq_true rfl)
  rw [lg_entry_eq]
  generalize (lg_sl ([.ref h0, .int a1, .int a2, .int a3]) ++ List.replicate (4 - (lg_sl ([.ref h0, .int a1, .int a2, .int a3])).length) Slot.unset).toArray = ls at hl ⊢
  have hl : lv_has ls 4 [(0, .ref h0), (1, .int a1), (2, .int a2), (3, .int a3)] := hl
  have hP : va_P D vwCl [(h0, .inr (8, [.int v_tones, .int v_a, .int v_b, .int v_c, .int v_d, .int v_odds, .int v_lines, .ref v_signs, .int v_signCount, .ref v_posts, .int v_postCount, .ref v_acts]))] s.heap := hP
  refine lv_aload_n hx hb dX8_setHead_0 rfl (lv_at hl 0 rfl) ?_
  refine lv_iload_n hx hb dX8_setHead_1 rfl (lv_at hl 1 rfl) ?_
  refine va_put (D := D) (ci := 8) (v := .int a1) (ty := .int) (C := RX8) (T := TX8) (N := 12) hx hb hts inlX8 tyX8 tyX8_ok nmX8 hown hK hP hD hS 0 rfl rfl 0 (by decide) (hts _ (inr10 _ (List.mem_of_getElem? (i := 4) rfl))) (fun _ h9 => h9) rfl (by decide +kernel) rfl rfl (Nat.le_of_ble_eq_true rfl) dX8_setHead_2 (fun H locs hP hD hS => ?_)
  have hP : va_P D vwCl [(h0, .inr (8, [.int a1, .int v_a, .int v_b, .int v_c, .int v_d, .int v_odds, .int v_lines, .ref v_signs, .int v_signCount, .ref v_posts, .int v_postCount, .ref v_acts]))] H := hP
  have hD : va_D A [(h0, .inr (8, [.int a1, .int v_a, .int v_b, .int v_c, .int v_d, .int v_odds, .int v_lines, .ref v_signs, .int v_signCount, .ref v_posts, .int v_postCount, .ref v_acts]))] := hD
  refine lv_aload_n hx hb dX8_setHead_5 rfl (lv_at hl 0 rfl) ?_
  refine lv_iload_n hx hb dX8_setHead_6 rfl (lv_at hl 2 rfl) ?_
  refine va_put (D := D) (ci := 8) (v := .int a2) (ty := .int) (C := RX8) (T := TX8) (N := 12) hx hb hts inlX8 tyX8 tyX8_ok nmX8 hown hK hP hD hS 0 rfl rfl 4 (by decide) (hts _ (inr10 _ (List.mem_of_getElem? (i := 5) rfl))) (fun _ h9 => h9) rfl (by decide +kernel) rfl rfl (Nat.le_of_ble_eq_true rfl) dX8_setHead_7 (fun H locs hP hD hS => ?_)
  have hP : va_P D vwCl [(h0, .inr (8, [.int a1, .int v_a, .int v_b, .int v_c, .int a2, .int v_odds, .int v_lines, .ref v_signs, .int v_signCount, .ref v_posts, .int v_postCount, .ref v_acts]))] H := hP
  have hD : va_D A [(h0, .inr (8, [.int a1, .int v_a, .int v_b, .int v_c, .int a2, .int v_odds, .int v_lines, .ref v_signs, .int v_signCount, .ref v_posts, .int v_postCount, .ref v_acts]))] := hD
  refine lv_aload_n hx hb dX8_setHead_10 rfl (lv_at hl 0 rfl) ?_
  refine lv_iload_n hx hb dX8_setHead_11 rfl (lv_at hl 3 rfl) ?_
  refine va_put (D := D) (ci := 8) (v := .int a3) (ty := .int) (C := RX8) (T := TX8) (N := 12) hx hb hts inlX8 tyX8 tyX8_ok nmX8 hown hK hP hD hS 0 rfl rfl 5 (by decide) (hts _ (inr10 _ (List.mem_of_getElem? (i := 6) rfl))) (fun _ h9 => h9) rfl (by decide +kernel) rfl rfl (Nat.le_of_ble_eq_true rfl) dX8_setHead_12 (fun H locs hP hD hS => ?_)
  have hP : va_P D vwCl [(h0, .inr (8, [.int a1, .int v_a, .int v_b, .int v_c, .int a2, .int a3, .int v_lines, .ref v_signs, .int v_signCount, .ref v_posts, .int v_postCount, .ref v_acts]))] H := hP
  have hD : va_D A [(h0, .inr (8, [.int a1, .int v_a, .int v_b, .int v_c, .int a2, .int a3, .int v_lines, .ref v_signs, .int v_signCount, .ref v_posts, .int v_postCount, .ref v_acts]))] := hD
  have hP9 := hP.sub (ws' := [(h0, .inr (8, [.int a1, .int v_a, .int v_b, .int v_c, .int a2, .int a3, .int v_lines, .ref v_signs, .int v_signCount, .ref v_posts, .int v_postCount, .ref v_acts]))]) [0] rfl
  have hD9 := hD.sub (ws' := [(h0, .inr (8, [.int a1, .int v_a, .int v_b, .int v_c, .int a2, .int a3, .int v_lines, .ref v_signs, .int v_signCount, .ref v_posts, .int v_postCount, .ref v_acts]))]) [0] (by decide) rfl
  exact W.vret hx hb hr (fun t ht hW => ⟨⟨(), rfl, trivial, by rw [ht]; exact hP9, va_K.moved hW.alike hK, hD9⟩, hS.F ht⟩) hS.2.2 dX8_setHead_15

set_option maxHeartbeats 4000000 in
set_option maxRecDepth 100000 in
theorem k_setLaw (l : Launch) (D : va_G) (cB cI cJ cZ cS cT : ClassId) (sz : Nat) (h0 : Nat) (v_tones : Int32) (v_a : Int32) (v_b : Int32) (v_c : Int32) (v_d : Int32) (v_odds : Int32) (v_lines : Int32) (v_signs : Nat) (v_signCount : Int32) (v_posts : Nat) (v_postCount : Int32) (v_acts : Nat) (a1 : Int32) (a2 : Int32) (a3 : Int32)  : Met l yX8_setLaw (Cond.code yX8_setLaw cX8_setLaw 4 none :: wsL_law) ({ frames := 0, cells := 0, slots := 0, locals := 0 }) (wrP D (tyL cB cI cJ cZ cS cT) [(h0, .inr (8, [.int v_tones, .int v_a, .int v_b, .int v_c, .int v_d, .int v_odds, .int v_lines, .ref v_signs, .int v_signCount, .ref v_posts, .int v_postCount, .ref v_acts]))] sz [.ref h0, .int a1, .int a2, .int a3]) (va_Qv (fun x : Unit => True) (atW D (tyL cB cI cJ cZ cS cT) (va_A [(h0, .inr (8, [.int v_tones, .int v_a, .int v_b, .int v_c, .int v_d, .int v_odds, .int v_lines, .ref v_signs, .int v_signCount, .ref v_posts, .int v_postCount, .ref v_acts]))] sz) (fun x : Unit => [(h0, .inr (8, [.int v_tones, .int a1, .int a2, .int a3, .int v_d, .int v_odds, .int v_lines, .ref v_signs, .int v_signCount, .ref v_posts, .int v_postCount, .ref v_acts]))])) (va_A [(h0, .inr (8, [.int v_tones, .int v_a, .int v_b, .int v_c, .int v_d, .int v_odds, .int v_lines, .ref v_signs, .int v_signCount, .ref v_posts, .int v_postCount, .ref v_acts]))] sz)) 0 0 (va_A [(h0, .inr (8, [.int v_tones, .int v_a, .int v_b, .int v_c, .int v_d, .int v_odds, .int v_lines, .ref v_signs, .int v_signCount, .ref v_posts, .int v_postCount, .ref v_acts]))] sz) := by
  refine Met.ofW (cc := cX8_setLaw) (maxL := 4) (ret := none) (by decide) rfl ?_
  intro p e s m args below meth c s₁ B hml hv
  obtain ⟨rfl, hsz, hP, hK, hD0, hN⟩ := hv
  have hx := B.exec
  have hb := B.bytes
  have hr := B.returns
  have hts : ∀ w ∈ wsL_law, w.before ([.ref h0, .int a1, .int a2, .int a3] : List Value).toArray s = true := fun w h => atoms_spec (ws := Cond.code yX8_setLaw cX8_setLaw 4 none :: wsL_law) B.pre w (List.mem_cons_of_mem _ h)
  have hown : s.vm.findClass RX8 = some m.cls := findClass_of_methodNamed B.named
  have hlocks := B.notSynchronized
  subst hsz
  have hD := hD0.self (sz := s.heap.size)
  generalize hAe : va_A [(h0, .inr (8, [.int v_tones, .int v_a, .int v_b, .int v_c, .int v_d, .int v_odds, .int v_lines, .ref v_signs, .int v_signCount, .ref v_posts, .int v_postCount, .ref v_acts]))] s.heap.size = A at hD ⊢
  have hA : ∀ q : Nat, s.heap.size ≤ q → A q := fun q h => by rw [← hAe]; exact Or.inr h
  have hS : va_S A s.heap s.heap [] := va_S.rf
  have hl := lv_entry ([.ref h0, .int a1, .int a2, .int a3]) (n := 4) (Nat.le_of_ble_eq_true rfl)
  rw [lg_entry_eq]
  generalize (lg_sl ([.ref h0, .int a1, .int a2, .int a3]) ++ List.replicate (4 - (lg_sl ([.ref h0, .int a1, .int a2, .int a3])).length) Slot.unset).toArray = ls at hl ⊢
  have hl : lv_has ls 4 [(0, .ref h0), (1, .int a1), (2, .int a2), (3, .int a3)] := hl
  have hP : va_P D vwCl [(h0, .inr (8, [.int v_tones, .int v_a, .int v_b, .int v_c, .int v_d, .int v_odds, .int v_lines, .ref v_signs, .int v_signCount, .ref v_posts, .int v_postCount, .ref v_acts]))] s.heap := hP
  refine lv_aload_n hx hb dX8_setLaw_0 rfl (lv_at hl 0 rfl) ?_
  refine lv_iload_n hx hb dX8_setLaw_1 rfl (lv_at hl 1 rfl) ?_
  refine va_put (D := D) (ci := 8) (v := .int a1) (ty := .int) (C := RX8) (T := TX8) (N := 12) hx hb hts inlX8 tyX8 tyX8_ok nmX8 hown hK hP hD hS 0 rfl rfl 1 (by decide) (hts _ (inr10 _ (List.mem_of_getElem? (i := 11) rfl))) (fun _ h9 => h9) rfl (by decide +kernel) rfl rfl (Nat.le_of_ble_eq_true rfl) dX8_setLaw_2 (fun H locs hP hD hS => ?_)
  have hP : va_P D vwCl [(h0, .inr (8, [.int v_tones, .int a1, .int v_b, .int v_c, .int v_d, .int v_odds, .int v_lines, .ref v_signs, .int v_signCount, .ref v_posts, .int v_postCount, .ref v_acts]))] H := hP
  have hD : va_D A [(h0, .inr (8, [.int v_tones, .int a1, .int v_b, .int v_c, .int v_d, .int v_odds, .int v_lines, .ref v_signs, .int v_signCount, .ref v_posts, .int v_postCount, .ref v_acts]))] := hD
  refine lv_aload_n hx hb dX8_setLaw_5 rfl (lv_at hl 0 rfl) ?_
  refine lv_iload_n hx hb dX8_setLaw_6 rfl (lv_at hl 2 rfl) ?_
  refine va_put (D := D) (ci := 8) (v := .int a2) (ty := .int) (C := RX8) (T := TX8) (N := 12) hx hb hts inlX8 tyX8 tyX8_ok nmX8 hown hK hP hD hS 0 rfl rfl 2 (by decide) (hts _ (inr10 _ (List.mem_of_getElem? (i := 12) rfl))) (fun _ h9 => h9) rfl (by decide +kernel) rfl rfl (Nat.le_of_ble_eq_true rfl) dX8_setLaw_7 (fun H locs hP hD hS => ?_)
  have hP : va_P D vwCl [(h0, .inr (8, [.int v_tones, .int a1, .int a2, .int v_c, .int v_d, .int v_odds, .int v_lines, .ref v_signs, .int v_signCount, .ref v_posts, .int v_postCount, .ref v_acts]))] H := hP
  have hD : va_D A [(h0, .inr (8, [.int v_tones, .int a1, .int a2, .int v_c, .int v_d, .int v_odds, .int v_lines, .ref v_signs, .int v_signCount, .ref v_posts, .int v_postCount, .ref v_acts]))] := hD
  refine lv_aload_n hx hb dX8_setLaw_10 rfl (lv_at hl 0 rfl) ?_
  refine lv_iload_n hx hb dX8_setLaw_11 rfl (lv_at hl 3 rfl) ?_
  refine va_put (D := D) (ci := 8) (v := .int a3) (ty := .int) (C := RX8) (T := TX8) (N := 12) hx hb hts inlX8 tyX8 tyX8_ok nmX8 hown hK hP hD hS 0 rfl rfl 3 (by decide) (hts _ (inr10 _ (List.mem_of_getElem? (i := 13) rfl))) (fun _ h9 => h9) rfl (by decide +kernel) rfl rfl (Nat.le_of_ble_eq_true rfl) dX8_setLaw_12 (fun H locs hP hD hS => ?_)
  have hP : va_P D vwCl [(h0, .inr (8, [.int v_tones, .int a1, .int a2, .int a3, .int v_d, .int v_odds, .int v_lines, .ref v_signs, .int v_signCount, .ref v_posts, .int v_postCount, .ref v_acts]))] H := hP
  have hD : va_D A [(h0, .inr (8, [.int v_tones, .int a1, .int a2, .int a3, .int v_d, .int v_odds, .int v_lines, .ref v_signs, .int v_signCount, .ref v_posts, .int v_postCount, .ref v_acts]))] := hD
  have hP9 := hP.sub (ws' := [(h0, .inr (8, [.int v_tones, .int a1, .int a2, .int a3, .int v_d, .int v_odds, .int v_lines, .ref v_signs, .int v_signCount, .ref v_posts, .int v_postCount, .ref v_acts]))]) [0] rfl
  have hD9 := hD.sub (ws' := [(h0, .inr (8, [.int v_tones, .int a1, .int a2, .int a3, .int v_d, .int v_odds, .int v_lines, .ref v_signs, .int v_signCount, .ref v_posts, .int v_postCount, .ref v_acts]))]) [0] (by decide) rfl
  exact W.vret hx hb hr (fun t ht hW => ⟨⟨(), rfl, trivial, by rw [ht]; exact hP9, va_K.moved hW.alike hK, hD9⟩, hS.F ht⟩) hS.2.2 dX8_setLaw_15

set_option maxHeartbeats 4000000 in
set_option maxRecDepth 100000 in
theorem k_Ac_clear (l : Launch) (D : va_G) (cB cI cJ cZ cS cT : ClassId) (sz : Nat) (h0 : Nat) (o1 : Nat) (o2 : Nat) (o3 : Nat) (sz_ : Int32) (f : Nat → Int32)  : Met l yX0_clear (Cond.code yX0_clear cX0_clear 1 none :: wsL_law) ({ frames := 1, cells := 0, slots := 0, locals := 23 }) (wrP D (tyL cB cI cJ cZ cS cT) [(h0, .inr (0, [.ref o1, .ref o2, .ref o3, .int sz_])), (o1, .inl (cI, 61, .inl f))] sz [.ref h0]) (va_Qv (fun x : (Nat → Int32) => True) (atW D (tyL cB cI cJ cZ cS cT) (va_A [(h0, .inr (0, [.ref o1, .ref o2, .ref o3, .int sz_])), (o1, .inl (cI, 61, .inl f))] sz) (fun x : (Nat → Int32) => [(h0, .inr (0, [.ref o1, .ref o2, .ref o3, .int 0])), (o1, .inl (cI, 61, .inl x))])) (va_A [(h0, .inr (0, [.ref o1, .ref o2, .ref o3, .int sz_])), (o1, .inl (cI, 61, .inl f))] sz)) 0 0 (va_A [(h0, .inr (0, [.ref o1, .ref o2, .ref o3, .int sz_])), (o1, .inl (cI, 61, .inl f))] sz) := by
  refine Met.ofW (cc := cX0_clear) (maxL := 1) (ret := none) (by decide) rfl ?_
  intro p e s m args below meth c s₁ B hml hv
  obtain ⟨rfl, hsz, hP, hK, hD0, hN⟩ := hv
  have hx := B.exec
  have hb := B.bytes
  have hr := B.returns
  have hts : ∀ w ∈ wsL_law, w.before ([.ref h0] : List Value).toArray s = true := fun w h => atoms_spec (ws := Cond.code yX0_clear cX0_clear 1 none :: wsL_law) B.pre w (List.mem_cons_of_mem _ h)
  have hown : s.vm.findClass RX0 = some m.cls := findClass_of_methodNamed B.named
  have hlocks := B.notSynchronized
  subst hsz
  have hD := hD0.self (sz := s.heap.size)
  generalize hAe : va_A [(h0, .inr (0, [.ref o1, .ref o2, .ref o3, .int sz_])), (o1, .inl (cI, 61, .inl f))] s.heap.size = A at hD ⊢
  have hA : ∀ q : Nat, s.heap.size ≤ q → A q := fun q h => by rw [← hAe]; exact Or.inr h
  have hS : va_S A s.heap s.heap [] := va_S.rf
  have hl := lv_entry ([.ref h0]) (n := 1) (Nat.le_of_ble_eq_true rfl)
  rw [lg_entry_eq]
  generalize (lg_sl ([.ref h0]) ++ List.replicate (1 - (lg_sl ([.ref h0])).length) Slot.unset).toArray = ls at hl ⊢
  have hl : lv_has ls 1 [(0, .ref h0)] := hl
  have hP : va_P D vwCl [(h0, .inr (0, [.ref o1, .ref o2, .ref o3, .int sz_])), (o1, .inl (cI, 61, .inl f))] s.heap := hP
  refine lv_aload_n hx hb dX0_clear_0 rfl (lv_at hl 0 rfl) ?_
  refine va_get (D := D) (ci := 0) (v := .ref o1) (C := RX0) (T := TX0) (N := 4) hx hb hts inlX0 hown hK hP 0 rfl rfl 0 (by decide) (hts _ (inr4 _ (List.mem_of_getElem? (i := 11) rfl))) (fun _ h9 => h9) rfl dX0_clear_1 ?_
  refine lv_iconst (v := (-1)) hx hb dX0_clear_4 (by decide) ?_
  refine wrSv (As := [.ref o1, .int (-1)]) (rest := []) (wr := [(h0, .inr (0, [.ref o1, .ref o2, .ref o3, .int sz_]))]) ⟨hx, hb, hml, hown, hts⟩ (k_fillI l D cB cI cJ cZ cS cT s.heap.size o1 61 f (-1) (by decide)) hP hD hS hA hK hN [1] [0] rfl rfl (by decide) (by decide) (by decide) (csX (n := 2) (inr4 _ (List.mem_of_getElem? (i := 14) rfl)) (inr4 _ (List.mem_of_getElem? (i := 15) rfl)) (inr4 _ (List.mem_of_getElem? (i := 16) rfl)) (inr4 _ (List.mem_of_getElem? (i := 17) rfl)) (by decide +kernel) hts rfl rfl ⟨Nat.le_of_ble_eq_true rfl, Nat.le_of_ble_eq_true rfl⟩) rfl hl.1 rfl (Nat.le_of_ble_eq_true rfl) ⟨Nat.le_of_ble_eq_true rfl, Nat.le_of_ble_eq_true rfl⟩ dX0_clear_5 (fun x9 H locs h_2 hP hD hS => ?_)
  obtain ⟨g_3, rfl⟩ : ∃ z, z = x9 := ⟨_, rfl⟩
  have hP : va_P D vwCl [(h0, .inr (0, [.ref o1, .ref o2, .ref o3, .int sz_])), (o1, .inl (cI, 61, .inl g_3))] H := hP
  have hD : va_D A [(h0, .inr (0, [.ref o1, .ref o2, .ref o3, .int sz_])), (o1, .inl (cI, 61, .inl g_3))] := hD
  refine lv_aload_n hx hb dX0_clear_8 rfl (lv_at hl 0 rfl) ?_
  refine lv_iconst (v := 0) hx hb dX0_clear_9 (by decide) ?_
  refine va_put (D := D) (ci := 0) (v := .int 0) (ty := .int) (C := RX0) (T := TX0) (N := 4) hx hb hts inlX0 tyX0 tyX0_ok nmX0 hown hK hP hD hS 0 rfl rfl 3 (by decide) (hts _ (inr10 _ (List.mem_of_getElem? (i := 18) rfl))) (fun _ h9 => h9) rfl (by decide +kernel) rfl rfl (Nat.le_of_ble_eq_true rfl) dX0_clear_10 (fun H locs hP hD hS => ?_)
  have hP : va_P D vwCl [(h0, .inr (0, [.ref o1, .ref o2, .ref o3, .int 0])), (o1, .inl (cI, 61, .inl g_3))] H := hP
  have hD : va_D A [(h0, .inr (0, [.ref o1, .ref o2, .ref o3, .int 0])), (o1, .inl (cI, 61, .inl g_3))] := hD
  have hP9 := hP.sub (ws' := [(h0, .inr (0, [.ref o1, .ref o2, .ref o3, .int 0])), (o1, .inl (cI, 61, .inl g_3))]) [0, 1] rfl
  have hD9 := hD.sub (ws' := [(h0, .inr (0, [.ref o1, .ref o2, .ref o3, .int 0])), (o1, .inl (cI, 61, .inl g_3))]) [0, 1] (by decide) rfl
  exact W.vret hx hb hr (fun t ht hW => ⟨⟨g_3, rfl, trivial, by rw [ht]; exact hP9, va_K.moved hW.alike hK, hD9⟩, hS.F ht⟩) hS.2.2 dX0_clear_13

set_option maxHeartbeats 4000000 in
set_option maxRecDepth 100000 in
theorem k_St_clear (l : Launch) (D : va_G) (cB cI cJ cZ cS cT : ClassId) (sz : Nat) (h0 : Nat) (v_tones : Int32) (v_a : Int32) (v_b : Int32) (v_c : Int32) (v_d : Int32) (v_odds : Int32) (v_lines : Int32) (v_signs : Nat) (v_signCount : Int32) (v_posts : Nat) (v_postCount : Int32) (v_acts : Nat) (o1 : Nat) (o2 : Nat) (o3 : Nat) (sz_ : Int32) (f : Nat → Int32)  : Met l yX8_clear (Cond.code yX8_clear cX8_clear 1 none :: wsL_law) ({ frames := 2, cells := 0, slots := 0, locals := 43 }) (wrP D (tyL cB cI cJ cZ cS cT) [(h0, .inr (8, [.int v_tones, .int v_a, .int v_b, .int v_c, .int v_d, .int v_odds, .int v_lines, .ref v_signs, .int v_signCount, .ref v_posts, .int v_postCount, .ref v_acts])), (v_acts, .inr (0, [.ref o1, .ref o2, .ref o3, .int sz_])), (o1, .inl (cI, 61, .inl f))] sz [.ref h0]) (va_Qv (fun x : (Nat → Int32) => True) (atW D (tyL cB cI cJ cZ cS cT) (va_A [(h0, .inr (8, [.int v_tones, .int v_a, .int v_b, .int v_c, .int v_d, .int v_odds, .int v_lines, .ref v_signs, .int v_signCount, .ref v_posts, .int v_postCount, .ref v_acts])), (v_acts, .inr (0, [.ref o1, .ref o2, .ref o3, .int sz_])), (o1, .inl (cI, 61, .inl f))] sz) (fun x : (Nat → Int32) => [(h0, .inr (8, [.int 0, .int 0, .int 0, .int 0, .int 0, .int 0, .int 0, .ref v_signs, .int 0, .ref v_posts, .int 0, .ref v_acts])), (v_acts, .inr (0, [.ref o1, .ref o2, .ref o3, .int 0])), (o1, .inl (cI, 61, .inl x))])) (va_A [(h0, .inr (8, [.int v_tones, .int v_a, .int v_b, .int v_c, .int v_d, .int v_odds, .int v_lines, .ref v_signs, .int v_signCount, .ref v_posts, .int v_postCount, .ref v_acts])), (v_acts, .inr (0, [.ref o1, .ref o2, .ref o3, .int sz_])), (o1, .inl (cI, 61, .inl f))] sz)) 0 0 (va_A [(h0, .inr (8, [.int v_tones, .int v_a, .int v_b, .int v_c, .int v_d, .int v_odds, .int v_lines, .ref v_signs, .int v_signCount, .ref v_posts, .int v_postCount, .ref v_acts])), (v_acts, .inr (0, [.ref o1, .ref o2, .ref o3, .int sz_])), (o1, .inl (cI, 61, .inl f))] sz) := by
  refine Met.ofW (cc := cX8_clear) (maxL := 1) (ret := none) (by decide) rfl ?_
  intro p e s m args below meth c s₁ B hml hv
  obtain ⟨rfl, hsz, hP, hK, hD0, hN⟩ := hv
  have hx := B.exec
  have hb := B.bytes
  have hr := B.returns
  have hts : ∀ w ∈ wsL_law, w.before ([.ref h0] : List Value).toArray s = true := fun w h => atoms_spec (ws := Cond.code yX8_clear cX8_clear 1 none :: wsL_law) B.pre w (List.mem_cons_of_mem _ h)
  have hown : s.vm.findClass RX8 = some m.cls := findClass_of_methodNamed B.named
  have hlocks := B.notSynchronized
  subst hsz
  have hD := hD0.self (sz := s.heap.size)
  generalize hAe : va_A [(h0, .inr (8, [.int v_tones, .int v_a, .int v_b, .int v_c, .int v_d, .int v_odds, .int v_lines, .ref v_signs, .int v_signCount, .ref v_posts, .int v_postCount, .ref v_acts])), (v_acts, .inr (0, [.ref o1, .ref o2, .ref o3, .int sz_])), (o1, .inl (cI, 61, .inl f))] s.heap.size = A at hD ⊢
  have hA : ∀ q : Nat, s.heap.size ≤ q → A q := fun q h => by rw [← hAe]; exact Or.inr h
  have hS : va_S A s.heap s.heap [] := va_S.rf
  have hl := lv_entry ([.ref h0]) (n := 1) (Nat.le_of_ble_eq_true rfl)
  rw [lg_entry_eq]
  generalize (lg_sl ([.ref h0]) ++ List.replicate (1 - (lg_sl ([.ref h0])).length) Slot.unset).toArray = ls at hl ⊢
  have hl : lv_has ls 1 [(0, .ref h0)] := hl
  have hP : va_P D vwCl [(h0, .inr (8, [.int v_tones, .int v_a, .int v_b, .int v_c, .int v_d, .int v_odds, .int v_lines, .ref v_signs, .int v_signCount, .ref v_posts, .int v_postCount, .ref v_acts])), (v_acts, .inr (0, [.ref o1, .ref o2, .ref o3, .int sz_])), (o1, .inl (cI, 61, .inl f))] s.heap := hP
  refine lv_aload_n hx hb dX8_clear_0 rfl (lv_at hl 0 rfl) ?_
  refine lv_iconst (v := 0) hx hb dX8_clear_1 (by decide) ?_
  refine lv_iconst (v := 0) hx hb dX8_clear_2 (by decide) ?_
  refine lv_iconst (v := 0) hx hb dX8_clear_3 (by decide) ?_
  refine wrVv (As := [.int 0, .int 0, .int 0]) (rest := []) (wr := [(v_acts, .inr (0, [.ref o1, .ref o2, .ref o3, .int sz_])), (o1, .inl (cI, 61, .inl f))]) ⟨hx, hb, hml, hown, hts⟩ (k_setHead l D cB cI cJ cZ cS cT s.heap.size h0 v_tones v_a v_b v_c v_d v_odds v_lines v_signs v_signCount v_posts v_postCount v_acts 0 0 0 ) hP hD hS hA hK hN [0] [1, 2] rfl rfl (by decide) (by decide) (by decide) (cvB (n := 3) (inr10 _ (List.mem_of_getElem? (i := 0) rfl)) (inr10 _ (List.mem_of_getElem? (i := 1) rfl)) (inr10 _ (List.mem_of_getElem? (i := 2) rfl)) (inr1 _ (List.mem_of_getElem? (i := 23) rfl)) (inr10 _ (List.mem_of_getElem? (i := 3) rfl)) (by decide +kernel) hts rfl rfl ⟨Nat.le_of_ble_eq_true rfl, Nat.le_of_ble_eq_true rfl⟩) 0 8 rfl rfl rfl rfl hl.1 rfl (Nat.le_of_ble_eq_true rfl) ⟨Nat.le_of_ble_eq_true rfl, Nat.le_of_ble_eq_true rfl⟩ dX8_clear_4 (fun x9 H locs h_2 hP hD hS => ?_)
  have hP : va_P D vwCl [(v_acts, .inr (0, [.ref o1, .ref o2, .ref o3, .int sz_])), (o1, .inl (cI, 61, .inl f)), (h0, .inr (8, [.int 0, .int v_a, .int v_b, .int v_c, .int 0, .int 0, .int v_lines, .ref v_signs, .int v_signCount, .ref v_posts, .int v_postCount, .ref v_acts]))] H := hP
  have hD : va_D A [(v_acts, .inr (0, [.ref o1, .ref o2, .ref o3, .int sz_])), (o1, .inl (cI, 61, .inl f)), (h0, .inr (8, [.int 0, .int v_a, .int v_b, .int v_c, .int 0, .int 0, .int v_lines, .ref v_signs, .int v_signCount, .ref v_posts, .int v_postCount, .ref v_acts]))] := hD
  refine lv_aload_n hx hb dX8_clear_7 rfl (lv_at hl 0 rfl) ?_
  refine lv_iconst (v := 0) hx hb dX8_clear_8 (by decide) ?_
  refine lv_iconst (v := 0) hx hb dX8_clear_9 (by decide) ?_
  refine lv_iconst (v := 0) hx hb dX8_clear_10 (by decide) ?_
  refine wrVv (As := [.int 0, .int 0, .int 0]) (rest := []) (wr := [(v_acts, .inr (0, [.ref o1, .ref o2, .ref o3, .int sz_])), (o1, .inl (cI, 61, .inl f))]) ⟨hx, hb, hml, hown, hts⟩ (k_setLaw l D cB cI cJ cZ cS cT H.size h0 0 v_a v_b v_c 0 0 v_lines v_signs v_signCount v_posts v_postCount v_acts 0 0 0 ) hP hD hS hA hK hN [2] [0, 1] rfl rfl (by decide) (by decide) (by decide) (cvB (n := 3) (inr10 _ (List.mem_of_getElem? (i := 7) rfl)) (inr10 _ (List.mem_of_getElem? (i := 8) rfl)) (inr10 _ (List.mem_of_getElem? (i := 9) rfl)) (inr1 _ (List.mem_of_getElem? (i := 23) rfl)) (inr10 _ (List.mem_of_getElem? (i := 10) rfl)) (by decide +kernel) hts rfl rfl ⟨Nat.le_of_ble_eq_true rfl, Nat.le_of_ble_eq_true rfl⟩) 0 8 rfl rfl rfl rfl hl.1 rfl (Nat.le_of_ble_eq_true rfl) ⟨Nat.le_of_ble_eq_true rfl, Nat.le_of_ble_eq_true rfl⟩ dX8_clear_11 (fun x9 H locs h_4 hP hD hS => ?_)
  have hP : va_P D vwCl [(v_acts, .inr (0, [.ref o1, .ref o2, .ref o3, .int sz_])), (o1, .inl (cI, 61, .inl f)), (h0, .inr (8, [.int 0, .int 0, .int 0, .int 0, .int 0, .int 0, .int v_lines, .ref v_signs, .int v_signCount, .ref v_posts, .int v_postCount, .ref v_acts]))] H := hP
  have hD : va_D A [(v_acts, .inr (0, [.ref o1, .ref o2, .ref o3, .int sz_])), (o1, .inl (cI, 61, .inl f)), (h0, .inr (8, [.int 0, .int 0, .int 0, .int 0, .int 0, .int 0, .int v_lines, .ref v_signs, .int v_signCount, .ref v_posts, .int v_postCount, .ref v_acts]))] := hD
  refine lv_aload_n hx hb dX8_clear_14 rfl (lv_at hl 0 rfl) ?_
  refine lv_iconst (v := 0) hx hb dX8_clear_15 (by decide) ?_
  refine va_put (D := D) (ci := 8) (v := .int 0) (ty := .int) (C := RX8) (T := TX8) (N := 12) hx hb hts inlX8 tyX8 tyX8_ok nmX8 hown hK hP hD hS 2 rfl rfl 6 (by decide) (hts _ (inr9 _ (List.mem_of_getElem? (i := 21) rfl))) (fun _ h9 => h9) rfl (by decide +kernel) rfl rfl (Nat.le_of_ble_eq_true rfl) dX8_clear_16 (fun H locs hP hD hS => ?_)
  have hP : va_P D vwCl [(v_acts, .inr (0, [.ref o1, .ref o2, .ref o3, .int sz_])), (o1, .inl (cI, 61, .inl f)), (h0, .inr (8, [.int 0, .int 0, .int 0, .int 0, .int 0, .int 0, .int 0, .ref v_signs, .int v_signCount, .ref v_posts, .int v_postCount, .ref v_acts]))] H := hP
  have hD : va_D A [(v_acts, .inr (0, [.ref o1, .ref o2, .ref o3, .int sz_])), (o1, .inl (cI, 61, .inl f)), (h0, .inr (8, [.int 0, .int 0, .int 0, .int 0, .int 0, .int 0, .int 0, .ref v_signs, .int v_signCount, .ref v_posts, .int v_postCount, .ref v_acts]))] := hD
  refine lv_aload_n hx hb dX8_clear_19 rfl (lv_at hl 0 rfl) ?_
  refine lv_iconst (v := 0) hx hb dX8_clear_20 (by decide) ?_
  refine va_put (D := D) (ci := 8) (v := .int 0) (ty := .int) (C := RX8) (T := TX8) (N := 12) hx hb hts inlX8 tyX8 tyX8_ok nmX8 hown hK hP hD hS 2 rfl rfl 8 (by decide) (hts _ (inr9 _ (List.mem_of_getElem? (i := 22) rfl))) (fun _ h9 => h9) rfl (by decide +kernel) rfl rfl (Nat.le_of_ble_eq_true rfl) dX8_clear_21 (fun H locs hP hD hS => ?_)
  have hP : va_P D vwCl [(v_acts, .inr (0, [.ref o1, .ref o2, .ref o3, .int sz_])), (o1, .inl (cI, 61, .inl f)), (h0, .inr (8, [.int 0, .int 0, .int 0, .int 0, .int 0, .int 0, .int 0, .ref v_signs, .int 0, .ref v_posts, .int v_postCount, .ref v_acts]))] H := hP
  have hD : va_D A [(v_acts, .inr (0, [.ref o1, .ref o2, .ref o3, .int sz_])), (o1, .inl (cI, 61, .inl f)), (h0, .inr (8, [.int 0, .int 0, .int 0, .int 0, .int 0, .int 0, .int 0, .ref v_signs, .int 0, .ref v_posts, .int v_postCount, .ref v_acts]))] := hD
  refine lv_aload_n hx hb dX8_clear_24 rfl (lv_at hl 0 rfl) ?_
  refine lv_iconst (v := 0) hx hb dX8_clear_25 (by decide) ?_
  refine va_put (D := D) (ci := 8) (v := .int 0) (ty := .int) (C := RX8) (T := TX8) (N := 12) hx hb hts inlX8 tyX8 tyX8_ok nmX8 hown hK hP hD hS 2 rfl rfl 10 (by decide) (hts _ (inr9 _ (List.mem_of_getElem? (i := 23) rfl))) (fun _ h9 => h9) rfl (by decide +kernel) rfl rfl (Nat.le_of_ble_eq_true rfl) dX8_clear_26 (fun H locs hP hD hS => ?_)
  have hP : va_P D vwCl [(v_acts, .inr (0, [.ref o1, .ref o2, .ref o3, .int sz_])), (o1, .inl (cI, 61, .inl f)), (h0, .inr (8, [.int 0, .int 0, .int 0, .int 0, .int 0, .int 0, .int 0, .ref v_signs, .int 0, .ref v_posts, .int 0, .ref v_acts]))] H := hP
  have hD : va_D A [(v_acts, .inr (0, [.ref o1, .ref o2, .ref o3, .int sz_])), (o1, .inl (cI, 61, .inl f)), (h0, .inr (8, [.int 0, .int 0, .int 0, .int 0, .int 0, .int 0, .int 0, .ref v_signs, .int 0, .ref v_posts, .int 0, .ref v_acts]))] := hD
  refine lv_aload_n hx hb dX8_clear_29 rfl (lv_at hl 0 rfl) ?_
  refine va_get (D := D) (ci := 8) (v := .ref v_acts) (C := RX8) (T := TX8) (N := 12) hx hb hts inlX8 hown hK hP 2 rfl rfl 11 (by decide) (hts _ (inr4 _ (List.mem_of_getElem? (i := 6) rfl))) (fun _ h9 => h9) rfl dX8_clear_30 ?_
  refine wrVv (As := []) (rest := []) (wr := [(h0, .inr (8, [.int 0, .int 0, .int 0, .int 0, .int 0, .int 0, .int 0, .ref v_signs, .int 0, .ref v_posts, .int 0, .ref v_acts]))]) ⟨hx, hb, hml, hown, hts⟩ (k_Ac_clear l D cB cI cJ cZ cS cT H.size v_acts o1 o2 o3 sz_ f ) hP hD hS hA hK hN [0, 1] [2] rfl rfl (by decide) (by decide) (by decide) (cvB (n := 0) (inr10 _ (List.mem_of_getElem? (i := 14) rfl)) (inr10 _ (List.mem_of_getElem? (i := 15) rfl)) (inr10 _ (List.mem_of_getElem? (i := 16) rfl)) (inr4 _ (List.mem_of_getElem? (i := 5) rfl)) (inr10 _ (List.mem_of_getElem? (i := 17) rfl)) (by decide +kernel) hts rfl rfl ⟨Nat.le_of_ble_eq_true rfl, Nat.le_of_ble_eq_true rfl⟩) 0 0 rfl rfl rfl rfl hl.1 rfl (Nat.le_of_ble_eq_true rfl) ⟨Nat.le_of_ble_eq_true rfl, Nat.le_of_ble_eq_true rfl⟩ dX8_clear_33 (fun x9 H locs h_6 hP hD hS => ?_)
  obtain ⟨g_7, rfl⟩ : ∃ z, z = x9 := ⟨_, rfl⟩
  have hP : va_P D vwCl [(h0, .inr (8, [.int 0, .int 0, .int 0, .int 0, .int 0, .int 0, .int 0, .ref v_signs, .int 0, .ref v_posts, .int 0, .ref v_acts])), (v_acts, .inr (0, [.ref o1, .ref o2, .ref o3, .int 0])), (o1, .inl (cI, 61, .inl g_7))] H := hP
  have hD : va_D A [(h0, .inr (8, [.int 0, .int 0, .int 0, .int 0, .int 0, .int 0, .int 0, .ref v_signs, .int 0, .ref v_posts, .int 0, .ref v_acts])), (v_acts, .inr (0, [.ref o1, .ref o2, .ref o3, .int 0])), (o1, .inl (cI, 61, .inl g_7))] := hD
  have hP9 := hP.sub (ws' := [(h0, .inr (8, [.int 0, .int 0, .int 0, .int 0, .int 0, .int 0, .int 0, .ref v_signs, .int 0, .ref v_posts, .int 0, .ref v_acts])), (v_acts, .inr (0, [.ref o1, .ref o2, .ref o3, .int 0])), (o1, .inl (cI, 61, .inl g_7))]) [0, 1, 2] rfl
  have hD9 := hD.sub (ws' := [(h0, .inr (8, [.int 0, .int 0, .int 0, .int 0, .int 0, .int 0, .int 0, .ref v_signs, .int 0, .ref v_posts, .int 0, .ref v_acts])), (v_acts, .inr (0, [.ref o1, .ref o2, .ref o3, .int 0])), (o1, .inl (cI, 61, .inl g_7))]) [0, 1, 2] (by decide) rfl
  exact W.vret hx hb hr (fun t ht hW => ⟨⟨g_7, rfl, trivial, by rw [ht]; exact hP9, va_K.moved hW.alike hK, hD9⟩, hS.F ht⟩) hS.2.2 dX8_clear_36

set_option maxHeartbeats 4000000 in
set_option maxRecDepth 100000 in
theorem k_Ac_copy (l : Launch) (D : va_G) (cB cI cJ cZ cS cT : ClassId) (sz : Nat) (h0 : Nat) (h1 : Nat) (e_o1 : Nat) (e_o2 : Nat) (e_o3 : Nat) (e_sz : Int32) (e_f1 : Nat → Int32) (e_f2 : Nat → Int32) (e_f3 : Nat → Int32) (s_o1 : Nat) (s_o2 : Nat) (s_o3 : Nat) (s_sz : Int32) (s_f1 : Nat → Int32) (s_f2 : Nat → Int32) (s_f3 : Nat → Int32)  : Met l yX0_copyFrom (Cond.code yX0_copyFrom cX0_copyFrom 2 none :: wsL_law) ({ frames := 1, cells := 0, slots := 0, locals := 40 }) (wrP D (tyL cB cI cJ cZ cS cT) [(h0, .inr (0, [.ref e_o1, .ref e_o2, .ref e_o3, .int e_sz])), (e_o1, .inl (cI, 61, .inl e_f1)), (e_o2, .inl (cI, 30, .inl e_f2)), (e_o3, .inl (cI, 30, .inl e_f3)), (h1, .inr (0, [.ref s_o1, .ref s_o2, .ref s_o3, .int s_sz])), (s_o1, .inl (cI, 61, .inl s_f1)), (s_o2, .inl (cI, 30, .inl s_f2)), (s_o3, .inl (cI, 30, .inl s_f3))] sz [.ref h0, .ref h1]) (va_Qv (fun x : (Nat → Int32) × (Nat → Int32) × (Nat → Int32) => True) (atW D (tyL cB cI cJ cZ cS cT) (va_A [(h0, .inr (0, [.ref e_o1, .ref e_o2, .ref e_o3, .int e_sz])), (e_o1, .inl (cI, 61, .inl e_f1)), (e_o2, .inl (cI, 30, .inl e_f2)), (e_o3, .inl (cI, 30, .inl e_f3)), (h1, .inr (0, [.ref s_o1, .ref s_o2, .ref s_o3, .int s_sz])), (s_o1, .inl (cI, 61, .inl s_f1)), (s_o2, .inl (cI, 30, .inl s_f2)), (s_o3, .inl (cI, 30, .inl s_f3))] sz) (fun x : (Nat → Int32) × (Nat → Int32) × (Nat → Int32) => [(h0, .inr (0, [.ref e_o1, .ref e_o2, .ref e_o3, .int s_sz])), (e_o1, .inl (cI, 61, .inl x.1)), (e_o2, .inl (cI, 30, .inl x.2.1)), (e_o3, .inl (cI, 30, .inl x.2.2)), (h1, .inr (0, [.ref s_o1, .ref s_o2, .ref s_o3, .int s_sz])), (s_o1, .inl (cI, 61, .inl s_f1)), (s_o2, .inl (cI, 30, .inl s_f2)), (s_o3, .inl (cI, 30, .inl s_f3))])) (va_A [(h0, .inr (0, [.ref e_o1, .ref e_o2, .ref e_o3, .int e_sz])), (e_o1, .inl (cI, 61, .inl e_f1)), (e_o2, .inl (cI, 30, .inl e_f2)), (e_o3, .inl (cI, 30, .inl e_f3)), (h1, .inr (0, [.ref s_o1, .ref s_o2, .ref s_o3, .int s_sz])), (s_o1, .inl (cI, 61, .inl s_f1)), (s_o2, .inl (cI, 30, .inl s_f2)), (s_o3, .inl (cI, 30, .inl s_f3))] sz)) 0 0 (va_A [(h0, .inr (0, [.ref e_o1, .ref e_o2, .ref e_o3, .int e_sz])), (e_o1, .inl (cI, 61, .inl e_f1)), (e_o2, .inl (cI, 30, .inl e_f2)), (e_o3, .inl (cI, 30, .inl e_f3)), (h1, .inr (0, [.ref s_o1, .ref s_o2, .ref s_o3, .int s_sz])), (s_o1, .inl (cI, 61, .inl s_f1)), (s_o2, .inl (cI, 30, .inl s_f2)), (s_o3, .inl (cI, 30, .inl s_f3))] sz) := by
  refine Met.ofW (cc := cX0_copyFrom) (maxL := 2) (ret := none) (by decide) rfl ?_
  intro p e s m args below meth c s₁ B hml hv
  obtain ⟨rfl, hsz, hP, hK, hD0, hN⟩ := hv
  have hx := B.exec
  have hb := B.bytes
  have hr := B.returns
  have hts : ∀ w ∈ wsL_law, w.before ([.ref h0, .ref h1] : List Value).toArray s = true := fun w h => atoms_spec (ws := Cond.code yX0_copyFrom cX0_copyFrom 2 none :: wsL_law) B.pre w (List.mem_cons_of_mem _ h)
  have hown : s.vm.findClass RX0 = some m.cls := findClass_of_methodNamed B.named
  have hlocks := B.notSynchronized
  subst hsz
  have hD := hD0.self (sz := s.heap.size)
  generalize hAe : va_A [(h0, .inr (0, [.ref e_o1, .ref e_o2, .ref e_o3, .int e_sz])), (e_o1, .inl (cI, 61, .inl e_f1)), (e_o2, .inl (cI, 30, .inl e_f2)), (e_o3, .inl (cI, 30, .inl e_f3)), (h1, .inr (0, [.ref s_o1, .ref s_o2, .ref s_o3, .int s_sz])), (s_o1, .inl (cI, 61, .inl s_f1)), (s_o2, .inl (cI, 30, .inl s_f2)), (s_o3, .inl (cI, 30, .inl s_f3))] s.heap.size = A at hD ⊢
  have hA : ∀ q : Nat, s.heap.size ≤ q → A q := fun q h => by rw [← hAe]; exact Or.inr h
  have hS : va_S A s.heap s.heap [] := va_S.rf
  have hl := lv_entry ([.ref h0, .ref h1]) (n := 2) (Nat.le_of_ble_eq_true rfl)
  rw [lg_entry_eq]
  generalize (lg_sl ([.ref h0, .ref h1]) ++ List.replicate (2 - (lg_sl ([.ref h0, .ref h1])).length) Slot.unset).toArray = ls at hl ⊢
  have hl : lv_has ls 2 [(0, .ref h0), (1, .ref h1)] := hl
  have hP : va_P D vwCl [(h0, .inr (0, [.ref e_o1, .ref e_o2, .ref e_o3, .int e_sz])), (e_o1, .inl (cI, 61, .inl e_f1)), (e_o2, .inl (cI, 30, .inl e_f2)), (e_o3, .inl (cI, 30, .inl e_f3)), (h1, .inr (0, [.ref s_o1, .ref s_o2, .ref s_o3, .int s_sz])), (s_o1, .inl (cI, 61, .inl s_f1)), (s_o2, .inl (cI, 30, .inl s_f2)), (s_o3, .inl (cI, 30, .inl s_f3))] s.heap := hP
  refine lv_aload_n hx hb dX0_copyFrom_0 rfl (lv_at hl 1 rfl) ?_
  refine va_get (D := D) (ci := 0) (v := .ref s_o1) (C := RX0) (T := TX0) (N := 4) hx hb hts inlX0 hown hK hP 4 rfl rfl 0 (by decide) (hts _ (inr4 _ (List.mem_of_getElem? (i := 11) rfl))) (fun _ h9 => h9) rfl dX0_copyFrom_1 ?_
  refine lv_iconst (v := 0) hx hb dX0_copyFrom_4 (by decide) ?_
  refine lv_aload_n hx hb dX0_copyFrom_5 rfl (lv_at hl 0 rfl) ?_
  refine va_get (D := D) (ci := 0) (v := .ref e_o1) (C := RX0) (T := TX0) (N := 4) hx hb hts inlX0 hown hK hP 0 rfl rfl 0 (by decide) (hts _ (inr4 _ (List.mem_of_getElem? (i := 11) rfl))) (fun _ h9 => h9) rfl dX0_copyFrom_6 ?_
  refine lv_iconst (v := 0) hx hb dX0_copyFrom_9 (by decide) ?_
  refine lv_bipush (v := 61) hx hb dX0_copyFrom_10 (by decide) ?_
  refine va_copyi (rest := []) hx hb (by rw [hml]; exact hl.1.symm) hown (hts _ (inr17 _ (List.mem_of_getElem? (i := 13) rfl))) (hts _ (inr17 _ (List.mem_of_getElem? (i := 6) rfl))) (hts _ (inr17 _ (List.mem_of_getElem? (i := 7) rfl))) (hts _ (inr17 _ (List.mem_of_getElem? (i := 8) rfl))) hK hP hD hS 5 1 1 1 rfl rfl rfl rfl rfl (by decide) (by decide) (by decide) (by decide) (by decide) (fun _ _ => rfl) (Nat.le_of_ble_eq_true rfl) (Nat.le_of_ble_eq_true rfl) dX0_copyFrom_12 (fun H locs hP hD hS => ?_)
  have hP : va_P D vwCl [(h0, .inr (0, [.ref e_o1, .ref e_o2, .ref e_o3, .int e_sz])), (e_o1, .inl (cI, 61, .inl (va_cpy s_f1 e_f1 (0 : Int32).toNatClampNeg (0 : Int32).toNatClampNeg (61 : Int32).toNatClampNeg))), (e_o2, .inl (cI, 30, .inl e_f2)), (e_o3, .inl (cI, 30, .inl e_f3)), (h1, .inr (0, [.ref s_o1, .ref s_o2, .ref s_o3, .int s_sz])), (s_o1, .inl (cI, 61, .inl s_f1)), (s_o2, .inl (cI, 30, .inl s_f2)), (s_o3, .inl (cI, 30, .inl s_f3))] H := hP
  have hD : va_D A [(h0, .inr (0, [.ref e_o1, .ref e_o2, .ref e_o3, .int e_sz])), (e_o1, .inl (cI, 61, .inl (va_cpy s_f1 e_f1 (0 : Int32).toNatClampNeg (0 : Int32).toNatClampNeg (61 : Int32).toNatClampNeg))), (e_o2, .inl (cI, 30, .inl e_f2)), (e_o3, .inl (cI, 30, .inl e_f3)), (h1, .inr (0, [.ref s_o1, .ref s_o2, .ref s_o3, .int s_sz])), (s_o1, .inl (cI, 61, .inl s_f1)), (s_o2, .inl (cI, 30, .inl s_f2)), (s_o3, .inl (cI, 30, .inl s_f3))] := hD
  obtain ⟨g_1, eg_1⟩ : ∃ v9 : Nat → Int32, (va_cpy s_f1 e_f1 (0 : Int32).toNatClampNeg (0 : Int32).toNatClampNeg (61 : Int32).toNatClampNeg) = v9 := ⟨_, rfl⟩
  rw [eg_1] at hP hD
  have hP : va_P D vwCl [(h0, .inr (0, [.ref e_o1, .ref e_o2, .ref e_o3, .int e_sz])), (e_o1, .inl (cI, 61, .inl g_1)), (e_o2, .inl (cI, 30, .inl e_f2)), (e_o3, .inl (cI, 30, .inl e_f3)), (h1, .inr (0, [.ref s_o1, .ref s_o2, .ref s_o3, .int s_sz])), (s_o1, .inl (cI, 61, .inl s_f1)), (s_o2, .inl (cI, 30, .inl s_f2)), (s_o3, .inl (cI, 30, .inl s_f3))] H := hP
  have hD : va_D A [(h0, .inr (0, [.ref e_o1, .ref e_o2, .ref e_o3, .int e_sz])), (e_o1, .inl (cI, 61, .inl g_1)), (e_o2, .inl (cI, 30, .inl e_f2)), (e_o3, .inl (cI, 30, .inl e_f3)), (h1, .inr (0, [.ref s_o1, .ref s_o2, .ref s_o3, .int s_sz])), (s_o1, .inl (cI, 61, .inl s_f1)), (s_o2, .inl (cI, 30, .inl s_f2)), (s_o3, .inl (cI, 30, .inl s_f3))] := hD
  refine lv_aload_n hx hb dX0_copyFrom_15 rfl (lv_at hl 1 rfl) ?_
  refine va_get (D := D) (ci := 0) (v := .ref s_o2) (C := RX0) (T := TX0) (N := 4) hx hb hts inlX0 hown hK hP 4 rfl rfl 1 (by decide) (hts _ (inr4 _ (List.mem_of_getElem? (i := 12) rfl))) (fun _ h9 => h9) rfl dX0_copyFrom_16 ?_
  refine lv_iconst (v := 0) hx hb dX0_copyFrom_19 (by decide) ?_
  refine lv_aload_n hx hb dX0_copyFrom_20 rfl (lv_at hl 0 rfl) ?_
  refine va_get (D := D) (ci := 0) (v := .ref e_o2) (C := RX0) (T := TX0) (N := 4) hx hb hts inlX0 hown hK hP 0 rfl rfl 1 (by decide) (hts _ (inr4 _ (List.mem_of_getElem? (i := 12) rfl))) (fun _ h9 => h9) rfl dX0_copyFrom_21 ?_
  refine lv_iconst (v := 0) hx hb dX0_copyFrom_24 (by decide) ?_
  refine lv_bipush (v := 30) hx hb dX0_copyFrom_25 (by decide) ?_
  refine va_copyi (rest := []) hx hb (by rw [hml]; exact hl.1.symm) hown (hts _ (inr17 _ (List.mem_of_getElem? (i := 13) rfl))) (hts _ (inr17 _ (List.mem_of_getElem? (i := 6) rfl))) (hts _ (inr17 _ (List.mem_of_getElem? (i := 7) rfl))) (hts _ (inr17 _ (List.mem_of_getElem? (i := 8) rfl))) hK hP hD hS 6 2 1 1 rfl rfl rfl rfl rfl (by decide) (by decide) (by decide) (by decide) (by decide) (fun _ _ => rfl) (Nat.le_of_ble_eq_true rfl) (Nat.le_of_ble_eq_true rfl) dX0_copyFrom_27 (fun H locs hP hD hS => ?_)
  have hP : va_P D vwCl [(h0, .inr (0, [.ref e_o1, .ref e_o2, .ref e_o3, .int e_sz])), (e_o1, .inl (cI, 61, .inl g_1)), (e_o2, .inl (cI, 30, .inl (va_cpy s_f2 e_f2 (0 : Int32).toNatClampNeg (0 : Int32).toNatClampNeg (30 : Int32).toNatClampNeg))), (e_o3, .inl (cI, 30, .inl e_f3)), (h1, .inr (0, [.ref s_o1, .ref s_o2, .ref s_o3, .int s_sz])), (s_o1, .inl (cI, 61, .inl s_f1)), (s_o2, .inl (cI, 30, .inl s_f2)), (s_o3, .inl (cI, 30, .inl s_f3))] H := hP
  have hD : va_D A [(h0, .inr (0, [.ref e_o1, .ref e_o2, .ref e_o3, .int e_sz])), (e_o1, .inl (cI, 61, .inl g_1)), (e_o2, .inl (cI, 30, .inl (va_cpy s_f2 e_f2 (0 : Int32).toNatClampNeg (0 : Int32).toNatClampNeg (30 : Int32).toNatClampNeg))), (e_o3, .inl (cI, 30, .inl e_f3)), (h1, .inr (0, [.ref s_o1, .ref s_o2, .ref s_o3, .int s_sz])), (s_o1, .inl (cI, 61, .inl s_f1)), (s_o2, .inl (cI, 30, .inl s_f2)), (s_o3, .inl (cI, 30, .inl s_f3))] := hD
  obtain ⟨g_2, eg_2⟩ : ∃ v9 : Nat → Int32, (va_cpy s_f2 e_f2 (0 : Int32).toNatClampNeg (0 : Int32).toNatClampNeg (30 : Int32).toNatClampNeg) = v9 := ⟨_, rfl⟩
  rw [eg_2] at hP hD
  have hP : va_P D vwCl [(h0, .inr (0, [.ref e_o1, .ref e_o2, .ref e_o3, .int e_sz])), (e_o1, .inl (cI, 61, .inl g_1)), (e_o2, .inl (cI, 30, .inl g_2)), (e_o3, .inl (cI, 30, .inl e_f3)), (h1, .inr (0, [.ref s_o1, .ref s_o2, .ref s_o3, .int s_sz])), (s_o1, .inl (cI, 61, .inl s_f1)), (s_o2, .inl (cI, 30, .inl s_f2)), (s_o3, .inl (cI, 30, .inl s_f3))] H := hP
  have hD : va_D A [(h0, .inr (0, [.ref e_o1, .ref e_o2, .ref e_o3, .int e_sz])), (e_o1, .inl (cI, 61, .inl g_1)), (e_o2, .inl (cI, 30, .inl g_2)), (e_o3, .inl (cI, 30, .inl e_f3)), (h1, .inr (0, [.ref s_o1, .ref s_o2, .ref s_o3, .int s_sz])), (s_o1, .inl (cI, 61, .inl s_f1)), (s_o2, .inl (cI, 30, .inl s_f2)), (s_o3, .inl (cI, 30, .inl s_f3))] := hD
  refine lv_aload_n hx hb dX0_copyFrom_30 rfl (lv_at hl 1 rfl) ?_
  refine va_get (D := D) (ci := 0) (v := .ref s_o3) (C := RX0) (T := TX0) (N := 4) hx hb hts inlX0 hown hK hP 4 rfl rfl 2 (by decide) (hts _ (inr4 _ (List.mem_of_getElem? (i := 13) rfl))) (fun _ h9 => h9) rfl dX0_copyFrom_31 ?_
  refine lv_iconst (v := 0) hx hb dX0_copyFrom_34 (by decide) ?_
  refine lv_aload_n hx hb dX0_copyFrom_35 rfl (lv_at hl 0 rfl) ?_
  refine va_get (D := D) (ci := 0) (v := .ref e_o3) (C := RX0) (T := TX0) (N := 4) hx hb hts inlX0 hown hK hP 0 rfl rfl 2 (by decide) (hts _ (inr4 _ (List.mem_of_getElem? (i := 13) rfl))) (fun _ h9 => h9) rfl dX0_copyFrom_36 ?_
  refine lv_iconst (v := 0) hx hb dX0_copyFrom_39 (by decide) ?_
  refine lv_bipush (v := 30) hx hb dX0_copyFrom_40 (by decide) ?_
  refine va_copyi (rest := []) hx hb (by rw [hml]; exact hl.1.symm) hown (hts _ (inr17 _ (List.mem_of_getElem? (i := 13) rfl))) (hts _ (inr17 _ (List.mem_of_getElem? (i := 6) rfl))) (hts _ (inr17 _ (List.mem_of_getElem? (i := 7) rfl))) (hts _ (inr17 _ (List.mem_of_getElem? (i := 8) rfl))) hK hP hD hS 7 3 1 1 rfl rfl rfl rfl rfl (by decide) (by decide) (by decide) (by decide) (by decide) (fun _ _ => rfl) (Nat.le_of_ble_eq_true rfl) (Nat.le_of_ble_eq_true rfl) dX0_copyFrom_42 (fun H locs hP hD hS => ?_)
  have hP : va_P D vwCl [(h0, .inr (0, [.ref e_o1, .ref e_o2, .ref e_o3, .int e_sz])), (e_o1, .inl (cI, 61, .inl g_1)), (e_o2, .inl (cI, 30, .inl g_2)), (e_o3, .inl (cI, 30, .inl (va_cpy s_f3 e_f3 (0 : Int32).toNatClampNeg (0 : Int32).toNatClampNeg (30 : Int32).toNatClampNeg))), (h1, .inr (0, [.ref s_o1, .ref s_o2, .ref s_o3, .int s_sz])), (s_o1, .inl (cI, 61, .inl s_f1)), (s_o2, .inl (cI, 30, .inl s_f2)), (s_o3, .inl (cI, 30, .inl s_f3))] H := hP
  have hD : va_D A [(h0, .inr (0, [.ref e_o1, .ref e_o2, .ref e_o3, .int e_sz])), (e_o1, .inl (cI, 61, .inl g_1)), (e_o2, .inl (cI, 30, .inl g_2)), (e_o3, .inl (cI, 30, .inl (va_cpy s_f3 e_f3 (0 : Int32).toNatClampNeg (0 : Int32).toNatClampNeg (30 : Int32).toNatClampNeg))), (h1, .inr (0, [.ref s_o1, .ref s_o2, .ref s_o3, .int s_sz])), (s_o1, .inl (cI, 61, .inl s_f1)), (s_o2, .inl (cI, 30, .inl s_f2)), (s_o3, .inl (cI, 30, .inl s_f3))] := hD
  obtain ⟨g_3, eg_3⟩ : ∃ v9 : Nat → Int32, (va_cpy s_f3 e_f3 (0 : Int32).toNatClampNeg (0 : Int32).toNatClampNeg (30 : Int32).toNatClampNeg) = v9 := ⟨_, rfl⟩
  rw [eg_3] at hP hD
  have hP : va_P D vwCl [(h0, .inr (0, [.ref e_o1, .ref e_o2, .ref e_o3, .int e_sz])), (e_o1, .inl (cI, 61, .inl g_1)), (e_o2, .inl (cI, 30, .inl g_2)), (e_o3, .inl (cI, 30, .inl g_3)), (h1, .inr (0, [.ref s_o1, .ref s_o2, .ref s_o3, .int s_sz])), (s_o1, .inl (cI, 61, .inl s_f1)), (s_o2, .inl (cI, 30, .inl s_f2)), (s_o3, .inl (cI, 30, .inl s_f3))] H := hP
  have hD : va_D A [(h0, .inr (0, [.ref e_o1, .ref e_o2, .ref e_o3, .int e_sz])), (e_o1, .inl (cI, 61, .inl g_1)), (e_o2, .inl (cI, 30, .inl g_2)), (e_o3, .inl (cI, 30, .inl g_3)), (h1, .inr (0, [.ref s_o1, .ref s_o2, .ref s_o3, .int s_sz])), (s_o1, .inl (cI, 61, .inl s_f1)), (s_o2, .inl (cI, 30, .inl s_f2)), (s_o3, .inl (cI, 30, .inl s_f3))] := hD
  refine lv_aload_n hx hb dX0_copyFrom_45 rfl (lv_at hl 0 rfl) ?_
  refine lv_aload_n hx hb dX0_copyFrom_46 rfl (lv_at hl 1 rfl) ?_
  refine va_get (D := D) (ci := 0) (v := .int s_sz) (C := RX0) (T := TX0) (N := 4) hx hb hts inlX0 hown hK hP 4 rfl rfl 3 (by decide) (hts _ (inr10 _ (List.mem_of_getElem? (i := 18) rfl))) (fun _ h9 => h9) rfl dX0_copyFrom_47 ?_
  refine va_put (D := D) (ci := 0) (v := .int s_sz) (ty := .int) (C := RX0) (T := TX0) (N := 4) hx hb hts inlX0 tyX0 tyX0_ok nmX0 hown hK hP hD hS 0 rfl rfl 3 (by decide) (hts _ (inr10 _ (List.mem_of_getElem? (i := 18) rfl))) (fun _ h9 => h9) rfl (by decide +kernel) rfl rfl (Nat.le_of_ble_eq_true rfl) dX0_copyFrom_50 (fun H locs hP hD hS => ?_)
  have hP : va_P D vwCl [(h0, .inr (0, [.ref e_o1, .ref e_o2, .ref e_o3, .int s_sz])), (e_o1, .inl (cI, 61, .inl g_1)), (e_o2, .inl (cI, 30, .inl g_2)), (e_o3, .inl (cI, 30, .inl g_3)), (h1, .inr (0, [.ref s_o1, .ref s_o2, .ref s_o3, .int s_sz])), (s_o1, .inl (cI, 61, .inl s_f1)), (s_o2, .inl (cI, 30, .inl s_f2)), (s_o3, .inl (cI, 30, .inl s_f3))] H := hP
  have hD : va_D A [(h0, .inr (0, [.ref e_o1, .ref e_o2, .ref e_o3, .int s_sz])), (e_o1, .inl (cI, 61, .inl g_1)), (e_o2, .inl (cI, 30, .inl g_2)), (e_o3, .inl (cI, 30, .inl g_3)), (h1, .inr (0, [.ref s_o1, .ref s_o2, .ref s_o3, .int s_sz])), (s_o1, .inl (cI, 61, .inl s_f1)), (s_o2, .inl (cI, 30, .inl s_f2)), (s_o3, .inl (cI, 30, .inl s_f3))] := hD
  have hP9 := hP.sub (ws' := [(h0, .inr (0, [.ref e_o1, .ref e_o2, .ref e_o3, .int s_sz])), (e_o1, .inl (cI, 61, .inl g_1)), (e_o2, .inl (cI, 30, .inl g_2)), (e_o3, .inl (cI, 30, .inl g_3)), (h1, .inr (0, [.ref s_o1, .ref s_o2, .ref s_o3, .int s_sz])), (s_o1, .inl (cI, 61, .inl s_f1)), (s_o2, .inl (cI, 30, .inl s_f2)), (s_o3, .inl (cI, 30, .inl s_f3))]) [0, 1, 2, 3, 4, 5, 6, 7] rfl
  have hD9 := hD.sub (ws' := [(h0, .inr (0, [.ref e_o1, .ref e_o2, .ref e_o3, .int s_sz])), (e_o1, .inl (cI, 61, .inl g_1)), (e_o2, .inl (cI, 30, .inl g_2)), (e_o3, .inl (cI, 30, .inl g_3)), (h1, .inr (0, [.ref s_o1, .ref s_o2, .ref s_o3, .int s_sz])), (s_o1, .inl (cI, 61, .inl s_f1)), (s_o2, .inl (cI, 30, .inl s_f2)), (s_o3, .inl (cI, 30, .inl s_f3))]) [0, 1, 2, 3, 4, 5, 6, 7] (by decide) rfl
  exact W.vret hx hb hr (fun t ht hW => ⟨⟨(g_1, g_2, g_3), rfl, trivial, by rw [ht]; exact hP9, va_K.moved hW.alike hK, hD9⟩, hS.F ht⟩) hS.2.2 dX0_copyFrom_53

set_option maxHeartbeats 4000000 in
set_option maxRecDepth 100000 in
theorem k_St_copy (l : Launch) (D : va_G) (cB cI cJ cZ cS cT : ClassId) (sz : Nat) (h0 : Nat) (h1 : Nat) (e_tones : Int32) (e_a : Int32) (e_b : Int32) (e_c : Int32) (e_d : Int32) (e_odds : Int32) (e_lines : Int32) (e_signs : Nat) (e_signCount : Int32) (e_posts : Nat) (e_postCount : Int32) (e_acts : Nat) (e_fs : Nat → Int32) (e_fp : Nat → Int32) (e_o1 : Nat) (e_o2 : Nat) (e_o3 : Nat) (e_sz : Int32) (e_f1 : Nat → Int32) (e_f2 : Nat → Int32) (e_f3 : Nat → Int32) (s_tones : Int32) (s_a : Int32) (s_b : Int32) (s_c : Int32) (s_d : Int32) (s_odds : Int32) (s_lines : Int32) (s_signs : Nat) (s_signCount : Int32) (s_posts : Nat) (s_postCount : Int32) (s_acts : Nat) (s_fs : Nat → Int32) (s_fp : Nat → Int32) (s_o1 : Nat) (s_o2 : Nat) (s_o3 : Nat) (s_sz : Int32) (s_f1 : Nat → Int32) (s_f2 : Nat → Int32) (s_f3 : Nat → Int32)  : Met l yX8_copyFrom (Cond.code yX8_copyFrom cX8_copyFrom 2 none :: wsL_law) ({ frames := 2, cells := 0, slots := 0, locals := 61 }) (wrP D (tyL cB cI cJ cZ cS cT) [(h0, .inr (8, [.int e_tones, .int e_a, .int e_b, .int e_c, .int e_d, .int e_odds, .int e_lines, .ref e_signs, .int e_signCount, .ref e_posts, .int e_postCount, .ref e_acts])), (e_signs, .inl (cI, 8, .inl e_fs)), (e_posts, .inl (cI, 5, .inl e_fp)), (e_acts, .inr (0, [.ref e_o1, .ref e_o2, .ref e_o3, .int e_sz])), (e_o1, .inl (cI, 61, .inl e_f1)), (e_o2, .inl (cI, 30, .inl e_f2)), (e_o3, .inl (cI, 30, .inl e_f3)), (h1, .inr (8, [.int s_tones, .int s_a, .int s_b, .int s_c, .int s_d, .int s_odds, .int s_lines, .ref s_signs, .int s_signCount, .ref s_posts, .int s_postCount, .ref s_acts])), (s_signs, .inl (cI, 8, .inl s_fs)), (s_posts, .inl (cI, 5, .inl s_fp)), (s_acts, .inr (0, [.ref s_o1, .ref s_o2, .ref s_o3, .int s_sz])), (s_o1, .inl (cI, 61, .inl s_f1)), (s_o2, .inl (cI, 30, .inl s_f2)), (s_o3, .inl (cI, 30, .inl s_f3))] sz [.ref h0, .ref h1]) (va_Qv (fun x : (Nat → Int32) × (Nat → Int32) × (Nat → Int32) × (Nat → Int32) × (Nat → Int32) => True) (atW D (tyL cB cI cJ cZ cS cT) (va_A [(h0, .inr (8, [.int e_tones, .int e_a, .int e_b, .int e_c, .int e_d, .int e_odds, .int e_lines, .ref e_signs, .int e_signCount, .ref e_posts, .int e_postCount, .ref e_acts])), (e_signs, .inl (cI, 8, .inl e_fs)), (e_posts, .inl (cI, 5, .inl e_fp)), (e_acts, .inr (0, [.ref e_o1, .ref e_o2, .ref e_o3, .int e_sz])), (e_o1, .inl (cI, 61, .inl e_f1)), (e_o2, .inl (cI, 30, .inl e_f2)), (e_o3, .inl (cI, 30, .inl e_f3)), (h1, .inr (8, [.int s_tones, .int s_a, .int s_b, .int s_c, .int s_d, .int s_odds, .int s_lines, .ref s_signs, .int s_signCount, .ref s_posts, .int s_postCount, .ref s_acts])), (s_signs, .inl (cI, 8, .inl s_fs)), (s_posts, .inl (cI, 5, .inl s_fp)), (s_acts, .inr (0, [.ref s_o1, .ref s_o2, .ref s_o3, .int s_sz])), (s_o1, .inl (cI, 61, .inl s_f1)), (s_o2, .inl (cI, 30, .inl s_f2)), (s_o3, .inl (cI, 30, .inl s_f3))] sz) (fun x : (Nat → Int32) × (Nat → Int32) × (Nat → Int32) × (Nat → Int32) × (Nat → Int32) => [(h0, .inr (8, [.int s_tones, .int s_a, .int s_b, .int s_c, .int s_d, .int s_odds, .int s_lines, .ref e_signs, .int s_signCount, .ref e_posts, .int s_postCount, .ref e_acts])), (e_signs, .inl (cI, 8, .inl x.2.2.2.1)), (e_posts, .inl (cI, 5, .inl x.2.2.2.2)), (e_acts, .inr (0, [.ref e_o1, .ref e_o2, .ref e_o3, .int s_sz])), (e_o1, .inl (cI, 61, .inl x.1)), (e_o2, .inl (cI, 30, .inl x.2.1)), (e_o3, .inl (cI, 30, .inl x.2.2.1)), (h1, .inr (8, [.int s_tones, .int s_a, .int s_b, .int s_c, .int s_d, .int s_odds, .int s_lines, .ref s_signs, .int s_signCount, .ref s_posts, .int s_postCount, .ref s_acts])), (s_signs, .inl (cI, 8, .inl s_fs)), (s_posts, .inl (cI, 5, .inl s_fp)), (s_acts, .inr (0, [.ref s_o1, .ref s_o2, .ref s_o3, .int s_sz])), (s_o1, .inl (cI, 61, .inl s_f1)), (s_o2, .inl (cI, 30, .inl s_f2)), (s_o3, .inl (cI, 30, .inl s_f3))])) (va_A [(h0, .inr (8, [.int e_tones, .int e_a, .int e_b, .int e_c, .int e_d, .int e_odds, .int e_lines, .ref e_signs, .int e_signCount, .ref e_posts, .int e_postCount, .ref e_acts])), (e_signs, .inl (cI, 8, .inl e_fs)), (e_posts, .inl (cI, 5, .inl e_fp)), (e_acts, .inr (0, [.ref e_o1, .ref e_o2, .ref e_o3, .int e_sz])), (e_o1, .inl (cI, 61, .inl e_f1)), (e_o2, .inl (cI, 30, .inl e_f2)), (e_o3, .inl (cI, 30, .inl e_f3)), (h1, .inr (8, [.int s_tones, .int s_a, .int s_b, .int s_c, .int s_d, .int s_odds, .int s_lines, .ref s_signs, .int s_signCount, .ref s_posts, .int s_postCount, .ref s_acts])), (s_signs, .inl (cI, 8, .inl s_fs)), (s_posts, .inl (cI, 5, .inl s_fp)), (s_acts, .inr (0, [.ref s_o1, .ref s_o2, .ref s_o3, .int s_sz])), (s_o1, .inl (cI, 61, .inl s_f1)), (s_o2, .inl (cI, 30, .inl s_f2)), (s_o3, .inl (cI, 30, .inl s_f3))] sz)) 0 0 (va_A [(h0, .inr (8, [.int e_tones, .int e_a, .int e_b, .int e_c, .int e_d, .int e_odds, .int e_lines, .ref e_signs, .int e_signCount, .ref e_posts, .int e_postCount, .ref e_acts])), (e_signs, .inl (cI, 8, .inl e_fs)), (e_posts, .inl (cI, 5, .inl e_fp)), (e_acts, .inr (0, [.ref e_o1, .ref e_o2, .ref e_o3, .int e_sz])), (e_o1, .inl (cI, 61, .inl e_f1)), (e_o2, .inl (cI, 30, .inl e_f2)), (e_o3, .inl (cI, 30, .inl e_f3)), (h1, .inr (8, [.int s_tones, .int s_a, .int s_b, .int s_c, .int s_d, .int s_odds, .int s_lines, .ref s_signs, .int s_signCount, .ref s_posts, .int s_postCount, .ref s_acts])), (s_signs, .inl (cI, 8, .inl s_fs)), (s_posts, .inl (cI, 5, .inl s_fp)), (s_acts, .inr (0, [.ref s_o1, .ref s_o2, .ref s_o3, .int s_sz])), (s_o1, .inl (cI, 61, .inl s_f1)), (s_o2, .inl (cI, 30, .inl s_f2)), (s_o3, .inl (cI, 30, .inl s_f3))] sz) := by
  refine Met.ofW (cc := cX8_copyFrom) (maxL := 2) (ret := none) (by decide) rfl ?_
  intro p e s m args below meth c s₁ B hml hv
  obtain ⟨rfl, hsz, hP, hK, hD0, hN⟩ := hv
  have hx := B.exec
  have hb := B.bytes
  have hr := B.returns
  have hts : ∀ w ∈ wsL_law, w.before ([.ref h0, .ref h1] : List Value).toArray s = true := fun w h => atoms_spec (ws := Cond.code yX8_copyFrom cX8_copyFrom 2 none :: wsL_law) B.pre w (List.mem_cons_of_mem _ h)
  have hown : s.vm.findClass RX8 = some m.cls := findClass_of_methodNamed B.named
  have hlocks := B.notSynchronized
  subst hsz
  have hD := hD0.self (sz := s.heap.size)
  generalize hAe : va_A [(h0, .inr (8, [.int e_tones, .int e_a, .int e_b, .int e_c, .int e_d, .int e_odds, .int e_lines, .ref e_signs, .int e_signCount, .ref e_posts, .int e_postCount, .ref e_acts])), (e_signs, .inl (cI, 8, .inl e_fs)), (e_posts, .inl (cI, 5, .inl e_fp)), (e_acts, .inr (0, [.ref e_o1, .ref e_o2, .ref e_o3, .int e_sz])), (e_o1, .inl (cI, 61, .inl e_f1)), (e_o2, .inl (cI, 30, .inl e_f2)), (e_o3, .inl (cI, 30, .inl e_f3)), (h1, .inr (8, [.int s_tones, .int s_a, .int s_b, .int s_c, .int s_d, .int s_odds, .int s_lines, .ref s_signs, .int s_signCount, .ref s_posts, .int s_postCount, .ref s_acts])), (s_signs, .inl (cI, 8, .inl s_fs)), (s_posts, .inl (cI, 5, .inl s_fp)), (s_acts, .inr (0, [.ref s_o1, .ref s_o2, .ref s_o3, .int s_sz])), (s_o1, .inl (cI, 61, .inl s_f1)), (s_o2, .inl (cI, 30, .inl s_f2)), (s_o3, .inl (cI, 30, .inl s_f3))] s.heap.size = A at hD ⊢
  have hA : ∀ q : Nat, s.heap.size ≤ q → A q := fun q h => by rw [← hAe]; exact Or.inr h
  have hS : va_S A s.heap s.heap [] := va_S.rf
  have hl := lv_entry ([.ref h0, .ref h1]) (n := 2) (Nat.le_of_ble_eq_true rfl)
  rw [lg_entry_eq]
  generalize (lg_sl ([.ref h0, .ref h1]) ++ List.replicate (2 - (lg_sl ([.ref h0, .ref h1])).length) Slot.unset).toArray = ls at hl ⊢
  have hl : lv_has ls 2 [(0, .ref h0), (1, .ref h1)] := hl
  have hP : va_P D vwCl [(h0, .inr (8, [.int e_tones, .int e_a, .int e_b, .int e_c, .int e_d, .int e_odds, .int e_lines, .ref e_signs, .int e_signCount, .ref e_posts, .int e_postCount, .ref e_acts])), (e_signs, .inl (cI, 8, .inl e_fs)), (e_posts, .inl (cI, 5, .inl e_fp)), (e_acts, .inr (0, [.ref e_o1, .ref e_o2, .ref e_o3, .int e_sz])), (e_o1, .inl (cI, 61, .inl e_f1)), (e_o2, .inl (cI, 30, .inl e_f2)), (e_o3, .inl (cI, 30, .inl e_f3)), (h1, .inr (8, [.int s_tones, .int s_a, .int s_b, .int s_c, .int s_d, .int s_odds, .int s_lines, .ref s_signs, .int s_signCount, .ref s_posts, .int s_postCount, .ref s_acts])), (s_signs, .inl (cI, 8, .inl s_fs)), (s_posts, .inl (cI, 5, .inl s_fp)), (s_acts, .inr (0, [.ref s_o1, .ref s_o2, .ref s_o3, .int s_sz])), (s_o1, .inl (cI, 61, .inl s_f1)), (s_o2, .inl (cI, 30, .inl s_f2)), (s_o3, .inl (cI, 30, .inl s_f3))] s.heap := hP
  refine lv_aload_n hx hb dX8_copyFrom_0 rfl (lv_at hl 0 rfl) ?_
  refine lv_aload_n hx hb dX8_copyFrom_1 rfl (lv_at hl 1 rfl) ?_
  refine va_get (D := D) (ci := 8) (v := .int s_tones) (C := RX8) (T := TX8) (N := 12) hx hb hts inlX8 hown hK hP 7 rfl rfl 0 (by decide) (hts _ (inr10 _ (List.mem_of_getElem? (i := 4) rfl))) (fun _ h9 => h9) rfl dX8_copyFrom_2 ?_
  refine lv_aload_n hx hb dX8_copyFrom_5 rfl (lv_at hl 1 rfl) ?_
  refine va_get (D := D) (ci := 8) (v := .int s_d) (C := RX8) (T := TX8) (N := 12) hx hb hts inlX8 hown hK hP 7 rfl rfl 4 (by decide) (hts _ (inr10 _ (List.mem_of_getElem? (i := 5) rfl))) (fun _ h9 => h9) rfl dX8_copyFrom_6 ?_
  refine lv_aload_n hx hb dX8_copyFrom_9 rfl (lv_at hl 1 rfl) ?_
  refine va_get (D := D) (ci := 8) (v := .int s_odds) (C := RX8) (T := TX8) (N := 12) hx hb hts inlX8 hown hK hP 7 rfl rfl 5 (by decide) (hts _ (inr10 _ (List.mem_of_getElem? (i := 6) rfl))) (fun _ h9 => h9) rfl dX8_copyFrom_10 ?_
  refine wrVv (As := [.int s_tones, .int s_d, .int s_odds]) (rest := []) (wr := [(e_signs, .inl (cI, 8, .inl e_fs)), (e_posts, .inl (cI, 5, .inl e_fp)), (e_acts, .inr (0, [.ref e_o1, .ref e_o2, .ref e_o3, .int e_sz])), (e_o1, .inl (cI, 61, .inl e_f1)), (e_o2, .inl (cI, 30, .inl e_f2)), (e_o3, .inl (cI, 30, .inl e_f3)), (h1, .inr (8, [.int s_tones, .int s_a, .int s_b, .int s_c, .int s_d, .int s_odds, .int s_lines, .ref s_signs, .int s_signCount, .ref s_posts, .int s_postCount, .ref s_acts])), (s_signs, .inl (cI, 8, .inl s_fs)), (s_posts, .inl (cI, 5, .inl s_fp)), (s_acts, .inr (0, [.ref s_o1, .ref s_o2, .ref s_o3, .int s_sz])), (s_o1, .inl (cI, 61, .inl s_f1)), (s_o2, .inl (cI, 30, .inl s_f2)), (s_o3, .inl (cI, 30, .inl s_f3))]) ⟨hx, hb, hml, hown, hts⟩ (k_setHead l D cB cI cJ cZ cS cT s.heap.size h0 e_tones e_a e_b e_c e_d e_odds e_lines e_signs e_signCount e_posts e_postCount e_acts s_tones s_d s_odds ) hP hD hS hA hK hN [0] [1, 2, 3, 4, 5, 6, 7, 8, 9, 10, 11, 12, 13] rfl rfl (by decide) (by decide) (by decide) (cvB (n := 3) (inr10 _ (List.mem_of_getElem? (i := 0) rfl)) (inr10 _ (List.mem_of_getElem? (i := 1) rfl)) (inr10 _ (List.mem_of_getElem? (i := 2) rfl)) (inr1 _ (List.mem_of_getElem? (i := 23) rfl)) (inr10 _ (List.mem_of_getElem? (i := 3) rfl)) (by decide +kernel) hts rfl rfl ⟨Nat.le_of_ble_eq_true rfl, Nat.le_of_ble_eq_true rfl⟩) 0 8 rfl rfl rfl rfl hl.1 rfl (Nat.le_of_ble_eq_true rfl) ⟨Nat.le_of_ble_eq_true rfl, Nat.le_of_ble_eq_true rfl⟩ dX8_copyFrom_13 (fun x9 H locs h_2 hP hD hS => ?_)
  have hP : va_P D vwCl [(e_signs, .inl (cI, 8, .inl e_fs)), (e_posts, .inl (cI, 5, .inl e_fp)), (e_acts, .inr (0, [.ref e_o1, .ref e_o2, .ref e_o3, .int e_sz])), (e_o1, .inl (cI, 61, .inl e_f1)), (e_o2, .inl (cI, 30, .inl e_f2)), (e_o3, .inl (cI, 30, .inl e_f3)), (h1, .inr (8, [.int s_tones, .int s_a, .int s_b, .int s_c, .int s_d, .int s_odds, .int s_lines, .ref s_signs, .int s_signCount, .ref s_posts, .int s_postCount, .ref s_acts])), (s_signs, .inl (cI, 8, .inl s_fs)), (s_posts, .inl (cI, 5, .inl s_fp)), (s_acts, .inr (0, [.ref s_o1, .ref s_o2, .ref s_o3, .int s_sz])), (s_o1, .inl (cI, 61, .inl s_f1)), (s_o2, .inl (cI, 30, .inl s_f2)), (s_o3, .inl (cI, 30, .inl s_f3)), (h0, .inr (8, [.int s_tones, .int e_a, .int e_b, .int e_c, .int s_d, .int s_odds, .int e_lines, .ref e_signs, .int e_signCount, .ref e_posts, .int e_postCount, .ref e_acts]))] H := hP
  have hD : va_D A [(e_signs, .inl (cI, 8, .inl e_fs)), (e_posts, .inl (cI, 5, .inl e_fp)), (e_acts, .inr (0, [.ref e_o1, .ref e_o2, .ref e_o3, .int e_sz])), (e_o1, .inl (cI, 61, .inl e_f1)), (e_o2, .inl (cI, 30, .inl e_f2)), (e_o3, .inl (cI, 30, .inl e_f3)), (h1, .inr (8, [.int s_tones, .int s_a, .int s_b, .int s_c, .int s_d, .int s_odds, .int s_lines, .ref s_signs, .int s_signCount, .ref s_posts, .int s_postCount, .ref s_acts])), (s_signs, .inl (cI, 8, .inl s_fs)), (s_posts, .inl (cI, 5, .inl s_fp)), (s_acts, .inr (0, [.ref s_o1, .ref s_o2, .ref s_o3, .int s_sz])), (s_o1, .inl (cI, 61, .inl s_f1)), (s_o2, .inl (cI, 30, .inl s_f2)), (s_o3, .inl (cI, 30, .inl s_f3)), (h0, .inr (8, [.int s_tones, .int e_a, .int e_b, .int e_c, .int s_d, .int s_odds, .int e_lines, .ref e_signs, .int e_signCount, .ref e_posts, .int e_postCount, .ref e_acts]))] := hD
  refine lv_aload_n hx hb dX8_copyFrom_16 rfl (lv_at hl 0 rfl) ?_
  refine lv_aload_n hx hb dX8_copyFrom_17 rfl (lv_at hl 1 rfl) ?_
  refine va_get (D := D) (ci := 8) (v := .int s_a) (C := RX8) (T := TX8) (N := 12) hx hb hts inlX8 hown hK hP 6 rfl rfl 1 (by decide) (hts _ (inr10 _ (List.mem_of_getElem? (i := 11) rfl))) (fun _ h9 => h9) rfl dX8_copyFrom_18 ?_
  refine lv_aload_n hx hb dX8_copyFrom_21 rfl (lv_at hl 1 rfl) ?_
  refine va_get (D := D) (ci := 8) (v := .int s_b) (C := RX8) (T := TX8) (N := 12) hx hb hts inlX8 hown hK hP 6 rfl rfl 2 (by decide) (hts _ (inr10 _ (List.mem_of_getElem? (i := 12) rfl))) (fun _ h9 => h9) rfl dX8_copyFrom_22 ?_
  refine lv_aload_n hx hb dX8_copyFrom_25 rfl (lv_at hl 1 rfl) ?_
  refine va_get (D := D) (ci := 8) (v := .int s_c) (C := RX8) (T := TX8) (N := 12) hx hb hts inlX8 hown hK hP 6 rfl rfl 3 (by decide) (hts _ (inr10 _ (List.mem_of_getElem? (i := 13) rfl))) (fun _ h9 => h9) rfl dX8_copyFrom_26 ?_
  refine wrVv (As := [.int s_a, .int s_b, .int s_c]) (rest := []) (wr := [(e_signs, .inl (cI, 8, .inl e_fs)), (e_posts, .inl (cI, 5, .inl e_fp)), (e_acts, .inr (0, [.ref e_o1, .ref e_o2, .ref e_o3, .int e_sz])), (e_o1, .inl (cI, 61, .inl e_f1)), (e_o2, .inl (cI, 30, .inl e_f2)), (e_o3, .inl (cI, 30, .inl e_f3)), (h1, .inr (8, [.int s_tones, .int s_a, .int s_b, .int s_c, .int s_d, .int s_odds, .int s_lines, .ref s_signs, .int s_signCount, .ref s_posts, .int s_postCount, .ref s_acts])), (s_signs, .inl (cI, 8, .inl s_fs)), (s_posts, .inl (cI, 5, .inl s_fp)), (s_acts, .inr (0, [.ref s_o1, .ref s_o2, .ref s_o3, .int s_sz])), (s_o1, .inl (cI, 61, .inl s_f1)), (s_o2, .inl (cI, 30, .inl s_f2)), (s_o3, .inl (cI, 30, .inl s_f3))]) ⟨hx, hb, hml, hown, hts⟩ (k_setLaw l D cB cI cJ cZ cS cT H.size h0 s_tones e_a e_b e_c s_d s_odds e_lines e_signs e_signCount e_posts e_postCount e_acts s_a s_b s_c ) hP hD hS hA hK hN [13] [0, 1, 2, 3, 4, 5, 6, 7, 8, 9, 10, 11, 12] rfl rfl (by decide) (by decide) (by decide) (cvB (n := 3) (inr10 _ (List.mem_of_getElem? (i := 7) rfl)) (inr10 _ (List.mem_of_getElem? (i := 8) rfl)) (inr10 _ (List.mem_of_getElem? (i := 9) rfl)) (inr1 _ (List.mem_of_getElem? (i := 23) rfl)) (inr10 _ (List.mem_of_getElem? (i := 10) rfl)) (by decide +kernel) hts rfl rfl ⟨Nat.le_of_ble_eq_true rfl, Nat.le_of_ble_eq_true rfl⟩) 0 8 rfl rfl rfl rfl hl.1 rfl (Nat.le_of_ble_eq_true rfl) ⟨Nat.le_of_ble_eq_true rfl, Nat.le_of_ble_eq_true rfl⟩ dX8_copyFrom_29 (fun x9 H locs h_4 hP hD hS => ?_)
  have hP : va_P D vwCl [(e_signs, .inl (cI, 8, .inl e_fs)), (e_posts, .inl (cI, 5, .inl e_fp)), (e_acts, .inr (0, [.ref e_o1, .ref e_o2, .ref e_o3, .int e_sz])), (e_o1, .inl (cI, 61, .inl e_f1)), (e_o2, .inl (cI, 30, .inl e_f2)), (e_o3, .inl (cI, 30, .inl e_f3)), (h1, .inr (8, [.int s_tones, .int s_a, .int s_b, .int s_c, .int s_d, .int s_odds, .int s_lines, .ref s_signs, .int s_signCount, .ref s_posts, .int s_postCount, .ref s_acts])), (s_signs, .inl (cI, 8, .inl s_fs)), (s_posts, .inl (cI, 5, .inl s_fp)), (s_acts, .inr (0, [.ref s_o1, .ref s_o2, .ref s_o3, .int s_sz])), (s_o1, .inl (cI, 61, .inl s_f1)), (s_o2, .inl (cI, 30, .inl s_f2)), (s_o3, .inl (cI, 30, .inl s_f3)), (h0, .inr (8, [.int s_tones, .int s_a, .int s_b, .int s_c, .int s_d, .int s_odds, .int e_lines, .ref e_signs, .int e_signCount, .ref e_posts, .int e_postCount, .ref e_acts]))] H := hP
  have hD : va_D A [(e_signs, .inl (cI, 8, .inl e_fs)), (e_posts, .inl (cI, 5, .inl e_fp)), (e_acts, .inr (0, [.ref e_o1, .ref e_o2, .ref e_o3, .int e_sz])), (e_o1, .inl (cI, 61, .inl e_f1)), (e_o2, .inl (cI, 30, .inl e_f2)), (e_o3, .inl (cI, 30, .inl e_f3)), (h1, .inr (8, [.int s_tones, .int s_a, .int s_b, .int s_c, .int s_d, .int s_odds, .int s_lines, .ref s_signs, .int s_signCount, .ref s_posts, .int s_postCount, .ref s_acts])), (s_signs, .inl (cI, 8, .inl s_fs)), (s_posts, .inl (cI, 5, .inl s_fp)), (s_acts, .inr (0, [.ref s_o1, .ref s_o2, .ref s_o3, .int s_sz])), (s_o1, .inl (cI, 61, .inl s_f1)), (s_o2, .inl (cI, 30, .inl s_f2)), (s_o3, .inl (cI, 30, .inl s_f3)), (h0, .inr (8, [.int s_tones, .int s_a, .int s_b, .int s_c, .int s_d, .int s_odds, .int e_lines, .ref e_signs, .int e_signCount, .ref e_posts, .int e_postCount, .ref e_acts]))] := hD
  refine lv_aload_n hx hb dX8_copyFrom_32 rfl (lv_at hl 0 rfl) ?_
  refine lv_aload_n hx hb dX8_copyFrom_33 rfl (lv_at hl 1 rfl) ?_
  refine va_get (D := D) (ci := 8) (v := .int s_lines) (C := RX8) (T := TX8) (N := 12) hx hb hts inlX8 hown hK hP 6 rfl rfl 6 (by decide) (hts _ (inr9 _ (List.mem_of_getElem? (i := 21) rfl))) (fun _ h9 => h9) rfl dX8_copyFrom_34 ?_
  refine va_put (D := D) (ci := 8) (v := .int s_lines) (ty := .int) (C := RX8) (T := TX8) (N := 12) hx hb hts inlX8 tyX8 tyX8_ok nmX8 hown hK hP hD hS 13 rfl rfl 6 (by decide) (hts _ (inr9 _ (List.mem_of_getElem? (i := 21) rfl))) (fun _ h9 => h9) rfl (by decide +kernel) rfl rfl (Nat.le_of_ble_eq_true rfl) dX8_copyFrom_37 (fun H locs hP hD hS => ?_)
  have hP : va_P D vwCl [(e_signs, .inl (cI, 8, .inl e_fs)), (e_posts, .inl (cI, 5, .inl e_fp)), (e_acts, .inr (0, [.ref e_o1, .ref e_o2, .ref e_o3, .int e_sz])), (e_o1, .inl (cI, 61, .inl e_f1)), (e_o2, .inl (cI, 30, .inl e_f2)), (e_o3, .inl (cI, 30, .inl e_f3)), (h1, .inr (8, [.int s_tones, .int s_a, .int s_b, .int s_c, .int s_d, .int s_odds, .int s_lines, .ref s_signs, .int s_signCount, .ref s_posts, .int s_postCount, .ref s_acts])), (s_signs, .inl (cI, 8, .inl s_fs)), (s_posts, .inl (cI, 5, .inl s_fp)), (s_acts, .inr (0, [.ref s_o1, .ref s_o2, .ref s_o3, .int s_sz])), (s_o1, .inl (cI, 61, .inl s_f1)), (s_o2, .inl (cI, 30, .inl s_f2)), (s_o3, .inl (cI, 30, .inl s_f3)), (h0, .inr (8, [.int s_tones, .int s_a, .int s_b, .int s_c, .int s_d, .int s_odds, .int s_lines, .ref e_signs, .int e_signCount, .ref e_posts, .int e_postCount, .ref e_acts]))] H := hP
  have hD : va_D A [(e_signs, .inl (cI, 8, .inl e_fs)), (e_posts, .inl (cI, 5, .inl e_fp)), (e_acts, .inr (0, [.ref e_o1, .ref e_o2, .ref e_o3, .int e_sz])), (e_o1, .inl (cI, 61, .inl e_f1)), (e_o2, .inl (cI, 30, .inl e_f2)), (e_o3, .inl (cI, 30, .inl e_f3)), (h1, .inr (8, [.int s_tones, .int s_a, .int s_b, .int s_c, .int s_d, .int s_odds, .int s_lines, .ref s_signs, .int s_signCount, .ref s_posts, .int s_postCount, .ref s_acts])), (s_signs, .inl (cI, 8, .inl s_fs)), (s_posts, .inl (cI, 5, .inl s_fp)), (s_acts, .inr (0, [.ref s_o1, .ref s_o2, .ref s_o3, .int s_sz])), (s_o1, .inl (cI, 61, .inl s_f1)), (s_o2, .inl (cI, 30, .inl s_f2)), (s_o3, .inl (cI, 30, .inl s_f3)), (h0, .inr (8, [.int s_tones, .int s_a, .int s_b, .int s_c, .int s_d, .int s_odds, .int s_lines, .ref e_signs, .int e_signCount, .ref e_posts, .int e_postCount, .ref e_acts]))] := hD
  refine lv_aload_n hx hb dX8_copyFrom_40 rfl (lv_at hl 0 rfl) ?_
  refine lv_aload_n hx hb dX8_copyFrom_41 rfl (lv_at hl 1 rfl) ?_
  refine va_get (D := D) (ci := 8) (v := .int s_signCount) (C := RX8) (T := TX8) (N := 12) hx hb hts inlX8 hown hK hP 6 rfl rfl 8 (by decide) (hts _ (inr9 _ (List.mem_of_getElem? (i := 22) rfl))) (fun _ h9 => h9) rfl dX8_copyFrom_42 ?_
  refine va_put (D := D) (ci := 8) (v := .int s_signCount) (ty := .int) (C := RX8) (T := TX8) (N := 12) hx hb hts inlX8 tyX8 tyX8_ok nmX8 hown hK hP hD hS 13 rfl rfl 8 (by decide) (hts _ (inr9 _ (List.mem_of_getElem? (i := 22) rfl))) (fun _ h9 => h9) rfl (by decide +kernel) rfl rfl (Nat.le_of_ble_eq_true rfl) dX8_copyFrom_45 (fun H locs hP hD hS => ?_)
  have hP : va_P D vwCl [(e_signs, .inl (cI, 8, .inl e_fs)), (e_posts, .inl (cI, 5, .inl e_fp)), (e_acts, .inr (0, [.ref e_o1, .ref e_o2, .ref e_o3, .int e_sz])), (e_o1, .inl (cI, 61, .inl e_f1)), (e_o2, .inl (cI, 30, .inl e_f2)), (e_o3, .inl (cI, 30, .inl e_f3)), (h1, .inr (8, [.int s_tones, .int s_a, .int s_b, .int s_c, .int s_d, .int s_odds, .int s_lines, .ref s_signs, .int s_signCount, .ref s_posts, .int s_postCount, .ref s_acts])), (s_signs, .inl (cI, 8, .inl s_fs)), (s_posts, .inl (cI, 5, .inl s_fp)), (s_acts, .inr (0, [.ref s_o1, .ref s_o2, .ref s_o3, .int s_sz])), (s_o1, .inl (cI, 61, .inl s_f1)), (s_o2, .inl (cI, 30, .inl s_f2)), (s_o3, .inl (cI, 30, .inl s_f3)), (h0, .inr (8, [.int s_tones, .int s_a, .int s_b, .int s_c, .int s_d, .int s_odds, .int s_lines, .ref e_signs, .int s_signCount, .ref e_posts, .int e_postCount, .ref e_acts]))] H := hP
  have hD : va_D A [(e_signs, .inl (cI, 8, .inl e_fs)), (e_posts, .inl (cI, 5, .inl e_fp)), (e_acts, .inr (0, [.ref e_o1, .ref e_o2, .ref e_o3, .int e_sz])), (e_o1, .inl (cI, 61, .inl e_f1)), (e_o2, .inl (cI, 30, .inl e_f2)), (e_o3, .inl (cI, 30, .inl e_f3)), (h1, .inr (8, [.int s_tones, .int s_a, .int s_b, .int s_c, .int s_d, .int s_odds, .int s_lines, .ref s_signs, .int s_signCount, .ref s_posts, .int s_postCount, .ref s_acts])), (s_signs, .inl (cI, 8, .inl s_fs)), (s_posts, .inl (cI, 5, .inl s_fp)), (s_acts, .inr (0, [.ref s_o1, .ref s_o2, .ref s_o3, .int s_sz])), (s_o1, .inl (cI, 61, .inl s_f1)), (s_o2, .inl (cI, 30, .inl s_f2)), (s_o3, .inl (cI, 30, .inl s_f3)), (h0, .inr (8, [.int s_tones, .int s_a, .int s_b, .int s_c, .int s_d, .int s_odds, .int s_lines, .ref e_signs, .int s_signCount, .ref e_posts, .int e_postCount, .ref e_acts]))] := hD
  refine lv_aload_n hx hb dX8_copyFrom_48 rfl (lv_at hl 1 rfl) ?_
  refine va_get (D := D) (ci := 8) (v := .ref s_signs) (C := RX8) (T := TX8) (N := 12) hx hb hts inlX8 hown hK hP 6 rfl rfl 7 (by decide) (hts _ (inr4 _ (List.mem_of_getElem? (i := 1) rfl))) (fun _ h9 => h9) rfl dX8_copyFrom_49 ?_
  refine lv_iconst (v := 0) hx hb dX8_copyFrom_52 (by decide) ?_
  refine lv_aload_n hx hb dX8_copyFrom_53 rfl (lv_at hl 0 rfl) ?_
  refine va_get (D := D) (ci := 8) (v := .ref e_signs) (C := RX8) (T := TX8) (N := 12) hx hb hts inlX8 hown hK hP 13 rfl rfl 7 (by decide) (hts _ (inr4 _ (List.mem_of_getElem? (i := 1) rfl))) (fun _ h9 => h9) rfl dX8_copyFrom_54 ?_
  refine lv_iconst (v := 0) hx hb dX8_copyFrom_57 (by decide) ?_
  refine lv_bipush (v := 8) hx hb dX8_copyFrom_58 (by decide) ?_
  refine va_copyi (rest := []) hx hb (by rw [hml]; exact hl.1.symm) hown (hts _ (inr17 _ (List.mem_of_getElem? (i := 5) rfl))) (hts _ (inr17 _ (List.mem_of_getElem? (i := 6) rfl))) (hts _ (inr17 _ (List.mem_of_getElem? (i := 7) rfl))) (hts _ (inr17 _ (List.mem_of_getElem? (i := 8) rfl))) hK hP hD hS 7 0 1 1 rfl rfl rfl rfl rfl (by decide) (by decide) (by decide) (by decide) (by decide) (fun _ _ => rfl) (Nat.le_of_ble_eq_true rfl) (Nat.le_of_ble_eq_true rfl) dX8_copyFrom_60 (fun H locs hP hD hS => ?_)
  have hP : va_P D vwCl [(e_signs, .inl (cI, 8, .inl (va_cpy s_fs e_fs (0 : Int32).toNatClampNeg (0 : Int32).toNatClampNeg (8 : Int32).toNatClampNeg))), (e_posts, .inl (cI, 5, .inl e_fp)), (e_acts, .inr (0, [.ref e_o1, .ref e_o2, .ref e_o3, .int e_sz])), (e_o1, .inl (cI, 61, .inl e_f1)), (e_o2, .inl (cI, 30, .inl e_f2)), (e_o3, .inl (cI, 30, .inl e_f3)), (h1, .inr (8, [.int s_tones, .int s_a, .int s_b, .int s_c, .int s_d, .int s_odds, .int s_lines, .ref s_signs, .int s_signCount, .ref s_posts, .int s_postCount, .ref s_acts])), (s_signs, .inl (cI, 8, .inl s_fs)), (s_posts, .inl (cI, 5, .inl s_fp)), (s_acts, .inr (0, [.ref s_o1, .ref s_o2, .ref s_o3, .int s_sz])), (s_o1, .inl (cI, 61, .inl s_f1)), (s_o2, .inl (cI, 30, .inl s_f2)), (s_o3, .inl (cI, 30, .inl s_f3)), (h0, .inr (8, [.int s_tones, .int s_a, .int s_b, .int s_c, .int s_d, .int s_odds, .int s_lines, .ref e_signs, .int s_signCount, .ref e_posts, .int e_postCount, .ref e_acts]))] H := hP
  have hD : va_D A [(e_signs, .inl (cI, 8, .inl (va_cpy s_fs e_fs (0 : Int32).toNatClampNeg (0 : Int32).toNatClampNeg (8 : Int32).toNatClampNeg))), (e_posts, .inl (cI, 5, .inl e_fp)), (e_acts, .inr (0, [.ref e_o1, .ref e_o2, .ref e_o3, .int e_sz])), (e_o1, .inl (cI, 61, .inl e_f1)), (e_o2, .inl (cI, 30, .inl e_f2)), (e_o3, .inl (cI, 30, .inl e_f3)), (h1, .inr (8, [.int s_tones, .int s_a, .int s_b, .int s_c, .int s_d, .int s_odds, .int s_lines, .ref s_signs, .int s_signCount, .ref s_posts, .int s_postCount, .ref s_acts])), (s_signs, .inl (cI, 8, .inl s_fs)), (s_posts, .inl (cI, 5, .inl s_fp)), (s_acts, .inr (0, [.ref s_o1, .ref s_o2, .ref s_o3, .int s_sz])), (s_o1, .inl (cI, 61, .inl s_f1)), (s_o2, .inl (cI, 30, .inl s_f2)), (s_o3, .inl (cI, 30, .inl s_f3)), (h0, .inr (8, [.int s_tones, .int s_a, .int s_b, .int s_c, .int s_d, .int s_odds, .int s_lines, .ref e_signs, .int s_signCount, .ref e_posts, .int e_postCount, .ref e_acts]))] := hD
  obtain ⟨g_5, eg_5⟩ : ∃ v9 : Nat → Int32, (va_cpy s_fs e_fs (0 : Int32).toNatClampNeg (0 : Int32).toNatClampNeg (8 : Int32).toNatClampNeg) = v9 := ⟨_, rfl⟩
  rw [eg_5] at hP hD
  have hP : va_P D vwCl [(e_signs, .inl (cI, 8, .inl g_5)), (e_posts, .inl (cI, 5, .inl e_fp)), (e_acts, .inr (0, [.ref e_o1, .ref e_o2, .ref e_o3, .int e_sz])), (e_o1, .inl (cI, 61, .inl e_f1)), (e_o2, .inl (cI, 30, .inl e_f2)), (e_o3, .inl (cI, 30, .inl e_f3)), (h1, .inr (8, [.int s_tones, .int s_a, .int s_b, .int s_c, .int s_d, .int s_odds, .int s_lines, .ref s_signs, .int s_signCount, .ref s_posts, .int s_postCount, .ref s_acts])), (s_signs, .inl (cI, 8, .inl s_fs)), (s_posts, .inl (cI, 5, .inl s_fp)), (s_acts, .inr (0, [.ref s_o1, .ref s_o2, .ref s_o3, .int s_sz])), (s_o1, .inl (cI, 61, .inl s_f1)), (s_o2, .inl (cI, 30, .inl s_f2)), (s_o3, .inl (cI, 30, .inl s_f3)), (h0, .inr (8, [.int s_tones, .int s_a, .int s_b, .int s_c, .int s_d, .int s_odds, .int s_lines, .ref e_signs, .int s_signCount, .ref e_posts, .int e_postCount, .ref e_acts]))] H := hP
  have hD : va_D A [(e_signs, .inl (cI, 8, .inl g_5)), (e_posts, .inl (cI, 5, .inl e_fp)), (e_acts, .inr (0, [.ref e_o1, .ref e_o2, .ref e_o3, .int e_sz])), (e_o1, .inl (cI, 61, .inl e_f1)), (e_o2, .inl (cI, 30, .inl e_f2)), (e_o3, .inl (cI, 30, .inl e_f3)), (h1, .inr (8, [.int s_tones, .int s_a, .int s_b, .int s_c, .int s_d, .int s_odds, .int s_lines, .ref s_signs, .int s_signCount, .ref s_posts, .int s_postCount, .ref s_acts])), (s_signs, .inl (cI, 8, .inl s_fs)), (s_posts, .inl (cI, 5, .inl s_fp)), (s_acts, .inr (0, [.ref s_o1, .ref s_o2, .ref s_o3, .int s_sz])), (s_o1, .inl (cI, 61, .inl s_f1)), (s_o2, .inl (cI, 30, .inl s_f2)), (s_o3, .inl (cI, 30, .inl s_f3)), (h0, .inr (8, [.int s_tones, .int s_a, .int s_b, .int s_c, .int s_d, .int s_odds, .int s_lines, .ref e_signs, .int s_signCount, .ref e_posts, .int e_postCount, .ref e_acts]))] := hD
  refine lv_aload_n hx hb dX8_copyFrom_63 rfl (lv_at hl 0 rfl) ?_
  refine lv_aload_n hx hb dX8_copyFrom_64 rfl (lv_at hl 1 rfl) ?_
  refine va_get (D := D) (ci := 8) (v := .int s_postCount) (C := RX8) (T := TX8) (N := 12) hx hb hts inlX8 hown hK hP 6 rfl rfl 10 (by decide) (hts _ (inr9 _ (List.mem_of_getElem? (i := 23) rfl))) (fun _ h9 => h9) rfl dX8_copyFrom_65 ?_
  refine va_put (D := D) (ci := 8) (v := .int s_postCount) (ty := .int) (C := RX8) (T := TX8) (N := 12) hx hb hts inlX8 tyX8 tyX8_ok nmX8 hown hK hP hD hS 13 rfl rfl 10 (by decide) (hts _ (inr9 _ (List.mem_of_getElem? (i := 23) rfl))) (fun _ h9 => h9) rfl (by decide +kernel) rfl rfl (Nat.le_of_ble_eq_true rfl) dX8_copyFrom_68 (fun H locs hP hD hS => ?_)
  have hP : va_P D vwCl [(e_signs, .inl (cI, 8, .inl g_5)), (e_posts, .inl (cI, 5, .inl e_fp)), (e_acts, .inr (0, [.ref e_o1, .ref e_o2, .ref e_o3, .int e_sz])), (e_o1, .inl (cI, 61, .inl e_f1)), (e_o2, .inl (cI, 30, .inl e_f2)), (e_o3, .inl (cI, 30, .inl e_f3)), (h1, .inr (8, [.int s_tones, .int s_a, .int s_b, .int s_c, .int s_d, .int s_odds, .int s_lines, .ref s_signs, .int s_signCount, .ref s_posts, .int s_postCount, .ref s_acts])), (s_signs, .inl (cI, 8, .inl s_fs)), (s_posts, .inl (cI, 5, .inl s_fp)), (s_acts, .inr (0, [.ref s_o1, .ref s_o2, .ref s_o3, .int s_sz])), (s_o1, .inl (cI, 61, .inl s_f1)), (s_o2, .inl (cI, 30, .inl s_f2)), (s_o3, .inl (cI, 30, .inl s_f3)), (h0, .inr (8, [.int s_tones, .int s_a, .int s_b, .int s_c, .int s_d, .int s_odds, .int s_lines, .ref e_signs, .int s_signCount, .ref e_posts, .int s_postCount, .ref e_acts]))] H := hP
  have hD : va_D A [(e_signs, .inl (cI, 8, .inl g_5)), (e_posts, .inl (cI, 5, .inl e_fp)), (e_acts, .inr (0, [.ref e_o1, .ref e_o2, .ref e_o3, .int e_sz])), (e_o1, .inl (cI, 61, .inl e_f1)), (e_o2, .inl (cI, 30, .inl e_f2)), (e_o3, .inl (cI, 30, .inl e_f3)), (h1, .inr (8, [.int s_tones, .int s_a, .int s_b, .int s_c, .int s_d, .int s_odds, .int s_lines, .ref s_signs, .int s_signCount, .ref s_posts, .int s_postCount, .ref s_acts])), (s_signs, .inl (cI, 8, .inl s_fs)), (s_posts, .inl (cI, 5, .inl s_fp)), (s_acts, .inr (0, [.ref s_o1, .ref s_o2, .ref s_o3, .int s_sz])), (s_o1, .inl (cI, 61, .inl s_f1)), (s_o2, .inl (cI, 30, .inl s_f2)), (s_o3, .inl (cI, 30, .inl s_f3)), (h0, .inr (8, [.int s_tones, .int s_a, .int s_b, .int s_c, .int s_d, .int s_odds, .int s_lines, .ref e_signs, .int s_signCount, .ref e_posts, .int s_postCount, .ref e_acts]))] := hD
  refine lv_aload_n hx hb dX8_copyFrom_71 rfl (lv_at hl 1 rfl) ?_
  refine va_get (D := D) (ci := 8) (v := .ref s_posts) (C := RX8) (T := TX8) (N := 12) hx hb hts inlX8 hown hK hP 6 rfl rfl 9 (by decide) (hts _ (inr4 _ (List.mem_of_getElem? (i := 2) rfl))) (fun _ h9 => h9) rfl dX8_copyFrom_72 ?_
  refine lv_iconst (v := 0) hx hb dX8_copyFrom_75 (by decide) ?_
  refine lv_aload_n hx hb dX8_copyFrom_76 rfl (lv_at hl 0 rfl) ?_
  refine va_get (D := D) (ci := 8) (v := .ref e_posts) (C := RX8) (T := TX8) (N := 12) hx hb hts inlX8 hown hK hP 13 rfl rfl 9 (by decide) (hts _ (inr4 _ (List.mem_of_getElem? (i := 2) rfl))) (fun _ h9 => h9) rfl dX8_copyFrom_77 ?_
  refine lv_iconst (v := 0) hx hb dX8_copyFrom_80 (by decide) ?_
  refine lv_iconst (v := 5) hx hb dX8_copyFrom_81 (by decide) ?_
  refine va_copyi (rest := []) hx hb (by rw [hml]; exact hl.1.symm) hown (hts _ (inr17 _ (List.mem_of_getElem? (i := 5) rfl))) (hts _ (inr17 _ (List.mem_of_getElem? (i := 6) rfl))) (hts _ (inr17 _ (List.mem_of_getElem? (i := 7) rfl))) (hts _ (inr17 _ (List.mem_of_getElem? (i := 8) rfl))) hK hP hD hS 8 1 1 1 rfl rfl rfl rfl rfl (by decide) (by decide) (by decide) (by decide) (by decide) (fun _ _ => rfl) (Nat.le_of_ble_eq_true rfl) (Nat.le_of_ble_eq_true rfl) dX8_copyFrom_82 (fun H locs hP hD hS => ?_)
  have hP : va_P D vwCl [(e_signs, .inl (cI, 8, .inl g_5)), (e_posts, .inl (cI, 5, .inl (va_cpy s_fp e_fp (0 : Int32).toNatClampNeg (0 : Int32).toNatClampNeg (5 : Int32).toNatClampNeg))), (e_acts, .inr (0, [.ref e_o1, .ref e_o2, .ref e_o3, .int e_sz])), (e_o1, .inl (cI, 61, .inl e_f1)), (e_o2, .inl (cI, 30, .inl e_f2)), (e_o3, .inl (cI, 30, .inl e_f3)), (h1, .inr (8, [.int s_tones, .int s_a, .int s_b, .int s_c, .int s_d, .int s_odds, .int s_lines, .ref s_signs, .int s_signCount, .ref s_posts, .int s_postCount, .ref s_acts])), (s_signs, .inl (cI, 8, .inl s_fs)), (s_posts, .inl (cI, 5, .inl s_fp)), (s_acts, .inr (0, [.ref s_o1, .ref s_o2, .ref s_o3, .int s_sz])), (s_o1, .inl (cI, 61, .inl s_f1)), (s_o2, .inl (cI, 30, .inl s_f2)), (s_o3, .inl (cI, 30, .inl s_f3)), (h0, .inr (8, [.int s_tones, .int s_a, .int s_b, .int s_c, .int s_d, .int s_odds, .int s_lines, .ref e_signs, .int s_signCount, .ref e_posts, .int s_postCount, .ref e_acts]))] H := hP
  have hD : va_D A [(e_signs, .inl (cI, 8, .inl g_5)), (e_posts, .inl (cI, 5, .inl (va_cpy s_fp e_fp (0 : Int32).toNatClampNeg (0 : Int32).toNatClampNeg (5 : Int32).toNatClampNeg))), (e_acts, .inr (0, [.ref e_o1, .ref e_o2, .ref e_o3, .int e_sz])), (e_o1, .inl (cI, 61, .inl e_f1)), (e_o2, .inl (cI, 30, .inl e_f2)), (e_o3, .inl (cI, 30, .inl e_f3)), (h1, .inr (8, [.int s_tones, .int s_a, .int s_b, .int s_c, .int s_d, .int s_odds, .int s_lines, .ref s_signs, .int s_signCount, .ref s_posts, .int s_postCount, .ref s_acts])), (s_signs, .inl (cI, 8, .inl s_fs)), (s_posts, .inl (cI, 5, .inl s_fp)), (s_acts, .inr (0, [.ref s_o1, .ref s_o2, .ref s_o3, .int s_sz])), (s_o1, .inl (cI, 61, .inl s_f1)), (s_o2, .inl (cI, 30, .inl s_f2)), (s_o3, .inl (cI, 30, .inl s_f3)), (h0, .inr (8, [.int s_tones, .int s_a, .int s_b, .int s_c, .int s_d, .int s_odds, .int s_lines, .ref e_signs, .int s_signCount, .ref e_posts, .int s_postCount, .ref e_acts]))] := hD
  obtain ⟨g_6, eg_6⟩ : ∃ v9 : Nat → Int32, (va_cpy s_fp e_fp (0 : Int32).toNatClampNeg (0 : Int32).toNatClampNeg (5 : Int32).toNatClampNeg) = v9 := ⟨_, rfl⟩
  rw [eg_6] at hP hD
  have hP : va_P D vwCl [(e_signs, .inl (cI, 8, .inl g_5)), (e_posts, .inl (cI, 5, .inl g_6)), (e_acts, .inr (0, [.ref e_o1, .ref e_o2, .ref e_o3, .int e_sz])), (e_o1, .inl (cI, 61, .inl e_f1)), (e_o2, .inl (cI, 30, .inl e_f2)), (e_o3, .inl (cI, 30, .inl e_f3)), (h1, .inr (8, [.int s_tones, .int s_a, .int s_b, .int s_c, .int s_d, .int s_odds, .int s_lines, .ref s_signs, .int s_signCount, .ref s_posts, .int s_postCount, .ref s_acts])), (s_signs, .inl (cI, 8, .inl s_fs)), (s_posts, .inl (cI, 5, .inl s_fp)), (s_acts, .inr (0, [.ref s_o1, .ref s_o2, .ref s_o3, .int s_sz])), (s_o1, .inl (cI, 61, .inl s_f1)), (s_o2, .inl (cI, 30, .inl s_f2)), (s_o3, .inl (cI, 30, .inl s_f3)), (h0, .inr (8, [.int s_tones, .int s_a, .int s_b, .int s_c, .int s_d, .int s_odds, .int s_lines, .ref e_signs, .int s_signCount, .ref e_posts, .int s_postCount, .ref e_acts]))] H := hP
  have hD : va_D A [(e_signs, .inl (cI, 8, .inl g_5)), (e_posts, .inl (cI, 5, .inl g_6)), (e_acts, .inr (0, [.ref e_o1, .ref e_o2, .ref e_o3, .int e_sz])), (e_o1, .inl (cI, 61, .inl e_f1)), (e_o2, .inl (cI, 30, .inl e_f2)), (e_o3, .inl (cI, 30, .inl e_f3)), (h1, .inr (8, [.int s_tones, .int s_a, .int s_b, .int s_c, .int s_d, .int s_odds, .int s_lines, .ref s_signs, .int s_signCount, .ref s_posts, .int s_postCount, .ref s_acts])), (s_signs, .inl (cI, 8, .inl s_fs)), (s_posts, .inl (cI, 5, .inl s_fp)), (s_acts, .inr (0, [.ref s_o1, .ref s_o2, .ref s_o3, .int s_sz])), (s_o1, .inl (cI, 61, .inl s_f1)), (s_o2, .inl (cI, 30, .inl s_f2)), (s_o3, .inl (cI, 30, .inl s_f3)), (h0, .inr (8, [.int s_tones, .int s_a, .int s_b, .int s_c, .int s_d, .int s_odds, .int s_lines, .ref e_signs, .int s_signCount, .ref e_posts, .int s_postCount, .ref e_acts]))] := hD
  refine lv_aload_n hx hb dX8_copyFrom_85 rfl (lv_at hl 0 rfl) ?_
  refine va_get (D := D) (ci := 8) (v := .ref e_acts) (C := RX8) (T := TX8) (N := 12) hx hb hts inlX8 hown hK hP 13 rfl rfl 11 (by decide) (hts _ (inr4 _ (List.mem_of_getElem? (i := 6) rfl))) (fun _ h9 => h9) rfl dX8_copyFrom_86 ?_
  refine lv_aload_n hx hb dX8_copyFrom_89 rfl (lv_at hl 1 rfl) ?_
  refine va_get (D := D) (ci := 8) (v := .ref s_acts) (C := RX8) (T := TX8) (N := 12) hx hb hts inlX8 hown hK hP 6 rfl rfl 11 (by decide) (hts _ (inr4 _ (List.mem_of_getElem? (i := 6) rfl))) (fun _ h9 => h9) rfl dX8_copyFrom_90 ?_
  refine wrVv (As := [.ref s_acts]) (rest := []) (wr := [(e_signs, .inl (cI, 8, .inl g_5)), (e_posts, .inl (cI, 5, .inl g_6)), (h1, .inr (8, [.int s_tones, .int s_a, .int s_b, .int s_c, .int s_d, .int s_odds, .int s_lines, .ref s_signs, .int s_signCount, .ref s_posts, .int s_postCount, .ref s_acts])), (s_signs, .inl (cI, 8, .inl s_fs)), (s_posts, .inl (cI, 5, .inl s_fp)), (h0, .inr (8, [.int s_tones, .int s_a, .int s_b, .int s_c, .int s_d, .int s_odds, .int s_lines, .ref e_signs, .int s_signCount, .ref e_posts, .int s_postCount, .ref e_acts]))]) ⟨hx, hb, hml, hown, hts⟩ (k_Ac_copy l D cB cI cJ cZ cS cT H.size e_acts s_acts e_o1 e_o2 e_o3 e_sz e_f1 e_f2 e_f3 s_o1 s_o2 s_o3 s_sz s_f1 s_f2 s_f3 ) hP hD hS hA hK hN [2, 3, 4, 5, 9, 10, 11, 12] [0, 1, 6, 7, 8, 13] rfl rfl (by decide) (by decide) (by decide) (cvB (n := 1) (inr17 _ (List.mem_of_getElem? (i := 9) rfl)) (inr17 _ (List.mem_of_getElem? (i := 10) rfl)) (inr17 _ (List.mem_of_getElem? (i := 11) rfl)) (inr4 _ (List.mem_of_getElem? (i := 5) rfl)) (inr17 _ (List.mem_of_getElem? (i := 12) rfl)) (by decide +kernel) hts rfl rfl ⟨Nat.le_of_ble_eq_true rfl, Nat.le_of_ble_eq_true rfl⟩) 0 0 rfl rfl rfl rfl hl.1 rfl (Nat.le_of_ble_eq_true rfl) ⟨Nat.le_of_ble_eq_true rfl, Nat.le_of_ble_eq_true rfl⟩ dX8_copyFrom_93 (fun x9 H locs h_8 hP hD hS => ?_)
  obtain ⟨g_9, g_10, g_11⟩ := x9
  have hP : va_P D vwCl [(e_signs, .inl (cI, 8, .inl g_5)), (e_posts, .inl (cI, 5, .inl g_6)), (h1, .inr (8, [.int s_tones, .int s_a, .int s_b, .int s_c, .int s_d, .int s_odds, .int s_lines, .ref s_signs, .int s_signCount, .ref s_posts, .int s_postCount, .ref s_acts])), (s_signs, .inl (cI, 8, .inl s_fs)), (s_posts, .inl (cI, 5, .inl s_fp)), (h0, .inr (8, [.int s_tones, .int s_a, .int s_b, .int s_c, .int s_d, .int s_odds, .int s_lines, .ref e_signs, .int s_signCount, .ref e_posts, .int s_postCount, .ref e_acts])), (e_acts, .inr (0, [.ref e_o1, .ref e_o2, .ref e_o3, .int s_sz])), (e_o1, .inl (cI, 61, .inl g_9)), (e_o2, .inl (cI, 30, .inl g_10)), (e_o3, .inl (cI, 30, .inl g_11)), (s_acts, .inr (0, [.ref s_o1, .ref s_o2, .ref s_o3, .int s_sz])), (s_o1, .inl (cI, 61, .inl s_f1)), (s_o2, .inl (cI, 30, .inl s_f2)), (s_o3, .inl (cI, 30, .inl s_f3))] H := hP
  have hD : va_D A [(e_signs, .inl (cI, 8, .inl g_5)), (e_posts, .inl (cI, 5, .inl g_6)), (h1, .inr (8, [.int s_tones, .int s_a, .int s_b, .int s_c, .int s_d, .int s_odds, .int s_lines, .ref s_signs, .int s_signCount, .ref s_posts, .int s_postCount, .ref s_acts])), (s_signs, .inl (cI, 8, .inl s_fs)), (s_posts, .inl (cI, 5, .inl s_fp)), (h0, .inr (8, [.int s_tones, .int s_a, .int s_b, .int s_c, .int s_d, .int s_odds, .int s_lines, .ref e_signs, .int s_signCount, .ref e_posts, .int s_postCount, .ref e_acts])), (e_acts, .inr (0, [.ref e_o1, .ref e_o2, .ref e_o3, .int s_sz])), (e_o1, .inl (cI, 61, .inl g_9)), (e_o2, .inl (cI, 30, .inl g_10)), (e_o3, .inl (cI, 30, .inl g_11)), (s_acts, .inr (0, [.ref s_o1, .ref s_o2, .ref s_o3, .int s_sz])), (s_o1, .inl (cI, 61, .inl s_f1)), (s_o2, .inl (cI, 30, .inl s_f2)), (s_o3, .inl (cI, 30, .inl s_f3))] := hD
  have hP9 := hP.sub (ws' := [(h0, .inr (8, [.int s_tones, .int s_a, .int s_b, .int s_c, .int s_d, .int s_odds, .int s_lines, .ref e_signs, .int s_signCount, .ref e_posts, .int s_postCount, .ref e_acts])), (e_signs, .inl (cI, 8, .inl g_5)), (e_posts, .inl (cI, 5, .inl g_6)), (e_acts, .inr (0, [.ref e_o1, .ref e_o2, .ref e_o3, .int s_sz])), (e_o1, .inl (cI, 61, .inl g_9)), (e_o2, .inl (cI, 30, .inl g_10)), (e_o3, .inl (cI, 30, .inl g_11)), (h1, .inr (8, [.int s_tones, .int s_a, .int s_b, .int s_c, .int s_d, .int s_odds, .int s_lines, .ref s_signs, .int s_signCount, .ref s_posts, .int s_postCount, .ref s_acts])), (s_signs, .inl (cI, 8, .inl s_fs)), (s_posts, .inl (cI, 5, .inl s_fp)), (s_acts, .inr (0, [.ref s_o1, .ref s_o2, .ref s_o3, .int s_sz])), (s_o1, .inl (cI, 61, .inl s_f1)), (s_o2, .inl (cI, 30, .inl s_f2)), (s_o3, .inl (cI, 30, .inl s_f3))]) [5, 0, 1, 6, 7, 8, 9, 2, 3, 4, 10, 11, 12, 13] rfl
  have hD9 := hD.sub (ws' := [(h0, .inr (8, [.int s_tones, .int s_a, .int s_b, .int s_c, .int s_d, .int s_odds, .int s_lines, .ref e_signs, .int s_signCount, .ref e_posts, .int s_postCount, .ref e_acts])), (e_signs, .inl (cI, 8, .inl g_5)), (e_posts, .inl (cI, 5, .inl g_6)), (e_acts, .inr (0, [.ref e_o1, .ref e_o2, .ref e_o3, .int s_sz])), (e_o1, .inl (cI, 61, .inl g_9)), (e_o2, .inl (cI, 30, .inl g_10)), (e_o3, .inl (cI, 30, .inl g_11)), (h1, .inr (8, [.int s_tones, .int s_a, .int s_b, .int s_c, .int s_d, .int s_odds, .int s_lines, .ref s_signs, .int s_signCount, .ref s_posts, .int s_postCount, .ref s_acts])), (s_signs, .inl (cI, 8, .inl s_fs)), (s_posts, .inl (cI, 5, .inl s_fp)), (s_acts, .inr (0, [.ref s_o1, .ref s_o2, .ref s_o3, .int s_sz])), (s_o1, .inl (cI, 61, .inl s_f1)), (s_o2, .inl (cI, 30, .inl s_f2)), (s_o3, .inl (cI, 30, .inl s_f3))]) [5, 0, 1, 6, 7, 8, 9, 2, 3, 4, 10, 11, 12, 13] (by decide) rfl
  exact W.vret hx hb hr (fun t ht hW => ⟨⟨(g_9, g_10, g_11, g_5, g_6), rfl, trivial, by rw [ht]; exact hP9, va_K.moved hW.alike hK, hD9⟩, hS.F ht⟩) hS.2.2 dX8_copyFrom_96

set_option maxHeartbeats 4000000 in
set_option maxRecDepth 100000 in
theorem kx_image (l : Launch) (D : va_G) (cB cI cJ cZ cS cT : ClassId) (sz : Nat) (x0 : Nat) (r_tape : Nat) (r_reader : Nat) (r_now : Nat) (r_trial : Nat) (r_images : Nat) (r_kept : Nat) (r_slots : Nat) (r_night : Nat) (r_other : Nat) (r_circle : Nat) (r_words : Nat) (r_law : Nat) (r_place : Nat) (r_drawn : Nat) (im0 : Nat) (im1 : Nat) (im2 : Nat) (m0_signs : Nat) (m0_posts : Nat) (m0_acts : Nat) (m0_over : Nat) (m0_steps : Nat) (m0_before : Nat) (m0_gov : Nat → Int32) (m1_signs : Nat) (m1_posts : Nat) (m1_acts : Nat) (m1_over : Nat) (m1_steps : Nat) (m1_before : Nat) (m1_gov : Nat → Int32) (m2_signs : Nat) (m2_posts : Nat) (m2_acts : Nat) (m2_over : Nat) (m2_steps : Nat) (m2_before : Nat) (m2_gov : Nat → Int32) (n_signs : Nat) (n_posts : Nat) (n_acts : Nat) (n_over : Nat) (n_steps : Nat) (n_before : Nat) (n_gov : Nat → Int32) (a1 : Int32)  : Met l yX11_image (Cond.code yX11_image cX11_image 2 (some .int) :: wsL_law) ({ frames := 3, cells := 0, slots := 0, locals := 82 }) (wrP D (tyL cB cI cJ cZ cS cT) [(x0, .inr (11, [.ref r_tape, .ref r_reader, .ref r_now, .ref r_trial, .ref r_images, .ref r_kept, .ref r_slots, .ref r_night, .ref r_other, .ref r_circle, .ref r_words, .ref r_law, .ref r_place, .ref r_drawn])), (r_images, .inl (cT, 3, .inr (.inr (.inr (.inr (va_up (va_up (va_up (fun _ => none) 0 (some im0)) 1 (some im1)) 2 (some im2))))))), (im0, .inr (8, [.int 0, .int 0, .int 0, .int 0, .int 0, .int 0, .int 0, .ref m0_signs, .int 0, .ref m0_posts, .int 0, .ref m0_acts])), (m0_signs, .inl (cI, 8, .inl (fun _ => 0))), (m0_posts, .inl (cI, 5, .inl (fun _ => 0))), (m0_acts, .inr (0, [.ref m0_over, .ref m0_steps, .ref m0_before, .int 0])), (m0_over, .inl (cI, 61, .inl m0_gov)), (m0_steps, .inl (cI, 30, .inl (fun _ => 0))), (m0_before, .inl (cI, 30, .inl (fun _ => 0))), (im1, .inr (8, [.int 0, .int 0, .int 0, .int 0, .int 0, .int 0, .int 0, .ref m1_signs, .int 0, .ref m1_posts, .int 0, .ref m1_acts])), (m1_signs, .inl (cI, 8, .inl (fun _ => 0))), (m1_posts, .inl (cI, 5, .inl (fun _ => 0))), (m1_acts, .inr (0, [.ref m1_over, .ref m1_steps, .ref m1_before, .int 0])), (m1_over, .inl (cI, 61, .inl m1_gov)), (m1_steps, .inl (cI, 30, .inl (fun _ => 0))), (m1_before, .inl (cI, 30, .inl (fun _ => 0))), (im2, .inr (8, [.int 0, .int 0, .int 0, .int 0, .int 0, .int 0, .int 0, .ref m2_signs, .int 0, .ref m2_posts, .int 0, .ref m2_acts])), (m2_signs, .inl (cI, 8, .inl (fun _ => 0))), (m2_posts, .inl (cI, 5, .inl (fun _ => 0))), (m2_acts, .inr (0, [.ref m2_over, .ref m2_steps, .ref m2_before, .int 0])), (m2_over, .inl (cI, 61, .inl m2_gov)), (m2_steps, .inl (cI, 30, .inl (fun _ => 0))), (m2_before, .inl (cI, 30, .inl (fun _ => 0))), (r_now, .inr (8, [.int 0, .int 0, .int 0, .int 0, .int 0, .int 0, .int 0, .ref n_signs, .int 0, .ref n_posts, .int 0, .ref n_acts])), (n_signs, .inl (cI, 8, .inl (fun _ => 0))), (n_posts, .inl (cI, 5, .inl (fun _ => 0))), (n_acts, .inr (0, [.ref n_over, .ref n_steps, .ref n_before, .int 0])), (n_over, .inl (cI, 61, .inl n_gov)), (n_steps, .inl (cI, 30, .inl (fun _ => 0))), (n_before, .inl (cI, 30, .inl (fun _ => 0))), (r_kept, .inl (cZ, 3, .inl (fun _ => 0)))] sz [.ref x0, .int a1]) (va_Qi (fun (r : Int32) (x : Unit) => r = S_image a1) (atW D (tyL cB cI cJ cZ cS cT) (va_A [(x0, .inr (11, [.ref r_tape, .ref r_reader, .ref r_now, .ref r_trial, .ref r_images, .ref r_kept, .ref r_slots, .ref r_night, .ref r_other, .ref r_circle, .ref r_words, .ref r_law, .ref r_place, .ref r_drawn])), (r_images, .inl (cT, 3, .inr (.inr (.inr (.inr (va_up (va_up (va_up (fun _ => none) 0 (some im0)) 1 (some im1)) 2 (some im2))))))), (im0, .inr (8, [.int 0, .int 0, .int 0, .int 0, .int 0, .int 0, .int 0, .ref m0_signs, .int 0, .ref m0_posts, .int 0, .ref m0_acts])), (m0_signs, .inl (cI, 8, .inl (fun _ => 0))), (m0_posts, .inl (cI, 5, .inl (fun _ => 0))), (m0_acts, .inr (0, [.ref m0_over, .ref m0_steps, .ref m0_before, .int 0])), (m0_over, .inl (cI, 61, .inl m0_gov)), (m0_steps, .inl (cI, 30, .inl (fun _ => 0))), (m0_before, .inl (cI, 30, .inl (fun _ => 0))), (im1, .inr (8, [.int 0, .int 0, .int 0, .int 0, .int 0, .int 0, .int 0, .ref m1_signs, .int 0, .ref m1_posts, .int 0, .ref m1_acts])), (m1_signs, .inl (cI, 8, .inl (fun _ => 0))), (m1_posts, .inl (cI, 5, .inl (fun _ => 0))), (m1_acts, .inr (0, [.ref m1_over, .ref m1_steps, .ref m1_before, .int 0])), (m1_over, .inl (cI, 61, .inl m1_gov)), (m1_steps, .inl (cI, 30, .inl (fun _ => 0))), (m1_before, .inl (cI, 30, .inl (fun _ => 0))), (im2, .inr (8, [.int 0, .int 0, .int 0, .int 0, .int 0, .int 0, .int 0, .ref m2_signs, .int 0, .ref m2_posts, .int 0, .ref m2_acts])), (m2_signs, .inl (cI, 8, .inl (fun _ => 0))), (m2_posts, .inl (cI, 5, .inl (fun _ => 0))), (m2_acts, .inr (0, [.ref m2_over, .ref m2_steps, .ref m2_before, .int 0])), (m2_over, .inl (cI, 61, .inl m2_gov)), (m2_steps, .inl (cI, 30, .inl (fun _ => 0))), (m2_before, .inl (cI, 30, .inl (fun _ => 0))), (r_now, .inr (8, [.int 0, .int 0, .int 0, .int 0, .int 0, .int 0, .int 0, .ref n_signs, .int 0, .ref n_posts, .int 0, .ref n_acts])), (n_signs, .inl (cI, 8, .inl (fun _ => 0))), (n_posts, .inl (cI, 5, .inl (fun _ => 0))), (n_acts, .inr (0, [.ref n_over, .ref n_steps, .ref n_before, .int 0])), (n_over, .inl (cI, 61, .inl n_gov)), (n_steps, .inl (cI, 30, .inl (fun _ => 0))), (n_before, .inl (cI, 30, .inl (fun _ => 0))), (r_kept, .inl (cZ, 3, .inl (fun _ => 0)))] sz) (fun x : Unit => [])) (va_A [(x0, .inr (11, [.ref r_tape, .ref r_reader, .ref r_now, .ref r_trial, .ref r_images, .ref r_kept, .ref r_slots, .ref r_night, .ref r_other, .ref r_circle, .ref r_words, .ref r_law, .ref r_place, .ref r_drawn])), (r_images, .inl (cT, 3, .inr (.inr (.inr (.inr (va_up (va_up (va_up (fun _ => none) 0 (some im0)) 1 (some im1)) 2 (some im2))))))), (im0, .inr (8, [.int 0, .int 0, .int 0, .int 0, .int 0, .int 0, .int 0, .ref m0_signs, .int 0, .ref m0_posts, .int 0, .ref m0_acts])), (m0_signs, .inl (cI, 8, .inl (fun _ => 0))), (m0_posts, .inl (cI, 5, .inl (fun _ => 0))), (m0_acts, .inr (0, [.ref m0_over, .ref m0_steps, .ref m0_before, .int 0])), (m0_over, .inl (cI, 61, .inl m0_gov)), (m0_steps, .inl (cI, 30, .inl (fun _ => 0))), (m0_before, .inl (cI, 30, .inl (fun _ => 0))), (im1, .inr (8, [.int 0, .int 0, .int 0, .int 0, .int 0, .int 0, .int 0, .ref m1_signs, .int 0, .ref m1_posts, .int 0, .ref m1_acts])), (m1_signs, .inl (cI, 8, .inl (fun _ => 0))), (m1_posts, .inl (cI, 5, .inl (fun _ => 0))), (m1_acts, .inr (0, [.ref m1_over, .ref m1_steps, .ref m1_before, .int 0])), (m1_over, .inl (cI, 61, .inl m1_gov)), (m1_steps, .inl (cI, 30, .inl (fun _ => 0))), (m1_before, .inl (cI, 30, .inl (fun _ => 0))), (im2, .inr (8, [.int 0, .int 0, .int 0, .int 0, .int 0, .int 0, .int 0, .ref m2_signs, .int 0, .ref m2_posts, .int 0, .ref m2_acts])), (m2_signs, .inl (cI, 8, .inl (fun _ => 0))), (m2_posts, .inl (cI, 5, .inl (fun _ => 0))), (m2_acts, .inr (0, [.ref m2_over, .ref m2_steps, .ref m2_before, .int 0])), (m2_over, .inl (cI, 61, .inl m2_gov)), (m2_steps, .inl (cI, 30, .inl (fun _ => 0))), (m2_before, .inl (cI, 30, .inl (fun _ => 0))), (r_now, .inr (8, [.int 0, .int 0, .int 0, .int 0, .int 0, .int 0, .int 0, .ref n_signs, .int 0, .ref n_posts, .int 0, .ref n_acts])), (n_signs, .inl (cI, 8, .inl (fun _ => 0))), (n_posts, .inl (cI, 5, .inl (fun _ => 0))), (n_acts, .inr (0, [.ref n_over, .ref n_steps, .ref n_before, .int 0])), (n_over, .inl (cI, 61, .inl n_gov)), (n_steps, .inl (cI, 30, .inl (fun _ => 0))), (n_before, .inl (cI, 30, .inl (fun _ => 0))), (r_kept, .inl (cZ, 3, .inl (fun _ => 0)))] sz)) 0 0 (va_A [(x0, .inr (11, [.ref r_tape, .ref r_reader, .ref r_now, .ref r_trial, .ref r_images, .ref r_kept, .ref r_slots, .ref r_night, .ref r_other, .ref r_circle, .ref r_words, .ref r_law, .ref r_place, .ref r_drawn])), (r_images, .inl (cT, 3, .inr (.inr (.inr (.inr (va_up (va_up (va_up (fun _ => none) 0 (some im0)) 1 (some im1)) 2 (some im2))))))), (im0, .inr (8, [.int 0, .int 0, .int 0, .int 0, .int 0, .int 0, .int 0, .ref m0_signs, .int 0, .ref m0_posts, .int 0, .ref m0_acts])), (m0_signs, .inl (cI, 8, .inl (fun _ => 0))), (m0_posts, .inl (cI, 5, .inl (fun _ => 0))), (m0_acts, .inr (0, [.ref m0_over, .ref m0_steps, .ref m0_before, .int 0])), (m0_over, .inl (cI, 61, .inl m0_gov)), (m0_steps, .inl (cI, 30, .inl (fun _ => 0))), (m0_before, .inl (cI, 30, .inl (fun _ => 0))), (im1, .inr (8, [.int 0, .int 0, .int 0, .int 0, .int 0, .int 0, .int 0, .ref m1_signs, .int 0, .ref m1_posts, .int 0, .ref m1_acts])), (m1_signs, .inl (cI, 8, .inl (fun _ => 0))), (m1_posts, .inl (cI, 5, .inl (fun _ => 0))), (m1_acts, .inr (0, [.ref m1_over, .ref m1_steps, .ref m1_before, .int 0])), (m1_over, .inl (cI, 61, .inl m1_gov)), (m1_steps, .inl (cI, 30, .inl (fun _ => 0))), (m1_before, .inl (cI, 30, .inl (fun _ => 0))), (im2, .inr (8, [.int 0, .int 0, .int 0, .int 0, .int 0, .int 0, .int 0, .ref m2_signs, .int 0, .ref m2_posts, .int 0, .ref m2_acts])), (m2_signs, .inl (cI, 8, .inl (fun _ => 0))), (m2_posts, .inl (cI, 5, .inl (fun _ => 0))), (m2_acts, .inr (0, [.ref m2_over, .ref m2_steps, .ref m2_before, .int 0])), (m2_over, .inl (cI, 61, .inl m2_gov)), (m2_steps, .inl (cI, 30, .inl (fun _ => 0))), (m2_before, .inl (cI, 30, .inl (fun _ => 0))), (r_now, .inr (8, [.int 0, .int 0, .int 0, .int 0, .int 0, .int 0, .int 0, .ref n_signs, .int 0, .ref n_posts, .int 0, .ref n_acts])), (n_signs, .inl (cI, 8, .inl (fun _ => 0))), (n_posts, .inl (cI, 5, .inl (fun _ => 0))), (n_acts, .inr (0, [.ref n_over, .ref n_steps, .ref n_before, .int 0])), (n_over, .inl (cI, 61, .inl n_gov)), (n_steps, .inl (cI, 30, .inl (fun _ => 0))), (n_before, .inl (cI, 30, .inl (fun _ => 0))), (r_kept, .inl (cZ, 3, .inl (fun _ => 0)))] sz) := by
  refine Met.ofW (cc := cX11_image) (maxL := 2) (ret := (some .int)) (by decide) rfl ?_
  intro p e s m args below meth c s₁ B hml hv
  obtain ⟨rfl, hsz, hP, hK, hD0, hN⟩ := hv
  have hx := B.exec
  have hb := B.bytes
  have hr := B.returns
  have hts : ∀ w ∈ wsL_law, w.before ([.ref x0, .int a1] : List Value).toArray s = true := fun w h => atoms_spec (ws := Cond.code yX11_image cX11_image 2 (some .int) :: wsL_law) B.pre w (List.mem_cons_of_mem _ h)
  have hown : s.vm.findClass RX11 = some m.cls := findClass_of_methodNamed B.named
  have hlocks := B.notSynchronized
  subst hsz
  have hD := hD0.self (sz := s.heap.size)
  generalize hAe : va_A [(x0, .inr (11, [.ref r_tape, .ref r_reader, .ref r_now, .ref r_trial, .ref r_images, .ref r_kept, .ref r_slots, .ref r_night, .ref r_other, .ref r_circle, .ref r_words, .ref r_law, .ref r_place, .ref r_drawn])), (r_images, .inl (cT, 3, .inr (.inr (.inr (.inr (va_up (va_up (va_up (fun _ => none) 0 (some im0)) 1 (some im1)) 2 (some im2))))))), (im0, .inr (8, [.int 0, .int 0, .int 0, .int 0, .int 0, .int 0, .int 0, .ref m0_signs, .int 0, .ref m0_posts, .int 0, .ref m0_acts])), (m0_signs, .inl (cI, 8, .inl (fun _ => 0))), (m0_posts, .inl (cI, 5, .inl (fun _ => 0))), (m0_acts, .inr (0, [.ref m0_over, .ref m0_steps, .ref m0_before, .int 0])), (m0_over, .inl (cI, 61, .inl m0_gov)), (m0_steps, .inl (cI, 30, .inl (fun _ => 0))), (m0_before, .inl (cI, 30, .inl (fun _ => 0))), (im1, .inr (8, [.int 0, .int 0, .int 0, .int 0, .int 0, .int 0, .int 0, .ref m1_signs, .int 0, .ref m1_posts, .int 0, .ref m1_acts])), (m1_signs, .inl (cI, 8, .inl (fun _ => 0))), (m1_posts, .inl (cI, 5, .inl (fun _ => 0))), (m1_acts, .inr (0, [.ref m1_over, .ref m1_steps, .ref m1_before, .int 0])), (m1_over, .inl (cI, 61, .inl m1_gov)), (m1_steps, .inl (cI, 30, .inl (fun _ => 0))), (m1_before, .inl (cI, 30, .inl (fun _ => 0))), (im2, .inr (8, [.int 0, .int 0, .int 0, .int 0, .int 0, .int 0, .int 0, .ref m2_signs, .int 0, .ref m2_posts, .int 0, .ref m2_acts])), (m2_signs, .inl (cI, 8, .inl (fun _ => 0))), (m2_posts, .inl (cI, 5, .inl (fun _ => 0))), (m2_acts, .inr (0, [.ref m2_over, .ref m2_steps, .ref m2_before, .int 0])), (m2_over, .inl (cI, 61, .inl m2_gov)), (m2_steps, .inl (cI, 30, .inl (fun _ => 0))), (m2_before, .inl (cI, 30, .inl (fun _ => 0))), (r_now, .inr (8, [.int 0, .int 0, .int 0, .int 0, .int 0, .int 0, .int 0, .ref n_signs, .int 0, .ref n_posts, .int 0, .ref n_acts])), (n_signs, .inl (cI, 8, .inl (fun _ => 0))), (n_posts, .inl (cI, 5, .inl (fun _ => 0))), (n_acts, .inr (0, [.ref n_over, .ref n_steps, .ref n_before, .int 0])), (n_over, .inl (cI, 61, .inl n_gov)), (n_steps, .inl (cI, 30, .inl (fun _ => 0))), (n_before, .inl (cI, 30, .inl (fun _ => 0))), (r_kept, .inl (cZ, 3, .inl (fun _ => 0)))] s.heap.size = A at hD ⊢
  have hA : ∀ q : Nat, s.heap.size ≤ q → A q := fun q h => by rw [← hAe]; exact Or.inr h
  have hS : va_S A s.heap s.heap [] := va_S.rf
  have hl := lv_entry ([.ref x0, .int a1]) (n := 2) (Nat.le_of_ble_eq_true rfl)
  rw [lg_entry_eq]
  generalize (lg_sl ([.ref x0, .int a1]) ++ List.replicate (2 - (lg_sl ([.ref x0, .int a1])).length) Slot.unset).toArray = ls at hl ⊢
  have hl : lv_has ls 2 [(0, .ref x0), (1, .int a1)] := hl
  have hP : va_P D vwCl [(x0, .inr (11, [.ref r_tape, .ref r_reader, .ref r_now, .ref r_trial, .ref r_images, .ref r_kept, .ref r_slots, .ref r_night, .ref r_other, .ref r_circle, .ref r_words, .ref r_law, .ref r_place, .ref r_drawn])), (r_images, .inl (cT, 3, .inr (.inr (.inr (.inr (va_up (va_up (va_up (fun _ => none) 0 (some im0)) 1 (some im1)) 2 (some im2))))))), (im0, .inr (8, [.int 0, .int 0, .int 0, .int 0, .int 0, .int 0, .int 0, .ref m0_signs, .int 0, .ref m0_posts, .int 0, .ref m0_acts])), (m0_signs, .inl (cI, 8, .inl (fun _ => 0))), (m0_posts, .inl (cI, 5, .inl (fun _ => 0))), (m0_acts, .inr (0, [.ref m0_over, .ref m0_steps, .ref m0_before, .int 0])), (m0_over, .inl (cI, 61, .inl m0_gov)), (m0_steps, .inl (cI, 30, .inl (fun _ => 0))), (m0_before, .inl (cI, 30, .inl (fun _ => 0))), (im1, .inr (8, [.int 0, .int 0, .int 0, .int 0, .int 0, .int 0, .int 0, .ref m1_signs, .int 0, .ref m1_posts, .int 0, .ref m1_acts])), (m1_signs, .inl (cI, 8, .inl (fun _ => 0))), (m1_posts, .inl (cI, 5, .inl (fun _ => 0))), (m1_acts, .inr (0, [.ref m1_over, .ref m1_steps, .ref m1_before, .int 0])), (m1_over, .inl (cI, 61, .inl m1_gov)), (m1_steps, .inl (cI, 30, .inl (fun _ => 0))), (m1_before, .inl (cI, 30, .inl (fun _ => 0))), (im2, .inr (8, [.int 0, .int 0, .int 0, .int 0, .int 0, .int 0, .int 0, .ref m2_signs, .int 0, .ref m2_posts, .int 0, .ref m2_acts])), (m2_signs, .inl (cI, 8, .inl (fun _ => 0))), (m2_posts, .inl (cI, 5, .inl (fun _ => 0))), (m2_acts, .inr (0, [.ref m2_over, .ref m2_steps, .ref m2_before, .int 0])), (m2_over, .inl (cI, 61, .inl m2_gov)), (m2_steps, .inl (cI, 30, .inl (fun _ => 0))), (m2_before, .inl (cI, 30, .inl (fun _ => 0))), (r_now, .inr (8, [.int 0, .int 0, .int 0, .int 0, .int 0, .int 0, .int 0, .ref n_signs, .int 0, .ref n_posts, .int 0, .ref n_acts])), (n_signs, .inl (cI, 8, .inl (fun _ => 0))), (n_posts, .inl (cI, 5, .inl (fun _ => 0))), (n_acts, .inr (0, [.ref n_over, .ref n_steps, .ref n_before, .int 0])), (n_over, .inl (cI, 61, .inl n_gov)), (n_steps, .inl (cI, 30, .inl (fun _ => 0))), (n_before, .inl (cI, 30, .inl (fun _ => 0))), (r_kept, .inl (cZ, 3, .inl (fun _ => 0)))] s.heap := hP
  refine lv_iload_n hx hb dX11_image_0 rfl (lv_at hl 1 rfl) ?_
  obtain ⟨t_1, et_1⟩ : ∃ v9 : Int64, (a1 : Int32).toInt64 = v9 := ⟨_, rfl⟩
  refine lv_i2l (v := t_1) hx hb dX11_image_1 et_1 ?_
  have ft_1 : t_1.toInt = a1.toInt := by rw [← et_1]; exact Int32.toInt_toInt64 _
  refine lv_lconst (v := 0) hx hb dX11_image_2 (by decide) ?_
  refine lv_ldc2 hx hb hown (hts _ (inr68 _ (List.mem_of_getElem? (i := 7) rfl))) dX11_image_3 ?_
  refine rosi (As := [.long t_1, .long 0, .long 2]) (rest := []) ⟨hx, hb, hml, hown, hts⟩ (k_outside l D cB cI cJ cZ cS cT t_1 0 2 ) (csB (n := 3) (inr8 _ (List.mem_of_getElem? (i := 16) rfl)) (inr8 _ (List.mem_of_getElem? (i := 17) rfl)) (inr1 _ (List.mem_of_getElem? (i := 2) rfl)) (inr8 _ (List.mem_of_getElem? (i := 18) rfl)) (by decide +kernel) hts rfl rfl ⟨Nat.le_of_ble_eq_true rfl, Nat.le_of_ble_eq_true rfl⟩) (hP.sub [] rfl) hK rfl hl.1 rfl (Nat.le_of_ble_eq_true rfl) ⟨Nat.le_of_ble_eq_true rfl, Nat.le_of_ble_eq_true rfl⟩ dX11_image_6 (fun r_2 h_3 => ?_)
  rcases h_3 with ⟨rfl, k_4⟩ | ⟨rfl, k_4⟩
  · have k_4 : t_1.toInt < 0 ∨ 2 < t_1.toInt := k_4
    refine lv_if_eq (tgt := 15) hx hb dX11_image_9 (by decide) (fun c0 => absurd c0 (by decide)) (fun _ => ?_)
    refine lv_bipush (v := (-2)) hx hb dX11_image_12 (by decide) ?_
    have hP9 := hP.sub (ws' := []) [] rfl
    have hD9 := hD.sub (ws' := []) [] (by decide) rfl
    exact W.iret (v := (-2)) hx hb hr (fun t ht hW => ⟨⟨(-2), (), rfl, (by unfold S_image; repeat' split <;> first | rfl | (exfalso; omega)), by rw [ht]; exact hP9, va_K.moved hW.alike hK, hD9⟩, hS.F ht⟩) hS.2.2 dX11_image_14
  · have k_4 : 0 ≤ t_1.toInt ∧ t_1.toInt ≤ 2 := k_4
    refine lv_if_eq (tgt := 15) hx hb dX11_image_9 (by decide) (fun _ => ?_) (fun c0 => absurd c0 (by decide))
    rcases in3 (x := a1) (by omega) (by omega) with rfl | rfl | rfl
    · have hl : lv_has ls 2 [(0, .ref x0), (1, .int 0)] := hl
      refine lv_aload_n hx hb dX11_image_15 rfl (lv_at hl 0 rfl) ?_
      refine va_get (D := D) (ci := 11) (v := .ref r_images) (C := RX11) (T := TX11) (N := 14) hx hb hts inlX11 hown hK hP 0 rfl rfl 4 (by decide) (hts _ (inr2 _ (List.mem_of_getElem? (i := 2) rfl))) (fun _ h9 => h9) rfl dX11_image_16 ?_
      refine lv_iload_n hx hb dX11_image_19 rfl (lv_at hl 1 rfl) ?_
      refine va_aldq hx hb hK hP 1 5 rfl rfl (by unfold vp_in; decide) dX11_image_20 ?_
      refine W.eq (g2 := F0 m 21 ls [.ref im0]) rfl ?_
      refine lv_aload_n hx hb dX11_image_21 rfl (lv_at hl 0 rfl) ?_
      refine va_get (D := D) (ci := 11) (v := .ref r_now) (C := RX11) (T := TX11) (N := 14) hx hb hts inlX11 hown hK hP 0 rfl rfl 2 (by decide) (hts _ (inr2 _ (List.mem_of_getElem? (i := 0) rfl))) (fun _ h9 => h9) rfl dX11_image_22 ?_
      refine wrVv (As := [.ref r_now]) (rest := []) (wr := [(x0, .inr (11, [.ref r_tape, .ref r_reader, .ref r_now, .ref r_trial, .ref r_images, .ref r_kept, .ref r_slots, .ref r_night, .ref r_other, .ref r_circle, .ref r_words, .ref r_law, .ref r_place, .ref r_drawn])), (r_images, .inl (cT, 3, .inr (.inr (.inr (.inr (va_up (va_up (va_up (fun _ => none) 0 (some im0)) 1 (some im1)) 2 (some im2))))))), (im1, .inr (8, [.int 0, .int 0, .int 0, .int 0, .int 0, .int 0, .int 0, .ref m1_signs, .int 0, .ref m1_posts, .int 0, .ref m1_acts])), (m1_signs, .inl (cI, 8, .inl (fun _ => 0))), (m1_posts, .inl (cI, 5, .inl (fun _ => 0))), (m1_acts, .inr (0, [.ref m1_over, .ref m1_steps, .ref m1_before, .int 0])), (m1_over, .inl (cI, 61, .inl m1_gov)), (m1_steps, .inl (cI, 30, .inl (fun _ => 0))), (m1_before, .inl (cI, 30, .inl (fun _ => 0))), (im2, .inr (8, [.int 0, .int 0, .int 0, .int 0, .int 0, .int 0, .int 0, .ref m2_signs, .int 0, .ref m2_posts, .int 0, .ref m2_acts])), (m2_signs, .inl (cI, 8, .inl (fun _ => 0))), (m2_posts, .inl (cI, 5, .inl (fun _ => 0))), (m2_acts, .inr (0, [.ref m2_over, .ref m2_steps, .ref m2_before, .int 0])), (m2_over, .inl (cI, 61, .inl m2_gov)), (m2_steps, .inl (cI, 30, .inl (fun _ => 0))), (m2_before, .inl (cI, 30, .inl (fun _ => 0))), (r_kept, .inl (cZ, 3, .inl (fun _ => 0)))]) ⟨hx, hb, hml, hown, hts⟩ (k_St_copy l D cB cI cJ cZ cS cT s.heap.size im0 r_now 0 0 0 0 0 0 0 m0_signs 0 m0_posts 0 m0_acts (fun _ => 0) (fun _ => 0) m0_over m0_steps m0_before 0 m0_gov (fun _ => 0) (fun _ => 0) 0 0 0 0 0 0 0 n_signs 0 n_posts 0 n_acts (fun _ => 0) (fun _ => 0) n_over n_steps n_before 0 n_gov (fun _ => 0) (fun _ => 0) ) hP hD hS hA hK hN [2, 3, 4, 5, 6, 7, 8, 23, 24, 25, 26, 27, 28, 29] [0, 1, 9, 10, 11, 12, 13, 14, 15, 16, 17, 18, 19, 20, 21, 22, 30] rfl rfl (by decide) (by decide) (by decide) (cvB (n := 1) (inr17 _ (List.mem_of_getElem? (i := 1) rfl)) (inr17 _ (List.mem_of_getElem? (i := 2) rfl)) (inr17 _ (List.mem_of_getElem? (i := 3) rfl)) (inr1 _ (List.mem_of_getElem? (i := 23) rfl)) (inr17 _ (List.mem_of_getElem? (i := 4) rfl)) (by decide +kernel) hts rfl rfl ⟨Nat.le_of_ble_eq_true rfl, Nat.le_of_ble_eq_true rfl⟩) 0 8 rfl rfl rfl rfl hl.1 rfl (Nat.le_of_ble_eq_true rfl) ⟨Nat.le_of_ble_eq_true rfl, Nat.le_of_ble_eq_true rfl⟩ dX11_image_25 (fun x9 H locs h_6 hP hD hS => ?_)
      obtain ⟨g_7, g_8, g_9, g_10, g_11⟩ := x9
      have hP : va_P D vwCl [(x0, .inr (11, [.ref r_tape, .ref r_reader, .ref r_now, .ref r_trial, .ref r_images, .ref r_kept, .ref r_slots, .ref r_night, .ref r_other, .ref r_circle, .ref r_words, .ref r_law, .ref r_place, .ref r_drawn])), (r_images, .inl (cT, 3, .inr (.inr (.inr (.inr (va_up (va_up (va_up (fun _ => none) 0 (some im0)) 1 (some im1)) 2 (some im2))))))), (im1, .inr (8, [.int 0, .int 0, .int 0, .int 0, .int 0, .int 0, .int 0, .ref m1_signs, .int 0, .ref m1_posts, .int 0, .ref m1_acts])), (m1_signs, .inl (cI, 8, .inl (fun _ => 0))), (m1_posts, .inl (cI, 5, .inl (fun _ => 0))), (m1_acts, .inr (0, [.ref m1_over, .ref m1_steps, .ref m1_before, .int 0])), (m1_over, .inl (cI, 61, .inl m1_gov)), (m1_steps, .inl (cI, 30, .inl (fun _ => 0))), (m1_before, .inl (cI, 30, .inl (fun _ => 0))), (im2, .inr (8, [.int 0, .int 0, .int 0, .int 0, .int 0, .int 0, .int 0, .ref m2_signs, .int 0, .ref m2_posts, .int 0, .ref m2_acts])), (m2_signs, .inl (cI, 8, .inl (fun _ => 0))), (m2_posts, .inl (cI, 5, .inl (fun _ => 0))), (m2_acts, .inr (0, [.ref m2_over, .ref m2_steps, .ref m2_before, .int 0])), (m2_over, .inl (cI, 61, .inl m2_gov)), (m2_steps, .inl (cI, 30, .inl (fun _ => 0))), (m2_before, .inl (cI, 30, .inl (fun _ => 0))), (r_kept, .inl (cZ, 3, .inl (fun _ => 0))), (im0, .inr (8, [.int 0, .int 0, .int 0, .int 0, .int 0, .int 0, .int 0, .ref m0_signs, .int 0, .ref m0_posts, .int 0, .ref m0_acts])), (m0_signs, .inl (cI, 8, .inl g_10)), (m0_posts, .inl (cI, 5, .inl g_11)), (m0_acts, .inr (0, [.ref m0_over, .ref m0_steps, .ref m0_before, .int 0])), (m0_over, .inl (cI, 61, .inl g_7)), (m0_steps, .inl (cI, 30, .inl g_8)), (m0_before, .inl (cI, 30, .inl g_9)), (r_now, .inr (8, [.int 0, .int 0, .int 0, .int 0, .int 0, .int 0, .int 0, .ref n_signs, .int 0, .ref n_posts, .int 0, .ref n_acts])), (n_signs, .inl (cI, 8, .inl (fun _ => 0))), (n_posts, .inl (cI, 5, .inl (fun _ => 0))), (n_acts, .inr (0, [.ref n_over, .ref n_steps, .ref n_before, .int 0])), (n_over, .inl (cI, 61, .inl n_gov)), (n_steps, .inl (cI, 30, .inl (fun _ => 0))), (n_before, .inl (cI, 30, .inl (fun _ => 0)))] H := hP
      have hD : va_D A [(x0, .inr (11, [.ref r_tape, .ref r_reader, .ref r_now, .ref r_trial, .ref r_images, .ref r_kept, .ref r_slots, .ref r_night, .ref r_other, .ref r_circle, .ref r_words, .ref r_law, .ref r_place, .ref r_drawn])), (r_images, .inl (cT, 3, .inr (.inr (.inr (.inr (va_up (va_up (va_up (fun _ => none) 0 (some im0)) 1 (some im1)) 2 (some im2))))))), (im1, .inr (8, [.int 0, .int 0, .int 0, .int 0, .int 0, .int 0, .int 0, .ref m1_signs, .int 0, .ref m1_posts, .int 0, .ref m1_acts])), (m1_signs, .inl (cI, 8, .inl (fun _ => 0))), (m1_posts, .inl (cI, 5, .inl (fun _ => 0))), (m1_acts, .inr (0, [.ref m1_over, .ref m1_steps, .ref m1_before, .int 0])), (m1_over, .inl (cI, 61, .inl m1_gov)), (m1_steps, .inl (cI, 30, .inl (fun _ => 0))), (m1_before, .inl (cI, 30, .inl (fun _ => 0))), (im2, .inr (8, [.int 0, .int 0, .int 0, .int 0, .int 0, .int 0, .int 0, .ref m2_signs, .int 0, .ref m2_posts, .int 0, .ref m2_acts])), (m2_signs, .inl (cI, 8, .inl (fun _ => 0))), (m2_posts, .inl (cI, 5, .inl (fun _ => 0))), (m2_acts, .inr (0, [.ref m2_over, .ref m2_steps, .ref m2_before, .int 0])), (m2_over, .inl (cI, 61, .inl m2_gov)), (m2_steps, .inl (cI, 30, .inl (fun _ => 0))), (m2_before, .inl (cI, 30, .inl (fun _ => 0))), (r_kept, .inl (cZ, 3, .inl (fun _ => 0))), (im0, .inr (8, [.int 0, .int 0, .int 0, .int 0, .int 0, .int 0, .int 0, .ref m0_signs, .int 0, .ref m0_posts, .int 0, .ref m0_acts])), (m0_signs, .inl (cI, 8, .inl g_10)), (m0_posts, .inl (cI, 5, .inl g_11)), (m0_acts, .inr (0, [.ref m0_over, .ref m0_steps, .ref m0_before, .int 0])), (m0_over, .inl (cI, 61, .inl g_7)), (m0_steps, .inl (cI, 30, .inl g_8)), (m0_before, .inl (cI, 30, .inl g_9)), (r_now, .inr (8, [.int 0, .int 0, .int 0, .int 0, .int 0, .int 0, .int 0, .ref n_signs, .int 0, .ref n_posts, .int 0, .ref n_acts])), (n_signs, .inl (cI, 8, .inl (fun _ => 0))), (n_posts, .inl (cI, 5, .inl (fun _ => 0))), (n_acts, .inr (0, [.ref n_over, .ref n_steps, .ref n_before, .int 0])), (n_over, .inl (cI, 61, .inl n_gov)), (n_steps, .inl (cI, 30, .inl (fun _ => 0))), (n_before, .inl (cI, 30, .inl (fun _ => 0)))] := hD
      refine lv_aload_n hx hb dX11_image_28 rfl (lv_at hl 0 rfl) ?_
      refine va_get (D := D) (ci := 11) (v := .ref r_kept) (C := RX11) (T := TX11) (N := 14) hx hb hts inlX11 hown hK hP 0 rfl rfl 5 (by decide) (hts _ (inr2 _ (List.mem_of_getElem? (i := 4) rfl))) (fun _ h9 => h9) rfl dX11_image_29 ?_
      refine lv_iload_n hx hb dX11_image_32 rfl (lv_at hl 1 rfl) ?_
      refine lv_iconst (v := 1) hx hb dX11_image_33 (by decide) ?_
      refine va_zast hx hb hK hP hD hS 16 3 rfl rfl (by unfold vp_in; decide) dX11_image_34 (fun H locs hP hD hS => ?_)
      have hP : va_P D vwCl [(x0, .inr (11, [.ref r_tape, .ref r_reader, .ref r_now, .ref r_trial, .ref r_images, .ref r_kept, .ref r_slots, .ref r_night, .ref r_other, .ref r_circle, .ref r_words, .ref r_law, .ref r_place, .ref r_drawn])), (r_images, .inl (cT, 3, .inr (.inr (.inr (.inr (va_up (va_up (va_up (fun _ => none) 0 (some im0)) 1 (some im1)) 2 (some im2))))))), (im1, .inr (8, [.int 0, .int 0, .int 0, .int 0, .int 0, .int 0, .int 0, .ref m1_signs, .int 0, .ref m1_posts, .int 0, .ref m1_acts])), (m1_signs, .inl (cI, 8, .inl (fun _ => 0))), (m1_posts, .inl (cI, 5, .inl (fun _ => 0))), (m1_acts, .inr (0, [.ref m1_over, .ref m1_steps, .ref m1_before, .int 0])), (m1_over, .inl (cI, 61, .inl m1_gov)), (m1_steps, .inl (cI, 30, .inl (fun _ => 0))), (m1_before, .inl (cI, 30, .inl (fun _ => 0))), (im2, .inr (8, [.int 0, .int 0, .int 0, .int 0, .int 0, .int 0, .int 0, .ref m2_signs, .int 0, .ref m2_posts, .int 0, .ref m2_acts])), (m2_signs, .inl (cI, 8, .inl (fun _ => 0))), (m2_posts, .inl (cI, 5, .inl (fun _ => 0))), (m2_acts, .inr (0, [.ref m2_over, .ref m2_steps, .ref m2_before, .int 0])), (m2_over, .inl (cI, 61, .inl m2_gov)), (m2_steps, .inl (cI, 30, .inl (fun _ => 0))), (m2_before, .inl (cI, 30, .inl (fun _ => 0))), (r_kept, .inl (cZ, 3, .inl (upd (fun _ => 0) (0 : Int32).toNatClampNeg (vp_nar .boolean 1)))), (im0, .inr (8, [.int 0, .int 0, .int 0, .int 0, .int 0, .int 0, .int 0, .ref m0_signs, .int 0, .ref m0_posts, .int 0, .ref m0_acts])), (m0_signs, .inl (cI, 8, .inl g_10)), (m0_posts, .inl (cI, 5, .inl g_11)), (m0_acts, .inr (0, [.ref m0_over, .ref m0_steps, .ref m0_before, .int 0])), (m0_over, .inl (cI, 61, .inl g_7)), (m0_steps, .inl (cI, 30, .inl g_8)), (m0_before, .inl (cI, 30, .inl g_9)), (r_now, .inr (8, [.int 0, .int 0, .int 0, .int 0, .int 0, .int 0, .int 0, .ref n_signs, .int 0, .ref n_posts, .int 0, .ref n_acts])), (n_signs, .inl (cI, 8, .inl (fun _ => 0))), (n_posts, .inl (cI, 5, .inl (fun _ => 0))), (n_acts, .inr (0, [.ref n_over, .ref n_steps, .ref n_before, .int 0])), (n_over, .inl (cI, 61, .inl n_gov)), (n_steps, .inl (cI, 30, .inl (fun _ => 0))), (n_before, .inl (cI, 30, .inl (fun _ => 0)))] H := hP
      have hD : va_D A [(x0, .inr (11, [.ref r_tape, .ref r_reader, .ref r_now, .ref r_trial, .ref r_images, .ref r_kept, .ref r_slots, .ref r_night, .ref r_other, .ref r_circle, .ref r_words, .ref r_law, .ref r_place, .ref r_drawn])), (r_images, .inl (cT, 3, .inr (.inr (.inr (.inr (va_up (va_up (va_up (fun _ => none) 0 (some im0)) 1 (some im1)) 2 (some im2))))))), (im1, .inr (8, [.int 0, .int 0, .int 0, .int 0, .int 0, .int 0, .int 0, .ref m1_signs, .int 0, .ref m1_posts, .int 0, .ref m1_acts])), (m1_signs, .inl (cI, 8, .inl (fun _ => 0))), (m1_posts, .inl (cI, 5, .inl (fun _ => 0))), (m1_acts, .inr (0, [.ref m1_over, .ref m1_steps, .ref m1_before, .int 0])), (m1_over, .inl (cI, 61, .inl m1_gov)), (m1_steps, .inl (cI, 30, .inl (fun _ => 0))), (m1_before, .inl (cI, 30, .inl (fun _ => 0))), (im2, .inr (8, [.int 0, .int 0, .int 0, .int 0, .int 0, .int 0, .int 0, .ref m2_signs, .int 0, .ref m2_posts, .int 0, .ref m2_acts])), (m2_signs, .inl (cI, 8, .inl (fun _ => 0))), (m2_posts, .inl (cI, 5, .inl (fun _ => 0))), (m2_acts, .inr (0, [.ref m2_over, .ref m2_steps, .ref m2_before, .int 0])), (m2_over, .inl (cI, 61, .inl m2_gov)), (m2_steps, .inl (cI, 30, .inl (fun _ => 0))), (m2_before, .inl (cI, 30, .inl (fun _ => 0))), (r_kept, .inl (cZ, 3, .inl (upd (fun _ => 0) (0 : Int32).toNatClampNeg (vp_nar .boolean 1)))), (im0, .inr (8, [.int 0, .int 0, .int 0, .int 0, .int 0, .int 0, .int 0, .ref m0_signs, .int 0, .ref m0_posts, .int 0, .ref m0_acts])), (m0_signs, .inl (cI, 8, .inl g_10)), (m0_posts, .inl (cI, 5, .inl g_11)), (m0_acts, .inr (0, [.ref m0_over, .ref m0_steps, .ref m0_before, .int 0])), (m0_over, .inl (cI, 61, .inl g_7)), (m0_steps, .inl (cI, 30, .inl g_8)), (m0_before, .inl (cI, 30, .inl g_9)), (r_now, .inr (8, [.int 0, .int 0, .int 0, .int 0, .int 0, .int 0, .int 0, .ref n_signs, .int 0, .ref n_posts, .int 0, .ref n_acts])), (n_signs, .inl (cI, 8, .inl (fun _ => 0))), (n_posts, .inl (cI, 5, .inl (fun _ => 0))), (n_acts, .inr (0, [.ref n_over, .ref n_steps, .ref n_before, .int 0])), (n_over, .inl (cI, 61, .inl n_gov)), (n_steps, .inl (cI, 30, .inl (fun _ => 0))), (n_before, .inl (cI, 30, .inl (fun _ => 0)))] := hD
      obtain ⟨g_12, eg_12⟩ : ∃ v9 : Nat → Int32, (upd (fun _ => 0) (0 : Int32).toNatClampNeg (vp_nar .boolean 1)) = v9 := ⟨_, rfl⟩
      rw [eg_12] at hP hD
      have hP : va_P D vwCl [(x0, .inr (11, [.ref r_tape, .ref r_reader, .ref r_now, .ref r_trial, .ref r_images, .ref r_kept, .ref r_slots, .ref r_night, .ref r_other, .ref r_circle, .ref r_words, .ref r_law, .ref r_place, .ref r_drawn])), (r_images, .inl (cT, 3, .inr (.inr (.inr (.inr (va_up (va_up (va_up (fun _ => none) 0 (some im0)) 1 (some im1)) 2 (some im2))))))), (im1, .inr (8, [.int 0, .int 0, .int 0, .int 0, .int 0, .int 0, .int 0, .ref m1_signs, .int 0, .ref m1_posts, .int 0, .ref m1_acts])), (m1_signs, .inl (cI, 8, .inl (fun _ => 0))), (m1_posts, .inl (cI, 5, .inl (fun _ => 0))), (m1_acts, .inr (0, [.ref m1_over, .ref m1_steps, .ref m1_before, .int 0])), (m1_over, .inl (cI, 61, .inl m1_gov)), (m1_steps, .inl (cI, 30, .inl (fun _ => 0))), (m1_before, .inl (cI, 30, .inl (fun _ => 0))), (im2, .inr (8, [.int 0, .int 0, .int 0, .int 0, .int 0, .int 0, .int 0, .ref m2_signs, .int 0, .ref m2_posts, .int 0, .ref m2_acts])), (m2_signs, .inl (cI, 8, .inl (fun _ => 0))), (m2_posts, .inl (cI, 5, .inl (fun _ => 0))), (m2_acts, .inr (0, [.ref m2_over, .ref m2_steps, .ref m2_before, .int 0])), (m2_over, .inl (cI, 61, .inl m2_gov)), (m2_steps, .inl (cI, 30, .inl (fun _ => 0))), (m2_before, .inl (cI, 30, .inl (fun _ => 0))), (r_kept, .inl (cZ, 3, .inl g_12)), (im0, .inr (8, [.int 0, .int 0, .int 0, .int 0, .int 0, .int 0, .int 0, .ref m0_signs, .int 0, .ref m0_posts, .int 0, .ref m0_acts])), (m0_signs, .inl (cI, 8, .inl g_10)), (m0_posts, .inl (cI, 5, .inl g_11)), (m0_acts, .inr (0, [.ref m0_over, .ref m0_steps, .ref m0_before, .int 0])), (m0_over, .inl (cI, 61, .inl g_7)), (m0_steps, .inl (cI, 30, .inl g_8)), (m0_before, .inl (cI, 30, .inl g_9)), (r_now, .inr (8, [.int 0, .int 0, .int 0, .int 0, .int 0, .int 0, .int 0, .ref n_signs, .int 0, .ref n_posts, .int 0, .ref n_acts])), (n_signs, .inl (cI, 8, .inl (fun _ => 0))), (n_posts, .inl (cI, 5, .inl (fun _ => 0))), (n_acts, .inr (0, [.ref n_over, .ref n_steps, .ref n_before, .int 0])), (n_over, .inl (cI, 61, .inl n_gov)), (n_steps, .inl (cI, 30, .inl (fun _ => 0))), (n_before, .inl (cI, 30, .inl (fun _ => 0)))] H := hP
      have hD : va_D A [(x0, .inr (11, [.ref r_tape, .ref r_reader, .ref r_now, .ref r_trial, .ref r_images, .ref r_kept, .ref r_slots, .ref r_night, .ref r_other, .ref r_circle, .ref r_words, .ref r_law, .ref r_place, .ref r_drawn])), (r_images, .inl (cT, 3, .inr (.inr (.inr (.inr (va_up (va_up (va_up (fun _ => none) 0 (some im0)) 1 (some im1)) 2 (some im2))))))), (im1, .inr (8, [.int 0, .int 0, .int 0, .int 0, .int 0, .int 0, .int 0, .ref m1_signs, .int 0, .ref m1_posts, .int 0, .ref m1_acts])), (m1_signs, .inl (cI, 8, .inl (fun _ => 0))), (m1_posts, .inl (cI, 5, .inl (fun _ => 0))), (m1_acts, .inr (0, [.ref m1_over, .ref m1_steps, .ref m1_before, .int 0])), (m1_over, .inl (cI, 61, .inl m1_gov)), (m1_steps, .inl (cI, 30, .inl (fun _ => 0))), (m1_before, .inl (cI, 30, .inl (fun _ => 0))), (im2, .inr (8, [.int 0, .int 0, .int 0, .int 0, .int 0, .int 0, .int 0, .ref m2_signs, .int 0, .ref m2_posts, .int 0, .ref m2_acts])), (m2_signs, .inl (cI, 8, .inl (fun _ => 0))), (m2_posts, .inl (cI, 5, .inl (fun _ => 0))), (m2_acts, .inr (0, [.ref m2_over, .ref m2_steps, .ref m2_before, .int 0])), (m2_over, .inl (cI, 61, .inl m2_gov)), (m2_steps, .inl (cI, 30, .inl (fun _ => 0))), (m2_before, .inl (cI, 30, .inl (fun _ => 0))), (r_kept, .inl (cZ, 3, .inl g_12)), (im0, .inr (8, [.int 0, .int 0, .int 0, .int 0, .int 0, .int 0, .int 0, .ref m0_signs, .int 0, .ref m0_posts, .int 0, .ref m0_acts])), (m0_signs, .inl (cI, 8, .inl g_10)), (m0_posts, .inl (cI, 5, .inl g_11)), (m0_acts, .inr (0, [.ref m0_over, .ref m0_steps, .ref m0_before, .int 0])), (m0_over, .inl (cI, 61, .inl g_7)), (m0_steps, .inl (cI, 30, .inl g_8)), (m0_before, .inl (cI, 30, .inl g_9)), (r_now, .inr (8, [.int 0, .int 0, .int 0, .int 0, .int 0, .int 0, .int 0, .ref n_signs, .int 0, .ref n_posts, .int 0, .ref n_acts])), (n_signs, .inl (cI, 8, .inl (fun _ => 0))), (n_posts, .inl (cI, 5, .inl (fun _ => 0))), (n_acts, .inr (0, [.ref n_over, .ref n_steps, .ref n_before, .int 0])), (n_over, .inl (cI, 61, .inl n_gov)), (n_steps, .inl (cI, 30, .inl (fun _ => 0))), (n_before, .inl (cI, 30, .inl (fun _ => 0)))] := hD
      refine lv_iconst (v := 0) hx hb dX11_image_35 (by decide) ?_
      have hP9 := hP.sub (ws' := []) [] rfl
      have hD9 := hD.sub (ws' := []) [] (by decide) rfl
      exact W.iret (v := 0) hx hb hr (fun t ht hW => ⟨⟨0, (), rfl, (by decide), by rw [ht]; exact hP9, va_K.moved hW.alike hK, hD9⟩, hS.F ht⟩) hS.2.2 dX11_image_36
    · have hl : lv_has ls 2 [(0, .ref x0), (1, .int 1)] := hl
      refine lv_aload_n hx hb dX11_image_15 rfl (lv_at hl 0 rfl) ?_
      refine va_get (D := D) (ci := 11) (v := .ref r_images) (C := RX11) (T := TX11) (N := 14) hx hb hts inlX11 hown hK hP 0 rfl rfl 4 (by decide) (hts _ (inr2 _ (List.mem_of_getElem? (i := 2) rfl))) (fun _ h9 => h9) rfl dX11_image_16 ?_
      refine lv_iload_n hx hb dX11_image_19 rfl (lv_at hl 1 rfl) ?_
      refine va_aldq hx hb hK hP 1 5 rfl rfl (by unfold vp_in; decide) dX11_image_20 ?_
      refine W.eq (g2 := F0 m 21 ls [.ref im1]) rfl ?_
      refine lv_aload_n hx hb dX11_image_21 rfl (lv_at hl 0 rfl) ?_
      refine va_get (D := D) (ci := 11) (v := .ref r_now) (C := RX11) (T := TX11) (N := 14) hx hb hts inlX11 hown hK hP 0 rfl rfl 2 (by decide) (hts _ (inr2 _ (List.mem_of_getElem? (i := 0) rfl))) (fun _ h9 => h9) rfl dX11_image_22 ?_
      refine wrVv (As := [.ref r_now]) (rest := []) (wr := [(x0, .inr (11, [.ref r_tape, .ref r_reader, .ref r_now, .ref r_trial, .ref r_images, .ref r_kept, .ref r_slots, .ref r_night, .ref r_other, .ref r_circle, .ref r_words, .ref r_law, .ref r_place, .ref r_drawn])), (r_images, .inl (cT, 3, .inr (.inr (.inr (.inr (va_up (va_up (va_up (fun _ => none) 0 (some im0)) 1 (some im1)) 2 (some im2))))))), (im0, .inr (8, [.int 0, .int 0, .int 0, .int 0, .int 0, .int 0, .int 0, .ref m0_signs, .int 0, .ref m0_posts, .int 0, .ref m0_acts])), (m0_signs, .inl (cI, 8, .inl (fun _ => 0))), (m0_posts, .inl (cI, 5, .inl (fun _ => 0))), (m0_acts, .inr (0, [.ref m0_over, .ref m0_steps, .ref m0_before, .int 0])), (m0_over, .inl (cI, 61, .inl m0_gov)), (m0_steps, .inl (cI, 30, .inl (fun _ => 0))), (m0_before, .inl (cI, 30, .inl (fun _ => 0))), (im2, .inr (8, [.int 0, .int 0, .int 0, .int 0, .int 0, .int 0, .int 0, .ref m2_signs, .int 0, .ref m2_posts, .int 0, .ref m2_acts])), (m2_signs, .inl (cI, 8, .inl (fun _ => 0))), (m2_posts, .inl (cI, 5, .inl (fun _ => 0))), (m2_acts, .inr (0, [.ref m2_over, .ref m2_steps, .ref m2_before, .int 0])), (m2_over, .inl (cI, 61, .inl m2_gov)), (m2_steps, .inl (cI, 30, .inl (fun _ => 0))), (m2_before, .inl (cI, 30, .inl (fun _ => 0))), (r_kept, .inl (cZ, 3, .inl (fun _ => 0)))]) ⟨hx, hb, hml, hown, hts⟩ (k_St_copy l D cB cI cJ cZ cS cT s.heap.size im1 r_now 0 0 0 0 0 0 0 m1_signs 0 m1_posts 0 m1_acts (fun _ => 0) (fun _ => 0) m1_over m1_steps m1_before 0 m1_gov (fun _ => 0) (fun _ => 0) 0 0 0 0 0 0 0 n_signs 0 n_posts 0 n_acts (fun _ => 0) (fun _ => 0) n_over n_steps n_before 0 n_gov (fun _ => 0) (fun _ => 0) ) hP hD hS hA hK hN [9, 10, 11, 12, 13, 14, 15, 23, 24, 25, 26, 27, 28, 29] [0, 1, 2, 3, 4, 5, 6, 7, 8, 16, 17, 18, 19, 20, 21, 22, 30] rfl rfl (by decide) (by decide) (by decide) (cvB (n := 1) (inr17 _ (List.mem_of_getElem? (i := 1) rfl)) (inr17 _ (List.mem_of_getElem? (i := 2) rfl)) (inr17 _ (List.mem_of_getElem? (i := 3) rfl)) (inr1 _ (List.mem_of_getElem? (i := 23) rfl)) (inr17 _ (List.mem_of_getElem? (i := 4) rfl)) (by decide +kernel) hts rfl rfl ⟨Nat.le_of_ble_eq_true rfl, Nat.le_of_ble_eq_true rfl⟩) 0 8 rfl rfl rfl rfl hl.1 rfl (Nat.le_of_ble_eq_true rfl) ⟨Nat.le_of_ble_eq_true rfl, Nat.le_of_ble_eq_true rfl⟩ dX11_image_25 (fun x9 H locs h_14 hP hD hS => ?_)
      obtain ⟨g_15, g_16, g_17, g_18, g_19⟩ := x9
      have hP : va_P D vwCl [(x0, .inr (11, [.ref r_tape, .ref r_reader, .ref r_now, .ref r_trial, .ref r_images, .ref r_kept, .ref r_slots, .ref r_night, .ref r_other, .ref r_circle, .ref r_words, .ref r_law, .ref r_place, .ref r_drawn])), (r_images, .inl (cT, 3, .inr (.inr (.inr (.inr (va_up (va_up (va_up (fun _ => none) 0 (some im0)) 1 (some im1)) 2 (some im2))))))), (im0, .inr (8, [.int 0, .int 0, .int 0, .int 0, .int 0, .int 0, .int 0, .ref m0_signs, .int 0, .ref m0_posts, .int 0, .ref m0_acts])), (m0_signs, .inl (cI, 8, .inl (fun _ => 0))), (m0_posts, .inl (cI, 5, .inl (fun _ => 0))), (m0_acts, .inr (0, [.ref m0_over, .ref m0_steps, .ref m0_before, .int 0])), (m0_over, .inl (cI, 61, .inl m0_gov)), (m0_steps, .inl (cI, 30, .inl (fun _ => 0))), (m0_before, .inl (cI, 30, .inl (fun _ => 0))), (im2, .inr (8, [.int 0, .int 0, .int 0, .int 0, .int 0, .int 0, .int 0, .ref m2_signs, .int 0, .ref m2_posts, .int 0, .ref m2_acts])), (m2_signs, .inl (cI, 8, .inl (fun _ => 0))), (m2_posts, .inl (cI, 5, .inl (fun _ => 0))), (m2_acts, .inr (0, [.ref m2_over, .ref m2_steps, .ref m2_before, .int 0])), (m2_over, .inl (cI, 61, .inl m2_gov)), (m2_steps, .inl (cI, 30, .inl (fun _ => 0))), (m2_before, .inl (cI, 30, .inl (fun _ => 0))), (r_kept, .inl (cZ, 3, .inl (fun _ => 0))), (im1, .inr (8, [.int 0, .int 0, .int 0, .int 0, .int 0, .int 0, .int 0, .ref m1_signs, .int 0, .ref m1_posts, .int 0, .ref m1_acts])), (m1_signs, .inl (cI, 8, .inl g_18)), (m1_posts, .inl (cI, 5, .inl g_19)), (m1_acts, .inr (0, [.ref m1_over, .ref m1_steps, .ref m1_before, .int 0])), (m1_over, .inl (cI, 61, .inl g_15)), (m1_steps, .inl (cI, 30, .inl g_16)), (m1_before, .inl (cI, 30, .inl g_17)), (r_now, .inr (8, [.int 0, .int 0, .int 0, .int 0, .int 0, .int 0, .int 0, .ref n_signs, .int 0, .ref n_posts, .int 0, .ref n_acts])), (n_signs, .inl (cI, 8, .inl (fun _ => 0))), (n_posts, .inl (cI, 5, .inl (fun _ => 0))), (n_acts, .inr (0, [.ref n_over, .ref n_steps, .ref n_before, .int 0])), (n_over, .inl (cI, 61, .inl n_gov)), (n_steps, .inl (cI, 30, .inl (fun _ => 0))), (n_before, .inl (cI, 30, .inl (fun _ => 0)))] H := hP
      have hD : va_D A [(x0, .inr (11, [.ref r_tape, .ref r_reader, .ref r_now, .ref r_trial, .ref r_images, .ref r_kept, .ref r_slots, .ref r_night, .ref r_other, .ref r_circle, .ref r_words, .ref r_law, .ref r_place, .ref r_drawn])), (r_images, .inl (cT, 3, .inr (.inr (.inr (.inr (va_up (va_up (va_up (fun _ => none) 0 (some im0)) 1 (some im1)) 2 (some im2))))))), (im0, .inr (8, [.int 0, .int 0, .int 0, .int 0, .int 0, .int 0, .int 0, .ref m0_signs, .int 0, .ref m0_posts, .int 0, .ref m0_acts])), (m0_signs, .inl (cI, 8, .inl (fun _ => 0))), (m0_posts, .inl (cI, 5, .inl (fun _ => 0))), (m0_acts, .inr (0, [.ref m0_over, .ref m0_steps, .ref m0_before, .int 0])), (m0_over, .inl (cI, 61, .inl m0_gov)), (m0_steps, .inl (cI, 30, .inl (fun _ => 0))), (m0_before, .inl (cI, 30, .inl (fun _ => 0))), (im2, .inr (8, [.int 0, .int 0, .int 0, .int 0, .int 0, .int 0, .int 0, .ref m2_signs, .int 0, .ref m2_posts, .int 0, .ref m2_acts])), (m2_signs, .inl (cI, 8, .inl (fun _ => 0))), (m2_posts, .inl (cI, 5, .inl (fun _ => 0))), (m2_acts, .inr (0, [.ref m2_over, .ref m2_steps, .ref m2_before, .int 0])), (m2_over, .inl (cI, 61, .inl m2_gov)), (m2_steps, .inl (cI, 30, .inl (fun _ => 0))), (m2_before, .inl (cI, 30, .inl (fun _ => 0))), (r_kept, .inl (cZ, 3, .inl (fun _ => 0))), (im1, .inr (8, [.int 0, .int 0, .int 0, .int 0, .int 0, .int 0, .int 0, .ref m1_signs, .int 0, .ref m1_posts, .int 0, .ref m1_acts])), (m1_signs, .inl (cI, 8, .inl g_18)), (m1_posts, .inl (cI, 5, .inl g_19)), (m1_acts, .inr (0, [.ref m1_over, .ref m1_steps, .ref m1_before, .int 0])), (m1_over, .inl (cI, 61, .inl g_15)), (m1_steps, .inl (cI, 30, .inl g_16)), (m1_before, .inl (cI, 30, .inl g_17)), (r_now, .inr (8, [.int 0, .int 0, .int 0, .int 0, .int 0, .int 0, .int 0, .ref n_signs, .int 0, .ref n_posts, .int 0, .ref n_acts])), (n_signs, .inl (cI, 8, .inl (fun _ => 0))), (n_posts, .inl (cI, 5, .inl (fun _ => 0))), (n_acts, .inr (0, [.ref n_over, .ref n_steps, .ref n_before, .int 0])), (n_over, .inl (cI, 61, .inl n_gov)), (n_steps, .inl (cI, 30, .inl (fun _ => 0))), (n_before, .inl (cI, 30, .inl (fun _ => 0)))] := hD
      refine lv_aload_n hx hb dX11_image_28 rfl (lv_at hl 0 rfl) ?_
      refine va_get (D := D) (ci := 11) (v := .ref r_kept) (C := RX11) (T := TX11) (N := 14) hx hb hts inlX11 hown hK hP 0 rfl rfl 5 (by decide) (hts _ (inr2 _ (List.mem_of_getElem? (i := 4) rfl))) (fun _ h9 => h9) rfl dX11_image_29 ?_
      refine lv_iload_n hx hb dX11_image_32 rfl (lv_at hl 1 rfl) ?_
      refine lv_iconst (v := 1) hx hb dX11_image_33 (by decide) ?_
      refine va_zast hx hb hK hP hD hS 16 3 rfl rfl (by unfold vp_in; decide) dX11_image_34 (fun H locs hP hD hS => ?_)
      have hP : va_P D vwCl [(x0, .inr (11, [.ref r_tape, .ref r_reader, .ref r_now, .ref r_trial, .ref r_images, .ref r_kept, .ref r_slots, .ref r_night, .ref r_other, .ref r_circle, .ref r_words, .ref r_law, .ref r_place, .ref r_drawn])), (r_images, .inl (cT, 3, .inr (.inr (.inr (.inr (va_up (va_up (va_up (fun _ => none) 0 (some im0)) 1 (some im1)) 2 (some im2))))))), (im0, .inr (8, [.int 0, .int 0, .int 0, .int 0, .int 0, .int 0, .int 0, .ref m0_signs, .int 0, .ref m0_posts, .int 0, .ref m0_acts])), (m0_signs, .inl (cI, 8, .inl (fun _ => 0))), (m0_posts, .inl (cI, 5, .inl (fun _ => 0))), (m0_acts, .inr (0, [.ref m0_over, .ref m0_steps, .ref m0_before, .int 0])), (m0_over, .inl (cI, 61, .inl m0_gov)), (m0_steps, .inl (cI, 30, .inl (fun _ => 0))), (m0_before, .inl (cI, 30, .inl (fun _ => 0))), (im2, .inr (8, [.int 0, .int 0, .int 0, .int 0, .int 0, .int 0, .int 0, .ref m2_signs, .int 0, .ref m2_posts, .int 0, .ref m2_acts])), (m2_signs, .inl (cI, 8, .inl (fun _ => 0))), (m2_posts, .inl (cI, 5, .inl (fun _ => 0))), (m2_acts, .inr (0, [.ref m2_over, .ref m2_steps, .ref m2_before, .int 0])), (m2_over, .inl (cI, 61, .inl m2_gov)), (m2_steps, .inl (cI, 30, .inl (fun _ => 0))), (m2_before, .inl (cI, 30, .inl (fun _ => 0))), (r_kept, .inl (cZ, 3, .inl (upd (fun _ => 0) (1 : Int32).toNatClampNeg (vp_nar .boolean 1)))), (im1, .inr (8, [.int 0, .int 0, .int 0, .int 0, .int 0, .int 0, .int 0, .ref m1_signs, .int 0, .ref m1_posts, .int 0, .ref m1_acts])), (m1_signs, .inl (cI, 8, .inl g_18)), (m1_posts, .inl (cI, 5, .inl g_19)), (m1_acts, .inr (0, [.ref m1_over, .ref m1_steps, .ref m1_before, .int 0])), (m1_over, .inl (cI, 61, .inl g_15)), (m1_steps, .inl (cI, 30, .inl g_16)), (m1_before, .inl (cI, 30, .inl g_17)), (r_now, .inr (8, [.int 0, .int 0, .int 0, .int 0, .int 0, .int 0, .int 0, .ref n_signs, .int 0, .ref n_posts, .int 0, .ref n_acts])), (n_signs, .inl (cI, 8, .inl (fun _ => 0))), (n_posts, .inl (cI, 5, .inl (fun _ => 0))), (n_acts, .inr (0, [.ref n_over, .ref n_steps, .ref n_before, .int 0])), (n_over, .inl (cI, 61, .inl n_gov)), (n_steps, .inl (cI, 30, .inl (fun _ => 0))), (n_before, .inl (cI, 30, .inl (fun _ => 0)))] H := hP
      have hD : va_D A [(x0, .inr (11, [.ref r_tape, .ref r_reader, .ref r_now, .ref r_trial, .ref r_images, .ref r_kept, .ref r_slots, .ref r_night, .ref r_other, .ref r_circle, .ref r_words, .ref r_law, .ref r_place, .ref r_drawn])), (r_images, .inl (cT, 3, .inr (.inr (.inr (.inr (va_up (va_up (va_up (fun _ => none) 0 (some im0)) 1 (some im1)) 2 (some im2))))))), (im0, .inr (8, [.int 0, .int 0, .int 0, .int 0, .int 0, .int 0, .int 0, .ref m0_signs, .int 0, .ref m0_posts, .int 0, .ref m0_acts])), (m0_signs, .inl (cI, 8, .inl (fun _ => 0))), (m0_posts, .inl (cI, 5, .inl (fun _ => 0))), (m0_acts, .inr (0, [.ref m0_over, .ref m0_steps, .ref m0_before, .int 0])), (m0_over, .inl (cI, 61, .inl m0_gov)), (m0_steps, .inl (cI, 30, .inl (fun _ => 0))), (m0_before, .inl (cI, 30, .inl (fun _ => 0))), (im2, .inr (8, [.int 0, .int 0, .int 0, .int 0, .int 0, .int 0, .int 0, .ref m2_signs, .int 0, .ref m2_posts, .int 0, .ref m2_acts])), (m2_signs, .inl (cI, 8, .inl (fun _ => 0))), (m2_posts, .inl (cI, 5, .inl (fun _ => 0))), (m2_acts, .inr (0, [.ref m2_over, .ref m2_steps, .ref m2_before, .int 0])), (m2_over, .inl (cI, 61, .inl m2_gov)), (m2_steps, .inl (cI, 30, .inl (fun _ => 0))), (m2_before, .inl (cI, 30, .inl (fun _ => 0))), (r_kept, .inl (cZ, 3, .inl (upd (fun _ => 0) (1 : Int32).toNatClampNeg (vp_nar .boolean 1)))), (im1, .inr (8, [.int 0, .int 0, .int 0, .int 0, .int 0, .int 0, .int 0, .ref m1_signs, .int 0, .ref m1_posts, .int 0, .ref m1_acts])), (m1_signs, .inl (cI, 8, .inl g_18)), (m1_posts, .inl (cI, 5, .inl g_19)), (m1_acts, .inr (0, [.ref m1_over, .ref m1_steps, .ref m1_before, .int 0])), (m1_over, .inl (cI, 61, .inl g_15)), (m1_steps, .inl (cI, 30, .inl g_16)), (m1_before, .inl (cI, 30, .inl g_17)), (r_now, .inr (8, [.int 0, .int 0, .int 0, .int 0, .int 0, .int 0, .int 0, .ref n_signs, .int 0, .ref n_posts, .int 0, .ref n_acts])), (n_signs, .inl (cI, 8, .inl (fun _ => 0))), (n_posts, .inl (cI, 5, .inl (fun _ => 0))), (n_acts, .inr (0, [.ref n_over, .ref n_steps, .ref n_before, .int 0])), (n_over, .inl (cI, 61, .inl n_gov)), (n_steps, .inl (cI, 30, .inl (fun _ => 0))), (n_before, .inl (cI, 30, .inl (fun _ => 0)))] := hD
      obtain ⟨g_20, eg_20⟩ : ∃ v9 : Nat → Int32, (upd (fun _ => 0) (1 : Int32).toNatClampNeg (vp_nar .boolean 1)) = v9 := ⟨_, rfl⟩
      rw [eg_20] at hP hD
      have hP : va_P D vwCl [(x0, .inr (11, [.ref r_tape, .ref r_reader, .ref r_now, .ref r_trial, .ref r_images, .ref r_kept, .ref r_slots, .ref r_night, .ref r_other, .ref r_circle, .ref r_words, .ref r_law, .ref r_place, .ref r_drawn])), (r_images, .inl (cT, 3, .inr (.inr (.inr (.inr (va_up (va_up (va_up (fun _ => none) 0 (some im0)) 1 (some im1)) 2 (some im2))))))), (im0, .inr (8, [.int 0, .int 0, .int 0, .int 0, .int 0, .int 0, .int 0, .ref m0_signs, .int 0, .ref m0_posts, .int 0, .ref m0_acts])), (m0_signs, .inl (cI, 8, .inl (fun _ => 0))), (m0_posts, .inl (cI, 5, .inl (fun _ => 0))), (m0_acts, .inr (0, [.ref m0_over, .ref m0_steps, .ref m0_before, .int 0])), (m0_over, .inl (cI, 61, .inl m0_gov)), (m0_steps, .inl (cI, 30, .inl (fun _ => 0))), (m0_before, .inl (cI, 30, .inl (fun _ => 0))), (im2, .inr (8, [.int 0, .int 0, .int 0, .int 0, .int 0, .int 0, .int 0, .ref m2_signs, .int 0, .ref m2_posts, .int 0, .ref m2_acts])), (m2_signs, .inl (cI, 8, .inl (fun _ => 0))), (m2_posts, .inl (cI, 5, .inl (fun _ => 0))), (m2_acts, .inr (0, [.ref m2_over, .ref m2_steps, .ref m2_before, .int 0])), (m2_over, .inl (cI, 61, .inl m2_gov)), (m2_steps, .inl (cI, 30, .inl (fun _ => 0))), (m2_before, .inl (cI, 30, .inl (fun _ => 0))), (r_kept, .inl (cZ, 3, .inl g_20)), (im1, .inr (8, [.int 0, .int 0, .int 0, .int 0, .int 0, .int 0, .int 0, .ref m1_signs, .int 0, .ref m1_posts, .int 0, .ref m1_acts])), (m1_signs, .inl (cI, 8, .inl g_18)), (m1_posts, .inl (cI, 5, .inl g_19)), (m1_acts, .inr (0, [.ref m1_over, .ref m1_steps, .ref m1_before, .int 0])), (m1_over, .inl (cI, 61, .inl g_15)), (m1_steps, .inl (cI, 30, .inl g_16)), (m1_before, .inl (cI, 30, .inl g_17)), (r_now, .inr (8, [.int 0, .int 0, .int 0, .int 0, .int 0, .int 0, .int 0, .ref n_signs, .int 0, .ref n_posts, .int 0, .ref n_acts])), (n_signs, .inl (cI, 8, .inl (fun _ => 0))), (n_posts, .inl (cI, 5, .inl (fun _ => 0))), (n_acts, .inr (0, [.ref n_over, .ref n_steps, .ref n_before, .int 0])), (n_over, .inl (cI, 61, .inl n_gov)), (n_steps, .inl (cI, 30, .inl (fun _ => 0))), (n_before, .inl (cI, 30, .inl (fun _ => 0)))] H := hP
      have hD : va_D A [(x0, .inr (11, [.ref r_tape, .ref r_reader, .ref r_now, .ref r_trial, .ref r_images, .ref r_kept, .ref r_slots, .ref r_night, .ref r_other, .ref r_circle, .ref r_words, .ref r_law, .ref r_place, .ref r_drawn])), (r_images, .inl (cT, 3, .inr (.inr (.inr (.inr (va_up (va_up (va_up (fun _ => none) 0 (some im0)) 1 (some im1)) 2 (some im2))))))), (im0, .inr (8, [.int 0, .int 0, .int 0, .int 0, .int 0, .int 0, .int 0, .ref m0_signs, .int 0, .ref m0_posts, .int 0, .ref m0_acts])), (m0_signs, .inl (cI, 8, .inl (fun _ => 0))), (m0_posts, .inl (cI, 5, .inl (fun _ => 0))), (m0_acts, .inr (0, [.ref m0_over, .ref m0_steps, .ref m0_before, .int 0])), (m0_over, .inl (cI, 61, .inl m0_gov)), (m0_steps, .inl (cI, 30, .inl (fun _ => 0))), (m0_before, .inl (cI, 30, .inl (fun _ => 0))), (im2, .inr (8, [.int 0, .int 0, .int 0, .int 0, .int 0, .int 0, .int 0, .ref m2_signs, .int 0, .ref m2_posts, .int 0, .ref m2_acts])), (m2_signs, .inl (cI, 8, .inl (fun _ => 0))), (m2_posts, .inl (cI, 5, .inl (fun _ => 0))), (m2_acts, .inr (0, [.ref m2_over, .ref m2_steps, .ref m2_before, .int 0])), (m2_over, .inl (cI, 61, .inl m2_gov)), (m2_steps, .inl (cI, 30, .inl (fun _ => 0))), (m2_before, .inl (cI, 30, .inl (fun _ => 0))), (r_kept, .inl (cZ, 3, .inl g_20)), (im1, .inr (8, [.int 0, .int 0, .int 0, .int 0, .int 0, .int 0, .int 0, .ref m1_signs, .int 0, .ref m1_posts, .int 0, .ref m1_acts])), (m1_signs, .inl (cI, 8, .inl g_18)), (m1_posts, .inl (cI, 5, .inl g_19)), (m1_acts, .inr (0, [.ref m1_over, .ref m1_steps, .ref m1_before, .int 0])), (m1_over, .inl (cI, 61, .inl g_15)), (m1_steps, .inl (cI, 30, .inl g_16)), (m1_before, .inl (cI, 30, .inl g_17)), (r_now, .inr (8, [.int 0, .int 0, .int 0, .int 0, .int 0, .int 0, .int 0, .ref n_signs, .int 0, .ref n_posts, .int 0, .ref n_acts])), (n_signs, .inl (cI, 8, .inl (fun _ => 0))), (n_posts, .inl (cI, 5, .inl (fun _ => 0))), (n_acts, .inr (0, [.ref n_over, .ref n_steps, .ref n_before, .int 0])), (n_over, .inl (cI, 61, .inl n_gov)), (n_steps, .inl (cI, 30, .inl (fun _ => 0))), (n_before, .inl (cI, 30, .inl (fun _ => 0)))] := hD
      refine lv_iconst (v := 0) hx hb dX11_image_35 (by decide) ?_
      have hP9 := hP.sub (ws' := []) [] rfl
      have hD9 := hD.sub (ws' := []) [] (by decide) rfl
      exact W.iret (v := 0) hx hb hr (fun t ht hW => ⟨⟨0, (), rfl, (by decide), by rw [ht]; exact hP9, va_K.moved hW.alike hK, hD9⟩, hS.F ht⟩) hS.2.2 dX11_image_36
    · have hl : lv_has ls 2 [(0, .ref x0), (1, .int 2)] := hl
      refine lv_aload_n hx hb dX11_image_15 rfl (lv_at hl 0 rfl) ?_
      refine va_get (D := D) (ci := 11) (v := .ref r_images) (C := RX11) (T := TX11) (N := 14) hx hb hts inlX11 hown hK hP 0 rfl rfl 4 (by decide) (hts _ (inr2 _ (List.mem_of_getElem? (i := 2) rfl))) (fun _ h9 => h9) rfl dX11_image_16 ?_
      refine lv_iload_n hx hb dX11_image_19 rfl (lv_at hl 1 rfl) ?_
      refine va_aldq hx hb hK hP 1 5 rfl rfl (by unfold vp_in; decide) dX11_image_20 ?_
      refine W.eq (g2 := F0 m 21 ls [.ref im2]) rfl ?_
      refine lv_aload_n hx hb dX11_image_21 rfl (lv_at hl 0 rfl) ?_
      refine va_get (D := D) (ci := 11) (v := .ref r_now) (C := RX11) (T := TX11) (N := 14) hx hb hts inlX11 hown hK hP 0 rfl rfl 2 (by decide) (hts _ (inr2 _ (List.mem_of_getElem? (i := 0) rfl))) (fun _ h9 => h9) rfl dX11_image_22 ?_
      refine wrVv (As := [.ref r_now]) (rest := []) (wr := [(x0, .inr (11, [.ref r_tape, .ref r_reader, .ref r_now, .ref r_trial, .ref r_images, .ref r_kept, .ref r_slots, .ref r_night, .ref r_other, .ref r_circle, .ref r_words, .ref r_law, .ref r_place, .ref r_drawn])), (r_images, .inl (cT, 3, .inr (.inr (.inr (.inr (va_up (va_up (va_up (fun _ => none) 0 (some im0)) 1 (some im1)) 2 (some im2))))))), (im0, .inr (8, [.int 0, .int 0, .int 0, .int 0, .int 0, .int 0, .int 0, .ref m0_signs, .int 0, .ref m0_posts, .int 0, .ref m0_acts])), (m0_signs, .inl (cI, 8, .inl (fun _ => 0))), (m0_posts, .inl (cI, 5, .inl (fun _ => 0))), (m0_acts, .inr (0, [.ref m0_over, .ref m0_steps, .ref m0_before, .int 0])), (m0_over, .inl (cI, 61, .inl m0_gov)), (m0_steps, .inl (cI, 30, .inl (fun _ => 0))), (m0_before, .inl (cI, 30, .inl (fun _ => 0))), (im1, .inr (8, [.int 0, .int 0, .int 0, .int 0, .int 0, .int 0, .int 0, .ref m1_signs, .int 0, .ref m1_posts, .int 0, .ref m1_acts])), (m1_signs, .inl (cI, 8, .inl (fun _ => 0))), (m1_posts, .inl (cI, 5, .inl (fun _ => 0))), (m1_acts, .inr (0, [.ref m1_over, .ref m1_steps, .ref m1_before, .int 0])), (m1_over, .inl (cI, 61, .inl m1_gov)), (m1_steps, .inl (cI, 30, .inl (fun _ => 0))), (m1_before, .inl (cI, 30, .inl (fun _ => 0))), (r_kept, .inl (cZ, 3, .inl (fun _ => 0)))]) ⟨hx, hb, hml, hown, hts⟩ (k_St_copy l D cB cI cJ cZ cS cT s.heap.size im2 r_now 0 0 0 0 0 0 0 m2_signs 0 m2_posts 0 m2_acts (fun _ => 0) (fun _ => 0) m2_over m2_steps m2_before 0 m2_gov (fun _ => 0) (fun _ => 0) 0 0 0 0 0 0 0 n_signs 0 n_posts 0 n_acts (fun _ => 0) (fun _ => 0) n_over n_steps n_before 0 n_gov (fun _ => 0) (fun _ => 0) ) hP hD hS hA hK hN [16, 17, 18, 19, 20, 21, 22, 23, 24, 25, 26, 27, 28, 29] [0, 1, 2, 3, 4, 5, 6, 7, 8, 9, 10, 11, 12, 13, 14, 15, 30] rfl rfl (by decide) (by decide) (by decide) (cvB (n := 1) (inr17 _ (List.mem_of_getElem? (i := 1) rfl)) (inr17 _ (List.mem_of_getElem? (i := 2) rfl)) (inr17 _ (List.mem_of_getElem? (i := 3) rfl)) (inr1 _ (List.mem_of_getElem? (i := 23) rfl)) (inr17 _ (List.mem_of_getElem? (i := 4) rfl)) (by decide +kernel) hts rfl rfl ⟨Nat.le_of_ble_eq_true rfl, Nat.le_of_ble_eq_true rfl⟩) 0 8 rfl rfl rfl rfl hl.1 rfl (Nat.le_of_ble_eq_true rfl) ⟨Nat.le_of_ble_eq_true rfl, Nat.le_of_ble_eq_true rfl⟩ dX11_image_25 (fun x9 H locs h_22 hP hD hS => ?_)
      obtain ⟨g_23, g_24, g_25, g_26, g_27⟩ := x9
      have hP : va_P D vwCl [(x0, .inr (11, [.ref r_tape, .ref r_reader, .ref r_now, .ref r_trial, .ref r_images, .ref r_kept, .ref r_slots, .ref r_night, .ref r_other, .ref r_circle, .ref r_words, .ref r_law, .ref r_place, .ref r_drawn])), (r_images, .inl (cT, 3, .inr (.inr (.inr (.inr (va_up (va_up (va_up (fun _ => none) 0 (some im0)) 1 (some im1)) 2 (some im2))))))), (im0, .inr (8, [.int 0, .int 0, .int 0, .int 0, .int 0, .int 0, .int 0, .ref m0_signs, .int 0, .ref m0_posts, .int 0, .ref m0_acts])), (m0_signs, .inl (cI, 8, .inl (fun _ => 0))), (m0_posts, .inl (cI, 5, .inl (fun _ => 0))), (m0_acts, .inr (0, [.ref m0_over, .ref m0_steps, .ref m0_before, .int 0])), (m0_over, .inl (cI, 61, .inl m0_gov)), (m0_steps, .inl (cI, 30, .inl (fun _ => 0))), (m0_before, .inl (cI, 30, .inl (fun _ => 0))), (im1, .inr (8, [.int 0, .int 0, .int 0, .int 0, .int 0, .int 0, .int 0, .ref m1_signs, .int 0, .ref m1_posts, .int 0, .ref m1_acts])), (m1_signs, .inl (cI, 8, .inl (fun _ => 0))), (m1_posts, .inl (cI, 5, .inl (fun _ => 0))), (m1_acts, .inr (0, [.ref m1_over, .ref m1_steps, .ref m1_before, .int 0])), (m1_over, .inl (cI, 61, .inl m1_gov)), (m1_steps, .inl (cI, 30, .inl (fun _ => 0))), (m1_before, .inl (cI, 30, .inl (fun _ => 0))), (r_kept, .inl (cZ, 3, .inl (fun _ => 0))), (im2, .inr (8, [.int 0, .int 0, .int 0, .int 0, .int 0, .int 0, .int 0, .ref m2_signs, .int 0, .ref m2_posts, .int 0, .ref m2_acts])), (m2_signs, .inl (cI, 8, .inl g_26)), (m2_posts, .inl (cI, 5, .inl g_27)), (m2_acts, .inr (0, [.ref m2_over, .ref m2_steps, .ref m2_before, .int 0])), (m2_over, .inl (cI, 61, .inl g_23)), (m2_steps, .inl (cI, 30, .inl g_24)), (m2_before, .inl (cI, 30, .inl g_25)), (r_now, .inr (8, [.int 0, .int 0, .int 0, .int 0, .int 0, .int 0, .int 0, .ref n_signs, .int 0, .ref n_posts, .int 0, .ref n_acts])), (n_signs, .inl (cI, 8, .inl (fun _ => 0))), (n_posts, .inl (cI, 5, .inl (fun _ => 0))), (n_acts, .inr (0, [.ref n_over, .ref n_steps, .ref n_before, .int 0])), (n_over, .inl (cI, 61, .inl n_gov)), (n_steps, .inl (cI, 30, .inl (fun _ => 0))), (n_before, .inl (cI, 30, .inl (fun _ => 0)))] H := hP
      have hD : va_D A [(x0, .inr (11, [.ref r_tape, .ref r_reader, .ref r_now, .ref r_trial, .ref r_images, .ref r_kept, .ref r_slots, .ref r_night, .ref r_other, .ref r_circle, .ref r_words, .ref r_law, .ref r_place, .ref r_drawn])), (r_images, .inl (cT, 3, .inr (.inr (.inr (.inr (va_up (va_up (va_up (fun _ => none) 0 (some im0)) 1 (some im1)) 2 (some im2))))))), (im0, .inr (8, [.int 0, .int 0, .int 0, .int 0, .int 0, .int 0, .int 0, .ref m0_signs, .int 0, .ref m0_posts, .int 0, .ref m0_acts])), (m0_signs, .inl (cI, 8, .inl (fun _ => 0))), (m0_posts, .inl (cI, 5, .inl (fun _ => 0))), (m0_acts, .inr (0, [.ref m0_over, .ref m0_steps, .ref m0_before, .int 0])), (m0_over, .inl (cI, 61, .inl m0_gov)), (m0_steps, .inl (cI, 30, .inl (fun _ => 0))), (m0_before, .inl (cI, 30, .inl (fun _ => 0))), (im1, .inr (8, [.int 0, .int 0, .int 0, .int 0, .int 0, .int 0, .int 0, .ref m1_signs, .int 0, .ref m1_posts, .int 0, .ref m1_acts])), (m1_signs, .inl (cI, 8, .inl (fun _ => 0))), (m1_posts, .inl (cI, 5, .inl (fun _ => 0))), (m1_acts, .inr (0, [.ref m1_over, .ref m1_steps, .ref m1_before, .int 0])), (m1_over, .inl (cI, 61, .inl m1_gov)), (m1_steps, .inl (cI, 30, .inl (fun _ => 0))), (m1_before, .inl (cI, 30, .inl (fun _ => 0))), (r_kept, .inl (cZ, 3, .inl (fun _ => 0))), (im2, .inr (8, [.int 0, .int 0, .int 0, .int 0, .int 0, .int 0, .int 0, .ref m2_signs, .int 0, .ref m2_posts, .int 0, .ref m2_acts])), (m2_signs, .inl (cI, 8, .inl g_26)), (m2_posts, .inl (cI, 5, .inl g_27)), (m2_acts, .inr (0, [.ref m2_over, .ref m2_steps, .ref m2_before, .int 0])), (m2_over, .inl (cI, 61, .inl g_23)), (m2_steps, .inl (cI, 30, .inl g_24)), (m2_before, .inl (cI, 30, .inl g_25)), (r_now, .inr (8, [.int 0, .int 0, .int 0, .int 0, .int 0, .int 0, .int 0, .ref n_signs, .int 0, .ref n_posts, .int 0, .ref n_acts])), (n_signs, .inl (cI, 8, .inl (fun _ => 0))), (n_posts, .inl (cI, 5, .inl (fun _ => 0))), (n_acts, .inr (0, [.ref n_over, .ref n_steps, .ref n_before, .int 0])), (n_over, .inl (cI, 61, .inl n_gov)), (n_steps, .inl (cI, 30, .inl (fun _ => 0))), (n_before, .inl (cI, 30, .inl (fun _ => 0)))] := hD
      refine lv_aload_n hx hb dX11_image_28 rfl (lv_at hl 0 rfl) ?_
      refine va_get (D := D) (ci := 11) (v := .ref r_kept) (C := RX11) (T := TX11) (N := 14) hx hb hts inlX11 hown hK hP 0 rfl rfl 5 (by decide) (hts _ (inr2 _ (List.mem_of_getElem? (i := 4) rfl))) (fun _ h9 => h9) rfl dX11_image_29 ?_
      refine lv_iload_n hx hb dX11_image_32 rfl (lv_at hl 1 rfl) ?_
      refine lv_iconst (v := 1) hx hb dX11_image_33 (by decide) ?_
      refine va_zast hx hb hK hP hD hS 16 3 rfl rfl (by unfold vp_in; decide) dX11_image_34 (fun H locs hP hD hS => ?_)
      have hP : va_P D vwCl [(x0, .inr (11, [.ref r_tape, .ref r_reader, .ref r_now, .ref r_trial, .ref r_images, .ref r_kept, .ref r_slots, .ref r_night, .ref r_other, .ref r_circle, .ref r_words, .ref r_law, .ref r_place, .ref r_drawn])), (r_images, .inl (cT, 3, .inr (.inr (.inr (.inr (va_up (va_up (va_up (fun _ => none) 0 (some im0)) 1 (some im1)) 2 (some im2))))))), (im0, .inr (8, [.int 0, .int 0, .int 0, .int 0, .int 0, .int 0, .int 0, .ref m0_signs, .int 0, .ref m0_posts, .int 0, .ref m0_acts])), (m0_signs, .inl (cI, 8, .inl (fun _ => 0))), (m0_posts, .inl (cI, 5, .inl (fun _ => 0))), (m0_acts, .inr (0, [.ref m0_over, .ref m0_steps, .ref m0_before, .int 0])), (m0_over, .inl (cI, 61, .inl m0_gov)), (m0_steps, .inl (cI, 30, .inl (fun _ => 0))), (m0_before, .inl (cI, 30, .inl (fun _ => 0))), (im1, .inr (8, [.int 0, .int 0, .int 0, .int 0, .int 0, .int 0, .int 0, .ref m1_signs, .int 0, .ref m1_posts, .int 0, .ref m1_acts])), (m1_signs, .inl (cI, 8, .inl (fun _ => 0))), (m1_posts, .inl (cI, 5, .inl (fun _ => 0))), (m1_acts, .inr (0, [.ref m1_over, .ref m1_steps, .ref m1_before, .int 0])), (m1_over, .inl (cI, 61, .inl m1_gov)), (m1_steps, .inl (cI, 30, .inl (fun _ => 0))), (m1_before, .inl (cI, 30, .inl (fun _ => 0))), (r_kept, .inl (cZ, 3, .inl (upd (fun _ => 0) (2 : Int32).toNatClampNeg (vp_nar .boolean 1)))), (im2, .inr (8, [.int 0, .int 0, .int 0, .int 0, .int 0, .int 0, .int 0, .ref m2_signs, .int 0, .ref m2_posts, .int 0, .ref m2_acts])), (m2_signs, .inl (cI, 8, .inl g_26)), (m2_posts, .inl (cI, 5, .inl g_27)), (m2_acts, .inr (0, [.ref m2_over, .ref m2_steps, .ref m2_before, .int 0])), (m2_over, .inl (cI, 61, .inl g_23)), (m2_steps, .inl (cI, 30, .inl g_24)), (m2_before, .inl (cI, 30, .inl g_25)), (r_now, .inr (8, [.int 0, .int 0, .int 0, .int 0, .int 0, .int 0, .int 0, .ref n_signs, .int 0, .ref n_posts, .int 0, .ref n_acts])), (n_signs, .inl (cI, 8, .inl (fun _ => 0))), (n_posts, .inl (cI, 5, .inl (fun _ => 0))), (n_acts, .inr (0, [.ref n_over, .ref n_steps, .ref n_before, .int 0])), (n_over, .inl (cI, 61, .inl n_gov)), (n_steps, .inl (cI, 30, .inl (fun _ => 0))), (n_before, .inl (cI, 30, .inl (fun _ => 0)))] H := hP
      have hD : va_D A [(x0, .inr (11, [.ref r_tape, .ref r_reader, .ref r_now, .ref r_trial, .ref r_images, .ref r_kept, .ref r_slots, .ref r_night, .ref r_other, .ref r_circle, .ref r_words, .ref r_law, .ref r_place, .ref r_drawn])), (r_images, .inl (cT, 3, .inr (.inr (.inr (.inr (va_up (va_up (va_up (fun _ => none) 0 (some im0)) 1 (some im1)) 2 (some im2))))))), (im0, .inr (8, [.int 0, .int 0, .int 0, .int 0, .int 0, .int 0, .int 0, .ref m0_signs, .int 0, .ref m0_posts, .int 0, .ref m0_acts])), (m0_signs, .inl (cI, 8, .inl (fun _ => 0))), (m0_posts, .inl (cI, 5, .inl (fun _ => 0))), (m0_acts, .inr (0, [.ref m0_over, .ref m0_steps, .ref m0_before, .int 0])), (m0_over, .inl (cI, 61, .inl m0_gov)), (m0_steps, .inl (cI, 30, .inl (fun _ => 0))), (m0_before, .inl (cI, 30, .inl (fun _ => 0))), (im1, .inr (8, [.int 0, .int 0, .int 0, .int 0, .int 0, .int 0, .int 0, .ref m1_signs, .int 0, .ref m1_posts, .int 0, .ref m1_acts])), (m1_signs, .inl (cI, 8, .inl (fun _ => 0))), (m1_posts, .inl (cI, 5, .inl (fun _ => 0))), (m1_acts, .inr (0, [.ref m1_over, .ref m1_steps, .ref m1_before, .int 0])), (m1_over, .inl (cI, 61, .inl m1_gov)), (m1_steps, .inl (cI, 30, .inl (fun _ => 0))), (m1_before, .inl (cI, 30, .inl (fun _ => 0))), (r_kept, .inl (cZ, 3, .inl (upd (fun _ => 0) (2 : Int32).toNatClampNeg (vp_nar .boolean 1)))), (im2, .inr (8, [.int 0, .int 0, .int 0, .int 0, .int 0, .int 0, .int 0, .ref m2_signs, .int 0, .ref m2_posts, .int 0, .ref m2_acts])), (m2_signs, .inl (cI, 8, .inl g_26)), (m2_posts, .inl (cI, 5, .inl g_27)), (m2_acts, .inr (0, [.ref m2_over, .ref m2_steps, .ref m2_before, .int 0])), (m2_over, .inl (cI, 61, .inl g_23)), (m2_steps, .inl (cI, 30, .inl g_24)), (m2_before, .inl (cI, 30, .inl g_25)), (r_now, .inr (8, [.int 0, .int 0, .int 0, .int 0, .int 0, .int 0, .int 0, .ref n_signs, .int 0, .ref n_posts, .int 0, .ref n_acts])), (n_signs, .inl (cI, 8, .inl (fun _ => 0))), (n_posts, .inl (cI, 5, .inl (fun _ => 0))), (n_acts, .inr (0, [.ref n_over, .ref n_steps, .ref n_before, .int 0])), (n_over, .inl (cI, 61, .inl n_gov)), (n_steps, .inl (cI, 30, .inl (fun _ => 0))), (n_before, .inl (cI, 30, .inl (fun _ => 0)))] := hD
      obtain ⟨g_28, eg_28⟩ : ∃ v9 : Nat → Int32, (upd (fun _ => 0) (2 : Int32).toNatClampNeg (vp_nar .boolean 1)) = v9 := ⟨_, rfl⟩
      rw [eg_28] at hP hD
      have hP : va_P D vwCl [(x0, .inr (11, [.ref r_tape, .ref r_reader, .ref r_now, .ref r_trial, .ref r_images, .ref r_kept, .ref r_slots, .ref r_night, .ref r_other, .ref r_circle, .ref r_words, .ref r_law, .ref r_place, .ref r_drawn])), (r_images, .inl (cT, 3, .inr (.inr (.inr (.inr (va_up (va_up (va_up (fun _ => none) 0 (some im0)) 1 (some im1)) 2 (some im2))))))), (im0, .inr (8, [.int 0, .int 0, .int 0, .int 0, .int 0, .int 0, .int 0, .ref m0_signs, .int 0, .ref m0_posts, .int 0, .ref m0_acts])), (m0_signs, .inl (cI, 8, .inl (fun _ => 0))), (m0_posts, .inl (cI, 5, .inl (fun _ => 0))), (m0_acts, .inr (0, [.ref m0_over, .ref m0_steps, .ref m0_before, .int 0])), (m0_over, .inl (cI, 61, .inl m0_gov)), (m0_steps, .inl (cI, 30, .inl (fun _ => 0))), (m0_before, .inl (cI, 30, .inl (fun _ => 0))), (im1, .inr (8, [.int 0, .int 0, .int 0, .int 0, .int 0, .int 0, .int 0, .ref m1_signs, .int 0, .ref m1_posts, .int 0, .ref m1_acts])), (m1_signs, .inl (cI, 8, .inl (fun _ => 0))), (m1_posts, .inl (cI, 5, .inl (fun _ => 0))), (m1_acts, .inr (0, [.ref m1_over, .ref m1_steps, .ref m1_before, .int 0])), (m1_over, .inl (cI, 61, .inl m1_gov)), (m1_steps, .inl (cI, 30, .inl (fun _ => 0))), (m1_before, .inl (cI, 30, .inl (fun _ => 0))), (r_kept, .inl (cZ, 3, .inl g_28)), (im2, .inr (8, [.int 0, .int 0, .int 0, .int 0, .int 0, .int 0, .int 0, .ref m2_signs, .int 0, .ref m2_posts, .int 0, .ref m2_acts])), (m2_signs, .inl (cI, 8, .inl g_26)), (m2_posts, .inl (cI, 5, .inl g_27)), (m2_acts, .inr (0, [.ref m2_over, .ref m2_steps, .ref m2_before, .int 0])), (m2_over, .inl (cI, 61, .inl g_23)), (m2_steps, .inl (cI, 30, .inl g_24)), (m2_before, .inl (cI, 30, .inl g_25)), (r_now, .inr (8, [.int 0, .int 0, .int 0, .int 0, .int 0, .int 0, .int 0, .ref n_signs, .int 0, .ref n_posts, .int 0, .ref n_acts])), (n_signs, .inl (cI, 8, .inl (fun _ => 0))), (n_posts, .inl (cI, 5, .inl (fun _ => 0))), (n_acts, .inr (0, [.ref n_over, .ref n_steps, .ref n_before, .int 0])), (n_over, .inl (cI, 61, .inl n_gov)), (n_steps, .inl (cI, 30, .inl (fun _ => 0))), (n_before, .inl (cI, 30, .inl (fun _ => 0)))] H := hP
      have hD : va_D A [(x0, .inr (11, [.ref r_tape, .ref r_reader, .ref r_now, .ref r_trial, .ref r_images, .ref r_kept, .ref r_slots, .ref r_night, .ref r_other, .ref r_circle, .ref r_words, .ref r_law, .ref r_place, .ref r_drawn])), (r_images, .inl (cT, 3, .inr (.inr (.inr (.inr (va_up (va_up (va_up (fun _ => none) 0 (some im0)) 1 (some im1)) 2 (some im2))))))), (im0, .inr (8, [.int 0, .int 0, .int 0, .int 0, .int 0, .int 0, .int 0, .ref m0_signs, .int 0, .ref m0_posts, .int 0, .ref m0_acts])), (m0_signs, .inl (cI, 8, .inl (fun _ => 0))), (m0_posts, .inl (cI, 5, .inl (fun _ => 0))), (m0_acts, .inr (0, [.ref m0_over, .ref m0_steps, .ref m0_before, .int 0])), (m0_over, .inl (cI, 61, .inl m0_gov)), (m0_steps, .inl (cI, 30, .inl (fun _ => 0))), (m0_before, .inl (cI, 30, .inl (fun _ => 0))), (im1, .inr (8, [.int 0, .int 0, .int 0, .int 0, .int 0, .int 0, .int 0, .ref m1_signs, .int 0, .ref m1_posts, .int 0, .ref m1_acts])), (m1_signs, .inl (cI, 8, .inl (fun _ => 0))), (m1_posts, .inl (cI, 5, .inl (fun _ => 0))), (m1_acts, .inr (0, [.ref m1_over, .ref m1_steps, .ref m1_before, .int 0])), (m1_over, .inl (cI, 61, .inl m1_gov)), (m1_steps, .inl (cI, 30, .inl (fun _ => 0))), (m1_before, .inl (cI, 30, .inl (fun _ => 0))), (r_kept, .inl (cZ, 3, .inl g_28)), (im2, .inr (8, [.int 0, .int 0, .int 0, .int 0, .int 0, .int 0, .int 0, .ref m2_signs, .int 0, .ref m2_posts, .int 0, .ref m2_acts])), (m2_signs, .inl (cI, 8, .inl g_26)), (m2_posts, .inl (cI, 5, .inl g_27)), (m2_acts, .inr (0, [.ref m2_over, .ref m2_steps, .ref m2_before, .int 0])), (m2_over, .inl (cI, 61, .inl g_23)), (m2_steps, .inl (cI, 30, .inl g_24)), (m2_before, .inl (cI, 30, .inl g_25)), (r_now, .inr (8, [.int 0, .int 0, .int 0, .int 0, .int 0, .int 0, .int 0, .ref n_signs, .int 0, .ref n_posts, .int 0, .ref n_acts])), (n_signs, .inl (cI, 8, .inl (fun _ => 0))), (n_posts, .inl (cI, 5, .inl (fun _ => 0))), (n_acts, .inr (0, [.ref n_over, .ref n_steps, .ref n_before, .int 0])), (n_over, .inl (cI, 61, .inl n_gov)), (n_steps, .inl (cI, 30, .inl (fun _ => 0))), (n_before, .inl (cI, 30, .inl (fun _ => 0)))] := hD
      refine lv_iconst (v := 0) hx hb dX11_image_35 (by decide) ?_
      have hP9 := hP.sub (ws' := []) [] rfl
      have hD9 := hD.sub (ws' := []) [] (by decide) rfl
      exact W.iret (v := 0) hx hb hr (fun t ht hW => ⟨⟨0, (), rfl, (by decide), by rw [ht]; exact hP9, va_K.moved hW.alike hK, hD9⟩, hS.F ht⟩) hS.2.2 dX11_image_36

set_option maxHeartbeats 4000000 in
set_option maxRecDepth 100000 in
theorem k_byteAt0 (l : Launch) (D : va_G) (cB cI cJ cZ cS cT : ClassId) (h0 : Nat) (by_ : Nat)  : Met l yX9_byteAt (Cond.code yX9_byteAt cX9_byteAt 2 (some .int) :: wsL_law) ({ frames := 0, cells := 0, slots := 0, locals := 0 }) (roP D (tyL cB cI cJ cZ cS cT) [(h0, .inr (9, [.ref by_, .int 0]))] [.ref h0, .int 0]) (vp_Si (fun r : Int32 => r = -1)) 0 0 (fun _ => False) := by
  refine Met.ofW (cc := cX9_byteAt) (maxL := 2) (ret := (some .int)) (by decide) rfl ?_
  intro p e s m args below meth c s₁ B hml hv
  obtain ⟨rfl, hP, hK⟩ := hv
  have hx := B.exec
  have hb := B.bytes
  have hr := B.returns
  have hts : ∀ w ∈ wsL_law, w.before ([.ref h0, .int 0] : List Value).toArray s = true := fun w h => atoms_spec (ws := Cond.code yX9_byteAt cX9_byteAt 2 (some .int) :: wsL_law) B.pre w (List.mem_cons_of_mem _ h)
  have hown : s.vm.findClass RX9 = some m.cls := findClass_of_methodNamed B.named
  have hlocks := B.notSynchronized
  have hl := lv_entry ([.ref h0, .int 0]) (n := 2) (Nat.le_of_ble_eq_true rfl)
  rw [lg_entry_eq]
  generalize (lg_sl ([.ref h0, .int 0]) ++ List.replicate (2 - (lg_sl ([.ref h0, .int 0])).length) Slot.unset).toArray = ls at hl ⊢
  have hl : lv_has ls 2 [(0, .ref h0), (1, .int 0)] := hl
  have hP : va_P D vwCl [(h0, .inr (9, [.ref by_, .int 0]))] s.heap := hP
  refine lv_iload_n hx hb dX9_byteAt_0 rfl (lv_at hl 1 rfl) ?_
  refine lv_if_lt (tgt := 25) hx hb dX9_byteAt_1 (by decide) (fun c0 => absurd c0 (by decide)) (fun _ => ?_)
  refine lv_iload_n hx hb dX9_byteAt_4 rfl (lv_at hl 1 rfl) ?_
  refine lv_aload_n hx hb dX9_byteAt_5 rfl (lv_at hl 0 rfl) ?_
  refine va_get (D := D) (ci := 9) (v := .int 0) (C := RX9) (T := TX9) (N := 2) hx hb hts inlX9 hown hK hP 0 rfl rfl 1 (by decide) (hts _ (inr8 _ (List.mem_of_getElem? (i := 2) rfl))) (fun _ h9 => h9) rfl dX9_byteAt_6 ?_
  refine lv_icmp_ge (tgt := 25) hx hb dX9_byteAt_9 (by decide) (fun _ => ?_) (fun c0 => absurd c0 (by decide))
  refine lv_iconst (v := (-1)) hx hb dX9_byteAt_25 (by decide) ?_
  exact W.iret (v := (-1)) hx hb hr (fun t ht hW => ⟨_, rfl, rfl, ht⟩) (fun _ h => by cases h) dX9_byteAt_26

set_option maxHeartbeats 4000000 in
set_option maxRecDepth 100000 in
theorem k_isBlank (l : Launch) (D : va_G) (cB cI cJ cZ cS cT : ClassId)   : Met l yX6_isBlank (Cond.code yX6_isBlank cX6_isBlank 1 (some .boolean) :: wsL_law) ({ frames := 0, cells := 0, slots := 0, locals := 0 }) (roP D (tyL cB cI cJ cZ cS cT) [] [.int (-1)]) (vp_Si (fun r : Int32 => r = 0)) 0 0 (fun _ => False) := by
  refine Met.ofW (cc := cX6_isBlank) (maxL := 1) (ret := (some .boolean)) (by decide) rfl ?_
  intro p e s m args below meth c s₁ B hml hv
  obtain ⟨rfl, hP, hK⟩ := hv
  have hx := B.exec
  have hb := B.bytes
  have hr := B.returns
  have hts : ∀ w ∈ wsL_law, w.before ([.int (-1)] : List Value).toArray s = true := fun w h => atoms_spec (ws := Cond.code yX6_isBlank cX6_isBlank 1 (some .boolean) :: wsL_law) B.pre w (List.mem_cons_of_mem _ h)
  have hown : s.vm.findClass RX6 = some m.cls := findClass_of_methodNamed B.named
  have hlocks := B.notSynchronized
  have hl := lv_entry ([.int (-1)]) (n := 1) (Nat.le_of_ble_eq_true rfl)
  rw [lg_entry_eq]
  generalize (lg_sl ([.int (-1)]) ++ List.replicate (1 - (lg_sl ([.int (-1)])).length) Slot.unset).toArray = ls at hl ⊢
  have hl : lv_has ls 1 [(0, .int (-1))] := hl
  have hP : va_P D vwCl [] s.heap := hP
  refine lv_iload_n hx hb dX6_isBlank_0 rfl (lv_at hl 0 rfl) ?_
  refine lv_bipush (v := 32) hx hb dX6_isBlank_1 (by decide) ?_
  refine lv_icmp_eq (tgt := 12) hx hb dX6_isBlank_3 (by decide) (fun c0 => absurd c0 (by decide)) (fun _ => ?_)
  refine lv_iload_n hx hb dX6_isBlank_6 rfl (lv_at hl 0 rfl) ?_
  refine lv_bipush (v := 10) hx hb dX6_isBlank_7 (by decide) ?_
  refine lv_icmp_ne (tgt := 16) hx hb dX6_isBlank_9 (by decide) (fun _ => ?_) (fun c0 => absurd c0 (by decide))
  refine lv_iconst (v := 0) hx hb dX6_isBlank_16 (by decide) ?_
  exact W.zret (v := 0) hx hb hr rfl (fun t ht hW => ⟨_, rfl, rfl, ht⟩) (fun _ h => by cases h) dX6_isBlank_17

set_option maxHeartbeats 4000000 in
set_option maxRecDepth 100000 in
theorem k_next0 (l : Launch) (D : va_G) (cB cI cJ cZ cS cT : ClassId) (sz : Nat) (h0 : Nat) (dr : Nat) (kd : Int32) (sa : Int32) (nu : Int32) (fa : Int32) (fp : Int32) (tp : Nat) (by_ : Nat)  : Met l yX6_nextToken (Cond.code yX6_nextToken cX6_nextToken 3 none :: wsL_law) ({ frames := 1, cells := 0, slots := 0, locals := 21 }) (wrP D (tyL cB cI cJ cZ cS cT) [(h0, .inr (6, [.ref dr, .int kd, .int sa, .int 0, .int nu, .int fa, .int fp])), (tp, .inr (9, [.ref by_, .int 0]))] sz [.ref h0, .ref tp]) (va_Qv (fun x : Unit => True) (atW D (tyL cB cI cJ cZ cS cT) (va_A [(h0, .inr (6, [.ref dr, .int kd, .int sa, .int 0, .int nu, .int fa, .int fp])), (tp, .inr (9, [.ref by_, .int 0]))] sz) (fun x : Unit => [(h0, .inr (6, [.ref dr, .int 0, .int 0, .int 0, .int nu, .int fa, .int fp])), (tp, .inr (9, [.ref by_, .int 0]))])) (va_A [(h0, .inr (6, [.ref dr, .int kd, .int sa, .int 0, .int nu, .int fa, .int fp])), (tp, .inr (9, [.ref by_, .int 0]))] sz)) 0 0 (va_A [(h0, .inr (6, [.ref dr, .int kd, .int sa, .int 0, .int nu, .int fa, .int fp])), (tp, .inr (9, [.ref by_, .int 0]))] sz) := by
  refine Met.ofW (cc := cX6_nextToken) (maxL := 3) (ret := none) (by decide) rfl ?_
  intro p e s m args below meth c s₁ B hml hv
  obtain ⟨rfl, hsz, hP, hK, hD0, hN⟩ := hv
  have hx := B.exec
  have hb := B.bytes
  have hr := B.returns
  have hts : ∀ w ∈ wsL_law, w.before ([.ref h0, .ref tp] : List Value).toArray s = true := fun w h => atoms_spec (ws := Cond.code yX6_nextToken cX6_nextToken 3 none :: wsL_law) B.pre w (List.mem_cons_of_mem _ h)
  have hown : s.vm.findClass RX6 = some m.cls := findClass_of_methodNamed B.named
  have hlocks := B.notSynchronized
  subst hsz
  have hD := hD0.self (sz := s.heap.size)
  generalize hAe : va_A [(h0, .inr (6, [.ref dr, .int kd, .int sa, .int 0, .int nu, .int fa, .int fp])), (tp, .inr (9, [.ref by_, .int 0]))] s.heap.size = A at hD ⊢
  have hA : ∀ q : Nat, s.heap.size ≤ q → A q := fun q h => by rw [← hAe]; exact Or.inr h
  have hS : va_S A s.heap s.heap [] := va_S.rf
  have hl := lv_entry ([.ref h0, .ref tp]) (n := 3) (Nat.le_of_ble_eq_true rfl)
  rw [lg_entry_eq]
  generalize (lg_sl ([.ref h0, .ref tp]) ++ List.replicate (3 - (lg_sl ([.ref h0, .ref tp])).length) Slot.unset).toArray = ls at hl ⊢
  have hl : lv_has ls 3 [(0, .ref h0), (1, .ref tp)] := hl
  have hP : va_P D vwCl [(h0, .inr (6, [.ref dr, .int kd, .int sa, .int 0, .int nu, .int fa, .int fp])), (tp, .inr (9, [.ref by_, .int 0]))] s.heap := hP
  refine lv_aload_n hx hb dX6_nextToken_0 rfl (lv_at hl 0 rfl) ?_
  refine lv_aload_n hx hb dX6_nextToken_1 rfl (lv_at hl 0 rfl) ?_
  refine va_get (D := D) (ci := 6) (v := .int 0) (C := RX6) (T := TX6) (N := 7) hx hb hts inlX6 hown hK hP 0 rfl rfl 3 (by decide) (hts _ (inr9 _ (List.mem_of_getElem? (i := 15) rfl))) (fun _ h9 => h9) rfl dX6_nextToken_2 ?_
  refine va_put (D := D) (ci := 6) (v := .int 0) (ty := .int) (C := RX6) (T := TX6) (N := 7) hx hb hts inlX6 tyX6 tyX6_ok nmX6 hown hK hP hD hS 0 rfl rfl 2 (by decide) (hts _ (inr10 _ (List.mem_of_getElem? (i := 23) rfl))) (fun _ h9 => h9) rfl (by decide +kernel) rfl rfl (Nat.le_of_ble_eq_true rfl) dX6_nextToken_5 (fun H locs hP hD hS => ?_)
  have hP : va_P D vwCl [(h0, .inr (6, [.ref dr, .int kd, .int 0, .int 0, .int nu, .int fa, .int fp])), (tp, .inr (9, [.ref by_, .int 0]))] H := hP
  have hD : va_D A [(h0, .inr (6, [.ref dr, .int kd, .int 0, .int 0, .int nu, .int fa, .int fp])), (tp, .inr (9, [.ref by_, .int 0]))] := hD
  refine lv_aload_n hx hb dX6_nextToken_8 rfl (lv_at hl 0 rfl) ?_
  refine va_get (D := D) (ci := 6) (v := .int 0) (C := RX6) (T := TX6) (N := 7) hx hb hts inlX6 hown hK hP 0 rfl rfl 2 (by decide) (hts _ (inr10 _ (List.mem_of_getElem? (i := 23) rfl))) (fun _ h9 => h9) rfl dX6_nextToken_9 ?_
  refine lv_sipush (v := 500) hx hb dX6_nextToken_12 (by decide) ?_
  refine lv_icmp_ge (tgt := 45) hx hb dX6_nextToken_15 (by decide) (fun c0 => absurd c0 (by decide)) (fun _ => ?_)
  refine lv_aload_n hx hb dX6_nextToken_18 rfl (lv_at hl 1 rfl) ?_
  refine lv_aload_n hx hb dX6_nextToken_19 rfl (lv_at hl 0 rfl) ?_
  refine va_get (D := D) (ci := 6) (v := .int 0) (C := RX6) (T := TX6) (N := 7) hx hb hts inlX6 hown hK hP 0 rfl rfl 2 (by decide) (hts _ (inr10 _ (List.mem_of_getElem? (i := 23) rfl))) (fun _ h9 => h9) rfl dX6_nextToken_20 ?_
  refine roi (As := [.int 0]) (rest := []) ⟨hx, hb, hml, hown, hts⟩ (k_byteAt0 l D cB cI cJ cZ cS cT tp by_ ) (cvB (n := 1) (inr11 _ (List.mem_of_getElem? (i := 0) rfl)) (inr11 _ (List.mem_of_getElem? (i := 1) rfl)) (inr11 _ (List.mem_of_getElem? (i := 2) rfl)) (inr1 _ (List.mem_of_getElem? (i := 15) rfl)) (inr11 _ (List.mem_of_getElem? (i := 3) rfl)) (by decide +kernel) hts rfl rfl ⟨Nat.le_of_ble_eq_true rfl, Nat.le_of_ble_eq_true rfl⟩) 0 9 rfl rfl rfl (hP.sub [1] rfl) hK rfl hl.1 rfl (Nat.le_of_ble_eq_true rfl) ⟨Nat.le_of_ble_eq_true rfl, Nat.le_of_ble_eq_true rfl⟩ dX6_nextToken_23 (fun r_1 h_2 => ?_)
  obtain rfl := h_2
  refine rosi (As := [.int (-1)]) (rest := []) ⟨hx, hb, hml, hown, hts⟩ (k_isBlank l D cB cI cJ cZ cS cT  ) (csB (n := 1) (inr11 _ (List.mem_of_getElem? (i := 4) rfl)) (inr11 _ (List.mem_of_getElem? (i := 5) rfl)) (inr1 _ (List.mem_of_getElem? (i := 19) rfl)) (inr11 _ (List.mem_of_getElem? (i := 6) rfl)) (by decide +kernel) hts rfl rfl ⟨Nat.le_of_ble_eq_true rfl, Nat.le_of_ble_eq_true rfl⟩) (hP.sub [] rfl) hK rfl hl.1 rfl (Nat.le_of_ble_eq_true rfl) ⟨Nat.le_of_ble_eq_true rfl, Nat.le_of_ble_eq_true rfl⟩ dX6_nextToken_26 (fun r_3 h_4 => ?_)
  obtain rfl := h_4
  refine lv_if_eq (tgt := 45) hx hb dX6_nextToken_29 (by decide) (fun _ => ?_) (fun c0 => absurd c0 (by decide))
  refine lv_aload_n hx hb dX6_nextToken_45 rfl (lv_at hl 0 rfl) ?_
  refine lv_aload_n hx hb dX6_nextToken_46 rfl (lv_at hl 0 rfl) ?_
  refine va_get (D := D) (ci := 6) (v := .int 0) (C := RX6) (T := TX6) (N := 7) hx hb hts inlX6 hown hK hP 0 rfl rfl 2 (by decide) (hts _ (inr10 _ (List.mem_of_getElem? (i := 23) rfl))) (fun _ h9 => h9) rfl dX6_nextToken_47 ?_
  refine va_put (D := D) (ci := 6) (v := .int 0) (ty := .int) (C := RX6) (T := TX6) (N := 7) hx hb hts inlX6 tyX6 tyX6_ok nmX6 hown hK hP hD hS 0 rfl rfl 3 (by decide) (hts _ (inr9 _ (List.mem_of_getElem? (i := 15) rfl))) (fun _ h9 => h9) rfl (by decide +kernel) rfl rfl (Nat.le_of_ble_eq_true rfl) dX6_nextToken_50 (fun H locs hP hD hS => ?_)
  have hP : va_P D vwCl [(h0, .inr (6, [.ref dr, .int kd, .int 0, .int 0, .int nu, .int fa, .int fp])), (tp, .inr (9, [.ref by_, .int 0]))] H := hP
  have hD : va_D A [(h0, .inr (6, [.ref dr, .int kd, .int 0, .int 0, .int nu, .int fa, .int fp])), (tp, .inr (9, [.ref by_, .int 0]))] := hD
  refine lv_aload_n hx hb dX6_nextToken_53 rfl (lv_at hl 1 rfl) ?_
  refine lv_aload_n hx hb dX6_nextToken_54 rfl (lv_at hl 0 rfl) ?_
  refine va_get (D := D) (ci := 6) (v := .int 0) (C := RX6) (T := TX6) (N := 7) hx hb hts inlX6 hown hK hP 0 rfl rfl 2 (by decide) (hts _ (inr10 _ (List.mem_of_getElem? (i := 23) rfl))) (fun _ h9 => h9) rfl dX6_nextToken_55 ?_
  refine roi (As := [.int 0]) (rest := []) ⟨hx, hb, hml, hown, hts⟩ (k_byteAt0 l D cB cI cJ cZ cS cT tp by_ ) (cvB (n := 1) (inr11 _ (List.mem_of_getElem? (i := 0) rfl)) (inr11 _ (List.mem_of_getElem? (i := 1) rfl)) (inr11 _ (List.mem_of_getElem? (i := 2) rfl)) (inr1 _ (List.mem_of_getElem? (i := 15) rfl)) (inr11 _ (List.mem_of_getElem? (i := 3) rfl)) (by decide +kernel) hts rfl rfl ⟨Nat.le_of_ble_eq_true rfl, Nat.le_of_ble_eq_true rfl⟩) 0 9 rfl rfl rfl (hP.sub [1] rfl) hK rfl hl.1 rfl (Nat.le_of_ble_eq_true rfl) ⟨Nat.le_of_ble_eq_true rfl, Nat.le_of_ble_eq_true rfl⟩ dX6_nextToken_58 (fun r_5 h_6 => ?_)
  obtain rfl := h_6
  refine lv_istore_n (lv' := [(2, .int (-1)), (0, .ref h0), (1, .ref tp)]) hx hb dX6_nextToken_61 rfl hl (by decide) rfl (fun ls hl => ?_)
  refine lv_iload_n hx hb dX6_nextToken_62 rfl (lv_at hl 0 rfl) ?_
  refine lv_iconst (v := (-1)) hx hb dX6_nextToken_63 (by decide) ?_
  refine lv_icmp_ne (tgt := 75) hx hb dX6_nextToken_64 (by decide) (fun c0 => absurd c0 (by decide)) (fun _ => ?_)
  refine lv_aload_n hx hb dX6_nextToken_67 rfl (lv_at hl 1 rfl) ?_
  refine lv_iconst (v := 0) hx hb dX6_nextToken_68 (by decide) ?_
  refine va_put (D := D) (ci := 6) (v := .int 0) (ty := .int) (C := RX6) (T := TX6) (N := 7) hx hb hts inlX6 tyX6 tyX6_ok nmX6 hown hK hP hD hS 0 rfl rfl 1 (by decide) (hts _ (inr9 _ (List.mem_of_getElem? (i := 16) rfl))) (fun _ h9 => h9) rfl (by decide +kernel) rfl rfl (Nat.le_of_ble_eq_true rfl) dX6_nextToken_69 (fun H locs hP hD hS => ?_)
  have hP : va_P D vwCl [(h0, .inr (6, [.ref dr, .int 0, .int 0, .int 0, .int nu, .int fa, .int fp])), (tp, .inr (9, [.ref by_, .int 0]))] H := hP
  have hD : va_D A [(h0, .inr (6, [.ref dr, .int 0, .int 0, .int 0, .int nu, .int fa, .int fp])), (tp, .inr (9, [.ref by_, .int 0]))] := hD
  refine lv_goto (tgt := 130) hx hb dX6_nextToken_72 (by decide) ?_
  have hP9 := hP.sub (ws' := [(h0, .inr (6, [.ref dr, .int 0, .int 0, .int 0, .int nu, .int fa, .int fp])), (tp, .inr (9, [.ref by_, .int 0]))]) [0, 1] rfl
  have hD9 := hD.sub (ws' := [(h0, .inr (6, [.ref dr, .int 0, .int 0, .int 0, .int nu, .int fa, .int fp])), (tp, .inr (9, [.ref by_, .int 0]))]) [0, 1] (by decide) rfl
  exact W.vret hx hb hr (fun t ht hW => ⟨⟨(), rfl, trivial, by rw [ht]; exact hP9, va_K.moved hW.alike hK, hD9⟩, hS.F ht⟩) hS.2.2 dX6_nextToken_130

set_option maxHeartbeats 4000000 in
set_option maxRecDepth 100000 in
theorem k_read0 (l : Launch) (D : va_G) (cB cI cJ cZ cS cT : ClassId) (sz : Nat) (h0 : Nat) (d_dr : Nat) (d_signs : Nat) (d_posts : Nat) (d_acts : Nat) (d_over : Nat) (d_steps : Nat) (d_before : Nat) (d_gov : Nat → Int32) (tp : Nat) (by_ : Nat)  : Met l yX6_read (Cond.code yX6_read cX6_read 3 none :: wsL_law) ({ frames := 3, cells := 0, slots := 0, locals := 63 }) (wrP D (tyL cB cI cJ cZ cS cT) [(h0, .inr (6, [.ref d_dr, .int 0, .int 0, .int 0, .int 0, .int 0, .int (-1)])), (d_dr, .inr (8, [.int 0, .int 0, .int 0, .int 0, .int 0, .int 0, .int 0, .ref d_signs, .int 0, .ref d_posts, .int 0, .ref d_acts])), (d_signs, .inl (cI, 8, .inl (fun _ => 0))), (d_posts, .inl (cI, 5, .inl (fun _ => 0))), (d_acts, .inr (0, [.ref d_over, .ref d_steps, .ref d_before, .int 0])), (d_over, .inl (cI, 61, .inl d_gov)), (d_steps, .inl (cI, 30, .inl (fun _ => 0))), (d_before, .inl (cI, 30, .inl (fun _ => 0))), (tp, .inr (9, [.ref by_, .int 0]))] sz [.ref h0, .ref tp]) (va_Qv (fun x : (Nat → Int32) => True) (atW D (tyL cB cI cJ cZ cS cT) (va_A [(h0, .inr (6, [.ref d_dr, .int 0, .int 0, .int 0, .int 0, .int 0, .int (-1)])), (d_dr, .inr (8, [.int 0, .int 0, .int 0, .int 0, .int 0, .int 0, .int 0, .ref d_signs, .int 0, .ref d_posts, .int 0, .ref d_acts])), (d_signs, .inl (cI, 8, .inl (fun _ => 0))), (d_posts, .inl (cI, 5, .inl (fun _ => 0))), (d_acts, .inr (0, [.ref d_over, .ref d_steps, .ref d_before, .int 0])), (d_over, .inl (cI, 61, .inl d_gov)), (d_steps, .inl (cI, 30, .inl (fun _ => 0))), (d_before, .inl (cI, 30, .inl (fun _ => 0))), (tp, .inr (9, [.ref by_, .int 0]))] sz) (fun x : (Nat → Int32) => [(h0, .inr (6, [.ref d_dr, .int 0, .int 0, .int 0, .int 0, .int 0, .int (-1)])), (d_dr, .inr (8, [.int 0, .int 0, .int 0, .int 0, .int 0, .int 0, .int 0, .ref d_signs, .int 0, .ref d_posts, .int 0, .ref d_acts])), (d_signs, .inl (cI, 8, .inl (fun _ => 0))), (d_posts, .inl (cI, 5, .inl (fun _ => 0))), (d_acts, .inr (0, [.ref d_over, .ref d_steps, .ref d_before, .int 0])), (d_over, .inl (cI, 61, .inl x)), (d_steps, .inl (cI, 30, .inl (fun _ => 0))), (d_before, .inl (cI, 30, .inl (fun _ => 0))), (tp, .inr (9, [.ref by_, .int 0]))])) (va_A [(h0, .inr (6, [.ref d_dr, .int 0, .int 0, .int 0, .int 0, .int 0, .int (-1)])), (d_dr, .inr (8, [.int 0, .int 0, .int 0, .int 0, .int 0, .int 0, .int 0, .ref d_signs, .int 0, .ref d_posts, .int 0, .ref d_acts])), (d_signs, .inl (cI, 8, .inl (fun _ => 0))), (d_posts, .inl (cI, 5, .inl (fun _ => 0))), (d_acts, .inr (0, [.ref d_over, .ref d_steps, .ref d_before, .int 0])), (d_over, .inl (cI, 61, .inl d_gov)), (d_steps, .inl (cI, 30, .inl (fun _ => 0))), (d_before, .inl (cI, 30, .inl (fun _ => 0))), (tp, .inr (9, [.ref by_, .int 0]))] sz)) 0 0 (va_A [(h0, .inr (6, [.ref d_dr, .int 0, .int 0, .int 0, .int 0, .int 0, .int (-1)])), (d_dr, .inr (8, [.int 0, .int 0, .int 0, .int 0, .int 0, .int 0, .int 0, .ref d_signs, .int 0, .ref d_posts, .int 0, .ref d_acts])), (d_signs, .inl (cI, 8, .inl (fun _ => 0))), (d_posts, .inl (cI, 5, .inl (fun _ => 0))), (d_acts, .inr (0, [.ref d_over, .ref d_steps, .ref d_before, .int 0])), (d_over, .inl (cI, 61, .inl d_gov)), (d_steps, .inl (cI, 30, .inl (fun _ => 0))), (d_before, .inl (cI, 30, .inl (fun _ => 0))), (tp, .inr (9, [.ref by_, .int 0]))] sz) := by
  refine Met.ofW (cc := cX6_read) (maxL := 3) (ret := none) (by decide) rfl ?_
  intro p e s m args below meth c s₁ B hml hv
  obtain ⟨rfl, hsz, hP, hK, hD0, hN⟩ := hv
  have hx := B.exec
  have hb := B.bytes
  have hr := B.returns
  have hts : ∀ w ∈ wsL_law, w.before ([.ref h0, .ref tp] : List Value).toArray s = true := fun w h => atoms_spec (ws := Cond.code yX6_read cX6_read 3 none :: wsL_law) B.pre w (List.mem_cons_of_mem _ h)
  have hown : s.vm.findClass RX6 = some m.cls := findClass_of_methodNamed B.named
  have hlocks := B.notSynchronized
  subst hsz
  have hD := hD0.self (sz := s.heap.size)
  generalize hAe : va_A [(h0, .inr (6, [.ref d_dr, .int 0, .int 0, .int 0, .int 0, .int 0, .int (-1)])), (d_dr, .inr (8, [.int 0, .int 0, .int 0, .int 0, .int 0, .int 0, .int 0, .ref d_signs, .int 0, .ref d_posts, .int 0, .ref d_acts])), (d_signs, .inl (cI, 8, .inl (fun _ => 0))), (d_posts, .inl (cI, 5, .inl (fun _ => 0))), (d_acts, .inr (0, [.ref d_over, .ref d_steps, .ref d_before, .int 0])), (d_over, .inl (cI, 61, .inl d_gov)), (d_steps, .inl (cI, 30, .inl (fun _ => 0))), (d_before, .inl (cI, 30, .inl (fun _ => 0))), (tp, .inr (9, [.ref by_, .int 0]))] s.heap.size = A at hD ⊢
  have hA : ∀ q : Nat, s.heap.size ≤ q → A q := fun q h => by rw [← hAe]; exact Or.inr h
  have hS : va_S A s.heap s.heap [] := va_S.rf
  have hl := lv_entry ([.ref h0, .ref tp]) (n := 3) (Nat.le_of_ble_eq_true rfl)
  rw [lg_entry_eq]
  generalize (lg_sl ([.ref h0, .ref tp]) ++ List.replicate (3 - (lg_sl ([.ref h0, .ref tp])).length) Slot.unset).toArray = ls at hl ⊢
  have hl : lv_has ls 3 [(0, .ref h0), (1, .ref tp)] := hl
  have hP : va_P D vwCl [(h0, .inr (6, [.ref d_dr, .int 0, .int 0, .int 0, .int 0, .int 0, .int (-1)])), (d_dr, .inr (8, [.int 0, .int 0, .int 0, .int 0, .int 0, .int 0, .int 0, .ref d_signs, .int 0, .ref d_posts, .int 0, .ref d_acts])), (d_signs, .inl (cI, 8, .inl (fun _ => 0))), (d_posts, .inl (cI, 5, .inl (fun _ => 0))), (d_acts, .inr (0, [.ref d_over, .ref d_steps, .ref d_before, .int 0])), (d_over, .inl (cI, 61, .inl d_gov)), (d_steps, .inl (cI, 30, .inl (fun _ => 0))), (d_before, .inl (cI, 30, .inl (fun _ => 0))), (tp, .inr (9, [.ref by_, .int 0]))] s.heap := hP
  refine lv_aload_n hx hb dX6_read_0 rfl (lv_at hl 0 rfl) ?_
  refine va_get (D := D) (ci := 6) (v := .ref d_dr) (C := RX6) (T := TX6) (N := 7) hx hb hts inlX6 hown hK hP 0 rfl rfl 0 (by decide) (hts _ (inr3 _ (List.mem_of_getElem? (i := 19) rfl))) (fun _ h9 => h9) rfl dX6_read_1 ?_
  refine wrVv (As := []) (rest := []) (wr := [(h0, .inr (6, [.ref d_dr, .int 0, .int 0, .int 0, .int 0, .int 0, .int (-1)])), (d_signs, .inl (cI, 8, .inl (fun _ => 0))), (d_posts, .inl (cI, 5, .inl (fun _ => 0))), (d_steps, .inl (cI, 30, .inl (fun _ => 0))), (d_before, .inl (cI, 30, .inl (fun _ => 0))), (tp, .inr (9, [.ref by_, .int 0]))]) ⟨hx, hb, hml, hown, hts⟩ (k_St_clear l D cB cI cJ cZ cS cT s.heap.size d_dr 0 0 0 0 0 0 0 d_signs 0 d_posts 0 d_acts d_over d_steps d_before 0 d_gov ) hP hD hS hA hK hN [1, 4, 5] [0, 2, 3, 6, 7, 8] rfl rfl (by decide) (by decide) (by decide) (cvB (n := 0) (inr9 _ (List.mem_of_getElem? (i := 17) rfl)) (inr9 _ (List.mem_of_getElem? (i := 18) rfl)) (inr9 _ (List.mem_of_getElem? (i := 19) rfl)) (inr1 _ (List.mem_of_getElem? (i := 23) rfl)) (inr9 _ (List.mem_of_getElem? (i := 20) rfl)) (by decide +kernel) hts rfl rfl ⟨Nat.le_of_ble_eq_true rfl, Nat.le_of_ble_eq_true rfl⟩) 0 8 rfl rfl rfl rfl hl.1 rfl (Nat.le_of_ble_eq_true rfl) ⟨Nat.le_of_ble_eq_true rfl, Nat.le_of_ble_eq_true rfl⟩ dX6_read_4 (fun x9 H locs h_2 hP hD hS => ?_)
  obtain ⟨g_3, rfl⟩ : ∃ z, z = x9 := ⟨_, rfl⟩
  have hP : va_P D vwCl [(h0, .inr (6, [.ref d_dr, .int 0, .int 0, .int 0, .int 0, .int 0, .int (-1)])), (d_signs, .inl (cI, 8, .inl (fun _ => 0))), (d_posts, .inl (cI, 5, .inl (fun _ => 0))), (d_steps, .inl (cI, 30, .inl (fun _ => 0))), (d_before, .inl (cI, 30, .inl (fun _ => 0))), (tp, .inr (9, [.ref by_, .int 0])), (d_dr, .inr (8, [.int 0, .int 0, .int 0, .int 0, .int 0, .int 0, .int 0, .ref d_signs, .int 0, .ref d_posts, .int 0, .ref d_acts])), (d_acts, .inr (0, [.ref d_over, .ref d_steps, .ref d_before, .int 0])), (d_over, .inl (cI, 61, .inl g_3))] H := hP
  have hD : va_D A [(h0, .inr (6, [.ref d_dr, .int 0, .int 0, .int 0, .int 0, .int 0, .int (-1)])), (d_signs, .inl (cI, 8, .inl (fun _ => 0))), (d_posts, .inl (cI, 5, .inl (fun _ => 0))), (d_steps, .inl (cI, 30, .inl (fun _ => 0))), (d_before, .inl (cI, 30, .inl (fun _ => 0))), (tp, .inr (9, [.ref by_, .int 0])), (d_dr, .inr (8, [.int 0, .int 0, .int 0, .int 0, .int 0, .int 0, .int 0, .ref d_signs, .int 0, .ref d_posts, .int 0, .ref d_acts])), (d_acts, .inr (0, [.ref d_over, .ref d_steps, .ref d_before, .int 0])), (d_over, .inl (cI, 61, .inl g_3))] := hD
  refine lv_aload_n hx hb dX6_read_7 rfl (lv_at hl 0 rfl) ?_
  refine lv_iconst (v := 0) hx hb dX6_read_8 (by decide) ?_
  refine va_put (D := D) (ci := 6) (v := .int 0) (ty := .int) (C := RX6) (T := TX6) (N := 7) hx hb hts inlX6 tyX6 tyX6_ok nmX6 hown hK hP hD hS 0 rfl rfl 5 (by decide) (hts _ (inr9 _ (List.mem_of_getElem? (i := 14) rfl))) (fun _ h9 => h9) rfl (by decide +kernel) rfl rfl (Nat.le_of_ble_eq_true rfl) dX6_read_9 (fun H locs hP hD hS => ?_)
  have hP : va_P D vwCl [(h0, .inr (6, [.ref d_dr, .int 0, .int 0, .int 0, .int 0, .int 0, .int (-1)])), (d_signs, .inl (cI, 8, .inl (fun _ => 0))), (d_posts, .inl (cI, 5, .inl (fun _ => 0))), (d_steps, .inl (cI, 30, .inl (fun _ => 0))), (d_before, .inl (cI, 30, .inl (fun _ => 0))), (tp, .inr (9, [.ref by_, .int 0])), (d_dr, .inr (8, [.int 0, .int 0, .int 0, .int 0, .int 0, .int 0, .int 0, .ref d_signs, .int 0, .ref d_posts, .int 0, .ref d_acts])), (d_acts, .inr (0, [.ref d_over, .ref d_steps, .ref d_before, .int 0])), (d_over, .inl (cI, 61, .inl g_3))] H := hP
  have hD : va_D A [(h0, .inr (6, [.ref d_dr, .int 0, .int 0, .int 0, .int 0, .int 0, .int (-1)])), (d_signs, .inl (cI, 8, .inl (fun _ => 0))), (d_posts, .inl (cI, 5, .inl (fun _ => 0))), (d_steps, .inl (cI, 30, .inl (fun _ => 0))), (d_before, .inl (cI, 30, .inl (fun _ => 0))), (tp, .inr (9, [.ref by_, .int 0])), (d_dr, .inr (8, [.int 0, .int 0, .int 0, .int 0, .int 0, .int 0, .int 0, .ref d_signs, .int 0, .ref d_posts, .int 0, .ref d_acts])), (d_acts, .inr (0, [.ref d_over, .ref d_steps, .ref d_before, .int 0])), (d_over, .inl (cI, 61, .inl g_3))] := hD
  refine lv_aload_n hx hb dX6_read_12 rfl (lv_at hl 0 rfl) ?_
  refine lv_iconst (v := (-1)) hx hb dX6_read_13 (by decide) ?_
  refine va_put (D := D) (ci := 6) (v := .int (-1)) (ty := .int) (C := RX6) (T := TX6) (N := 7) hx hb hts inlX6 tyX6 tyX6_ok nmX6 hown hK hP hD hS 0 rfl rfl 6 (by decide) (hts _ (inr3 _ (List.mem_of_getElem? (i := 20) rfl))) (fun _ h9 => h9) rfl (by decide +kernel) rfl rfl (Nat.le_of_ble_eq_true rfl) dX6_read_14 (fun H locs hP hD hS => ?_)
  have hP : va_P D vwCl [(h0, .inr (6, [.ref d_dr, .int 0, .int 0, .int 0, .int 0, .int 0, .int (-1)])), (d_signs, .inl (cI, 8, .inl (fun _ => 0))), (d_posts, .inl (cI, 5, .inl (fun _ => 0))), (d_steps, .inl (cI, 30, .inl (fun _ => 0))), (d_before, .inl (cI, 30, .inl (fun _ => 0))), (tp, .inr (9, [.ref by_, .int 0])), (d_dr, .inr (8, [.int 0, .int 0, .int 0, .int 0, .int 0, .int 0, .int 0, .ref d_signs, .int 0, .ref d_posts, .int 0, .ref d_acts])), (d_acts, .inr (0, [.ref d_over, .ref d_steps, .ref d_before, .int 0])), (d_over, .inl (cI, 61, .inl g_3))] H := hP
  have hD : va_D A [(h0, .inr (6, [.ref d_dr, .int 0, .int 0, .int 0, .int 0, .int 0, .int (-1)])), (d_signs, .inl (cI, 8, .inl (fun _ => 0))), (d_posts, .inl (cI, 5, .inl (fun _ => 0))), (d_steps, .inl (cI, 30, .inl (fun _ => 0))), (d_before, .inl (cI, 30, .inl (fun _ => 0))), (tp, .inr (9, [.ref by_, .int 0])), (d_dr, .inr (8, [.int 0, .int 0, .int 0, .int 0, .int 0, .int 0, .int 0, .ref d_signs, .int 0, .ref d_posts, .int 0, .ref d_acts])), (d_acts, .inr (0, [.ref d_over, .ref d_steps, .ref d_before, .int 0])), (d_over, .inl (cI, 61, .inl g_3))] := hD
  refine lv_aload_n hx hb dX6_read_17 rfl (lv_at hl 0 rfl) ?_
  refine lv_iconst (v := 0) hx hb dX6_read_18 (by decide) ?_
  refine va_put (D := D) (ci := 6) (v := .int 0) (ty := .int) (C := RX6) (T := TX6) (N := 7) hx hb hts inlX6 tyX6 tyX6_ok nmX6 hown hK hP hD hS 0 rfl rfl 3 (by decide) (hts _ (inr9 _ (List.mem_of_getElem? (i := 15) rfl))) (fun _ h9 => h9) rfl (by decide +kernel) rfl rfl (Nat.le_of_ble_eq_true rfl) dX6_read_19 (fun H locs hP hD hS => ?_)
  have hP : va_P D vwCl [(h0, .inr (6, [.ref d_dr, .int 0, .int 0, .int 0, .int 0, .int 0, .int (-1)])), (d_signs, .inl (cI, 8, .inl (fun _ => 0))), (d_posts, .inl (cI, 5, .inl (fun _ => 0))), (d_steps, .inl (cI, 30, .inl (fun _ => 0))), (d_before, .inl (cI, 30, .inl (fun _ => 0))), (tp, .inr (9, [.ref by_, .int 0])), (d_dr, .inr (8, [.int 0, .int 0, .int 0, .int 0, .int 0, .int 0, .int 0, .ref d_signs, .int 0, .ref d_posts, .int 0, .ref d_acts])), (d_acts, .inr (0, [.ref d_over, .ref d_steps, .ref d_before, .int 0])), (d_over, .inl (cI, 61, .inl g_3))] H := hP
  have hD : va_D A [(h0, .inr (6, [.ref d_dr, .int 0, .int 0, .int 0, .int 0, .int 0, .int (-1)])), (d_signs, .inl (cI, 8, .inl (fun _ => 0))), (d_posts, .inl (cI, 5, .inl (fun _ => 0))), (d_steps, .inl (cI, 30, .inl (fun _ => 0))), (d_before, .inl (cI, 30, .inl (fun _ => 0))), (tp, .inr (9, [.ref by_, .int 0])), (d_dr, .inr (8, [.int 0, .int 0, .int 0, .int 0, .int 0, .int 0, .int 0, .ref d_signs, .int 0, .ref d_posts, .int 0, .ref d_acts])), (d_acts, .inr (0, [.ref d_over, .ref d_steps, .ref d_before, .int 0])), (d_over, .inl (cI, 61, .inl g_3))] := hD
  refine lv_aload_n hx hb dX6_read_22 rfl (lv_at hl 0 rfl) ?_
  refine lv_aload_n hx hb dX6_read_23 rfl (lv_at hl 1 rfl) ?_
  refine wrVv (As := [.ref tp]) (rest := []) (wr := [(d_signs, .inl (cI, 8, .inl (fun _ => 0))), (d_posts, .inl (cI, 5, .inl (fun _ => 0))), (d_steps, .inl (cI, 30, .inl (fun _ => 0))), (d_before, .inl (cI, 30, .inl (fun _ => 0))), (d_dr, .inr (8, [.int 0, .int 0, .int 0, .int 0, .int 0, .int 0, .int 0, .ref d_signs, .int 0, .ref d_posts, .int 0, .ref d_acts])), (d_acts, .inr (0, [.ref d_over, .ref d_steps, .ref d_before, .int 0])), (d_over, .inl (cI, 61, .inl g_3))]) ⟨hx, hb, hml, hown, hts⟩ (k_next0 l D cB cI cJ cZ cS cT H.size h0 d_dr 0 0 0 0 (-1) tp by_ ) hP hD hS hA hK hN [0, 5] [1, 2, 3, 4, 6, 7, 8] rfl rfl (by decide) (by decide) (by decide) (cvB (n := 1) (inr10 _ (List.mem_of_getElem? (i := 19) rfl)) (inr10 _ (List.mem_of_getElem? (i := 20) rfl)) (inr10 _ (List.mem_of_getElem? (i := 21) rfl)) (inr1 _ (List.mem_of_getElem? (i := 19) rfl)) (inr10 _ (List.mem_of_getElem? (i := 22) rfl)) (by decide +kernel) hts rfl rfl ⟨Nat.le_of_ble_eq_true rfl, Nat.le_of_ble_eq_true rfl⟩) 0 6 rfl rfl rfl rfl hl.1 rfl (Nat.le_of_ble_eq_true rfl) ⟨Nat.le_of_ble_eq_true rfl, Nat.le_of_ble_eq_true rfl⟩ dX6_read_24 (fun x9 H locs h_5 hP hD hS => ?_)
  have hP : va_P D vwCl [(d_signs, .inl (cI, 8, .inl (fun _ => 0))), (d_posts, .inl (cI, 5, .inl (fun _ => 0))), (d_steps, .inl (cI, 30, .inl (fun _ => 0))), (d_before, .inl (cI, 30, .inl (fun _ => 0))), (d_dr, .inr (8, [.int 0, .int 0, .int 0, .int 0, .int 0, .int 0, .int 0, .ref d_signs, .int 0, .ref d_posts, .int 0, .ref d_acts])), (d_acts, .inr (0, [.ref d_over, .ref d_steps, .ref d_before, .int 0])), (d_over, .inl (cI, 61, .inl g_3)), (h0, .inr (6, [.ref d_dr, .int 0, .int 0, .int 0, .int 0, .int 0, .int (-1)])), (tp, .inr (9, [.ref by_, .int 0]))] H := hP
  have hD : va_D A [(d_signs, .inl (cI, 8, .inl (fun _ => 0))), (d_posts, .inl (cI, 5, .inl (fun _ => 0))), (d_steps, .inl (cI, 30, .inl (fun _ => 0))), (d_before, .inl (cI, 30, .inl (fun _ => 0))), (d_dr, .inr (8, [.int 0, .int 0, .int 0, .int 0, .int 0, .int 0, .int 0, .ref d_signs, .int 0, .ref d_posts, .int 0, .ref d_acts])), (d_acts, .inr (0, [.ref d_over, .ref d_steps, .ref d_before, .int 0])), (d_over, .inl (cI, 61, .inl g_3)), (h0, .inr (6, [.ref d_dr, .int 0, .int 0, .int 0, .int 0, .int 0, .int (-1)])), (tp, .inr (9, [.ref by_, .int 0]))] := hD
  refine lv_iconst (v := 0) hx hb dX6_read_27 (by decide) ?_
  refine lv_istore_n (lv' := [(2, .int 0), (0, .ref h0), (1, .ref tp)]) hx hb dX6_read_28 rfl hl (by decide) rfl (fun ls hl => ?_)
  refine lv_iload_n hx hb dX6_read_29 rfl (lv_at hl 0 rfl) ?_
  refine lv_sipush (v := 500) hx hb dX6_read_30 (by decide) ?_
  refine lv_icmp_gt (tgt := 61) hx hb dX6_read_33 (by decide) (fun c0 => absurd c0 (by decide)) (fun _ => ?_)
  refine lv_aload_n hx hb dX6_read_36 rfl (lv_at hl 1 rfl) ?_
  refine va_get (D := D) (ci := 6) (v := .int 0) (C := RX6) (T := TX6) (N := 7) hx hb hts inlX6 hown hK hP 7 rfl rfl 5 (by decide) (hts _ (inr9 _ (List.mem_of_getElem? (i := 14) rfl))) (fun _ h9 => h9) rfl dX6_read_37 ?_
  refine lv_if_ne (tgt := 61) hx hb dX6_read_40 (by decide) (fun c0 => absurd c0 (by decide)) (fun _ => ?_)
  refine lv_aload_n hx hb dX6_read_43 rfl (lv_at hl 1 rfl) ?_
  refine va_get (D := D) (ci := 6) (v := .int 0) (C := RX6) (T := TX6) (N := 7) hx hb hts inlX6 hown hK hP 7 rfl rfl 1 (by decide) (hts _ (inr9 _ (List.mem_of_getElem? (i := 16) rfl))) (fun _ h9 => h9) rfl dX6_read_44 ?_
  refine lv_if_eq (tgt := 61) hx hb dX6_read_47 (by decide) (fun _ => ?_) (fun c0 => absurd c0 (by decide))
  have hP9 := hP.sub (ws' := [(h0, .inr (6, [.ref d_dr, .int 0, .int 0, .int 0, .int 0, .int 0, .int (-1)])), (d_dr, .inr (8, [.int 0, .int 0, .int 0, .int 0, .int 0, .int 0, .int 0, .ref d_signs, .int 0, .ref d_posts, .int 0, .ref d_acts])), (d_signs, .inl (cI, 8, .inl (fun _ => 0))), (d_posts, .inl (cI, 5, .inl (fun _ => 0))), (d_acts, .inr (0, [.ref d_over, .ref d_steps, .ref d_before, .int 0])), (d_over, .inl (cI, 61, .inl g_3)), (d_steps, .inl (cI, 30, .inl (fun _ => 0))), (d_before, .inl (cI, 30, .inl (fun _ => 0))), (tp, .inr (9, [.ref by_, .int 0]))]) [7, 4, 0, 1, 5, 6, 2, 3, 8] rfl
  have hD9 := hD.sub (ws' := [(h0, .inr (6, [.ref d_dr, .int 0, .int 0, .int 0, .int 0, .int 0, .int (-1)])), (d_dr, .inr (8, [.int 0, .int 0, .int 0, .int 0, .int 0, .int 0, .int 0, .ref d_signs, .int 0, .ref d_posts, .int 0, .ref d_acts])), (d_signs, .inl (cI, 8, .inl (fun _ => 0))), (d_posts, .inl (cI, 5, .inl (fun _ => 0))), (d_acts, .inr (0, [.ref d_over, .ref d_steps, .ref d_before, .int 0])), (d_over, .inl (cI, 61, .inl g_3)), (d_steps, .inl (cI, 30, .inl (fun _ => 0))), (d_before, .inl (cI, 30, .inl (fun _ => 0))), (tp, .inr (9, [.ref by_, .int 0]))]) [7, 4, 0, 1, 5, 6, 2, 3, 8] (by decide) rfl
  exact W.vret hx hb hr (fun t ht hW => ⟨⟨g_3, rfl, trivial, by rw [ht]; exact hP9, va_K.moved hW.alike hK, hD9⟩, hS.F ht⟩) hS.2.2 dX6_read_61

set_option maxHeartbeats 4000000 in
set_option maxRecDepth 100000 in
theorem kx_station (l : Launch) (D : va_G) (cB cI cJ cZ cS cT : ClassId) (sz : Nat) (x0 : Nat) (r_tape : Nat) (r_reader : Nat) (r_now : Nat) (r_trial : Nat) (r_images : Nat) (r_kept : Nat) (r_slots : Nat) (r_night : Nat) (r_other : Nat) (r_circle : Nat) (r_words : Nat) (r_law : Nat) (r_place : Nat) (r_drawn : Nat) (d_dr : Nat) (d_signs : Nat) (d_posts : Nat) (d_acts : Nat) (d_over : Nat) (d_steps : Nat) (d_before : Nat) (d_gov : Nat → Int32) (n_signs : Nat) (n_posts : Nat) (n_acts : Nat) (n_over : Nat) (n_steps : Nat) (n_before : Nat) (n_gov : Nat → Int32) (t_by : Nat)  : Met l yX11_station (Cond.code yX11_station cX11_station 1 (some .int) :: wsL_law) ({ frames := 4, cells := 0, slots := 0, locals := 85 }) (wrP D (tyL cB cI cJ cZ cS cT) [(x0, .inr (11, [.ref r_tape, .ref r_reader, .ref r_now, .ref r_trial, .ref r_images, .ref r_kept, .ref r_slots, .ref r_night, .ref r_other, .ref r_circle, .ref r_words, .ref r_law, .ref r_place, .ref r_drawn])), (r_reader, .inr (6, [.ref d_dr, .int 0, .int 0, .int 0, .int 0, .int 0, .int (-1)])), (d_dr, .inr (8, [.int 0, .int 0, .int 0, .int 0, .int 0, .int 0, .int 0, .ref d_signs, .int 0, .ref d_posts, .int 0, .ref d_acts])), (d_signs, .inl (cI, 8, .inl (fun _ => 0))), (d_posts, .inl (cI, 5, .inl (fun _ => 0))), (d_acts, .inr (0, [.ref d_over, .ref d_steps, .ref d_before, .int 0])), (d_over, .inl (cI, 61, .inl d_gov)), (d_steps, .inl (cI, 30, .inl (fun _ => 0))), (d_before, .inl (cI, 30, .inl (fun _ => 0))), (r_now, .inr (8, [.int 0, .int 0, .int 0, .int 0, .int 0, .int 0, .int 0, .ref n_signs, .int 0, .ref n_posts, .int 0, .ref n_acts])), (n_signs, .inl (cI, 8, .inl (fun _ => 0))), (n_posts, .inl (cI, 5, .inl (fun _ => 0))), (n_acts, .inr (0, [.ref n_over, .ref n_steps, .ref n_before, .int 0])), (n_over, .inl (cI, 61, .inl n_gov)), (n_steps, .inl (cI, 30, .inl (fun _ => 0))), (n_before, .inl (cI, 30, .inl (fun _ => 0))), (r_tape, .inr (9, [.ref t_by, .int 0]))] sz [.ref x0]) (va_Qi (fun (r : Int32) (x : Unit) => r = 0) (atW D (tyL cB cI cJ cZ cS cT) (va_A [(x0, .inr (11, [.ref r_tape, .ref r_reader, .ref r_now, .ref r_trial, .ref r_images, .ref r_kept, .ref r_slots, .ref r_night, .ref r_other, .ref r_circle, .ref r_words, .ref r_law, .ref r_place, .ref r_drawn])), (r_reader, .inr (6, [.ref d_dr, .int 0, .int 0, .int 0, .int 0, .int 0, .int (-1)])), (d_dr, .inr (8, [.int 0, .int 0, .int 0, .int 0, .int 0, .int 0, .int 0, .ref d_signs, .int 0, .ref d_posts, .int 0, .ref d_acts])), (d_signs, .inl (cI, 8, .inl (fun _ => 0))), (d_posts, .inl (cI, 5, .inl (fun _ => 0))), (d_acts, .inr (0, [.ref d_over, .ref d_steps, .ref d_before, .int 0])), (d_over, .inl (cI, 61, .inl d_gov)), (d_steps, .inl (cI, 30, .inl (fun _ => 0))), (d_before, .inl (cI, 30, .inl (fun _ => 0))), (r_now, .inr (8, [.int 0, .int 0, .int 0, .int 0, .int 0, .int 0, .int 0, .ref n_signs, .int 0, .ref n_posts, .int 0, .ref n_acts])), (n_signs, .inl (cI, 8, .inl (fun _ => 0))), (n_posts, .inl (cI, 5, .inl (fun _ => 0))), (n_acts, .inr (0, [.ref n_over, .ref n_steps, .ref n_before, .int 0])), (n_over, .inl (cI, 61, .inl n_gov)), (n_steps, .inl (cI, 30, .inl (fun _ => 0))), (n_before, .inl (cI, 30, .inl (fun _ => 0))), (r_tape, .inr (9, [.ref t_by, .int 0]))] sz) (fun x : Unit => [])) (va_A [(x0, .inr (11, [.ref r_tape, .ref r_reader, .ref r_now, .ref r_trial, .ref r_images, .ref r_kept, .ref r_slots, .ref r_night, .ref r_other, .ref r_circle, .ref r_words, .ref r_law, .ref r_place, .ref r_drawn])), (r_reader, .inr (6, [.ref d_dr, .int 0, .int 0, .int 0, .int 0, .int 0, .int (-1)])), (d_dr, .inr (8, [.int 0, .int 0, .int 0, .int 0, .int 0, .int 0, .int 0, .ref d_signs, .int 0, .ref d_posts, .int 0, .ref d_acts])), (d_signs, .inl (cI, 8, .inl (fun _ => 0))), (d_posts, .inl (cI, 5, .inl (fun _ => 0))), (d_acts, .inr (0, [.ref d_over, .ref d_steps, .ref d_before, .int 0])), (d_over, .inl (cI, 61, .inl d_gov)), (d_steps, .inl (cI, 30, .inl (fun _ => 0))), (d_before, .inl (cI, 30, .inl (fun _ => 0))), (r_now, .inr (8, [.int 0, .int 0, .int 0, .int 0, .int 0, .int 0, .int 0, .ref n_signs, .int 0, .ref n_posts, .int 0, .ref n_acts])), (n_signs, .inl (cI, 8, .inl (fun _ => 0))), (n_posts, .inl (cI, 5, .inl (fun _ => 0))), (n_acts, .inr (0, [.ref n_over, .ref n_steps, .ref n_before, .int 0])), (n_over, .inl (cI, 61, .inl n_gov)), (n_steps, .inl (cI, 30, .inl (fun _ => 0))), (n_before, .inl (cI, 30, .inl (fun _ => 0))), (r_tape, .inr (9, [.ref t_by, .int 0]))] sz)) 0 0 (va_A [(x0, .inr (11, [.ref r_tape, .ref r_reader, .ref r_now, .ref r_trial, .ref r_images, .ref r_kept, .ref r_slots, .ref r_night, .ref r_other, .ref r_circle, .ref r_words, .ref r_law, .ref r_place, .ref r_drawn])), (r_reader, .inr (6, [.ref d_dr, .int 0, .int 0, .int 0, .int 0, .int 0, .int (-1)])), (d_dr, .inr (8, [.int 0, .int 0, .int 0, .int 0, .int 0, .int 0, .int 0, .ref d_signs, .int 0, .ref d_posts, .int 0, .ref d_acts])), (d_signs, .inl (cI, 8, .inl (fun _ => 0))), (d_posts, .inl (cI, 5, .inl (fun _ => 0))), (d_acts, .inr (0, [.ref d_over, .ref d_steps, .ref d_before, .int 0])), (d_over, .inl (cI, 61, .inl d_gov)), (d_steps, .inl (cI, 30, .inl (fun _ => 0))), (d_before, .inl (cI, 30, .inl (fun _ => 0))), (r_now, .inr (8, [.int 0, .int 0, .int 0, .int 0, .int 0, .int 0, .int 0, .ref n_signs, .int 0, .ref n_posts, .int 0, .ref n_acts])), (n_signs, .inl (cI, 8, .inl (fun _ => 0))), (n_posts, .inl (cI, 5, .inl (fun _ => 0))), (n_acts, .inr (0, [.ref n_over, .ref n_steps, .ref n_before, .int 0])), (n_over, .inl (cI, 61, .inl n_gov)), (n_steps, .inl (cI, 30, .inl (fun _ => 0))), (n_before, .inl (cI, 30, .inl (fun _ => 0))), (r_tape, .inr (9, [.ref t_by, .int 0]))] sz) := by
  refine Met.ofW (cc := cX11_station) (maxL := 1) (ret := (some .int)) (by decide) rfl ?_
  intro p e s m args below meth c s₁ B hml hv
  obtain ⟨rfl, hsz, hP, hK, hD0, hN⟩ := hv
  have hx := B.exec
  have hb := B.bytes
  have hr := B.returns
  have hts : ∀ w ∈ wsL_law, w.before ([.ref x0] : List Value).toArray s = true := fun w h => atoms_spec (ws := Cond.code yX11_station cX11_station 1 (some .int) :: wsL_law) B.pre w (List.mem_cons_of_mem _ h)
  have hown : s.vm.findClass RX11 = some m.cls := findClass_of_methodNamed B.named
  have hlocks := B.notSynchronized
  subst hsz
  have hD := hD0.self (sz := s.heap.size)
  generalize hAe : va_A [(x0, .inr (11, [.ref r_tape, .ref r_reader, .ref r_now, .ref r_trial, .ref r_images, .ref r_kept, .ref r_slots, .ref r_night, .ref r_other, .ref r_circle, .ref r_words, .ref r_law, .ref r_place, .ref r_drawn])), (r_reader, .inr (6, [.ref d_dr, .int 0, .int 0, .int 0, .int 0, .int 0, .int (-1)])), (d_dr, .inr (8, [.int 0, .int 0, .int 0, .int 0, .int 0, .int 0, .int 0, .ref d_signs, .int 0, .ref d_posts, .int 0, .ref d_acts])), (d_signs, .inl (cI, 8, .inl (fun _ => 0))), (d_posts, .inl (cI, 5, .inl (fun _ => 0))), (d_acts, .inr (0, [.ref d_over, .ref d_steps, .ref d_before, .int 0])), (d_over, .inl (cI, 61, .inl d_gov)), (d_steps, .inl (cI, 30, .inl (fun _ => 0))), (d_before, .inl (cI, 30, .inl (fun _ => 0))), (r_now, .inr (8, [.int 0, .int 0, .int 0, .int 0, .int 0, .int 0, .int 0, .ref n_signs, .int 0, .ref n_posts, .int 0, .ref n_acts])), (n_signs, .inl (cI, 8, .inl (fun _ => 0))), (n_posts, .inl (cI, 5, .inl (fun _ => 0))), (n_acts, .inr (0, [.ref n_over, .ref n_steps, .ref n_before, .int 0])), (n_over, .inl (cI, 61, .inl n_gov)), (n_steps, .inl (cI, 30, .inl (fun _ => 0))), (n_before, .inl (cI, 30, .inl (fun _ => 0))), (r_tape, .inr (9, [.ref t_by, .int 0]))] s.heap.size = A at hD ⊢
  have hA : ∀ q : Nat, s.heap.size ≤ q → A q := fun q h => by rw [← hAe]; exact Or.inr h
  have hS : va_S A s.heap s.heap [] := va_S.rf
  have hl := lv_entry ([.ref x0]) (n := 1) (Nat.le_of_ble_eq_true rfl)
  rw [lg_entry_eq]
  generalize (lg_sl ([.ref x0]) ++ List.replicate (1 - (lg_sl ([.ref x0])).length) Slot.unset).toArray = ls at hl ⊢
  have hl : lv_has ls 1 [(0, .ref x0)] := hl
  have hP : va_P D vwCl [(x0, .inr (11, [.ref r_tape, .ref r_reader, .ref r_now, .ref r_trial, .ref r_images, .ref r_kept, .ref r_slots, .ref r_night, .ref r_other, .ref r_circle, .ref r_words, .ref r_law, .ref r_place, .ref r_drawn])), (r_reader, .inr (6, [.ref d_dr, .int 0, .int 0, .int 0, .int 0, .int 0, .int (-1)])), (d_dr, .inr (8, [.int 0, .int 0, .int 0, .int 0, .int 0, .int 0, .int 0, .ref d_signs, .int 0, .ref d_posts, .int 0, .ref d_acts])), (d_signs, .inl (cI, 8, .inl (fun _ => 0))), (d_posts, .inl (cI, 5, .inl (fun _ => 0))), (d_acts, .inr (0, [.ref d_over, .ref d_steps, .ref d_before, .int 0])), (d_over, .inl (cI, 61, .inl d_gov)), (d_steps, .inl (cI, 30, .inl (fun _ => 0))), (d_before, .inl (cI, 30, .inl (fun _ => 0))), (r_now, .inr (8, [.int 0, .int 0, .int 0, .int 0, .int 0, .int 0, .int 0, .ref n_signs, .int 0, .ref n_posts, .int 0, .ref n_acts])), (n_signs, .inl (cI, 8, .inl (fun _ => 0))), (n_posts, .inl (cI, 5, .inl (fun _ => 0))), (n_acts, .inr (0, [.ref n_over, .ref n_steps, .ref n_before, .int 0])), (n_over, .inl (cI, 61, .inl n_gov)), (n_steps, .inl (cI, 30, .inl (fun _ => 0))), (n_before, .inl (cI, 30, .inl (fun _ => 0))), (r_tape, .inr (9, [.ref t_by, .int 0]))] s.heap := hP
  refine lv_aload_n hx hb dX11_station_0 rfl (lv_at hl 0 rfl) ?_
  refine va_get (D := D) (ci := 11) (v := .ref r_reader) (C := RX11) (T := TX11) (N := 14) hx hb hts inlX11 hown hK hP 0 rfl rfl 1 (by decide) (hts _ (inr1 _ (List.mem_of_getElem? (i := 20) rfl))) (fun _ h9 => h9) rfl dX11_station_1 ?_
  refine lv_aload_n hx hb dX11_station_4 rfl (lv_at hl 0 rfl) ?_
  refine va_get (D := D) (ci := 11) (v := .ref r_tape) (C := RX11) (T := TX11) (N := 14) hx hb hts inlX11 hown hK hP 0 rfl rfl 0 (by decide) (hts _ (inr1 _ (List.mem_of_getElem? (i := 16) rfl))) (fun _ h9 => h9) rfl dX11_station_5 ?_
  refine wrVv (As := [.ref r_tape]) (rest := []) (wr := [(x0, .inr (11, [.ref r_tape, .ref r_reader, .ref r_now, .ref r_trial, .ref r_images, .ref r_kept, .ref r_slots, .ref r_night, .ref r_other, .ref r_circle, .ref r_words, .ref r_law, .ref r_place, .ref r_drawn])), (r_now, .inr (8, [.int 0, .int 0, .int 0, .int 0, .int 0, .int 0, .int 0, .ref n_signs, .int 0, .ref n_posts, .int 0, .ref n_acts])), (n_signs, .inl (cI, 8, .inl (fun _ => 0))), (n_posts, .inl (cI, 5, .inl (fun _ => 0))), (n_acts, .inr (0, [.ref n_over, .ref n_steps, .ref n_before, .int 0])), (n_over, .inl (cI, 61, .inl n_gov)), (n_steps, .inl (cI, 30, .inl (fun _ => 0))), (n_before, .inl (cI, 30, .inl (fun _ => 0)))]) ⟨hx, hb, hml, hown, hts⟩ (k_read0 l D cB cI cJ cZ cS cT s.heap.size r_reader d_dr d_signs d_posts d_acts d_over d_steps d_before d_gov r_tape t_by ) hP hD hS hA hK hN [1, 2, 3, 4, 5, 6, 7, 8, 16] [0, 9, 10, 11, 12, 13, 14, 15] rfl rfl (by decide) (by decide) (by decide) (cvB (n := 1) (inr9 _ (List.mem_of_getElem? (i := 10) rfl)) (inr9 _ (List.mem_of_getElem? (i := 11) rfl)) (inr9 _ (List.mem_of_getElem? (i := 12) rfl)) (inr1 _ (List.mem_of_getElem? (i := 19) rfl)) (inr9 _ (List.mem_of_getElem? (i := 13) rfl)) (by decide +kernel) hts rfl rfl ⟨Nat.le_of_ble_eq_true rfl, Nat.le_of_ble_eq_true rfl⟩) 0 6 rfl rfl rfl rfl hl.1 rfl (Nat.le_of_ble_eq_true rfl) ⟨Nat.le_of_ble_eq_true rfl, Nat.le_of_ble_eq_true rfl⟩ dX11_station_8 (fun x9 H locs h_2 hP hD hS => ?_)
  obtain ⟨g_3, rfl⟩ : ∃ z, z = x9 := ⟨_, rfl⟩
  have hP : va_P D vwCl [(x0, .inr (11, [.ref r_tape, .ref r_reader, .ref r_now, .ref r_trial, .ref r_images, .ref r_kept, .ref r_slots, .ref r_night, .ref r_other, .ref r_circle, .ref r_words, .ref r_law, .ref r_place, .ref r_drawn])), (r_now, .inr (8, [.int 0, .int 0, .int 0, .int 0, .int 0, .int 0, .int 0, .ref n_signs, .int 0, .ref n_posts, .int 0, .ref n_acts])), (n_signs, .inl (cI, 8, .inl (fun _ => 0))), (n_posts, .inl (cI, 5, .inl (fun _ => 0))), (n_acts, .inr (0, [.ref n_over, .ref n_steps, .ref n_before, .int 0])), (n_over, .inl (cI, 61, .inl n_gov)), (n_steps, .inl (cI, 30, .inl (fun _ => 0))), (n_before, .inl (cI, 30, .inl (fun _ => 0))), (r_reader, .inr (6, [.ref d_dr, .int 0, .int 0, .int 0, .int 0, .int 0, .int (-1)])), (d_dr, .inr (8, [.int 0, .int 0, .int 0, .int 0, .int 0, .int 0, .int 0, .ref d_signs, .int 0, .ref d_posts, .int 0, .ref d_acts])), (d_signs, .inl (cI, 8, .inl (fun _ => 0))), (d_posts, .inl (cI, 5, .inl (fun _ => 0))), (d_acts, .inr (0, [.ref d_over, .ref d_steps, .ref d_before, .int 0])), (d_over, .inl (cI, 61, .inl g_3)), (d_steps, .inl (cI, 30, .inl (fun _ => 0))), (d_before, .inl (cI, 30, .inl (fun _ => 0))), (r_tape, .inr (9, [.ref t_by, .int 0]))] H := hP
  have hD : va_D A [(x0, .inr (11, [.ref r_tape, .ref r_reader, .ref r_now, .ref r_trial, .ref r_images, .ref r_kept, .ref r_slots, .ref r_night, .ref r_other, .ref r_circle, .ref r_words, .ref r_law, .ref r_place, .ref r_drawn])), (r_now, .inr (8, [.int 0, .int 0, .int 0, .int 0, .int 0, .int 0, .int 0, .ref n_signs, .int 0, .ref n_posts, .int 0, .ref n_acts])), (n_signs, .inl (cI, 8, .inl (fun _ => 0))), (n_posts, .inl (cI, 5, .inl (fun _ => 0))), (n_acts, .inr (0, [.ref n_over, .ref n_steps, .ref n_before, .int 0])), (n_over, .inl (cI, 61, .inl n_gov)), (n_steps, .inl (cI, 30, .inl (fun _ => 0))), (n_before, .inl (cI, 30, .inl (fun _ => 0))), (r_reader, .inr (6, [.ref d_dr, .int 0, .int 0, .int 0, .int 0, .int 0, .int (-1)])), (d_dr, .inr (8, [.int 0, .int 0, .int 0, .int 0, .int 0, .int 0, .int 0, .ref d_signs, .int 0, .ref d_posts, .int 0, .ref d_acts])), (d_signs, .inl (cI, 8, .inl (fun _ => 0))), (d_posts, .inl (cI, 5, .inl (fun _ => 0))), (d_acts, .inr (0, [.ref d_over, .ref d_steps, .ref d_before, .int 0])), (d_over, .inl (cI, 61, .inl g_3)), (d_steps, .inl (cI, 30, .inl (fun _ => 0))), (d_before, .inl (cI, 30, .inl (fun _ => 0))), (r_tape, .inr (9, [.ref t_by, .int 0]))] := hD
  refine lv_aload_n hx hb dX11_station_11 rfl (lv_at hl 0 rfl) ?_
  refine va_get (D := D) (ci := 11) (v := .ref r_reader) (C := RX11) (T := TX11) (N := 14) hx hb hts inlX11 hown hK hP 0 rfl rfl 1 (by decide) (hts _ (inr1 _ (List.mem_of_getElem? (i := 20) rfl))) (fun _ h9 => h9) rfl dX11_station_12 ?_
  refine roi (As := []) (rest := []) ⟨hx, hb, hml, hown, hts⟩ (k_Rd_fault l D cB cI cJ cZ cS cT r_reader d_dr 0 0 0 0 0 (-1) ) (cvB (n := 0) (inr16 _ (List.mem_of_getElem? (i := 17) rfl)) (inr16 _ (List.mem_of_getElem? (i := 18) rfl)) (inr16 _ (List.mem_of_getElem? (i := 19) rfl)) (inr1 _ (List.mem_of_getElem? (i := 19) rfl)) (inr16 _ (List.mem_of_getElem? (i := 20) rfl)) (by decide +kernel) hts rfl rfl ⟨Nat.le_of_ble_eq_true rfl, Nat.le_of_ble_eq_true rfl⟩) 0 6 rfl rfl rfl (hP.sub [8] rfl) hK rfl hl.1 rfl (Nat.le_of_ble_eq_true rfl) ⟨Nat.le_of_ble_eq_true rfl, Nat.le_of_ble_eq_true rfl⟩ dX11_station_15 (fun r_4 h_5 => ?_)
  obtain rfl := h_5
  refine lv_if_eq (tgt := 24) hx hb dX11_station_18 (by decide) (fun _ => ?_) (fun c0 => absurd c0 (by decide))
  refine lv_aload_n hx hb dX11_station_24 rfl (lv_at hl 0 rfl) ?_
  refine va_get (D := D) (ci := 11) (v := .ref r_now) (C := RX11) (T := TX11) (N := 14) hx hb hts inlX11 hown hK hP 0 rfl rfl 2 (by decide) (hts _ (inr2 _ (List.mem_of_getElem? (i := 0) rfl))) (fun _ h9 => h9) rfl dX11_station_25 ?_
  refine lv_aload_n hx hb dX11_station_28 rfl (lv_at hl 0 rfl) ?_
  refine va_get (D := D) (ci := 11) (v := .ref r_reader) (C := RX11) (T := TX11) (N := 14) hx hb hts inlX11 hown hK hP 0 rfl rfl 1 (by decide) (hts _ (inr1 _ (List.mem_of_getElem? (i := 20) rfl))) (fun _ h9 => h9) rfl dX11_station_29 ?_
  refine roq (As := []) (rest := [.ref r_now]) ⟨hx, hb, hml, hown, hts⟩ (k_Rd_draft l D cB cI cJ cZ cS cT r_reader d_dr 0 0 0 0 0 (-1) ) (cvB (n := 0) (inr16 _ (List.mem_of_getElem? (i := 21) rfl)) (inr16 _ (List.mem_of_getElem? (i := 22) rfl)) (inr16 _ (List.mem_of_getElem? (i := 23) rfl)) (inr1 _ (List.mem_of_getElem? (i := 19) rfl)) (inr17 _ (List.mem_of_getElem? (i := 0) rfl)) (by decide +kernel) hts rfl rfl ⟨Nat.le_of_ble_eq_true rfl, Nat.le_of_ble_eq_true rfl⟩) 0 6 rfl rfl rfl (hP.sub [8] rfl) hK rfl hl.1 rfl (Nat.le_of_ble_eq_true rfl) ⟨Nat.le_of_ble_eq_true rfl, Nat.le_of_ble_eq_true rfl⟩ dX11_station_32 (fun r_6 h_7 => ?_)
  obtain rfl := h_7
  refine W.eq (g2 := F0 m 35 ls [.ref d_dr, .ref r_now]) rfl ?_
  refine wrVv (As := [.ref d_dr]) (rest := []) (wr := [(x0, .inr (11, [.ref r_tape, .ref r_reader, .ref r_now, .ref r_trial, .ref r_images, .ref r_kept, .ref r_slots, .ref r_night, .ref r_other, .ref r_circle, .ref r_words, .ref r_law, .ref r_place, .ref r_drawn])), (r_reader, .inr (6, [.ref d_dr, .int 0, .int 0, .int 0, .int 0, .int 0, .int (-1)])), (r_tape, .inr (9, [.ref t_by, .int 0]))]) ⟨hx, hb, hml, hown, hts⟩ (k_St_copy l D cB cI cJ cZ cS cT H.size r_now d_dr 0 0 0 0 0 0 0 n_signs 0 n_posts 0 n_acts (fun _ => 0) (fun _ => 0) n_over n_steps n_before 0 n_gov (fun _ => 0) (fun _ => 0) 0 0 0 0 0 0 0 d_signs 0 d_posts 0 d_acts (fun _ => 0) (fun _ => 0) d_over d_steps d_before 0 g_3 (fun _ => 0) (fun _ => 0) ) hP hD hS hA hK hN [1, 2, 3, 4, 5, 6, 7, 9, 10, 11, 12, 13, 14, 15] [0, 8, 16] rfl rfl (by decide) (by decide) (by decide) (cvB (n := 1) (inr17 _ (List.mem_of_getElem? (i := 1) rfl)) (inr17 _ (List.mem_of_getElem? (i := 2) rfl)) (inr17 _ (List.mem_of_getElem? (i := 3) rfl)) (inr1 _ (List.mem_of_getElem? (i := 23) rfl)) (inr17 _ (List.mem_of_getElem? (i := 4) rfl)) (by decide +kernel) hts rfl rfl ⟨Nat.le_of_ble_eq_true rfl, Nat.le_of_ble_eq_true rfl⟩) 0 8 rfl rfl rfl rfl hl.1 rfl (Nat.le_of_ble_eq_true rfl) ⟨Nat.le_of_ble_eq_true rfl, Nat.le_of_ble_eq_true rfl⟩ dX11_station_35 (fun x9 H locs h_9 hP hD hS => ?_)
  obtain ⟨g_10, g_11, g_12, g_13, g_14⟩ := x9
  have hP : va_P D vwCl [(x0, .inr (11, [.ref r_tape, .ref r_reader, .ref r_now, .ref r_trial, .ref r_images, .ref r_kept, .ref r_slots, .ref r_night, .ref r_other, .ref r_circle, .ref r_words, .ref r_law, .ref r_place, .ref r_drawn])), (r_reader, .inr (6, [.ref d_dr, .int 0, .int 0, .int 0, .int 0, .int 0, .int (-1)])), (r_tape, .inr (9, [.ref t_by, .int 0])), (r_now, .inr (8, [.int 0, .int 0, .int 0, .int 0, .int 0, .int 0, .int 0, .ref n_signs, .int 0, .ref n_posts, .int 0, .ref n_acts])), (n_signs, .inl (cI, 8, .inl g_13)), (n_posts, .inl (cI, 5, .inl g_14)), (n_acts, .inr (0, [.ref n_over, .ref n_steps, .ref n_before, .int 0])), (n_over, .inl (cI, 61, .inl g_10)), (n_steps, .inl (cI, 30, .inl g_11)), (n_before, .inl (cI, 30, .inl g_12)), (d_dr, .inr (8, [.int 0, .int 0, .int 0, .int 0, .int 0, .int 0, .int 0, .ref d_signs, .int 0, .ref d_posts, .int 0, .ref d_acts])), (d_signs, .inl (cI, 8, .inl (fun _ => 0))), (d_posts, .inl (cI, 5, .inl (fun _ => 0))), (d_acts, .inr (0, [.ref d_over, .ref d_steps, .ref d_before, .int 0])), (d_over, .inl (cI, 61, .inl g_3)), (d_steps, .inl (cI, 30, .inl (fun _ => 0))), (d_before, .inl (cI, 30, .inl (fun _ => 0)))] H := hP
  have hD : va_D A [(x0, .inr (11, [.ref r_tape, .ref r_reader, .ref r_now, .ref r_trial, .ref r_images, .ref r_kept, .ref r_slots, .ref r_night, .ref r_other, .ref r_circle, .ref r_words, .ref r_law, .ref r_place, .ref r_drawn])), (r_reader, .inr (6, [.ref d_dr, .int 0, .int 0, .int 0, .int 0, .int 0, .int (-1)])), (r_tape, .inr (9, [.ref t_by, .int 0])), (r_now, .inr (8, [.int 0, .int 0, .int 0, .int 0, .int 0, .int 0, .int 0, .ref n_signs, .int 0, .ref n_posts, .int 0, .ref n_acts])), (n_signs, .inl (cI, 8, .inl g_13)), (n_posts, .inl (cI, 5, .inl g_14)), (n_acts, .inr (0, [.ref n_over, .ref n_steps, .ref n_before, .int 0])), (n_over, .inl (cI, 61, .inl g_10)), (n_steps, .inl (cI, 30, .inl g_11)), (n_before, .inl (cI, 30, .inl g_12)), (d_dr, .inr (8, [.int 0, .int 0, .int 0, .int 0, .int 0, .int 0, .int 0, .ref d_signs, .int 0, .ref d_posts, .int 0, .ref d_acts])), (d_signs, .inl (cI, 8, .inl (fun _ => 0))), (d_posts, .inl (cI, 5, .inl (fun _ => 0))), (d_acts, .inr (0, [.ref d_over, .ref d_steps, .ref d_before, .int 0])), (d_over, .inl (cI, 61, .inl g_3)), (d_steps, .inl (cI, 30, .inl (fun _ => 0))), (d_before, .inl (cI, 30, .inl (fun _ => 0)))] := hD
  refine lv_aload_n hx hb dX11_station_38 rfl (lv_at hl 0 rfl) ?_
  refine va_get (D := D) (ci := 11) (v := .ref r_tape) (C := RX11) (T := TX11) (N := 14) hx hb hts inlX11 hown hK hP 0 rfl rfl 0 (by decide) (hts _ (inr1 _ (List.mem_of_getElem? (i := 16) rfl))) (fun _ h9 => h9) rfl dX11_station_39 ?_
  refine lv_iconst (v := 0) hx hb dX11_station_42 (by decide) ?_
  refine wrVv (As := [.int 0]) (rest := []) (wr := [(x0, .inr (11, [.ref r_tape, .ref r_reader, .ref r_now, .ref r_trial, .ref r_images, .ref r_kept, .ref r_slots, .ref r_night, .ref r_other, .ref r_circle, .ref r_words, .ref r_law, .ref r_place, .ref r_drawn])), (r_reader, .inr (6, [.ref d_dr, .int 0, .int 0, .int 0, .int 0, .int 0, .int (-1)])), (r_now, .inr (8, [.int 0, .int 0, .int 0, .int 0, .int 0, .int 0, .int 0, .ref n_signs, .int 0, .ref n_posts, .int 0, .ref n_acts])), (n_signs, .inl (cI, 8, .inl g_13)), (n_posts, .inl (cI, 5, .inl g_14)), (n_acts, .inr (0, [.ref n_over, .ref n_steps, .ref n_before, .int 0])), (n_over, .inl (cI, 61, .inl g_10)), (n_steps, .inl (cI, 30, .inl g_11)), (n_before, .inl (cI, 30, .inl g_12)), (d_dr, .inr (8, [.int 0, .int 0, .int 0, .int 0, .int 0, .int 0, .int 0, .ref d_signs, .int 0, .ref d_posts, .int 0, .ref d_acts])), (d_signs, .inl (cI, 8, .inl (fun _ => 0))), (d_posts, .inl (cI, 5, .inl (fun _ => 0))), (d_acts, .inr (0, [.ref d_over, .ref d_steps, .ref d_before, .int 0])), (d_over, .inl (cI, 61, .inl g_3)), (d_steps, .inl (cI, 30, .inl (fun _ => 0))), (d_before, .inl (cI, 30, .inl (fun _ => 0)))]) ⟨hx, hb, hml, hown, hts⟩ (k_cut0 l D cB cI cJ cZ cS cT H.size r_tape t_by ) hP hD hS hA hK hN [2] [0, 1, 3, 4, 5, 6, 7, 8, 9, 10, 11, 12, 13, 14, 15, 16] rfl rfl (by decide) (by decide) (by decide) (cvB (n := 1) (inr8 _ (List.mem_of_getElem? (i := 19) rfl)) (inr8 _ (List.mem_of_getElem? (i := 20) rfl)) (inr8 _ (List.mem_of_getElem? (i := 21) rfl)) (inr1 _ (List.mem_of_getElem? (i := 15) rfl)) (inr8 _ (List.mem_of_getElem? (i := 22) rfl)) (by decide +kernel) hts rfl rfl ⟨Nat.le_of_ble_eq_true rfl, Nat.le_of_ble_eq_true rfl⟩) 0 9 rfl rfl rfl rfl hl.1 rfl (Nat.le_of_ble_eq_true rfl) ⟨Nat.le_of_ble_eq_true rfl, Nat.le_of_ble_eq_true rfl⟩ dX11_station_43 (fun x9 H locs h_16 hP hD hS => ?_)
  have hP : va_P D vwCl [(x0, .inr (11, [.ref r_tape, .ref r_reader, .ref r_now, .ref r_trial, .ref r_images, .ref r_kept, .ref r_slots, .ref r_night, .ref r_other, .ref r_circle, .ref r_words, .ref r_law, .ref r_place, .ref r_drawn])), (r_reader, .inr (6, [.ref d_dr, .int 0, .int 0, .int 0, .int 0, .int 0, .int (-1)])), (r_now, .inr (8, [.int 0, .int 0, .int 0, .int 0, .int 0, .int 0, .int 0, .ref n_signs, .int 0, .ref n_posts, .int 0, .ref n_acts])), (n_signs, .inl (cI, 8, .inl g_13)), (n_posts, .inl (cI, 5, .inl g_14)), (n_acts, .inr (0, [.ref n_over, .ref n_steps, .ref n_before, .int 0])), (n_over, .inl (cI, 61, .inl g_10)), (n_steps, .inl (cI, 30, .inl g_11)), (n_before, .inl (cI, 30, .inl g_12)), (d_dr, .inr (8, [.int 0, .int 0, .int 0, .int 0, .int 0, .int 0, .int 0, .ref d_signs, .int 0, .ref d_posts, .int 0, .ref d_acts])), (d_signs, .inl (cI, 8, .inl (fun _ => 0))), (d_posts, .inl (cI, 5, .inl (fun _ => 0))), (d_acts, .inr (0, [.ref d_over, .ref d_steps, .ref d_before, .int 0])), (d_over, .inl (cI, 61, .inl g_3)), (d_steps, .inl (cI, 30, .inl (fun _ => 0))), (d_before, .inl (cI, 30, .inl (fun _ => 0))), (r_tape, .inr (9, [.ref t_by, .int 0]))] H := hP
  have hD : va_D A [(x0, .inr (11, [.ref r_tape, .ref r_reader, .ref r_now, .ref r_trial, .ref r_images, .ref r_kept, .ref r_slots, .ref r_night, .ref r_other, .ref r_circle, .ref r_words, .ref r_law, .ref r_place, .ref r_drawn])), (r_reader, .inr (6, [.ref d_dr, .int 0, .int 0, .int 0, .int 0, .int 0, .int (-1)])), (r_now, .inr (8, [.int 0, .int 0, .int 0, .int 0, .int 0, .int 0, .int 0, .ref n_signs, .int 0, .ref n_posts, .int 0, .ref n_acts])), (n_signs, .inl (cI, 8, .inl g_13)), (n_posts, .inl (cI, 5, .inl g_14)), (n_acts, .inr (0, [.ref n_over, .ref n_steps, .ref n_before, .int 0])), (n_over, .inl (cI, 61, .inl g_10)), (n_steps, .inl (cI, 30, .inl g_11)), (n_before, .inl (cI, 30, .inl g_12)), (d_dr, .inr (8, [.int 0, .int 0, .int 0, .int 0, .int 0, .int 0, .int 0, .ref d_signs, .int 0, .ref d_posts, .int 0, .ref d_acts])), (d_signs, .inl (cI, 8, .inl (fun _ => 0))), (d_posts, .inl (cI, 5, .inl (fun _ => 0))), (d_acts, .inr (0, [.ref d_over, .ref d_steps, .ref d_before, .int 0])), (d_over, .inl (cI, 61, .inl g_3)), (d_steps, .inl (cI, 30, .inl (fun _ => 0))), (d_before, .inl (cI, 30, .inl (fun _ => 0))), (r_tape, .inr (9, [.ref t_by, .int 0]))] := hD
  refine lv_aload_n hx hb dX11_station_46 rfl (lv_at hl 0 rfl) ?_
  refine va_get (D := D) (ci := 11) (v := .ref r_now) (C := RX11) (T := TX11) (N := 14) hx hb hts inlX11 hown hK hP 0 rfl rfl 2 (by decide) (hts _ (inr2 _ (List.mem_of_getElem? (i := 0) rfl))) (fun _ h9 => h9) rfl dX11_station_47 ?_
  refine roi (As := []) (rest := []) ⟨hx, hb, hml, hown, hts⟩ (k_St_lines l D cB cI cJ cZ cS cT r_now 0 0 0 0 0 0 0 n_signs 0 n_posts 0 n_acts ) (cvB (n := 0) (inr17 _ (List.mem_of_getElem? (i := 14) rfl)) (inr12 _ (List.mem_of_getElem? (i := 3) rfl)) (inr12 _ (List.mem_of_getElem? (i := 4) rfl)) (inr1 _ (List.mem_of_getElem? (i := 23) rfl)) (inr12 _ (List.mem_of_getElem? (i := 5) rfl)) (by decide +kernel) hts rfl rfl ⟨Nat.le_of_ble_eq_true rfl, Nat.le_of_ble_eq_true rfl⟩) 0 8 rfl rfl rfl (hP.sub [2] rfl) hK rfl hl.1 rfl (Nat.le_of_ble_eq_true rfl) ⟨Nat.le_of_ble_eq_true rfl, Nat.le_of_ble_eq_true rfl⟩ dX11_station_50 (fun r_17 h_18 => ?_)
  obtain rfl := h_18
  have hP9 := hP.sub (ws' := []) [] rfl
  have hD9 := hD.sub (ws' := []) [] (by decide) rfl
  exact W.iret (v := 0) hx hb hr (fun t ht hW => ⟨⟨0, (), rfl, rfl, by rw [ht]; exact hP9, va_K.moved hW.alike hK, hD9⟩, hS.F ht⟩) hS.2.2 dX11_station_53
