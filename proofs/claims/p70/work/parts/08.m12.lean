theorem dX12_count_0 : decode cX12_count 0 = .ok (.iload_n 1, 1) := by decide +kernel
theorem dX12_count_1 : decode cX12_count 1 = .ok (.i2l, 1) := by decide +kernel
theorem dX12_count_12 : decode cX12_count 12 = .ok (.aload_n 0, 1) := by decide +kernel
theorem dX12_count_13 : decode cX12_count 13 = .ok (.getfield 9, 3) := by decide +kernel
theorem dX12_count_16 : decode cX12_count 16 = .ok (.iload_n 1, 1) := by decide +kernel
theorem dX12_count_17 : decode cX12_count 17 = .ok (.iaload, 1) := by decide +kernel
theorem dX12_count_18 : decode cX12_count 18 = .ok (.ireturn, 1) := by decide +kernel
theorem dX12_count_19 : decode cX12_count 19 = .ok (.iload_n 1, 1) := by decide +kernel
theorem dX12_count_2 : decode cX12_count 2 = .ok (.lconst 0, 1) := by decide +kernel
theorem dX12_count_20 : decode cX12_count 20 = .ok (.bipush 10, 2) := by decide +kernel
theorem dX12_count_22 : decode cX12_count 22 = .ok (.if_icmp .ne 8, 3) := by decide +kernel
theorem dX12_count_25 : decode cX12_count 25 = .ok (.aload_n 0, 1) := by decide +kernel
theorem dX12_count_26 : decode cX12_count 26 = .ok (.getfield 109, 3) := by decide +kernel
theorem dX12_count_29 : decode cX12_count 29 = .ok (.ireturn, 1) := by decide +kernel
theorem dX12_count_3 : decode cX12_count 3 = .ok (.ldc2_w 460, 3) := by decide +kernel
theorem dX12_count_30 : decode cX12_count 30 = .ok (.iload_n 1, 1) := by decide +kernel
theorem dX12_count_31 : decode cX12_count 31 = .ok (.bipush 11, 2) := by decide +kernel
theorem dX12_count_33 : decode cX12_count 33 = .ok (.if_icmp .eq 5, 3) := by decide +kernel
theorem dX12_count_36 : decode cX12_count 36 = .ok (.iconst (-1), 1) := by decide +kernel
theorem dX12_count_37 : decode cX12_count 37 = .ok (.ireturn, 1) := by decide +kernel
theorem dX12_count_38 : decode cX12_count 38 = .ok (.iconst 0, 1) := by decide +kernel
theorem dX12_count_39 : decode cX12_count 39 = .ok (.istore_n 2, 1) := by decide +kernel
theorem dX12_count_40 : decode cX12_count 40 = .ok (.iconst 0, 1) := by decide +kernel
theorem dX12_count_41 : decode cX12_count 41 = .ok (.istore_n 3, 1) := by decide +kernel
theorem dX12_count_42 : decode cX12_count 42 = .ok (.iload_n 3, 1) := by decide +kernel
theorem dX12_count_43 : decode cX12_count 43 = .ok (.iconst 4, 1) := by decide +kernel
theorem dX12_count_44 : decode cX12_count 44 = .ok (.if_icmp .ge 27, 3) := by decide +kernel
theorem dX12_count_47 : decode cX12_count 47 = .ok (.iload_n 2, 1) := by decide +kernel
theorem dX12_count_48 : decode cX12_count 48 = .ok (.aload_n 0, 1) := by decide +kernel
theorem dX12_count_49 : decode cX12_count 49 = .ok (.getfield 77, 3) := by decide +kernel
theorem dX12_count_52 : decode cX12_count 52 = .ok (.iload_n 3, 1) := by decide +kernel
theorem dX12_count_53 : decode cX12_count 53 = .ok (.iaload, 1) := by decide +kernel
theorem dX12_count_54 : decode cX12_count 54 = .ok (.iconst (-1), 1) := by decide +kernel
theorem dX12_count_55 : decode cX12_count 55 = .ok (.if_icmp .ne 7, 3) := by decide +kernel
theorem dX12_count_58 : decode cX12_count 58 = .ok (.iconst 0, 1) := by decide +kernel
theorem dX12_count_59 : decode cX12_count 59 = .ok (.goto 4, 3) := by decide +kernel
theorem dX12_count_6 : decode cX12_count 6 = .ok (.invokestatic 95, 3) := by decide +kernel
theorem dX12_count_62 : decode cX12_count 62 = .ok (.iconst 1, 1) := by decide +kernel
theorem dX12_count_63 : decode cX12_count 63 = .ok (.iadd, 1) := by decide +kernel
theorem dX12_count_64 : decode cX12_count 64 = .ok (.istore_n 2, 1) := by decide +kernel
theorem dX12_count_65 : decode cX12_count 65 = .ok (.iinc 3 1, 3) := by decide +kernel
theorem dX12_count_68 : decode cX12_count 68 = .ok (.goto (-26), 3) := by decide +kernel
theorem dX12_count_71 : decode cX12_count 71 = .ok (.iload_n 2, 1) := by decide +kernel
theorem dX12_count_72 : decode cX12_count 72 = .ok (.ireturn, 1) := by decide +kernel
theorem dX12_count_9 : decode cX12_count 9 = .ok (.ifCond .eq 10, 3) := by decide +kernel
theorem dX12_cut_0 : decode cX12_cut 0 = .ok (.bipush 64, 2) := by decide +kernel
theorem dX12_cut_10 : decode cX12_cut 10 = .ok (.lshl, 1) := by decide +kernel
theorem dX12_cut_11 : decode cX12_cut 11 = .ok (.iload_n 3, 1) := by decide +kernel
theorem dX12_cut_12 : decode cX12_cut 12 = .ok (.lshr, 1) := by decide +kernel
theorem dX12_cut_13 : decode cX12_cut 13 = .ok (.lreturn, 1) := by decide +kernel
theorem dX12_cut_2 : decode cX12_cut 2 = .ok (.bipush 8, 2) := by decide +kernel
theorem dX12_cut_4 : decode cX12_cut 4 = .ok (.iload_n 2, 1) := by decide +kernel
theorem dX12_cut_5 : decode cX12_cut 5 = .ok (.ishl, 1) := by decide +kernel
theorem dX12_cut_6 : decode cX12_cut 6 = .ok (.isub, 1) := by decide +kernel
theorem dX12_cut_7 : decode cX12_cut 7 = .ok (.istore_n 3, 1) := by decide +kernel
theorem dX12_cut_8 : decode cX12_cut 8 = .ok (.lload_n 0, 1) := by decide +kernel
theorem dX12_cut_9 : decode cX12_cut 9 = .ok (.iload_n 3, 1) := by decide +kernel
theorem dX12_drawn_0 : decode cX12_drawn 0 = .ok (.aload_n 0, 1) := by decide +kernel
theorem dX12_drawn_1 : decode cX12_drawn 1 = .ok (.invokevirtual 263, 3) := by decide +kernel
theorem dX12_drawn_11 : decode cX12_drawn 11 = .ok (.ifCond .eq 23, 3) := by decide +kernel
theorem dX12_drawn_14 : decode cX12_drawn 14 = .ok (.iload_n 2, 1) := by decide +kernel
theorem dX12_drawn_15 : decode cX12_drawn 15 = .ok (.i2l, 1) := by decide +kernel
theorem dX12_drawn_16 : decode cX12_drawn 16 = .ok (.invokestatic 272, 3) := by decide +kernel
theorem dX12_drawn_19 : decode cX12_drawn 19 = .ok (.ifCond .eq 15, 3) := by decide +kernel
theorem dX12_drawn_22 : decode cX12_drawn 22 = .ok (.iload_n 3, 1) := by decide +kernel
theorem dX12_drawn_23 : decode cX12_drawn 23 = .ok (.i2l, 1) := by decide +kernel
theorem dX12_drawn_24 : decode cX12_drawn 24 = .ok (.lconst 0, 1) := by decide +kernel
theorem dX12_drawn_25 : decode cX12_drawn 25 = .ok (.ldc2_w 93, 3) := by decide +kernel
theorem dX12_drawn_28 : decode cX12_drawn 28 = .ok (.invokestatic 95, 3) := by decide +kernel
theorem dX12_drawn_31 : decode cX12_drawn 31 = .ok (.ifCond .ne 6, 3) := by decide +kernel
theorem dX12_drawn_34 : decode cX12_drawn 34 = .ok (.bipush (-2), 2) := by decide +kernel
theorem dX12_drawn_36 : decode cX12_drawn 36 = .ok (.ireturn, 1) := by decide +kernel
theorem dX12_drawn_37 : decode cX12_drawn 37 = .ok (.aload_n 0, 1) := by decide +kernel
theorem dX12_drawn_38 : decode cX12_drawn 38 = .ok (.iload_n 1, 1) := by decide +kernel
theorem dX12_drawn_39 : decode cX12_drawn 39 = .ok (.i2l, 1) := by decide +kernel
theorem dX12_drawn_4 : decode cX12_drawn 4 = .ok (.ifCond .eq 30, 3) := by decide +kernel
theorem dX12_drawn_40 : decode cX12_drawn 40 = .ok (.invokevirtual 454, 3) := by decide +kernel
theorem dX12_drawn_43 : decode cX12_drawn 43 = .ok (.iload_n 3, 1) := by decide +kernel
theorem dX12_drawn_44 : decode cX12_drawn 44 = .ok (.ifCond .ne 12, 3) := by decide +kernel
theorem dX12_drawn_47 : decode cX12_drawn 47 = .ok (.aload_n 0, 1) := by decide +kernel
theorem dX12_drawn_48 : decode cX12_drawn 48 = .ok (.getfield 37, 3) := by decide +kernel
theorem dX12_drawn_51 : decode cX12_drawn 51 = .ok (.iload_n 2, 1) := by decide +kernel
theorem dX12_drawn_52 : decode cX12_drawn 52 = .ok (.iaload, 1) := by decide +kernel
theorem dX12_drawn_53 : decode cX12_drawn 53 = .ok (.goto 25, 3) := by decide +kernel
theorem dX12_drawn_56 : decode cX12_drawn 56 = .ok (.iload_n 3, 1) := by decide +kernel
theorem dX12_drawn_57 : decode cX12_drawn 57 = .ok (.iconst 1, 1) := by decide +kernel
theorem dX12_drawn_58 : decode cX12_drawn 58 = .ok (.if_icmp .ne 12, 3) := by decide +kernel
theorem dX12_drawn_61 : decode cX12_drawn 61 = .ok (.aload_n 0, 1) := by decide +kernel
theorem dX12_drawn_62 : decode cX12_drawn 62 = .ok (.getfield 74, 3) := by decide +kernel
theorem dX12_drawn_65 : decode cX12_drawn 65 = .ok (.iload_n 2, 1) := by decide +kernel
theorem dX12_drawn_66 : decode cX12_drawn 66 = .ok (.iaload, 1) := by decide +kernel
theorem dX12_drawn_67 : decode cX12_drawn 67 = .ok (.goto 11, 3) := by decide +kernel
theorem dX12_drawn_7 : decode cX12_drawn 7 = .ok (.iload_n 1, 1) := by decide +kernel
theorem dX12_drawn_70 : decode cX12_drawn 70 = .ok (.aload_n 0, 1) := by decide +kernel
theorem dX12_drawn_71 : decode cX12_drawn 71 = .ok (.getfield 43, 3) := by decide +kernel
theorem dX12_drawn_74 : decode cX12_drawn 74 = .ok (.iload_n 2, 1) := by decide +kernel
theorem dX12_drawn_75 : decode cX12_drawn 75 = .ok (.iconst 1, 1) := by decide +kernel
theorem dX12_drawn_76 : decode cX12_drawn 76 = .ok (.iadd, 1) := by decide +kernel
theorem dX12_drawn_77 : decode cX12_drawn 77 = .ok (.iaload, 1) := by decide +kernel
theorem dX12_drawn_78 : decode cX12_drawn 78 = .ok (.ireturn, 1) := by decide +kernel
theorem dX12_drawn_8 : decode cX12_drawn 8 = .ok (.invokestatic 451, 3) := by decide +kernel
theorem dX12_luck_0 : decode cX12_luck 0 = .ok (.aload_n 0, 1) := by decide +kernel
theorem dX12_luck_1 : decode cX12_luck 1 = .ok (.invokevirtual 263, 3) := by decide +kernel
theorem dX12_luck_11 : decode cX12_luck 11 = .ok (.ifCond .eq 33, 3) := by decide +kernel
theorem dX12_luck_14 : decode cX12_luck 14 = .ok (.iload_n 2, 1) := by decide +kernel
theorem dX12_luck_15 : decode cX12_luck 15 = .ok (.i2l, 1) := by decide +kernel
theorem dX12_luck_16 : decode cX12_luck 16 = .ok (.lconst 1, 1) := by decide +kernel
theorem dX12_luck_17 : decode cX12_luck 17 = .ok (.ldc2_w 458, 3) := by decide +kernel
theorem dX12_luck_20 : decode cX12_luck 20 = .ok (.invokestatic 95, 3) := by decide +kernel
theorem dX12_luck_23 : decode cX12_luck 23 = .ok (.ifCond .eq 21, 3) := by decide +kernel
theorem dX12_luck_26 : decode cX12_luck 26 = .ok (.iload_n 3, 1) := by decide +kernel
theorem dX12_luck_27 : decode cX12_luck 27 = .ok (.i2l, 1) := by decide +kernel
theorem dX12_luck_28 : decode cX12_luck 28 = .ok (.invokestatic 272, 3) := by decide +kernel
theorem dX12_luck_31 : decode cX12_luck 31 = .ok (.ifCond .eq 13, 3) := by decide +kernel
theorem dX12_luck_34 : decode cX12_luck 34 = .ok (.aload_n 0, 1) := by decide +kernel
theorem dX12_luck_35 : decode cX12_luck 35 = .ok (.iload 4, 2) := by decide +kernel
theorem dX12_luck_37 : decode cX12_luck 37 = .ok (.i2l, 1) := by decide +kernel
theorem dX12_luck_38 : decode cX12_luck 38 = .ok (.invokevirtual 288, 3) := by decide +kernel
theorem dX12_luck_4 : decode cX12_luck 4 = .ok (.ifCond .eq 40, 3) := by decide +kernel
theorem dX12_luck_41 : decode cX12_luck 41 = .ok (.ifCond .ne 6, 3) := by decide +kernel
theorem dX12_luck_44 : decode cX12_luck 44 = .ok (.bipush (-2), 2) := by decide +kernel
theorem dX12_luck_46 : decode cX12_luck 46 = .ok (.ireturn, 1) := by decide +kernel
theorem dX12_luck_47 : decode cX12_luck 47 = .ok (.iconst 0, 1) := by decide +kernel
theorem dX12_luck_48 : decode cX12_luck 48 = .ok (.istore 5, 2) := by decide +kernel
theorem dX12_luck_50 : decode cX12_luck 50 = .ok (.iconst 0, 1) := by decide +kernel
theorem dX12_luck_51 : decode cX12_luck 51 = .ok (.istore 6, 2) := by decide +kernel
theorem dX12_luck_53 : decode cX12_luck 53 = .ok (.iload 6, 2) := by decide +kernel
theorem dX12_luck_55 : decode cX12_luck 55 = .ok (.iload_n 2, 1) := by decide +kernel
theorem dX12_luck_56 : decode cX12_luck 56 = .ok (.if_icmp .ge 40, 3) := by decide +kernel
theorem dX12_luck_59 : decode cX12_luck 59 = .ok (.aload_n 0, 1) := by decide +kernel
theorem dX12_luck_60 : decode cX12_luck 60 = .ok (.iload_n 1, 1) := by decide +kernel
theorem dX12_luck_61 : decode cX12_luck 61 = .ok (.i2l, 1) := by decide +kernel
theorem dX12_luck_62 : decode cX12_luck 62 = .ok (.iload 6, 2) := by decide +kernel
theorem dX12_luck_64 : decode cX12_luck 64 = .ok (.i2l, 1) := by decide +kernel
theorem dX12_luck_65 : decode cX12_luck 65 = .ok (.ladd, 1) := by decide +kernel
theorem dX12_luck_66 : decode cX12_luck 66 = .ok (.invokevirtual 454, 3) := by decide +kernel
theorem dX12_luck_69 : decode cX12_luck 69 = .ok (.iload 5, 2) := by decide +kernel
theorem dX12_luck_7 : decode cX12_luck 7 = .ok (.iload_n 1, 1) := by decide +kernel
theorem dX12_luck_71 : decode cX12_luck 71 = .ok (.aload_n 0, 1) := by decide +kernel
theorem dX12_luck_72 : decode cX12_luck 72 = .ok (.getfield 37, 3) := by decide +kernel
theorem dX12_luck_75 : decode cX12_luck 75 = .ok (.iload_n 3, 1) := by decide +kernel
theorem dX12_luck_76 : decode cX12_luck 76 = .ok (.iaload, 1) := by decide +kernel
theorem dX12_luck_77 : decode cX12_luck 77 = .ok (.iload 4, 2) := by decide +kernel
theorem dX12_luck_79 : decode cX12_luck 79 = .ok (.if_icmp .ne 7, 3) := by decide +kernel
theorem dX12_luck_8 : decode cX12_luck 8 = .ok (.invokestatic 451, 3) := by decide +kernel
theorem dX12_luck_82 : decode cX12_luck 82 = .ok (.iconst 1, 1) := by decide +kernel
theorem dX12_luck_83 : decode cX12_luck 83 = .ok (.goto 4, 3) := by decide +kernel
theorem dX12_luck_86 : decode cX12_luck 86 = .ok (.iconst 0, 1) := by decide +kernel
theorem dX12_luck_87 : decode cX12_luck 87 = .ok (.iadd, 1) := by decide +kernel
theorem dX12_luck_88 : decode cX12_luck 88 = .ok (.istore 5, 2) := by decide +kernel
theorem dX12_luck_90 : decode cX12_luck 90 = .ok (.iinc 6 1, 3) := by decide +kernel
theorem dX12_luck_93 : decode cX12_luck 93 = .ok (.goto (-40), 3) := by decide +kernel
theorem dX12_luck_96 : decode cX12_luck 96 = .ok (.iload 5, 2) := by decide +kernel
theorem dX12_luck_98 : decode cX12_luck 98 = .ok (.ireturn, 1) := by decide +kernel
theorem dX12_paste_0 : decode cX12_paste 0 = .ok (.iload_n 1, 1) := by decide +kernel
theorem dX12_paste_1 : decode cX12_paste 1 = .ok (.invokestatic 371, 3) := by decide +kernel
theorem dX12_paste_100 : decode cX12_paste 100 = .ok (.iload_n 3, 1) := by decide +kernel
theorem dX12_paste_101 : decode cX12_paste 101 = .ok (.iaload, 1) := by decide +kernel
theorem dX12_paste_102 : decode cX12_paste 102 = .ok (.i2l, 1) := by decide +kernel
theorem dX12_paste_103 : decode cX12_paste 103 = .ok (.lcmp, 1) := by decide +kernel
theorem dX12_paste_104 : decode cX12_paste 104 = .ok (.ifCond .le 6, 3) := by decide +kernel
theorem dX12_paste_107 : decode cX12_paste 107 = .ok (.bipush (-7), 2) := by decide +kernel
theorem dX12_paste_109 : decode cX12_paste 109 = .ok (.ireturn, 1) := by decide +kernel
theorem dX12_paste_11 : decode cX12_paste 11 = .ok (.ifCond .ne 6, 3) := by decide +kernel
theorem dX12_paste_110 : decode cX12_paste 110 = .ok (.iconst 0, 1) := by decide +kernel
theorem dX12_paste_111 : decode cX12_paste 111 = .ok (.istore 6, 2) := by decide +kernel
theorem dX12_paste_113 : decode cX12_paste 113 = .ok (.iload 6, 2) := by decide +kernel
theorem dX12_paste_115 : decode cX12_paste 115 = .ok (.iload 5, 2) := by decide +kernel
theorem dX12_paste_117 : decode cX12_paste 117 = .ok (.if_icmp .ge 30, 3) := by decide +kernel
theorem dX12_paste_120 : decode cX12_paste 120 = .ok (.aload_n 0, 1) := by decide +kernel
theorem dX12_paste_121 : decode cX12_paste 121 = .ok (.getfield 87, 3) := by decide +kernel
theorem dX12_paste_124 : decode cX12_paste 124 = .ok (.iload 6, 2) := by decide +kernel
theorem dX12_paste_126 : decode cX12_paste 126 = .ok (.aload_n 0, 1) := by decide +kernel
theorem dX12_paste_127 : decode cX12_paste 127 = .ok (.getfield 83, 3) := by decide +kernel
theorem dX12_paste_130 : decode cX12_paste 130 = .ok (.bipush 60, 2) := by decide +kernel
theorem dX12_paste_132 : decode cX12_paste 132 = .ok (.iload_n 1, 1) := by decide +kernel
theorem dX12_paste_133 : decode cX12_paste 133 = .ok (.imul, 1) := by decide +kernel
theorem dX12_paste_134 : decode cX12_paste 134 = .ok (.iload_n 2, 1) := by decide +kernel
theorem dX12_paste_135 : decode cX12_paste 135 = .ok (.iadd, 1) := by decide +kernel
theorem dX12_paste_136 : decode cX12_paste 136 = .ok (.iload 6, 2) := by decide +kernel
theorem dX12_paste_138 : decode cX12_paste 138 = .ok (.iadd, 1) := by decide +kernel
theorem dX12_paste_139 : decode cX12_paste 139 = .ok (.laload, 1) := by decide +kernel
theorem dX12_paste_14 : decode cX12_paste 14 = .ok (.bipush (-2), 2) := by decide +kernel
theorem dX12_paste_140 : decode cX12_paste 140 = .ok (.lastore, 1) := by decide +kernel
theorem dX12_paste_141 : decode cX12_paste 141 = .ok (.iinc 6 1, 3) := by decide +kernel
theorem dX12_paste_144 : decode cX12_paste 144 = .ok (.goto (-31), 3) := by decide +kernel
theorem dX12_paste_147 : decode cX12_paste 147 = .ok (.iconst 0, 1) := by decide +kernel
theorem dX12_paste_148 : decode cX12_paste 148 = .ok (.istore 6, 2) := by decide +kernel
theorem dX12_paste_150 : decode cX12_paste 150 = .ok (.iload 6, 2) := by decide +kernel
theorem dX12_paste_152 : decode cX12_paste 152 = .ok (.iload 5, 2) := by decide +kernel
theorem dX12_paste_154 : decode cX12_paste 154 = .ok (.if_icmp .ge 31, 3) := by decide +kernel
theorem dX12_paste_157 : decode cX12_paste 157 = .ok (.aload_n 0, 1) := by decide +kernel
theorem dX12_paste_158 : decode cX12_paste 158 = .ok (.getfield 83, 3) := by decide +kernel
theorem dX12_paste_16 : decode cX12_paste 16 = .ok (.ireturn, 1) := by decide +kernel
theorem dX12_paste_161 : decode cX12_paste 161 = .ok (.bipush 60, 2) := by decide +kernel
theorem dX12_paste_163 : decode cX12_paste 163 = .ok (.iload_n 3, 1) := by decide +kernel
theorem dX12_paste_164 : decode cX12_paste 164 = .ok (.imul, 1) := by decide +kernel
theorem dX12_paste_165 : decode cX12_paste 165 = .ok (.iload 4, 2) := by decide +kernel
theorem dX12_paste_167 : decode cX12_paste 167 = .ok (.iadd, 1) := by decide +kernel
theorem dX12_paste_168 : decode cX12_paste 168 = .ok (.iload 6, 2) := by decide +kernel
theorem dX12_paste_17 : decode cX12_paste 17 = .ok (.aload_n 0, 1) := by decide +kernel
theorem dX12_paste_170 : decode cX12_paste 170 = .ok (.iadd, 1) := by decide +kernel
theorem dX12_paste_171 : decode cX12_paste 171 = .ok (.aload_n 0, 1) := by decide +kernel
theorem dX12_paste_172 : decode cX12_paste 172 = .ok (.getfield 87, 3) := by decide +kernel
theorem dX12_paste_175 : decode cX12_paste 175 = .ok (.iload 6, 2) := by decide +kernel
theorem dX12_paste_177 : decode cX12_paste 177 = .ok (.laload, 1) := by decide +kernel
theorem dX12_paste_178 : decode cX12_paste 178 = .ok (.lastore, 1) := by decide +kernel
theorem dX12_paste_179 : decode cX12_paste 179 = .ok (.iinc 6 1, 3) := by decide +kernel
theorem dX12_paste_18 : decode cX12_paste 18 = .ok (.getfield 77, 3) := by decide +kernel
theorem dX12_paste_182 : decode cX12_paste 182 = .ok (.goto (-32), 3) := by decide +kernel
theorem dX12_paste_185 : decode cX12_paste 185 = .ok (.iconst 0, 1) := by decide +kernel
theorem dX12_paste_186 : decode cX12_paste 186 = .ok (.ireturn, 1) := by decide +kernel
theorem dX12_paste_21 : decode cX12_paste 21 = .ok (.iload_n 1, 1) := by decide +kernel
theorem dX12_paste_22 : decode cX12_paste 22 = .ok (.iaload, 1) := by decide +kernel
theorem dX12_paste_23 : decode cX12_paste 23 = .ok (.iconst (-1), 1) := by decide +kernel
theorem dX12_paste_24 : decode cX12_paste 24 = .ok (.if_icmp .eq 13, 3) := by decide +kernel
theorem dX12_paste_27 : decode cX12_paste 27 = .ok (.aload_n 0, 1) := by decide +kernel
theorem dX12_paste_28 : decode cX12_paste 28 = .ok (.getfield 77, 3) := by decide +kernel
theorem dX12_paste_31 : decode cX12_paste 31 = .ok (.iload_n 3, 1) := by decide +kernel
theorem dX12_paste_32 : decode cX12_paste 32 = .ok (.iaload, 1) := by decide +kernel
theorem dX12_paste_33 : decode cX12_paste 33 = .ok (.iconst (-1), 1) := by decide +kernel
theorem dX12_paste_34 : decode cX12_paste 34 = .ok (.if_icmp .ne 6, 3) := by decide +kernel
theorem dX12_paste_37 : decode cX12_paste 37 = .ok (.bipush (-6), 2) := by decide +kernel
theorem dX12_paste_39 : decode cX12_paste 39 = .ok (.ireturn, 1) := by decide +kernel
theorem dX12_paste_4 : decode cX12_paste 4 = .ok (.ifCond .eq 10, 3) := by decide +kernel
theorem dX12_paste_40 : decode cX12_paste 40 = .ok (.aload_n 0, 1) := by decide +kernel
theorem dX12_paste_41 : decode cX12_paste 41 = .ok (.getfield 80, 3) := by decide +kernel
theorem dX12_paste_44 : decode cX12_paste 44 = .ok (.iload_n 1, 1) := by decide +kernel
theorem dX12_paste_45 : decode cX12_paste 45 = .ok (.iaload, 1) := by decide +kernel
theorem dX12_paste_46 : decode cX12_paste 46 = .ok (.aload_n 0, 1) := by decide +kernel
theorem dX12_paste_47 : decode cX12_paste 47 = .ok (.getfield 80, 3) := by decide +kernel
theorem dX12_paste_50 : decode cX12_paste 50 = .ok (.iload_n 3, 1) := by decide +kernel
theorem dX12_paste_51 : decode cX12_paste 51 = .ok (.iaload, 1) := by decide +kernel
theorem dX12_paste_52 : decode cX12_paste 52 = .ok (.if_icmp .eq 6, 3) := by decide +kernel
theorem dX12_paste_55 : decode cX12_paste 55 = .ok (.bipush (-8), 2) := by decide +kernel
theorem dX12_paste_57 : decode cX12_paste 57 = .ok (.ireturn, 1) := by decide +kernel
theorem dX12_paste_58 : decode cX12_paste 58 = .ok (.iload_n 2, 1) := by decide +kernel
theorem dX12_paste_59 : decode cX12_paste 59 = .ok (.ifCond .lt 48, 3) := by decide +kernel
theorem dX12_paste_62 : decode cX12_paste 62 = .ok (.iload 4, 2) := by decide +kernel
theorem dX12_paste_64 : decode cX12_paste 64 = .ok (.ifCond .lt 43, 3) := by decide +kernel
theorem dX12_paste_67 : decode cX12_paste 67 = .ok (.iload 5, 2) := by decide +kernel
theorem dX12_paste_69 : decode cX12_paste 69 = .ok (.ifCond .lt 38, 3) := by decide +kernel
theorem dX12_paste_7 : decode cX12_paste 7 = .ok (.iload_n 3, 1) := by decide +kernel
theorem dX12_paste_72 : decode cX12_paste 72 = .ok (.iload_n 2, 1) := by decide +kernel
theorem dX12_paste_73 : decode cX12_paste 73 = .ok (.i2l, 1) := by decide +kernel
theorem dX12_paste_74 : decode cX12_paste 74 = .ok (.iload 5, 2) := by decide +kernel
theorem dX12_paste_76 : decode cX12_paste 76 = .ok (.i2l, 1) := by decide +kernel
theorem dX12_paste_77 : decode cX12_paste 77 = .ok (.ladd, 1) := by decide +kernel
theorem dX12_paste_78 : decode cX12_paste 78 = .ok (.aload_n 0, 1) := by decide +kernel
theorem dX12_paste_79 : decode cX12_paste 79 = .ok (.getfield 77, 3) := by decide +kernel
theorem dX12_paste_8 : decode cX12_paste 8 = .ok (.invokestatic 371, 3) := by decide +kernel
theorem dX12_paste_82 : decode cX12_paste 82 = .ok (.iload_n 1, 1) := by decide +kernel
theorem dX12_paste_83 : decode cX12_paste 83 = .ok (.iaload, 1) := by decide +kernel
theorem dX12_paste_84 : decode cX12_paste 84 = .ok (.i2l, 1) := by decide +kernel
theorem dX12_paste_85 : decode cX12_paste 85 = .ok (.lcmp, 1) := by decide +kernel
theorem dX12_paste_86 : decode cX12_paste 86 = .ok (.ifCond .gt 21, 3) := by decide +kernel
theorem dX12_paste_89 : decode cX12_paste 89 = .ok (.iload 4, 2) := by decide +kernel
theorem dX12_paste_91 : decode cX12_paste 91 = .ok (.i2l, 1) := by decide +kernel
theorem dX12_paste_92 : decode cX12_paste 92 = .ok (.iload 5, 2) := by decide +kernel
theorem dX12_paste_94 : decode cX12_paste 94 = .ok (.i2l, 1) := by decide +kernel
theorem dX12_paste_95 : decode cX12_paste 95 = .ok (.ladd, 1) := by decide +kernel
theorem dX12_paste_96 : decode cX12_paste 96 = .ok (.aload_n 0, 1) := by decide +kernel
theorem dX12_paste_97 : decode cX12_paste 97 = .ok (.getfield 77, 3) := by decide +kernel
theorem dX12_row_0 : decode cX12_row 0 = .ok (.iload_n 1, 1) := by decide +kernel
theorem dX12_row_1 : decode cX12_row 1 = .ok (.invokestatic 371, 3) := by decide +kernel
theorem dX12_row_10 : decode cX12_row 10 = .ok (.ldc2_w 429, 3) := by decide +kernel
theorem dX12_row_13 : decode cX12_row 13 = .ok (.invokestatic 95, 3) := by decide +kernel
theorem dX12_row_16 : decode cX12_row 16 = .ok (.ifCond .eq 9, 3) := by decide +kernel
theorem dX12_row_19 : decode cX12_row 19 = .ok (.iload_n 3, 1) := by decide +kernel
theorem dX12_row_20 : decode cX12_row 20 = .ok (.bipush 60, 2) := by decide +kernel
theorem dX12_row_22 : decode cX12_row 22 = .ok (.if_icmp .le 6, 3) := by decide +kernel
theorem dX12_row_25 : decode cX12_row 25 = .ok (.bipush (-2), 2) := by decide +kernel
theorem dX12_row_27 : decode cX12_row 27 = .ok (.ireturn, 1) := by decide +kernel
theorem dX12_row_28 : decode cX12_row 28 = .ok (.iload_n 3, 1) := by decide +kernel
theorem dX12_row_29 : decode cX12_row 29 = .ok (.ifCond .ge 6, 3) := by decide +kernel
theorem dX12_row_32 : decode cX12_row 32 = .ok (.bipush (-3), 2) := by decide +kernel
theorem dX12_row_34 : decode cX12_row 34 = .ok (.ireturn, 1) := by decide +kernel
theorem dX12_row_35 : decode cX12_row 35 = .ok (.aload_n 0, 1) := by decide +kernel
theorem dX12_row_36 : decode cX12_row 36 = .ok (.getfield 77, 3) := by decide +kernel
theorem dX12_row_39 : decode cX12_row 39 = .ok (.iload_n 1, 1) := by decide +kernel
theorem dX12_row_4 : decode cX12_row 4 = .ok (.ifCond .eq 21, 3) := by decide +kernel
theorem dX12_row_40 : decode cX12_row 40 = .ok (.iload_n 3, 1) := by decide +kernel
theorem dX12_row_41 : decode cX12_row 41 = .ok (.iastore, 1) := by decide +kernel
theorem dX12_row_42 : decode cX12_row 42 = .ok (.aload_n 0, 1) := by decide +kernel
theorem dX12_row_43 : decode cX12_row 43 = .ok (.getfield 80, 3) := by decide +kernel
theorem dX12_row_46 : decode cX12_row 46 = .ok (.iload_n 1, 1) := by decide +kernel
theorem dX12_row_47 : decode cX12_row 47 = .ok (.iload_n 2, 1) := by decide +kernel
theorem dX12_row_48 : decode cX12_row 48 = .ok (.iastore, 1) := by decide +kernel
theorem dX12_row_49 : decode cX12_row 49 = .ok (.iconst 0, 1) := by decide +kernel
theorem dX12_row_50 : decode cX12_row 50 = .ok (.istore 4, 2) := by decide +kernel
theorem dX12_row_52 : decode cX12_row 52 = .ok (.iload 4, 2) := by decide +kernel
theorem dX12_row_54 : decode cX12_row 54 = .ok (.bipush 60, 2) := by decide +kernel
theorem dX12_row_56 : decode cX12_row 56 = .ok (.if_icmp .ge 22, 3) := by decide +kernel
theorem dX12_row_59 : decode cX12_row 59 = .ok (.aload_n 0, 1) := by decide +kernel
theorem dX12_row_60 : decode cX12_row 60 = .ok (.getfield 83, 3) := by decide +kernel
theorem dX12_row_63 : decode cX12_row 63 = .ok (.bipush 60, 2) := by decide +kernel
theorem dX12_row_65 : decode cX12_row 65 = .ok (.iload_n 1, 1) := by decide +kernel
theorem dX12_row_66 : decode cX12_row 66 = .ok (.imul, 1) := by decide +kernel
theorem dX12_row_67 : decode cX12_row 67 = .ok (.iload 4, 2) := by decide +kernel
theorem dX12_row_69 : decode cX12_row 69 = .ok (.iadd, 1) := by decide +kernel
theorem dX12_row_7 : decode cX12_row 7 = .ok (.iload_n 2, 1) := by decide +kernel
theorem dX12_row_70 : decode cX12_row 70 = .ok (.lconst 0, 1) := by decide +kernel
theorem dX12_row_71 : decode cX12_row 71 = .ok (.lastore, 1) := by decide +kernel
theorem dX12_row_72 : decode cX12_row 72 = .ok (.iinc 4 1, 3) := by decide +kernel
theorem dX12_row_75 : decode cX12_row 75 = .ok (.goto (-23), 3) := by decide +kernel
theorem dX12_row_78 : decode cX12_row 78 = .ok (.iconst 0, 1) := by decide +kernel
theorem dX12_row_79 : decode cX12_row 79 = .ok (.ireturn, 1) := by decide +kernel
theorem dX12_row_8 : decode cX12_row 8 = .ok (.i2l, 1) := by decide +kernel
theorem dX12_row_9 : decode cX12_row 9 = .ok (.lconst 0, 1) := by decide +kernel
theorem dX12_tune_0 : decode cX12_tune 0 = .ok (.aload_n 0, 1) := by decide +kernel
theorem dX12_tune_1 : decode cX12_tune 1 = .ok (.invokevirtual 263, 3) := by decide +kernel
theorem dX12_tune_10 : decode cX12_tune 10 = .ok (.invokevirtual 288, 3) := by decide +kernel
theorem dX12_tune_13 : decode cX12_tune 13 = .ok (.ifCond .ne 6, 3) := by decide +kernel
theorem dX12_tune_16 : decode cX12_tune 16 = .ok (.bipush (-2), 2) := by decide +kernel
theorem dX12_tune_18 : decode cX12_tune 18 = .ok (.ireturn, 1) := by decide +kernel
theorem dX12_tune_19 : decode cX12_tune 19 = .ok (.aload_n 0, 1) := by decide +kernel
theorem dX12_tune_20 : decode cX12_tune 20 = .ok (.getfield 9, 3) := by decide +kernel
theorem dX12_tune_23 : decode cX12_tune 23 = .ok (.bipush 8, 2) := by decide +kernel
theorem dX12_tune_25 : decode cX12_tune 25 = .ok (.iaload, 1) := by decide +kernel
theorem dX12_tune_26 : decode cX12_tune 26 = .ok (.ifCond .le 6, 3) := by decide +kernel
theorem dX12_tune_29 : decode cX12_tune 29 = .ok (.bipush (-5), 2) := by decide +kernel
theorem dX12_tune_31 : decode cX12_tune 31 = .ok (.ireturn, 1) := by decide +kernel
theorem dX12_tune_32 : decode cX12_tune 32 = .ok (.aload_n 0, 1) := by decide +kernel
theorem dX12_tune_33 : decode cX12_tune 33 = .ok (.getfield 9, 3) := by decide +kernel
theorem dX12_tune_36 : decode cX12_tune 36 = .ok (.iconst 3, 1) := by decide +kernel
theorem dX12_tune_37 : decode cX12_tune 37 = .ok (.iaload, 1) := by decide +kernel
theorem dX12_tune_38 : decode cX12_tune 38 = .ok (.istore_n 2, 1) := by decide +kernel
theorem dX12_tune_39 : decode cX12_tune 39 = .ok (.aload_n 0, 1) := by decide +kernel
theorem dX12_tune_4 : decode cX12_tune 4 = .ok (.ifCond .eq 12, 3) := by decide +kernel
theorem dX12_tune_40 : decode cX12_tune 40 = .ok (.getfield 9, 3) := by decide +kernel
theorem dX12_tune_43 : decode cX12_tune 43 = .ok (.iconst 3, 1) := by decide +kernel
theorem dX12_tune_44 : decode cX12_tune 44 = .ok (.iload_n 1, 1) := by decide +kernel
theorem dX12_tune_45 : decode cX12_tune 45 = .ok (.iastore, 1) := by decide +kernel
theorem dX12_tune_46 : decode cX12_tune 46 = .ok (.iload_n 2, 1) := by decide +kernel
theorem dX12_tune_47 : decode cX12_tune 47 = .ok (.ireturn, 1) := by decide +kernel
theorem dX12_tune_7 : decode cX12_tune 7 = .ok (.aload_n 0, 1) := by decide +kernel
theorem dX12_tune_8 : decode cX12_tune 8 = .ok (.iload_n 1, 1) := by decide +kernel
theorem dX12_tune_9 : decode cX12_tune 9 = .ok (.i2l, 1) := by decide +kernel
theorem dX12_write_0 : decode cX12_write 0 = .ok (.iload_n 1, 1) := by decide +kernel
theorem dX12_write_1 : decode cX12_write 1 = .ok (.invokestatic 371, 3) := by decide +kernel
theorem dX12_write_10 : decode cX12_write 10 = .ok (.aload_n 0, 1) := by decide +kernel
theorem dX12_write_11 : decode cX12_write 11 = .ok (.getfield 77, 3) := by decide +kernel
theorem dX12_write_14 : decode cX12_write 14 = .ok (.iload_n 1, 1) := by decide +kernel
theorem dX12_write_15 : decode cX12_write 15 = .ok (.iaload, 1) := by decide +kernel
theorem dX12_write_16 : decode cX12_write 16 = .ok (.iconst (-1), 1) := by decide +kernel
theorem dX12_write_17 : decode cX12_write 17 = .ok (.if_icmp .ne 6, 3) := by decide +kernel
theorem dX12_write_20 : decode cX12_write 20 = .ok (.bipush (-6), 2) := by decide +kernel
theorem dX12_write_22 : decode cX12_write 22 = .ok (.ireturn, 1) := by decide +kernel
theorem dX12_write_23 : decode cX12_write 23 = .ok (.iload_n 2, 1) := by decide +kernel
theorem dX12_write_24 : decode cX12_write 24 = .ok (.i2l, 1) := by decide +kernel
theorem dX12_write_25 : decode cX12_write 25 = .ok (.lconst 0, 1) := by decide +kernel
theorem dX12_write_26 : decode cX12_write 26 = .ok (.aload_n 0, 1) := by decide +kernel
theorem dX12_write_27 : decode cX12_write 27 = .ok (.getfield 77, 3) := by decide +kernel
theorem dX12_write_30 : decode cX12_write 30 = .ok (.iload_n 1, 1) := by decide +kernel
theorem dX12_write_31 : decode cX12_write 31 = .ok (.iaload, 1) := by decide +kernel
theorem dX12_write_32 : decode cX12_write 32 = .ok (.iconst 1, 1) := by decide +kernel
theorem dX12_write_33 : decode cX12_write 33 = .ok (.isub, 1) := by decide +kernel
theorem dX12_write_34 : decode cX12_write 34 = .ok (.i2l, 1) := by decide +kernel
theorem dX12_write_35 : decode cX12_write 35 = .ok (.invokestatic 95, 3) := by decide +kernel
theorem dX12_write_38 : decode cX12_write 38 = .ok (.ifCond .ne 6, 3) := by decide +kernel
theorem dX12_write_4 : decode cX12_write 4 = .ok (.ifCond .ne 6, 3) := by decide +kernel
theorem dX12_write_41 : decode cX12_write 41 = .ok (.bipush (-7), 2) := by decide +kernel
theorem dX12_write_43 : decode cX12_write 43 = .ok (.ireturn, 1) := by decide +kernel
theorem dX12_write_44 : decode cX12_write 44 = .ok (.aload_n 0, 1) := by decide +kernel
theorem dX12_write_45 : decode cX12_write 45 = .ok (.getfield 83, 3) := by decide +kernel
theorem dX12_write_48 : decode cX12_write 48 = .ok (.bipush 60, 2) := by decide +kernel
theorem dX12_write_50 : decode cX12_write 50 = .ok (.iload_n 1, 1) := by decide +kernel
theorem dX12_write_51 : decode cX12_write 51 = .ok (.imul, 1) := by decide +kernel
theorem dX12_write_52 : decode cX12_write 52 = .ok (.iload_n 2, 1) := by decide +kernel
theorem dX12_write_53 : decode cX12_write 53 = .ok (.iadd, 1) := by decide +kernel
theorem dX12_write_54 : decode cX12_write 54 = .ok (.lload_n 3, 1) := by decide +kernel
theorem dX12_write_55 : decode cX12_write 55 = .ok (.aload_n 0, 1) := by decide +kernel
theorem dX12_write_56 : decode cX12_write 56 = .ok (.getfield 80, 3) := by decide +kernel
theorem dX12_write_59 : decode cX12_write 59 = .ok (.iload_n 1, 1) := by decide +kernel
theorem dX12_write_60 : decode cX12_write 60 = .ok (.iaload, 1) := by decide +kernel
theorem dX12_write_61 : decode cX12_write 61 = .ok (.invokestatic 462, 3) := by decide +kernel
theorem dX12_write_64 : decode cX12_write 64 = .ok (.lastore, 1) := by decide +kernel
theorem dX12_write_65 : decode cX12_write 65 = .ok (.iconst 0, 1) := by decide +kernel
theorem dX12_write_66 : decode cX12_write 66 = .ok (.ireturn, 1) := by decide +kernel
theorem dX12_write_7 : decode cX12_write 7 = .ok (.bipush (-2), 2) := by decide +kernel
theorem dX12_write_9 : decode cX12_write 9 = .ok (.ireturn, 1) := by decide +kernel
set_option maxHeartbeats 4000000 in
set_option maxRecDepth 100000 in
theorem b_X12_drawn (l : Launch) (G : Gho) (D : va_G) (cB cI cJ cZ cS cT : ClassId) (sz : Nat) (h0 : Nat) (v0_thrown : Int32) (h_world : Nat) (h_images : Nat) (h_hasImage : Nat) (h_tape : Nat) (v0_taped : Int32) (h_five : Nat) (v0_size : Int32) (v0_at : Int32) (v0_from : Int32) (v0_token : Int32) (v0_value : Int32) (v0_faultKind : Int32) (v0_faultPlace : Int32) (h_fresh : Nat) (h_spokenAt : Nat) (h_heardAt : Nat) (h_lastAt : Nat) (h_answerAt : Nat) (v0_lawA : Int32) (v0_lawB : Int32) (v0_lawC : Int32) (v0_drawX : Int64) (v0_isDrawn : Int32) (v0_lostMany : Int32) (h_heardNow : Nat) (h_seenAt : Nat) (v0_roundFrom : Int32) (v0_roundTo : Int32) (v0_goLast : Int32) (v0_goAnswer : Int32) (v0_goHeard : Int32) (h_fewest : Nat) (h_costNow : Nat) (h_costThen : Nat) (h_lawsOf : Nat) (h_heardBy : Nat) (v0_lawMany : Int32) (v0_askWorst : Int32) (h_placesOf : Nat) (h_sentIn : Nat) (v0_placeMany : Int32) (v0_parentFirst : Int32) (h_lostBy : Nat) (h_many : Nat) (h_width : Nat) (h_numbers : Nat) (h_moving : Nat) (f_answerAt : Nat → Int32) (f_heardAt : Nat → Int32) (f_lastAt : Nat → Int32) (f_lostBy : Nat → Int32) (f_spokenAt : Nat → Int32) (f_world : Nat → Int32) (v1 : Int32) (v2 : Int32) (v3 : Int32) (iv0_taped : 0 ≤ v0_taped.toInt ∧ v0_taped.toInt ≤ 500) (iv0_size : 0 ≤ v0_size.toInt ∧ v0_size.toInt ≤ 500) (iv0_at : 0 ≤ v0_at.toInt ∧ v0_at.toInt ≤ 500) (iv0_from : 0 ≤ v0_from.toInt ∧ v0_from.toInt ≤ 500) (iv0_faultKind : 0 ≤ v0_faultKind.toInt ∧ v0_faultKind.toInt ≤ 3) (iv0_lawA : 0 ≤ v0_lawA.toInt ∧ v0_lawA.toInt ≤ 8) (iv0_lawB : 0 ≤ v0_lawB.toInt ∧ v0_lawB.toInt ≤ 8) (iv0_lawC : 0 ≤ v0_lawC.toInt ∧ v0_lawC.toInt ≤ 9) (iv0_isDrawn : 0 ≤ v0_isDrawn.toInt ∧ v0_isDrawn.toInt ≤ 1) (iv0_roundFrom : 0 ≤ v0_roundFrom.toInt ∧ v0_roundFrom.toInt ≤ 648) (iv0_roundTo : 0 ≤ v0_roundTo.toInt ∧ v0_roundTo.toInt ≤ 648) (iv0_goLast : 0 ≤ v0_goLast.toInt ∧ v0_goLast.toInt ≤ 8) (iv0_goAnswer : 0 ≤ v0_goAnswer.toInt ∧ v0_goAnswer.toInt ≤ 8) (iv0_lawMany : 0 ≤ v0_lawMany.toInt ∧ v0_lawMany.toInt ≤ 729) (iv0_placeMany : 0 ≤ v0_placeMany.toInt ∧ v0_placeMany.toInt ≤ 100) (pf_answerAt : sg sgLa f_answerAt) (pf_heardAt : sg sgSp f_heardAt) (pf_lastAt : sg sgLa f_lastAt) (pf_spokenAt : sg sgSp f_spokenAt) (pf_world : sg sgWo f_world) (cf_world : 0 < (f_world 9).toInt → 2 ≤ (f_world 0).toInt) : Met l yX12_drawn (Cond.code yX12_drawn cX12_drawn 4 (some .int) :: wsL_law) ({ frames := 5, cells := 0, slots := 0, locals := 111 }) (wrP G D (tyL cB cI cJ cZ cS cT) [(mO h0 v0_thrown h_world h_images h_hasImage h_tape v0_taped h_five v0_size v0_at v0_from v0_token v0_value v0_faultKind v0_faultPlace h_fresh h_spokenAt h_heardAt h_lastAt h_answerAt v0_lawA v0_lawB v0_lawC v0_drawX v0_isDrawn v0_lostMany h_heardNow h_seenAt v0_roundFrom v0_roundTo v0_goLast v0_goAnswer v0_goHeard h_fewest h_costNow h_costThen h_lawsOf h_heardBy v0_lawMany v0_askWorst h_placesOf h_sentIn v0_placeMany v0_parentFirst h_lostBy h_many h_width h_numbers h_moving), (h_answerAt, .inl (cI, 62, .inl f_answerAt)), (h_heardAt, .inl (cI, 61, .inl f_heardAt)), (h_lastAt, .inl (cI, 62, .inl f_lastAt)), (h_lostBy, .inl (cI, 61, .inl f_lostBy)), (h_spokenAt, .inl (cI, 61, .inl f_spokenAt)), (h_world, .inl (cI, 53, .inl f_world))] sz [.ref h0, .int v1, .int v2, .int v3]) (va_Qi (fun (r : Int32) (x : Int32 × Int32 × Int32 × Int64 × Int32 × Int32 × (Nat → Int32) × (Nat → Int32) × (Nat → Int32) × (Nat → Int32) × (Nat → Int32)) => (0 ≤ x.1.toInt ∧ x.1.toInt ≤ 8) ∧ (0 ≤ x.2.1.toInt ∧ x.2.1.toInt ≤ 8) ∧ (0 ≤ x.2.2.1.toInt ∧ x.2.2.1.toInt ≤ 9) ∧ (0 ≤ x.2.2.2.2.1.toInt ∧ x.2.2.2.2.1.toInt ≤ 1) ∧ (sg sgLa x.2.2.2.2.2.2.1) ∧ (sg sgSp x.2.2.2.2.2.2.2.1) ∧ (sg sgLa x.2.2.2.2.2.2.2.2.1) ∧ (sg sgSp x.2.2.2.2.2.2.2.2.2.2)) (atW D (tyL cB cI cJ cZ cS cT) (va_A [(mO h0 v0_thrown h_world h_images h_hasImage h_tape v0_taped h_five v0_size v0_at v0_from v0_token v0_value v0_faultKind v0_faultPlace h_fresh h_spokenAt h_heardAt h_lastAt h_answerAt v0_lawA v0_lawB v0_lawC v0_drawX v0_isDrawn v0_lostMany h_heardNow h_seenAt v0_roundFrom v0_roundTo v0_goLast v0_goAnswer v0_goHeard h_fewest h_costNow h_costThen h_lawsOf h_heardBy v0_lawMany v0_askWorst h_placesOf h_sentIn v0_placeMany v0_parentFirst h_lostBy h_many h_width h_numbers h_moving), (h_answerAt, .inl (cI, 62, .inl f_answerAt)), (h_heardAt, .inl (cI, 61, .inl f_heardAt)), (h_lastAt, .inl (cI, 62, .inl f_lastAt)), (h_lostBy, .inl (cI, 61, .inl f_lostBy)), (h_spokenAt, .inl (cI, 61, .inl f_spokenAt)), (h_world, .inl (cI, 53, .inl f_world))] sz) (fun x : Int32 × Int32 × Int32 × Int64 × Int32 × Int32 × (Nat → Int32) × (Nat → Int32) × (Nat → Int32) × (Nat → Int32) × (Nat → Int32) => [(mO h0 v0_thrown h_world h_images h_hasImage h_tape v0_taped h_five v0_size v0_at v0_from v0_token v0_value v0_faultKind v0_faultPlace h_fresh h_spokenAt h_heardAt h_lastAt h_answerAt x.1 x.2.1 x.2.2.1 x.2.2.2.1 x.2.2.2.2.1 x.2.2.2.2.2.1 h_heardNow h_seenAt v0_roundFrom v0_roundTo v0_goLast v0_goAnswer v0_goHeard h_fewest h_costNow h_costThen h_lawsOf h_heardBy v0_lawMany v0_askWorst h_placesOf h_sentIn v0_placeMany v0_parentFirst h_lostBy h_many h_width h_numbers h_moving), (h_answerAt, .inl (cI, 62, .inl x.2.2.2.2.2.2.1)), (h_heardAt, .inl (cI, 61, .inl x.2.2.2.2.2.2.2.1)), (h_lastAt, .inl (cI, 62, .inl x.2.2.2.2.2.2.2.2.1)), (h_lostBy, .inl (cI, 61, .inl x.2.2.2.2.2.2.2.2.2.1)), (h_spokenAt, .inl (cI, 61, .inl x.2.2.2.2.2.2.2.2.2.2)), (h_world, .inl (cI, 53, .inl f_world))])) (va_A [(mO h0 v0_thrown h_world h_images h_hasImage h_tape v0_taped h_five v0_size v0_at v0_from v0_token v0_value v0_faultKind v0_faultPlace h_fresh h_spokenAt h_heardAt h_lastAt h_answerAt v0_lawA v0_lawB v0_lawC v0_drawX v0_isDrawn v0_lostMany h_heardNow h_seenAt v0_roundFrom v0_roundTo v0_goLast v0_goAnswer v0_goHeard h_fewest h_costNow h_costThen h_lawsOf h_heardBy v0_lawMany v0_askWorst h_placesOf h_sentIn v0_placeMany v0_parentFirst h_lostBy h_many h_width h_numbers h_moving), (h_answerAt, .inl (cI, 62, .inl f_answerAt)), (h_heardAt, .inl (cI, 61, .inl f_heardAt)), (h_lastAt, .inl (cI, 62, .inl f_lastAt)), (h_lostBy, .inl (cI, 61, .inl f_lostBy)), (h_spokenAt, .inl (cI, 61, .inl f_spokenAt)), (h_world, .inl (cI, 53, .inl f_world))] sz)) 0 0 (va_A [(mO h0 v0_thrown h_world h_images h_hasImage h_tape v0_taped h_five v0_size v0_at v0_from v0_token v0_value v0_faultKind v0_faultPlace h_fresh h_spokenAt h_heardAt h_lastAt h_answerAt v0_lawA v0_lawB v0_lawC v0_drawX v0_isDrawn v0_lostMany h_heardNow h_seenAt v0_roundFrom v0_roundTo v0_goLast v0_goAnswer v0_goHeard h_fewest h_costNow h_costThen h_lawsOf h_heardBy v0_lawMany v0_askWorst h_placesOf h_sentIn v0_placeMany v0_parentFirst h_lostBy h_many h_width h_numbers h_moving), (h_answerAt, .inl (cI, 62, .inl f_answerAt)), (h_heardAt, .inl (cI, 61, .inl f_heardAt)), (h_lastAt, .inl (cI, 62, .inl f_lastAt)), (h_lostBy, .inl (cI, 61, .inl f_lostBy)), (h_spokenAt, .inl (cI, 61, .inl f_spokenAt)), (h_world, .inl (cI, 53, .inl f_world))] sz) := by
  refine metI (own := RX12) (by decide) rfl ?_
  intro p e s m below meth c Q hsz C hG hP hD hAB ret
  obtain ⟨hx, hb, hml, hown, hts, hK, hN, hT⟩ := id C
  subst hsz
  generalize hAe : va_A [(mO h0 v0_thrown h_world h_images h_hasImage h_tape v0_taped h_five v0_size v0_at v0_from v0_token v0_value v0_faultKind v0_faultPlace h_fresh h_spokenAt h_heardAt h_lastAt h_answerAt v0_lawA v0_lawB v0_lawC v0_drawX v0_isDrawn v0_lostMany h_heardNow h_seenAt v0_roundFrom v0_roundTo v0_goLast v0_goAnswer v0_goHeard h_fewest h_costNow h_costThen h_lawsOf h_heardBy v0_lawMany v0_askWorst h_placesOf h_sentIn v0_placeMany v0_parentFirst h_lostBy h_many h_width h_numbers h_moving), (h_answerAt, .inl (cI, 62, .inl f_answerAt)), (h_heardAt, .inl (cI, 61, .inl f_heardAt)), (h_lastAt, .inl (cI, 62, .inl f_lastAt)), (h_lostBy, .inl (cI, 61, .inl f_lostBy)), (h_spokenAt, .inl (cI, 61, .inl f_spokenAt)), (h_world, .inl (cI, 53, .inl f_world))] s.heap.size = A at hD hAB ret ⊢
  have hA : ∀ q : Nat, s.heap.size ≤ q → A q := fun q h => by rw [← hAe]; exact Or.inr h
  have hS : va_S A s.heap s.heap [] := va_S.rf
  have hl := lv_entry ([.ref h0, .int v1, .int v2, .int v3]) (n := 4) (Nat.le_of_ble_eq_true rfl)
  rw [lg_entry_eq]
  generalize (lg_sl ([.ref h0, .int v1, .int v2, .int v3]) ++ List.replicate (4 - (lg_sl ([.ref h0, .int v1, .int v2, .int v3])).length) Slot.unset).toArray = ls at hl ⊢
  have hl : lv_has ls 4 [(0, .ref h0), (1, .int v1), (2, .int v2), (3, .int v3)] := hl
  have hP : va_P D vwCl [(mO h0 v0_thrown h_world h_images h_hasImage h_tape v0_taped h_five v0_size v0_at v0_from v0_token v0_value v0_faultKind v0_faultPlace h_fresh h_spokenAt h_heardAt h_lastAt h_answerAt v0_lawA v0_lawB v0_lawC v0_drawX v0_isDrawn v0_lostMany h_heardNow h_seenAt v0_roundFrom v0_roundTo v0_goLast v0_goAnswer v0_goHeard h_fewest h_costNow h_costThen h_lawsOf h_heardBy v0_lawMany v0_askWorst h_placesOf h_sentIn v0_placeMany v0_parentFirst h_lostBy h_many h_width h_numbers h_moving), (h_answerAt, .inl (cI, 62, .inl f_answerAt)), (h_heardAt, .inl (cI, 61, .inl f_heardAt)), (h_lastAt, .inl (cI, 62, .inl f_lastAt)), (h_lostBy, .inl (cI, 61, .inl f_lostBy)), (h_spokenAt, .inl (cI, 61, .inl f_spokenAt)), (h_world, .inl (cI, 53, .inl f_world))] s.heap := hP
  refine lv_aload_n hx hb dX12_drawn_0 rfl (lv_at hl 0 rfl) ?_
  refine roi (As := []) (rest := []) ⟨hx, hb, hml, hown, hts⟩ (b_X12_isStation l G D cB cI cJ cZ cS cT h0 v0_thrown h_world h_images h_hasImage h_tape v0_taped h_five v0_size v0_at v0_from v0_token v0_value v0_faultKind v0_faultPlace h_fresh h_spokenAt h_heardAt h_lastAt h_answerAt v0_lawA v0_lawB v0_lawC v0_drawX v0_isDrawn v0_lostMany h_heardNow h_seenAt v0_roundFrom v0_roundTo v0_goLast v0_goAnswer v0_goHeard h_fewest h_costNow h_costThen h_lawsOf h_heardBy v0_lawMany v0_askWorst h_placesOf h_sentIn v0_placeMany v0_parentFirst h_lostBy h_many h_width h_numbers h_moving f_world (by first | assumption | (have := zI0; have := zI1; have := zIm; omega) | decide) (by first | assumption | (have := zI0; have := zI1; have := zIm; omega) | decide) (by first | assumption | (have := zI0; have := zI1; have := zIm; omega) | decide) (by first | assumption | (have := zI0; have := zI1; have := zIm; omega) | decide) (by first | assumption | (have := zI0; have := zI1; have := zIm; omega) | decide) (by first | assumption | (have := zI0; have := zI1; have := zIm; omega) | decide) (by first | assumption | (have := zI0; have := zI1; have := zIm; omega) | decide) (by first | assumption | (have := zI0; have := zI1; have := zIm; omega) | decide) (by first | assumption | (have := zI0; have := zI1; have := zIm; omega) | decide) (by first | assumption | (have := zI0; have := zI1; have := zIm; omega) | decide) (by first | assumption | (have := zI0; have := zI1; have := zIm; omega) | decide) (by first | assumption | (have := zI0; have := zI1; have := zIm; omega) | decide) (by first | assumption | (have := zI0; have := zI1; have := zIm; omega) | decide) (by first | assumption | (have := zI0; have := zI1; have := zIm; omega) | decide) (by first | assumption | (have := zI0; have := zI1; have := zIm; omega) | decide) (by first | assumption | (have := zI0; have := zI1; have := zIm; omega) | decide) (by first | assumption | (have := zI0; have := zI1; have := zIm; omega) | decide)) (cvB (n := 0) (inr24 _ (List.mem_of_getElem? (i := 19) rfl)) (inr24 _ (List.mem_of_getElem? (i := 20) rfl)) (inr24 _ (List.mem_of_getElem? (i := 21) rfl)) (inr1 _ (List.mem_of_getElem? (i := 5) rfl)) (inr24 _ (List.mem_of_getElem? (i := 22) rfl)) (by decide +kernel) hts rfl rfl ⟨Nat.le_of_ble_eq_true rfl, Nat.le_of_ble_eq_true rfl⟩) 0 12 rfl rfl rfl (hP.sub [0, 6] rfl) hK hN (kT.to hT hS hAB) rfl hl.1 rfl (Nat.le_of_ble_eq_true rfl) ⟨Nat.le_of_ble_eq_true rfl, Nat.le_of_ble_eq_true rfl⟩ dX12_drawn_1 (fun r_1 h_2 => ?_)
  have h_2 : ((r_1.toInt = 1 ∧ 0 < (f_world 9).toInt) ∨ (r_1.toInt = 0 ∧ (f_world 9).toInt ≤ 0)) ∧ (r_1 = 0 ∨ r_1 = 1) := h_2
  obtain ⟨i_3, i_4⟩ := h_2
  have ar_1 : 0 ≤ r_1.toInt ∧ r_1.toInt ≤ 1 := by rcases i_4 with h | h <;> rw [h] <;> decide
  refine lv_if_eq (tgt := 34) hx hb dX12_drawn_4 (by decide) (fun c_5 => ?_) (fun c_5 => ?_)
  · have c_5 : r_1.toInt = 0 := ci_eq_t c_5
    have b_r_1 := i32b r_1
    have d_6 : (f_world 9).toInt ≤ 0 := by omega
    clear i_3
    refine lv_bipush (v := (-2)) hx hb dX12_drawn_34 (by decide) ?_
    exact ret _ _ _ _ _ (v0_lawA, v0_lawB, v0_lawC, v0_drawX, v0_isDrawn, v0_lostMany, f_answerAt, f_heardAt, f_lastAt, f_lostBy, f_spokenAt) dX12_drawn_36 (show (0 ≤ v0_lawA.toInt ∧ v0_lawA.toInt ≤ 8) ∧ (0 ≤ v0_lawB.toInt ∧ v0_lawB.toInt ≤ 8) ∧ (0 ≤ v0_lawC.toInt ∧ v0_lawC.toInt ≤ 9) ∧ (0 ≤ v0_isDrawn.toInt ∧ v0_isDrawn.toInt ≤ 1) ∧ (sg sgLa f_answerAt) ∧ (sg sgSp f_heardAt) ∧ (sg sgLa f_lastAt) ∧ (sg sgSp f_spokenAt) from ⟨(by first | assumption | (have := zI0; have := zI1; have := zIm; omega) | decide), (by first | assumption | (have := zI0; have := zI1; have := zIm; omega) | decide), (by first | assumption | (have := zI0; have := zI1; have := zIm; omega) | decide), (by first | assumption | (have := zI0; have := zI1; have := zIm; omega) | decide), (by first | assumption | (have := zI0; have := zI1; have := zIm; omega) | decide), (by first | assumption | (have := zI0; have := zI1; have := zIm; omega) | decide), (by first | assumption | (have := zI0; have := zI1; have := zIm; omega) | decide), (by first | assumption | (have := zI0; have := zI1; have := zIm; omega) | decide)⟩) (hP.sub [0, 1, 2, 3, 4, 5, 6] rfl) (hD.sub [0, 1, 2, 3, 4, 5, 6] (by decide) rfl) hS
  · have c_5 : ¬ r_1.toInt = 0 := ci_eq_f c_5
    have b_r_1 := i32b r_1
    have d_7 : 0 < (f_world 9).toInt := by omega
    clear i_3
    refine lv_iload_n hx hb dX12_drawn_7 rfl (lv_at hl 1 rfl) ?_
    refine rosi (As := [.int v1]) (rest := []) ⟨hx, hb, hml, hown, hts⟩ (b_X12_isSeed l G D cB cI cJ cZ cS cT v1 ) (csB (n := 1) (inr70 _ (List.mem_of_getElem? (i := 3) rfl)) (inr70 _ (List.mem_of_getElem? (i := 4) rfl)) (inr1 _ (List.mem_of_getElem? (i := 5) rfl)) (inr70 _ (List.mem_of_getElem? (i := 5) rfl)) (by decide +kernel) hts rfl rfl ⟨Nat.le_of_ble_eq_true rfl, Nat.le_of_ble_eq_true rfl⟩) (hP.sub [] rfl) hK hN (kT.to hT hS hAB) rfl hl.1 rfl (Nat.le_of_ble_eq_true rfl) ⟨Nat.le_of_ble_eq_true rfl, Nat.le_of_ble_eq_true rfl⟩ dX12_drawn_8 (fun r_8 h_9 => ?_)
    have h_9 : ((r_8.toInt = 1 ∧ 0 ≤ v1.toInt ∧ v1.toInt ≤ 2000000000) ∨ r_8.toInt = 0) ∧ (r_8 = 0 ∨ r_8 = 1) := h_9
    obtain ⟨i_10, i_11⟩ := h_9
    have ar_8 : 0 ≤ r_8.toInt ∧ r_8.toInt ≤ 1 := by rcases i_11 with h | h <;> rw [h] <;> decide
    refine lv_if_eq (tgt := 34) hx hb dX12_drawn_11 (by decide) (fun c_12 => ?_) (fun c_12 => ?_)
    · have c_12 : r_8.toInt = 0 := ci_eq_t c_12
      have b_r_8 := i32b r_8
      clear i_10
      refine lv_bipush (v := (-2)) hx hb dX12_drawn_34 (by decide) ?_
      exact ret _ _ _ _ _ (v0_lawA, v0_lawB, v0_lawC, v0_drawX, v0_isDrawn, v0_lostMany, f_answerAt, f_heardAt, f_lastAt, f_lostBy, f_spokenAt) dX12_drawn_36 (show (0 ≤ v0_lawA.toInt ∧ v0_lawA.toInt ≤ 8) ∧ (0 ≤ v0_lawB.toInt ∧ v0_lawB.toInt ≤ 8) ∧ (0 ≤ v0_lawC.toInt ∧ v0_lawC.toInt ≤ 9) ∧ (0 ≤ v0_isDrawn.toInt ∧ v0_isDrawn.toInt ≤ 1) ∧ (sg sgLa f_answerAt) ∧ (sg sgSp f_heardAt) ∧ (sg sgLa f_lastAt) ∧ (sg sgSp f_spokenAt) from ⟨(by first | assumption | (have := zI0; have := zI1; have := zIm; omega) | decide), (by first | assumption | (have := zI0; have := zI1; have := zIm; omega) | decide), (by first | assumption | (have := zI0; have := zI1; have := zIm; omega) | decide), (by first | assumption | (have := zI0; have := zI1; have := zIm; omega) | decide), (by first | assumption | (have := zI0; have := zI1; have := zIm; omega) | decide), (by first | assumption | (have := zI0; have := zI1; have := zIm; omega) | decide), (by first | assumption | (have := zI0; have := zI1; have := zIm; omega) | decide), (by first | assumption | (have := zI0; have := zI1; have := zIm; omega) | decide)⟩) (hP.sub [0, 1, 2, 3, 4, 5, 6] rfl) (hD.sub [0, 1, 2, 3, 4, 5, 6] (by decide) rfl) hS
    · have c_12 : ¬ r_8.toInt = 0 := ci_eq_f c_12
      have b_r_8 := i32b r_8
      have d_13 : 0 ≤ v1.toInt ∧ v1.toInt ≤ 2000000000 := by omega
      clear i_10
      refine lv_iload_n hx hb dX12_drawn_14 rfl (lv_at hl 2 rfl) ?_
      have b_v2 := i32b v2
      obtain ⟨t_14, et_14⟩ : ∃ v9 : Int64, (v2 : Int32).toInt64 = v9 := ⟨_, rfl⟩
      refine lv_i2l (v := t_14) hx hb dX12_drawn_15 et_14 ?_
      have ft_14 : t_14.toInt = v2.toInt := by rw [← et_14]; exact Int32.toInt_toInt64 _
      refine rosi (As := [.long t_14]) (rest := []) ⟨hx, hb, hml, hown, hts⟩ (b_X12_isStep l G D cB cI cJ cZ cS cT t_14 ) (csB (n := 1) (inr26 _ (List.mem_of_getElem? (i := 6) rfl)) (inr26 _ (List.mem_of_getElem? (i := 7) rfl)) (inr1 _ (List.mem_of_getElem? (i := 5) rfl)) (inr26 _ (List.mem_of_getElem? (i := 8) rfl)) (by decide +kernel) hts rfl rfl ⟨Nat.le_of_ble_eq_true rfl, Nat.le_of_ble_eq_true rfl⟩) (hP.sub [] rfl) hK hN (kT.to hT hS hAB) rfl hl.1 rfl (Nat.le_of_ble_eq_true rfl) ⟨Nat.le_of_ble_eq_true rfl, Nat.le_of_ble_eq_true rfl⟩ dX12_drawn_16 (fun r_15 h_16 => ?_)
      have h_16 : ((r_15.toInt = 1 ∧ 0 ≤ t_14.toInt ∧ t_14.toInt ≤ 60) ∨ (r_15.toInt = 0 ∧ (t_14.toInt < 0 ∨ 60 < t_14.toInt))) ∧ (r_15 = 0 ∨ r_15 = 1) := h_16
      obtain ⟨i_17, i_18⟩ := h_16
      have ar_15 : 0 ≤ r_15.toInt ∧ r_15.toInt ≤ 1 := by rcases i_18 with h | h <;> rw [h] <;> decide
      refine lv_if_eq (tgt := 34) hx hb dX12_drawn_19 (by decide) (fun c_19 => ?_) (fun c_19 => ?_)
      · have c_19 : r_15.toInt = 0 := ci_eq_t c_19
        have b_r_15 := i32b r_15
        have d_20 : (t_14.toInt < 0 ∨ 60 < t_14.toInt) := by omega
        clear i_17
        refine lv_bipush (v := (-2)) hx hb dX12_drawn_34 (by decide) ?_
        exact ret _ _ _ _ _ (v0_lawA, v0_lawB, v0_lawC, v0_drawX, v0_isDrawn, v0_lostMany, f_answerAt, f_heardAt, f_lastAt, f_lostBy, f_spokenAt) dX12_drawn_36 (show (0 ≤ v0_lawA.toInt ∧ v0_lawA.toInt ≤ 8) ∧ (0 ≤ v0_lawB.toInt ∧ v0_lawB.toInt ≤ 8) ∧ (0 ≤ v0_lawC.toInt ∧ v0_lawC.toInt ≤ 9) ∧ (0 ≤ v0_isDrawn.toInt ∧ v0_isDrawn.toInt ≤ 1) ∧ (sg sgLa f_answerAt) ∧ (sg sgSp f_heardAt) ∧ (sg sgLa f_lastAt) ∧ (sg sgSp f_spokenAt) from ⟨(by first | assumption | (have := zI0; have := zI1; have := zIm; omega) | decide), (by first | assumption | (have := zI0; have := zI1; have := zIm; omega) | decide), (by first | assumption | (have := zI0; have := zI1; have := zIm; omega) | decide), (by first | assumption | (have := zI0; have := zI1; have := zIm; omega) | decide), (by first | assumption | (have := zI0; have := zI1; have := zIm; omega) | decide), (by first | assumption | (have := zI0; have := zI1; have := zIm; omega) | decide), (by first | assumption | (have := zI0; have := zI1; have := zIm; omega) | decide), (by first | assumption | (have := zI0; have := zI1; have := zIm; omega) | decide)⟩) (hP.sub [0, 1, 2, 3, 4, 5, 6] rfl) (hD.sub [0, 1, 2, 3, 4, 5, 6] (by decide) rfl) hS
      · have c_19 : ¬ r_15.toInt = 0 := ci_eq_f c_19
        have b_r_15 := i32b r_15
        have d_21 : 0 ≤ t_14.toInt ∧ t_14.toInt ≤ 60 := by omega
        clear i_17
        refine lv_iload_n hx hb dX12_drawn_22 rfl (lv_at hl 3 rfl) ?_
        have b_v3 := i32b v3
        obtain ⟨t_22, et_22⟩ : ∃ v9 : Int64, (v3 : Int32).toInt64 = v9 := ⟨_, rfl⟩
        refine lv_i2l (v := t_22) hx hb dX12_drawn_23 et_22 ?_
        have ft_22 : t_22.toInt = v3.toInt := by rw [← et_22]; exact Int32.toInt_toInt64 _
        refine lv_lconst (v := 0) hx hb dX12_drawn_24 (by decide) ?_
        refine lv_ldc2 hx hb hown (hts _ (inr70 _ (List.mem_of_getElem? (i := 2) rfl))) dX12_drawn_25 ?_
        refine rosi (As := [.long t_22, .long 0, .long 2]) (rest := []) ⟨hx, hb, hml, hown, hts⟩ (b_X12_in l G D cB cI cJ cZ cS cT t_22 0 2 ) (csB (n := 3) (inr9 _ (List.mem_of_getElem? (i := 3) rfl)) (inr9 _ (List.mem_of_getElem? (i := 4) rfl)) (inr1 _ (List.mem_of_getElem? (i := 5) rfl)) (inr9 _ (List.mem_of_getElem? (i := 5) rfl)) (by decide +kernel) hts rfl rfl ⟨Nat.le_of_ble_eq_true rfl, Nat.le_of_ble_eq_true rfl⟩) (hP.sub [] rfl) hK hN (kT.to hT hS hAB) rfl hl.1 rfl (Nat.le_of_ble_eq_true rfl) ⟨Nat.le_of_ble_eq_true rfl, Nat.le_of_ble_eq_true rfl⟩ dX12_drawn_28 (fun r_23 h_24 => ?_)
        have h_24 : ((r_23.toInt = 1 ∧ 0 ≤ t_22.toInt ∧ t_22.toInt ≤ 2) ∨ (r_23.toInt = 0 ∧ (t_22.toInt < 0 ∨ 2 < t_22.toInt))) ∧ (r_23 = 0 ∨ r_23 = 1) := h_24
        obtain ⟨i_25, i_26⟩ := h_24
        have ar_23 : 0 ≤ r_23.toInt ∧ r_23.toInt ≤ 1 := by rcases i_26 with h | h <;> rw [h] <;> decide
        refine lv_if_ne (tgt := 37) hx hb dX12_drawn_31 (by decide) (fun c_27 => ?_) (fun c_27 => ?_)
        · have c_27 : ¬ r_23.toInt = 0 := ci_ne_t c_27
          have b_r_23 := i32b r_23
          have d_28 : 0 ≤ t_22.toInt ∧ t_22.toInt ≤ 2 := by omega
          clear i_25
          refine lv_aload_n hx hb dX12_drawn_37 rfl (lv_at hl 0 rfl) ?_
          refine lv_iload_n hx hb dX12_drawn_38 rfl (lv_at hl 1 rfl) ?_
          have b_v1 := i32b v1
          obtain ⟨t_29, et_29⟩ : ∃ v9 : Int64, (v1 : Int32).toInt64 = v9 := ⟨_, rfl⟩
          refine lv_i2l (v := t_29) hx hb dX12_drawn_39 et_29 ?_
          have ft_29 : t_29.toInt = v1.toInt := by rw [← et_29]; exact Int32.toInt_toInt64 _
          refine wrVv (As := [.long t_29]) (rest := []) (wr := []) ⟨hx, hb, hml, hown, hts⟩ (b_X12_goDrawn l G D cB cI cJ cZ cS cT s.heap.size h0 v0_thrown h_world h_images h_hasImage h_tape v0_taped h_five v0_size v0_at v0_from v0_token v0_value v0_faultKind v0_faultPlace h_fresh h_spokenAt h_heardAt h_lastAt h_answerAt v0_lawA v0_lawB v0_lawC v0_drawX v0_isDrawn v0_lostMany h_heardNow h_seenAt v0_roundFrom v0_roundTo v0_goLast v0_goAnswer v0_goHeard h_fewest h_costNow h_costThen h_lawsOf h_heardBy v0_lawMany v0_askWorst h_placesOf h_sentIn v0_placeMany v0_parentFirst h_lostBy h_many h_width h_numbers h_moving f_answerAt f_heardAt f_lastAt f_lostBy f_spokenAt f_world t_29 (by first | assumption | (have := zI0; have := zI1; have := zIm; omega) | decide) (by first | assumption | (have := zI0; have := zI1; have := zIm; omega) | decide) (by first | assumption | (have := zI0; have := zI1; have := zIm; omega) | decide) (by first | assumption | (have := zI0; have := zI1; have := zIm; omega) | decide) (by first | assumption | (have := zI0; have := zI1; have := zIm; omega) | decide) (by first | assumption | (have := zI0; have := zI1; have := zIm; omega) | decide) (by first | assumption | (have := zI0; have := zI1; have := zIm; omega) | decide) (by first | assumption | (have := zI0; have := zI1; have := zIm; omega) | decide) (by first | assumption | (have := zI0; have := zI1; have := zIm; omega) | decide) (by first | assumption | (have := zI0; have := zI1; have := zIm; omega) | decide) (by first | assumption | (have := zI0; have := zI1; have := zIm; omega) | decide) (by first | assumption | (have := zI0; have := zI1; have := zIm; omega) | decide) (by first | assumption | (have := zI0; have := zI1; have := zIm; omega) | decide) (by first | assumption | (have := zI0; have := zI1; have := zIm; omega) | decide) (by first | assumption | (have := zI0; have := zI1; have := zIm; omega) | decide) (by first | assumption | (have := zI0; have := zI1; have := zIm; omega) | decide) (by first | assumption | (have := zI0; have := zI1; have := zIm; omega) | decide) (by first | assumption | (have := zI0; have := zI1; have := zIm; omega) | decide) (by first | assumption | (have := zI0; have := zI1; have := zIm; omega) | decide) (by first | assumption | (have := zI0; have := zI1; have := zIm; omega) | decide) (by first | assumption | (have := zI0; have := zI1; have := zIm; omega) | decide) (by first | assumption | (have := zI0; have := zI1; have := zIm; omega) | decide)) hP hD hS hA hK hN hT hAB hG [0, 1, 2, 3, 4, 5, 6] [] rfl rfl (by decide) (by decide) (by decide) (cvB (n := 1) (inr70 _ (List.mem_of_getElem? (i := 6) rfl)) (inr70 _ (List.mem_of_getElem? (i := 7) rfl)) (inr70 _ (List.mem_of_getElem? (i := 8) rfl)) (inr1 _ (List.mem_of_getElem? (i := 5) rfl)) (inr70 _ (List.mem_of_getElem? (i := 9) rfl)) (by decide +kernel) hts rfl rfl ⟨Nat.le_of_ble_eq_true rfl, Nat.le_of_ble_eq_true rfl⟩) 0 12 rfl rfl rfl rfl hl.1 rfl (Nat.le_of_ble_eq_true rfl) ⟨Nat.le_of_ble_eq_true rfl, Nat.le_of_ble_eq_true rfl⟩ dX12_drawn_40 (fun x9 H locs h_31 hP hD hS => ?_)
          obtain ⟨t_32, t_33, t_34, t_35, t_36, t_37, g_38, g_39, g_40, g_41, g_42⟩ := x9
          have hP : va_P D vwCl [(mO h0 v0_thrown h_world h_images h_hasImage h_tape v0_taped h_five v0_size v0_at v0_from v0_token v0_value v0_faultKind v0_faultPlace h_fresh h_spokenAt h_heardAt h_lastAt h_answerAt t_32 t_33 t_34 t_35 t_36 t_37 h_heardNow h_seenAt v0_roundFrom v0_roundTo v0_goLast v0_goAnswer v0_goHeard h_fewest h_costNow h_costThen h_lawsOf h_heardBy v0_lawMany v0_askWorst h_placesOf h_sentIn v0_placeMany v0_parentFirst h_lostBy h_many h_width h_numbers h_moving), (h_answerAt, .inl (cI, 62, .inl g_38)), (h_heardAt, .inl (cI, 61, .inl g_39)), (h_lastAt, .inl (cI, 62, .inl g_40)), (h_lostBy, .inl (cI, 61, .inl g_41)), (h_spokenAt, .inl (cI, 61, .inl g_42)), (h_world, .inl (cI, 53, .inl f_world))] H := hP
          have hD : va_D A [(mO h0 v0_thrown h_world h_images h_hasImage h_tape v0_taped h_five v0_size v0_at v0_from v0_token v0_value v0_faultKind v0_faultPlace h_fresh h_spokenAt h_heardAt h_lastAt h_answerAt t_32 t_33 t_34 t_35 t_36 t_37 h_heardNow h_seenAt v0_roundFrom v0_roundTo v0_goLast v0_goAnswer v0_goHeard h_fewest h_costNow h_costThen h_lawsOf h_heardBy v0_lawMany v0_askWorst h_placesOf h_sentIn v0_placeMany v0_parentFirst h_lostBy h_many h_width h_numbers h_moving), (h_answerAt, .inl (cI, 62, .inl g_38)), (h_heardAt, .inl (cI, 61, .inl g_39)), (h_lastAt, .inl (cI, 62, .inl g_40)), (h_lostBy, .inl (cI, 61, .inl g_41)), (h_spokenAt, .inl (cI, 61, .inl g_42)), (h_world, .inl (cI, 53, .inl f_world))] := hD
          have h_31 : (0 ≤ t_32.toInt ∧ t_32.toInt ≤ 8) ∧ (0 ≤ t_33.toInt ∧ t_33.toInt ≤ 8) ∧ (0 ≤ t_34.toInt ∧ t_34.toInt ≤ 9) ∧ (0 ≤ t_36.toInt ∧ t_36.toInt ≤ 1) ∧ (sg sgLa g_38) ∧ (sg sgSp g_39) ∧ (sg sgLa g_40) ∧ (sg sgSp g_42) := h_31
          obtain ⟨i_43, i_44, i_45, i_46, i_47, i_48, i_49, i_50⟩ := h_31
          refine lv_iload_n hx hb dX12_drawn_43 rfl (lv_at hl 3 rfl) ?_
          refine lv_if_ne (tgt := 56) hx hb dX12_drawn_44 (by decide) (fun c_51 => ?_) (fun c_51 => ?_)
          · have c_51 : ¬ v3.toInt = 0 := ci_ne_t c_51
            refine lv_iload_n hx hb dX12_drawn_56 rfl (lv_at hl 3 rfl) ?_
            refine lv_iconst (v := 1) hx hb dX12_drawn_57 (by decide) ?_
            refine lv_icmp_ne (tgt := 70) hx hb dX12_drawn_58 (by decide) (fun c_52 => ?_) (fun c_52 => ?_)
            · have c_52 : ¬ v3.toInt = 1 := ci_ne_t c_52
              refine lv_aload_n hx hb dX12_drawn_70 rfl (lv_at hl 0 rfl) ?_
              refine va_get (D := D) (ci := 12) (v := .ref h_answerAt) (C := RX12) (T := TX12) (N := 48) hx hb hts inlX12 hown hK hP 0 rfl rfl 18 (by decide) (hts _ (inr7 _ (List.mem_of_getElem? (i := 2) rfl))) (fun _ h9 => h9) rfl dX12_drawn_71 ?_
              refine lv_iload_n hx hb dX12_drawn_74 rfl (lv_at hl 2 rfl) ?_
              refine lv_iconst (v := 1) hx hb dX12_drawn_75 (by decide) ?_
              obtain ⟨t_53, et_53⟩ : ∃ v9 : Int32, v2 + 1 = v9 := ⟨_, rfl⟩
              refine z_iadd (v := t_53) hx hb dX12_drawn_76 et_53 ?_
              have ft_53 : t_53.toInt = v2.toInt + 1 := addT (a := v2.toInt) (b := 1) rfl (by decide) et_53 (by omega) (by omega)
              obtain ⟨t_54, et_54⟩ : ∃ v9 : Int32, g_38 (t_53 : Int32).toNatClampNeg = v9 := ⟨_, rfl⟩
              refine z_iald (v := t_54) hx hb hK hP 1 1 rfl rfl (vin_nat (by omega) (by omega)) et_54 dX12_drawn_77 ?_
              have ft_54 : 0 ≤ t_54.toInt ∧ t_54.toInt ≤ 8 := sgL (by assumption : sg sgLa g_38) 0 rfl (by omega) (by omega) (by omega) et_54
              exact ret _ _ _ _ _ (t_32, t_33, t_34, t_35, t_36, t_37, g_38, g_39, g_40, g_41, g_42) dX12_drawn_78 (show (0 ≤ t_32.toInt ∧ t_32.toInt ≤ 8) ∧ (0 ≤ t_33.toInt ∧ t_33.toInt ≤ 8) ∧ (0 ≤ t_34.toInt ∧ t_34.toInt ≤ 9) ∧ (0 ≤ t_36.toInt ∧ t_36.toInt ≤ 1) ∧ (sg sgLa g_38) ∧ (sg sgSp g_39) ∧ (sg sgLa g_40) ∧ (sg sgSp g_42) from ⟨(by first | assumption | (have := zI0; have := zI1; have := zIm; omega) | decide), (by first | assumption | (have := zI0; have := zI1; have := zIm; omega) | decide), (by first | assumption | (have := zI0; have := zI1; have := zIm; omega) | decide), (by first | assumption | (have := zI0; have := zI1; have := zIm; omega) | decide), (by first | assumption | (have := zI0; have := zI1; have := zIm; omega) | decide), (by first | assumption | (have := zI0; have := zI1; have := zIm; omega) | decide), (by first | assumption | (have := zI0; have := zI1; have := zIm; omega) | decide), (by first | assumption | (have := zI0; have := zI1; have := zIm; omega) | decide)⟩) (hP.sub [0, 1, 2, 3, 4, 5, 6] rfl) (hD.sub [0, 1, 2, 3, 4, 5, 6] (by decide) rfl) hS
            · have c_52 : v3.toInt = 1 := ci_ne_f c_52
              refine lv_aload_n hx hb dX12_drawn_61 rfl (lv_at hl 0 rfl) ?_
              refine va_get (D := D) (ci := 12) (v := .ref h_lostBy) (C := RX12) (T := TX12) (N := 48) hx hb hts inlX12 hown hK hP 0 rfl rfl 43 (by decide) (hts _ (inr7 _ (List.mem_of_getElem? (i := 13) rfl))) (fun _ h9 => h9) rfl dX12_drawn_62 ?_
              refine lv_iload_n hx hb dX12_drawn_65 rfl (lv_at hl 2 rfl) ?_
              obtain ⟨t_55, et_55⟩ : ∃ v9 : Int32, g_41 (v2 : Int32).toNatClampNeg = v9 := ⟨_, rfl⟩
              refine z_iald (v := t_55) hx hb hK hP 4 1 rfl rfl (vin_nat (by omega) (by omega)) et_55 dX12_drawn_66 ?_
              refine lv_goto (tgt := 78) hx hb dX12_drawn_67 (by decide) ?_
              exact ret _ _ _ _ _ (t_32, t_33, t_34, t_35, t_36, t_37, g_38, g_39, g_40, g_41, g_42) dX12_drawn_78 (show (0 ≤ t_32.toInt ∧ t_32.toInt ≤ 8) ∧ (0 ≤ t_33.toInt ∧ t_33.toInt ≤ 8) ∧ (0 ≤ t_34.toInt ∧ t_34.toInt ≤ 9) ∧ (0 ≤ t_36.toInt ∧ t_36.toInt ≤ 1) ∧ (sg sgLa g_38) ∧ (sg sgSp g_39) ∧ (sg sgLa g_40) ∧ (sg sgSp g_42) from ⟨(by first | assumption | (have := zI0; have := zI1; have := zIm; omega) | decide), (by first | assumption | (have := zI0; have := zI1; have := zIm; omega) | decide), (by first | assumption | (have := zI0; have := zI1; have := zIm; omega) | decide), (by first | assumption | (have := zI0; have := zI1; have := zIm; omega) | decide), (by first | assumption | (have := zI0; have := zI1; have := zIm; omega) | decide), (by first | assumption | (have := zI0; have := zI1; have := zIm; omega) | decide), (by first | assumption | (have := zI0; have := zI1; have := zIm; omega) | decide), (by first | assumption | (have := zI0; have := zI1; have := zIm; omega) | decide)⟩) (hP.sub [0, 1, 2, 3, 4, 5, 6] rfl) (hD.sub [0, 1, 2, 3, 4, 5, 6] (by decide) rfl) hS
          · have c_51 : v3.toInt = 0 := ci_ne_f c_51
            refine lv_aload_n hx hb dX12_drawn_47 rfl (lv_at hl 0 rfl) ?_
            refine va_get (D := D) (ci := 12) (v := .ref h_heardAt) (C := RX12) (T := TX12) (N := 48) hx hb hts inlX12 hown hK hP 0 rfl rfl 16 (by decide) (hts _ (inr7 _ (List.mem_of_getElem? (i := 0) rfl))) (fun _ h9 => h9) rfl dX12_drawn_48 ?_
            refine lv_iload_n hx hb dX12_drawn_51 rfl (lv_at hl 2 rfl) ?_
            obtain ⟨t_56, et_56⟩ : ∃ v9 : Int32, g_39 (v2 : Int32).toNatClampNeg = v9 := ⟨_, rfl⟩
            refine z_iald (v := t_56) hx hb hK hP 2 1 rfl rfl (vin_nat (by omega) (by omega)) et_56 dX12_drawn_52 ?_
            have ft_56 : (-1) ≤ t_56.toInt ∧ t_56.toInt ≤ 8 := sgL (by assumption : sg sgSp g_39) 0 rfl (by omega) (by omega) (by omega) et_56
            refine lv_goto (tgt := 78) hx hb dX12_drawn_53 (by decide) ?_
            exact ret _ _ _ _ _ (t_32, t_33, t_34, t_35, t_36, t_37, g_38, g_39, g_40, g_41, g_42) dX12_drawn_78 (show (0 ≤ t_32.toInt ∧ t_32.toInt ≤ 8) ∧ (0 ≤ t_33.toInt ∧ t_33.toInt ≤ 8) ∧ (0 ≤ t_34.toInt ∧ t_34.toInt ≤ 9) ∧ (0 ≤ t_36.toInt ∧ t_36.toInt ≤ 1) ∧ (sg sgLa g_38) ∧ (sg sgSp g_39) ∧ (sg sgLa g_40) ∧ (sg sgSp g_42) from ⟨(by first | assumption | (have := zI0; have := zI1; have := zIm; omega) | decide), (by first | assumption | (have := zI0; have := zI1; have := zIm; omega) | decide), (by first | assumption | (have := zI0; have := zI1; have := zIm; omega) | decide), (by first | assumption | (have := zI0; have := zI1; have := zIm; omega) | decide), (by first | assumption | (have := zI0; have := zI1; have := zIm; omega) | decide), (by first | assumption | (have := zI0; have := zI1; have := zIm; omega) | decide), (by first | assumption | (have := zI0; have := zI1; have := zIm; omega) | decide), (by first | assumption | (have := zI0; have := zI1; have := zIm; omega) | decide)⟩) (hP.sub [0, 1, 2, 3, 4, 5, 6] rfl) (hD.sub [0, 1, 2, 3, 4, 5, 6] (by decide) rfl) hS
        · have c_27 : r_23.toInt = 0 := ci_ne_f c_27
          have b_r_23 := i32b r_23
          have d_57 : (t_22.toInt < 0 ∨ 2 < t_22.toInt) := by omega
          clear i_25
          refine lv_bipush (v := (-2)) hx hb dX12_drawn_34 (by decide) ?_
          exact ret _ _ _ _ _ (v0_lawA, v0_lawB, v0_lawC, v0_drawX, v0_isDrawn, v0_lostMany, f_answerAt, f_heardAt, f_lastAt, f_lostBy, f_spokenAt) dX12_drawn_36 (show (0 ≤ v0_lawA.toInt ∧ v0_lawA.toInt ≤ 8) ∧ (0 ≤ v0_lawB.toInt ∧ v0_lawB.toInt ≤ 8) ∧ (0 ≤ v0_lawC.toInt ∧ v0_lawC.toInt ≤ 9) ∧ (0 ≤ v0_isDrawn.toInt ∧ v0_isDrawn.toInt ≤ 1) ∧ (sg sgLa f_answerAt) ∧ (sg sgSp f_heardAt) ∧ (sg sgLa f_lastAt) ∧ (sg sgSp f_spokenAt) from ⟨(by first | assumption | (have := zI0; have := zI1; have := zIm; omega) | decide), (by first | assumption | (have := zI0; have := zI1; have := zIm; omega) | decide), (by first | assumption | (have := zI0; have := zI1; have := zIm; omega) | decide), (by first | assumption | (have := zI0; have := zI1; have := zIm; omega) | decide), (by first | assumption | (have := zI0; have := zI1; have := zIm; omega) | decide), (by first | assumption | (have := zI0; have := zI1; have := zIm; omega) | decide), (by first | assumption | (have := zI0; have := zI1; have := zIm; omega) | decide), (by first | assumption | (have := zI0; have := zI1; have := zIm; omega) | decide)⟩) (hP.sub [0, 1, 2, 3, 4, 5, 6] rfl) (hD.sub [0, 1, 2, 3, 4, 5, 6] (by decide) rfl) hS

set_option maxHeartbeats 4000000 in
set_option maxRecDepth 100000 in
theorem b_X12_luck_l53 {p : Program} {l : Launch} {e : Env} {s : State} {m : MethodId} {args : Array Value} {below : List Frame} {meth : Method} {c : Code} {Q : State → Prop} {G : Gho} {D : va_G} {cB cI cJ cZ cS cT : ClassId} {A : Nat → Prop} (h0 : Nat) (v0_thrown : Int32) (h_world : Nat) (h_images : Nat) (h_hasImage : Nat) (h_tape : Nat) (v0_taped : Int32) (h_five : Nat) (v0_size : Int32) (v0_at : Int32) (v0_from : Int32) (v0_token : Int32) (v0_value : Int32) (v0_faultKind : Int32) (v0_faultPlace : Int32) (h_fresh : Nat) (h_spokenAt : Nat) (h_heardAt : Nat) (h_lastAt : Nat) (h_answerAt : Nat) (v0_lawA : Int32) (v0_lawB : Int32) (v0_lawC : Int32) (v0_isDrawn : Int32) (h_heardNow : Nat) (h_seenAt : Nat) (v0_roundFrom : Int32) (v0_roundTo : Int32) (v0_goLast : Int32) (v0_goAnswer : Int32) (v0_goHeard : Int32) (h_fewest : Nat) (h_costNow : Nat) (h_costThen : Nat) (h_lawsOf : Nat) (h_heardBy : Nat) (v0_lawMany : Int32) (v0_askWorst : Int32) (h_placesOf : Nat) (h_sentIn : Nat) (v0_placeMany : Int32) (v0_parentFirst : Int32) (h_lostBy : Nat) (h_many : Nat) (h_width : Nat) (h_numbers : Nat) (h_moving : Nat) (f_answerAt : Nat → Int32) (f_heardAt : Nat → Int32) (f_lastAt : Nat → Int32) (f_spokenAt : Nat → Int32) (f_world : Nat → Int32) (v1 : Int32) (v2 : Int32) (v3 : Int32) (v4 : Int32) (iv0_taped : 0 ≤ v0_taped.toInt ∧ v0_taped.toInt ≤ 500) (iv0_size : 0 ≤ v0_size.toInt ∧ v0_size.toInt ≤ 500) (iv0_at : 0 ≤ v0_at.toInt ∧ v0_at.toInt ≤ 500) (iv0_from : 0 ≤ v0_from.toInt ∧ v0_from.toInt ≤ 500) (iv0_faultKind : 0 ≤ v0_faultKind.toInt ∧ v0_faultKind.toInt ≤ 3) (iv0_lawA : 0 ≤ v0_lawA.toInt ∧ v0_lawA.toInt ≤ 8) (iv0_lawB : 0 ≤ v0_lawB.toInt ∧ v0_lawB.toInt ≤ 8) (iv0_lawC : 0 ≤ v0_lawC.toInt ∧ v0_lawC.toInt ≤ 9) (iv0_isDrawn : 0 ≤ v0_isDrawn.toInt ∧ v0_isDrawn.toInt ≤ 1) (iv0_roundFrom : 0 ≤ v0_roundFrom.toInt ∧ v0_roundFrom.toInt ≤ 648) (iv0_roundTo : 0 ≤ v0_roundTo.toInt ∧ v0_roundTo.toInt ≤ 648) (iv0_goLast : 0 ≤ v0_goLast.toInt ∧ v0_goLast.toInt ≤ 8) (iv0_goAnswer : 0 ≤ v0_goAnswer.toInt ∧ v0_goAnswer.toInt ≤ 8) (iv0_lawMany : 0 ≤ v0_lawMany.toInt ∧ v0_lawMany.toInt ≤ 729) (iv0_placeMany : 0 ≤ v0_placeMany.toInt ∧ v0_placeMany.toInt ≤ 100) (pf_answerAt : sg sgLa f_answerAt) (pf_heardAt : sg sgSp f_heardAt) (pf_lastAt : sg sgLa f_lastAt) (pf_spokenAt : sg sgSp f_spokenAt) (pf_world : sg sgWo f_world) (cf_world : 0 < (f_world 9).toInt → 2 ≤ (f_world 0).toInt) (zv1 : 0 ≤ v1.toInt ∧ v1.toInt ≤ 2000000000) (zv2 : 1 ≤ v2.toInt ∧ v2.toInt ≤ 20) (zv3 : 0 ≤ v3.toInt ∧ v3.toInt ≤ 60) (zv4 : 0 ≤ v4.toInt ∧ v4.toInt ≤ 8) (d_7 : 0 < (f_world 9).toInt) (d_13 : 0 ≤ v1.toInt ∧ v1.toInt ≤ 2000000000) (C : Cx p s m args c RX12 cX12_luck 7 G D (tyL cB cI cJ cZ cS cT)) (hG : G.1 ≤ s.heap.size) (hAB : ∀ q, A q → G.1 ≤ q) (hA : ∀ q : Nat, s.heap.size ≤ q → A q) (ret : RetI p l e ({ frames := 5, cells := 0, slots := 0, locals := 111 }) s m args below meth c cX12_luck D A (fun x : Int32 × Int32 × Int32 × Int64 × Int32 × Int32 × (Nat → Int32) × (Nat → Int32) × (Nat → Int32) × (Nat → Int32) × (Nat → Int32) => [(mO h0 v0_thrown h_world h_images h_hasImage h_tape v0_taped h_five v0_size v0_at v0_from v0_token v0_value v0_faultKind v0_faultPlace h_fresh h_spokenAt h_heardAt h_lastAt h_answerAt x.1 x.2.1 x.2.2.1 x.2.2.2.1 x.2.2.2.2.1 x.2.2.2.2.2.1 h_heardNow h_seenAt v0_roundFrom v0_roundTo v0_goLast v0_goAnswer v0_goHeard h_fewest h_costNow h_costThen h_lawsOf h_heardBy v0_lawMany v0_askWorst h_placesOf h_sentIn v0_placeMany v0_parentFirst h_lostBy h_many h_width h_numbers h_moving), (h_answerAt, .inl (cI, 62, .inl x.2.2.2.2.2.2.1)), (h_heardAt, .inl (cI, 61, .inl x.2.2.2.2.2.2.2.1)), (h_lastAt, .inl (cI, 62, .inl x.2.2.2.2.2.2.2.2.1)), (h_lostBy, .inl (cI, 61, .inl x.2.2.2.2.2.2.2.2.2.1)), (h_spokenAt, .inl (cI, 61, .inl x.2.2.2.2.2.2.2.2.2.2)), (h_world, .inl (cI, 53, .inl f_world))]) (fun (r : Int32) (x : Int32 × Int32 × Int32 × Int64 × Int32 × Int32 × (Nat → Int32) × (Nat → Int32) × (Nat → Int32) × (Nat → Int32) × (Nat → Int32)) => (0 ≤ x.1.toInt ∧ x.1.toInt ≤ 8) ∧ (0 ≤ x.2.1.toInt ∧ x.2.1.toInt ≤ 8) ∧ (0 ≤ x.2.2.1.toInt ∧ x.2.2.1.toInt ≤ 9) ∧ (0 ≤ x.2.2.2.2.1.toInt ∧ x.2.2.2.2.1.toInt ≤ 1) ∧ (sg sgLa x.2.2.2.2.2.2.1) ∧ (sg sgSp x.2.2.2.2.2.2.2.1) ∧ (sg sgLa x.2.2.2.2.2.2.2.2.1) ∧ (sg sgSp x.2.2.2.2.2.2.2.2.2.2)) Q) :
    ∀ (N : Nat) (u53_0_lawA : Int32) (u53_0_lawB : Int32) (u53_0_lawC : Int32) (u53_0_drawX : Int64) (u53_0_isDrawn : Int32) (u53_0_lostMany : Int32) (g53_answerAt : Nat → Int32) (g53_heardAt : Nat → Int32) (g53_lastAt : Nat → Int32) (g53_lostBy : Nat → Int32) (g53_spokenAt : Nat → Int32) (l53_6 : Int32) (l53_5 : Int32) (H : Heap) (locs : List Loc) (ls : Array Slot), 0 ≤ l53_6.toInt → 0 ≤ u53_0_lawA.toInt ∧ u53_0_lawA.toInt ≤ 8 → 0 ≤ u53_0_lawB.toInt ∧ u53_0_lawB.toInt ≤ 8 → 0 ≤ u53_0_lawC.toInt ∧ u53_0_lawC.toInt ≤ 9 → 0 ≤ u53_0_isDrawn.toInt ∧ u53_0_isDrawn.toInt ≤ 1 → sg sgLa g53_answerAt → sg sgSp g53_heardAt → sg sgLa g53_lastAt → sg sgSp g53_spokenAt → (v2.toInt - l53_6.toInt).toNat < N → va_P D vwCl [(mO h0 v0_thrown h_world h_images h_hasImage h_tape v0_taped h_five v0_size v0_at v0_from v0_token v0_value v0_faultKind v0_faultPlace h_fresh h_spokenAt h_heardAt h_lastAt h_answerAt u53_0_lawA u53_0_lawB u53_0_lawC u53_0_drawX u53_0_isDrawn u53_0_lostMany h_heardNow h_seenAt v0_roundFrom v0_roundTo v0_goLast v0_goAnswer v0_goHeard h_fewest h_costNow h_costThen h_lawsOf h_heardBy v0_lawMany v0_askWorst h_placesOf h_sentIn v0_placeMany v0_parentFirst h_lostBy h_many h_width h_numbers h_moving), (h_answerAt, .inl (cI, 62, .inl g53_answerAt)), (h_heardAt, .inl (cI, 61, .inl g53_heardAt)), (h_lastAt, .inl (cI, 62, .inl g53_lastAt)), (h_lostBy, .inl (cI, 61, .inl g53_lostBy)), (h_spokenAt, .inl (cI, 61, .inl g53_spokenAt)), (h_world, .inl (cI, 53, .inl f_world))] H → va_D A [(mO h0 v0_thrown h_world h_images h_hasImage h_tape v0_taped h_five v0_size v0_at v0_from v0_token v0_value v0_faultKind v0_faultPlace h_fresh h_spokenAt h_heardAt h_lastAt h_answerAt u53_0_lawA u53_0_lawB u53_0_lawC u53_0_drawX u53_0_isDrawn u53_0_lostMany h_heardNow h_seenAt v0_roundFrom v0_roundTo v0_goLast v0_goAnswer v0_goHeard h_fewest h_costNow h_costThen h_lawsOf h_heardBy v0_lawMany v0_askWorst h_placesOf h_sentIn v0_placeMany v0_parentFirst h_lostBy h_many h_width h_numbers h_moving), (h_answerAt, .inl (cI, 62, .inl g53_answerAt)), (h_heardAt, .inl (cI, 61, .inl g53_heardAt)), (h_lastAt, .inl (cI, 62, .inl g53_lastAt)), (h_lostBy, .inl (cI, 61, .inl g53_lostBy)), (h_spokenAt, .inl (cI, 61, .inl g53_spokenAt)), (h_world, .inl (cI, 53, .inl f_world))] → va_S A s.heap H locs → lv_has ls 7 [(6, .int l53_6), (5, .int l53_5), (0, .ref h0), (1, .int v1), (2, .int v2), (3, .int v3), (4, .int v4)] → W p l e ({ frames := 5, cells := 0, slots := 0, locals := 111 }) s m args below meth c H locs 0 0 Q (F0 m 53 ls []) := by
  obtain ⟨hx, hb, hml, hown, hts, hK, hN, hT⟩ := id C
  intro N
  induction N with
  | zero =>
    intro u53_0_lawA u53_0_lawB u53_0_lawC u53_0_drawX u53_0_isDrawn u53_0_lostMany g53_answerAt g53_heardAt g53_lastAt g53_lostBy g53_spokenAt l53_6 l53_5 H locs ls kl53_6 iu53_0_lawA iu53_0_lawB iu53_0_lawC iu53_0_isDrawn pg53_answerAt pg53_heardAt pg53_lastAt pg53_spokenAt hM_53 hP hD hS hl
    omega
  | succ N_53 ih_53 =>
    intro u53_0_lawA u53_0_lawB u53_0_lawC u53_0_drawX u53_0_isDrawn u53_0_lostMany g53_answerAt g53_heardAt g53_lastAt g53_lostBy g53_spokenAt l53_6 l53_5 H locs ls kl53_6 iu53_0_lawA iu53_0_lawB iu53_0_lawC iu53_0_isDrawn pg53_answerAt pg53_heardAt pg53_lastAt pg53_spokenAt hM_53 hP hD hS hl
    have b_l53_6 := i32b l53_6
    refine lv_iload hx hb dX12_luck_53 (lv_at hl 0 rfl) ?_
    refine lv_iload_n hx hb dX12_luck_55 rfl (lv_at hl 4 rfl) ?_
    refine lv_icmp_ge (tgt := 96) hx hb dX12_luck_56 (by decide) (fun c_38 => ?_) (fun c_38 => ?_)
    · have c_38 : v2.toInt ≤ l53_6.toInt := ci_ge_t c_38
      have b_v2 := i32b v2
      refine lv_iload hx hb dX12_luck_96 (lv_at hl 1 rfl) ?_
      exact ret _ _ _ _ _ (u53_0_lawA, u53_0_lawB, u53_0_lawC, u53_0_drawX, u53_0_isDrawn, u53_0_lostMany, g53_answerAt, g53_heardAt, g53_lastAt, g53_lostBy, g53_spokenAt) dX12_luck_98 (show (0 ≤ u53_0_lawA.toInt ∧ u53_0_lawA.toInt ≤ 8) ∧ (0 ≤ u53_0_lawB.toInt ∧ u53_0_lawB.toInt ≤ 8) ∧ (0 ≤ u53_0_lawC.toInt ∧ u53_0_lawC.toInt ≤ 9) ∧ (0 ≤ u53_0_isDrawn.toInt ∧ u53_0_isDrawn.toInt ≤ 1) ∧ (sg sgLa g53_answerAt) ∧ (sg sgSp g53_heardAt) ∧ (sg sgLa g53_lastAt) ∧ (sg sgSp g53_spokenAt) from ⟨(by first | assumption | (have := zI0; have := zI1; have := zIm; omega) | decide), (by first | assumption | (have := zI0; have := zI1; have := zIm; omega) | decide), (by first | assumption | (have := zI0; have := zI1; have := zIm; omega) | decide), (by first | assumption | (have := zI0; have := zI1; have := zIm; omega) | decide), (by first | assumption | (have := zI0; have := zI1; have := zIm; omega) | decide), (by first | assumption | (have := zI0; have := zI1; have := zIm; omega) | decide), (by first | assumption | (have := zI0; have := zI1; have := zIm; omega) | decide), (by first | assumption | (have := zI0; have := zI1; have := zIm; omega) | decide)⟩) (hP.sub [0, 1, 2, 3, 4, 5, 6] rfl) (hD.sub [0, 1, 2, 3, 4, 5, 6] (by decide) rfl) hS
    · have c_38 : l53_6.toInt < v2.toInt := ci_ge_f c_38
      have b_v2 := i32b v2
      refine lv_aload_n hx hb dX12_luck_59 rfl (lv_at hl 2 rfl) ?_
      refine lv_iload_n hx hb dX12_luck_60 rfl (lv_at hl 3 rfl) ?_
      have b_v1 := i32b v1
      obtain ⟨t_39, et_39⟩ : ∃ v9 : Int64, (v1 : Int32).toInt64 = v9 := ⟨_, rfl⟩
      refine lv_i2l (v := t_39) hx hb dX12_luck_61 et_39 ?_
      have ft_39 : t_39.toInt = v1.toInt := by rw [← et_39]; exact Int32.toInt_toInt64 _
      refine lv_iload hx hb dX12_luck_62 (lv_at hl 0 rfl) ?_
      obtain ⟨t_40, et_40⟩ : ∃ v9 : Int64, (l53_6 : Int32).toInt64 = v9 := ⟨_, rfl⟩
      refine lv_i2l (v := t_40) hx hb dX12_luck_64 et_40 ?_
      have ft_40 : t_40.toInt = l53_6.toInt := by rw [← et_40]; exact Int32.toInt_toInt64 _
      obtain ⟨t_41, et_41⟩ : ∃ v9 : Int64, t_39 + t_40 = v9 := ⟨_, rfl⟩
      refine z_ladd (v := t_41) hx hb dX12_luck_65 et_41 ?_
      have ft_41 : t_41.toInt = t_39.toInt + t_40.toInt := addTL (a := t_39.toInt) (b := t_40.toInt) rfl rfl et_41 (by omega) (by omega)
      refine wrVv (As := [.long t_41]) (rest := []) (wr := []) ⟨hx, hb, hml, hown, hts⟩ (b_X12_goDrawn l G D cB cI cJ cZ cS cT H.size h0 v0_thrown h_world h_images h_hasImage h_tape v0_taped h_five v0_size v0_at v0_from v0_token v0_value v0_faultKind v0_faultPlace h_fresh h_spokenAt h_heardAt h_lastAt h_answerAt u53_0_lawA u53_0_lawB u53_0_lawC u53_0_drawX u53_0_isDrawn u53_0_lostMany h_heardNow h_seenAt v0_roundFrom v0_roundTo v0_goLast v0_goAnswer v0_goHeard h_fewest h_costNow h_costThen h_lawsOf h_heardBy v0_lawMany v0_askWorst h_placesOf h_sentIn v0_placeMany v0_parentFirst h_lostBy h_many h_width h_numbers h_moving g53_answerAt g53_heardAt g53_lastAt g53_lostBy g53_spokenAt f_world t_41 (by first | assumption | (have := zI0; have := zI1; have := zIm; omega) | decide) (by first | assumption | (have := zI0; have := zI1; have := zIm; omega) | decide) (by first | assumption | (have := zI0; have := zI1; have := zIm; omega) | decide) (by first | assumption | (have := zI0; have := zI1; have := zIm; omega) | decide) (by first | assumption | (have := zI0; have := zI1; have := zIm; omega) | decide) (by first | assumption | (have := zI0; have := zI1; have := zIm; omega) | decide) (by first | assumption | (have := zI0; have := zI1; have := zIm; omega) | decide) (by first | assumption | (have := zI0; have := zI1; have := zIm; omega) | decide) (by first | assumption | (have := zI0; have := zI1; have := zIm; omega) | decide) (by first | assumption | (have := zI0; have := zI1; have := zIm; omega) | decide) (by first | assumption | (have := zI0; have := zI1; have := zIm; omega) | decide) (by first | assumption | (have := zI0; have := zI1; have := zIm; omega) | decide) (by first | assumption | (have := zI0; have := zI1; have := zIm; omega) | decide) (by first | assumption | (have := zI0; have := zI1; have := zIm; omega) | decide) (by first | assumption | (have := zI0; have := zI1; have := zIm; omega) | decide) (by first | assumption | (have := zI0; have := zI1; have := zIm; omega) | decide) (by first | assumption | (have := zI0; have := zI1; have := zIm; omega) | decide) (by first | assumption | (have := zI0; have := zI1; have := zIm; omega) | decide) (by first | assumption | (have := zI0; have := zI1; have := zIm; omega) | decide) (by first | assumption | (have := zI0; have := zI1; have := zIm; omega) | decide) (by first | assumption | (have := zI0; have := zI1; have := zIm; omega) | decide) (by first | assumption | (have := zI0; have := zI1; have := zIm; omega) | decide)) hP hD hS hA hK hN hT hAB hG [0, 1, 2, 3, 4, 5, 6] [] rfl rfl (by decide) (by decide) (by decide) (cvB (n := 1) (inr70 _ (List.mem_of_getElem? (i := 6) rfl)) (inr70 _ (List.mem_of_getElem? (i := 7) rfl)) (inr70 _ (List.mem_of_getElem? (i := 8) rfl)) (inr1 _ (List.mem_of_getElem? (i := 5) rfl)) (inr70 _ (List.mem_of_getElem? (i := 9) rfl)) (by decide +kernel) hts rfl rfl ⟨Nat.le_of_ble_eq_true rfl, Nat.le_of_ble_eq_true rfl⟩) 0 12 rfl rfl rfl rfl hl.1 rfl (Nat.le_of_ble_eq_true rfl) ⟨Nat.le_of_ble_eq_true rfl, Nat.le_of_ble_eq_true rfl⟩ dX12_luck_66 (fun x9 H locs h_43 hP hD hS => ?_)
      obtain ⟨t_44, t_45, t_46, t_47, t_48, t_49, g_50, g_51, g_52, g_53, g_54⟩ := x9
      have hP : va_P D vwCl [(mO h0 v0_thrown h_world h_images h_hasImage h_tape v0_taped h_five v0_size v0_at v0_from v0_token v0_value v0_faultKind v0_faultPlace h_fresh h_spokenAt h_heardAt h_lastAt h_answerAt t_44 t_45 t_46 t_47 t_48 t_49 h_heardNow h_seenAt v0_roundFrom v0_roundTo v0_goLast v0_goAnswer v0_goHeard h_fewest h_costNow h_costThen h_lawsOf h_heardBy v0_lawMany v0_askWorst h_placesOf h_sentIn v0_placeMany v0_parentFirst h_lostBy h_many h_width h_numbers h_moving), (h_answerAt, .inl (cI, 62, .inl g_50)), (h_heardAt, .inl (cI, 61, .inl g_51)), (h_lastAt, .inl (cI, 62, .inl g_52)), (h_lostBy, .inl (cI, 61, .inl g_53)), (h_spokenAt, .inl (cI, 61, .inl g_54)), (h_world, .inl (cI, 53, .inl f_world))] H := hP
      have hD : va_D A [(mO h0 v0_thrown h_world h_images h_hasImage h_tape v0_taped h_five v0_size v0_at v0_from v0_token v0_value v0_faultKind v0_faultPlace h_fresh h_spokenAt h_heardAt h_lastAt h_answerAt t_44 t_45 t_46 t_47 t_48 t_49 h_heardNow h_seenAt v0_roundFrom v0_roundTo v0_goLast v0_goAnswer v0_goHeard h_fewest h_costNow h_costThen h_lawsOf h_heardBy v0_lawMany v0_askWorst h_placesOf h_sentIn v0_placeMany v0_parentFirst h_lostBy h_many h_width h_numbers h_moving), (h_answerAt, .inl (cI, 62, .inl g_50)), (h_heardAt, .inl (cI, 61, .inl g_51)), (h_lastAt, .inl (cI, 62, .inl g_52)), (h_lostBy, .inl (cI, 61, .inl g_53)), (h_spokenAt, .inl (cI, 61, .inl g_54)), (h_world, .inl (cI, 53, .inl f_world))] := hD
      have h_43 : (0 ≤ t_44.toInt ∧ t_44.toInt ≤ 8) ∧ (0 ≤ t_45.toInt ∧ t_45.toInt ≤ 8) ∧ (0 ≤ t_46.toInt ∧ t_46.toInt ≤ 9) ∧ (0 ≤ t_48.toInt ∧ t_48.toInt ≤ 1) ∧ (sg sgLa g_50) ∧ (sg sgSp g_51) ∧ (sg sgLa g_52) ∧ (sg sgSp g_54) := h_43
      obtain ⟨i_55, i_56, i_57, i_58, i_59, i_60, i_61, i_62⟩ := h_43
      refine lv_iload hx hb dX12_luck_69 (lv_at hl 1 rfl) ?_
      refine lv_aload_n hx hb dX12_luck_71 rfl (lv_at hl 2 rfl) ?_
      refine va_get (D := D) (ci := 12) (v := .ref h_heardAt) (C := RX12) (T := TX12) (N := 48) hx hb hts inlX12 hown hK hP 0 rfl rfl 16 (by decide) (hts _ (inr7 _ (List.mem_of_getElem? (i := 0) rfl))) (fun _ h9 => h9) rfl dX12_luck_72 ?_
      refine lv_iload_n hx hb dX12_luck_75 rfl (lv_at hl 5 rfl) ?_
      obtain ⟨t_63, et_63⟩ : ∃ v9 : Int32, g_51 (v3 : Int32).toNatClampNeg = v9 := ⟨_, rfl⟩
      refine z_iald (v := t_63) hx hb hK hP 2 1 rfl rfl (vin_nat (by omega) (by omega)) et_63 dX12_luck_76 ?_
      have ft_63 : (-1) ≤ t_63.toInt ∧ t_63.toInt ≤ 8 := sgL (by assumption : sg sgSp g_51) 0 rfl (by omega) (by omega) (by omega) et_63
      refine lv_iload hx hb dX12_luck_77 (lv_at hl 6 rfl) ?_
      refine lv_icmp_ne (tgt := 86) hx hb dX12_luck_79 (by decide) (fun c_64 => ?_) (fun c_64 => ?_)
      · have c_64 : ¬ t_63.toInt = v4.toInt := ci_ne_t c_64
        have b_t_63 := i32b t_63
        have b_v4 := i32b v4
        refine lv_iconst (v := 0) hx hb dX12_luck_86 (by decide) ?_
        obtain ⟨t_65, et_65⟩ : ∃ v9 : Int32, l53_5 + 0 = v9 := ⟨_, rfl⟩
        refine z_iadd (v := t_65) hx hb dX12_luck_87 et_65 ?_
        have b_l53_5 := i32b l53_5
        have ft_65 : t_65.toInt = l53_5.toInt + 0 := addT (a := l53_5.toInt) (b := 0) rfl (by decide) et_65 (by omega) (by omega)
        refine lv_istore (lv' := [(5, .int t_65), (6, .int l53_6), (0, .ref h0), (1, .int v1), (2, .int v2), (3, .int v3), (4, .int v4)]) hx hb dX12_luck_88 hl (by decide) rfl (fun ls hl => ?_)
        obtain ⟨t_66, et_66⟩ : ∃ v9 : Int32, l53_6 + 1 = v9 := ⟨_, rfl⟩
        have ft_66 : t_66.toInt = l53_6.toInt + 1 := addT (a := l53_6.toInt) (b := 1) rfl (by decide) et_66 (by omega) (by omega)
        refine lv_iinc (v := t_66) (lv' := [(6, .int t_66), (5, .int t_65), (0, .ref h0), (1, .int v1), (2, .int v2), (3, .int v3), (4, .int v4)]) hx hb dX12_luck_90 hl (k := 1) rfl (by rw [← et_66]; rfl) (by decide) rfl (fun ls hl => ?_)
        refine lv_goto (tgt := 53) hx hb dX12_luck_93 (by decide) ?_
        exact ih_53 (t_44) (t_45) (t_46) (t_47) (t_48) (t_49) (g_50) (g_51) (g_52) (g_53) (g_54) (t_66) (t_65) _ _ _ (by first | assumption | (have := zI0; have := zI1; have := zIm; omega) | decide) (by first | assumption | (have := zI0; have := zI1; have := zIm; omega) | decide) (by first | assumption | (have := zI0; have := zI1; have := zIm; omega) | decide) (by first | assumption | (have := zI0; have := zI1; have := zIm; omega) | decide) (by first | assumption | (have := zI0; have := zI1; have := zIm; omega) | decide) (by first | assumption | (have := zI0; have := zI1; have := zIm; omega) | decide) (by first | assumption | (have := zI0; have := zI1; have := zIm; omega) | decide) (by first | assumption | (have := zI0; have := zI1; have := zIm; omega) | decide) (by first | assumption | (have := zI0; have := zI1; have := zIm; omega) | decide) (by omega) (hP.sub [0, 1, 2, 3, 4, 5, 6] rfl) (hD.sub [0, 1, 2, 3, 4, 5, 6] (by decide) rfl) hS (lv_sub hl [0, 1, 2, 3, 4, 5, 6] rfl)
      · have c_64 : t_63.toInt = v4.toInt := ci_ne_f c_64
        have b_t_63 := i32b t_63
        have b_v4 := i32b v4
        refine lv_iconst (v := 1) hx hb dX12_luck_82 (by decide) ?_
        refine lv_goto (tgt := 87) hx hb dX12_luck_83 (by decide) ?_
        obtain ⟨t_67, et_67⟩ : ∃ v9 : Int32, l53_5 + 1 = v9 := ⟨_, rfl⟩
        refine z_iadd (v := t_67) hx hb dX12_luck_87 et_67 ?_
        refine lv_istore (lv' := [(5, .int t_67), (6, .int l53_6), (0, .ref h0), (1, .int v1), (2, .int v2), (3, .int v3), (4, .int v4)]) hx hb dX12_luck_88 hl (by decide) rfl (fun ls hl => ?_)
        obtain ⟨t_68, et_68⟩ : ∃ v9 : Int32, l53_6 + 1 = v9 := ⟨_, rfl⟩
        have ft_68 : t_68.toInt = l53_6.toInt + 1 := addT (a := l53_6.toInt) (b := 1) rfl (by decide) et_68 (by omega) (by omega)
        refine lv_iinc (v := t_68) (lv' := [(6, .int t_68), (5, .int t_67), (0, .ref h0), (1, .int v1), (2, .int v2), (3, .int v3), (4, .int v4)]) hx hb dX12_luck_90 hl (k := 1) rfl (by rw [← et_68]; rfl) (by decide) rfl (fun ls hl => ?_)
        refine lv_goto (tgt := 53) hx hb dX12_luck_93 (by decide) ?_
        exact ih_53 (t_44) (t_45) (t_46) (t_47) (t_48) (t_49) (g_50) (g_51) (g_52) (g_53) (g_54) (t_68) (t_67) _ _ _ (by first | assumption | (have := zI0; have := zI1; have := zIm; omega) | decide) (by first | assumption | (have := zI0; have := zI1; have := zIm; omega) | decide) (by first | assumption | (have := zI0; have := zI1; have := zIm; omega) | decide) (by first | assumption | (have := zI0; have := zI1; have := zIm; omega) | decide) (by first | assumption | (have := zI0; have := zI1; have := zIm; omega) | decide) (by first | assumption | (have := zI0; have := zI1; have := zIm; omega) | decide) (by first | assumption | (have := zI0; have := zI1; have := zIm; omega) | decide) (by first | assumption | (have := zI0; have := zI1; have := zIm; omega) | decide) (by first | assumption | (have := zI0; have := zI1; have := zIm; omega) | decide) (by omega) (hP.sub [0, 1, 2, 3, 4, 5, 6] rfl) (hD.sub [0, 1, 2, 3, 4, 5, 6] (by decide) rfl) hS (lv_sub hl [0, 1, 2, 3, 4, 5, 6] rfl)

set_option maxHeartbeats 4000000 in
set_option maxRecDepth 100000 in
theorem b_X12_luck (l : Launch) (G : Gho) (D : va_G) (cB cI cJ cZ cS cT : ClassId) (sz : Nat) (h0 : Nat) (v0_thrown : Int32) (h_world : Nat) (h_images : Nat) (h_hasImage : Nat) (h_tape : Nat) (v0_taped : Int32) (h_five : Nat) (v0_size : Int32) (v0_at : Int32) (v0_from : Int32) (v0_token : Int32) (v0_value : Int32) (v0_faultKind : Int32) (v0_faultPlace : Int32) (h_fresh : Nat) (h_spokenAt : Nat) (h_heardAt : Nat) (h_lastAt : Nat) (h_answerAt : Nat) (v0_lawA : Int32) (v0_lawB : Int32) (v0_lawC : Int32) (v0_drawX : Int64) (v0_isDrawn : Int32) (v0_lostMany : Int32) (h_heardNow : Nat) (h_seenAt : Nat) (v0_roundFrom : Int32) (v0_roundTo : Int32) (v0_goLast : Int32) (v0_goAnswer : Int32) (v0_goHeard : Int32) (h_fewest : Nat) (h_costNow : Nat) (h_costThen : Nat) (h_lawsOf : Nat) (h_heardBy : Nat) (v0_lawMany : Int32) (v0_askWorst : Int32) (h_placesOf : Nat) (h_sentIn : Nat) (v0_placeMany : Int32) (v0_parentFirst : Int32) (h_lostBy : Nat) (h_many : Nat) (h_width : Nat) (h_numbers : Nat) (h_moving : Nat) (f_answerAt : Nat → Int32) (f_heardAt : Nat → Int32) (f_lastAt : Nat → Int32) (f_lostBy : Nat → Int32) (f_spokenAt : Nat → Int32) (f_world : Nat → Int32) (v1 : Int32) (v2 : Int32) (v3 : Int32) (v4 : Int32) (iv0_taped : 0 ≤ v0_taped.toInt ∧ v0_taped.toInt ≤ 500) (iv0_size : 0 ≤ v0_size.toInt ∧ v0_size.toInt ≤ 500) (iv0_at : 0 ≤ v0_at.toInt ∧ v0_at.toInt ≤ 500) (iv0_from : 0 ≤ v0_from.toInt ∧ v0_from.toInt ≤ 500) (iv0_faultKind : 0 ≤ v0_faultKind.toInt ∧ v0_faultKind.toInt ≤ 3) (iv0_lawA : 0 ≤ v0_lawA.toInt ∧ v0_lawA.toInt ≤ 8) (iv0_lawB : 0 ≤ v0_lawB.toInt ∧ v0_lawB.toInt ≤ 8) (iv0_lawC : 0 ≤ v0_lawC.toInt ∧ v0_lawC.toInt ≤ 9) (iv0_isDrawn : 0 ≤ v0_isDrawn.toInt ∧ v0_isDrawn.toInt ≤ 1) (iv0_roundFrom : 0 ≤ v0_roundFrom.toInt ∧ v0_roundFrom.toInt ≤ 648) (iv0_roundTo : 0 ≤ v0_roundTo.toInt ∧ v0_roundTo.toInt ≤ 648) (iv0_goLast : 0 ≤ v0_goLast.toInt ∧ v0_goLast.toInt ≤ 8) (iv0_goAnswer : 0 ≤ v0_goAnswer.toInt ∧ v0_goAnswer.toInt ≤ 8) (iv0_lawMany : 0 ≤ v0_lawMany.toInt ∧ v0_lawMany.toInt ≤ 729) (iv0_placeMany : 0 ≤ v0_placeMany.toInt ∧ v0_placeMany.toInt ≤ 100) (pf_answerAt : sg sgLa f_answerAt) (pf_heardAt : sg sgSp f_heardAt) (pf_lastAt : sg sgLa f_lastAt) (pf_spokenAt : sg sgSp f_spokenAt) (pf_world : sg sgWo f_world) (cf_world : 0 < (f_world 9).toInt → 2 ≤ (f_world 0).toInt) : Met l yX12_luck (Cond.code yX12_luck cX12_luck 7 (some .int) :: wsL_law) ({ frames := 5, cells := 0, slots := 0, locals := 111 }) (wrP G D (tyL cB cI cJ cZ cS cT) [(mO h0 v0_thrown h_world h_images h_hasImage h_tape v0_taped h_five v0_size v0_at v0_from v0_token v0_value v0_faultKind v0_faultPlace h_fresh h_spokenAt h_heardAt h_lastAt h_answerAt v0_lawA v0_lawB v0_lawC v0_drawX v0_isDrawn v0_lostMany h_heardNow h_seenAt v0_roundFrom v0_roundTo v0_goLast v0_goAnswer v0_goHeard h_fewest h_costNow h_costThen h_lawsOf h_heardBy v0_lawMany v0_askWorst h_placesOf h_sentIn v0_placeMany v0_parentFirst h_lostBy h_many h_width h_numbers h_moving), (h_answerAt, .inl (cI, 62, .inl f_answerAt)), (h_heardAt, .inl (cI, 61, .inl f_heardAt)), (h_lastAt, .inl (cI, 62, .inl f_lastAt)), (h_lostBy, .inl (cI, 61, .inl f_lostBy)), (h_spokenAt, .inl (cI, 61, .inl f_spokenAt)), (h_world, .inl (cI, 53, .inl f_world))] sz [.ref h0, .int v1, .int v2, .int v3, .int v4]) (va_Qi (fun (r : Int32) (x : Int32 × Int32 × Int32 × Int64 × Int32 × Int32 × (Nat → Int32) × (Nat → Int32) × (Nat → Int32) × (Nat → Int32) × (Nat → Int32)) => (0 ≤ x.1.toInt ∧ x.1.toInt ≤ 8) ∧ (0 ≤ x.2.1.toInt ∧ x.2.1.toInt ≤ 8) ∧ (0 ≤ x.2.2.1.toInt ∧ x.2.2.1.toInt ≤ 9) ∧ (0 ≤ x.2.2.2.2.1.toInt ∧ x.2.2.2.2.1.toInt ≤ 1) ∧ (sg sgLa x.2.2.2.2.2.2.1) ∧ (sg sgSp x.2.2.2.2.2.2.2.1) ∧ (sg sgLa x.2.2.2.2.2.2.2.2.1) ∧ (sg sgSp x.2.2.2.2.2.2.2.2.2.2)) (atW D (tyL cB cI cJ cZ cS cT) (va_A [(mO h0 v0_thrown h_world h_images h_hasImage h_tape v0_taped h_five v0_size v0_at v0_from v0_token v0_value v0_faultKind v0_faultPlace h_fresh h_spokenAt h_heardAt h_lastAt h_answerAt v0_lawA v0_lawB v0_lawC v0_drawX v0_isDrawn v0_lostMany h_heardNow h_seenAt v0_roundFrom v0_roundTo v0_goLast v0_goAnswer v0_goHeard h_fewest h_costNow h_costThen h_lawsOf h_heardBy v0_lawMany v0_askWorst h_placesOf h_sentIn v0_placeMany v0_parentFirst h_lostBy h_many h_width h_numbers h_moving), (h_answerAt, .inl (cI, 62, .inl f_answerAt)), (h_heardAt, .inl (cI, 61, .inl f_heardAt)), (h_lastAt, .inl (cI, 62, .inl f_lastAt)), (h_lostBy, .inl (cI, 61, .inl f_lostBy)), (h_spokenAt, .inl (cI, 61, .inl f_spokenAt)), (h_world, .inl (cI, 53, .inl f_world))] sz) (fun x : Int32 × Int32 × Int32 × Int64 × Int32 × Int32 × (Nat → Int32) × (Nat → Int32) × (Nat → Int32) × (Nat → Int32) × (Nat → Int32) => [(mO h0 v0_thrown h_world h_images h_hasImage h_tape v0_taped h_five v0_size v0_at v0_from v0_token v0_value v0_faultKind v0_faultPlace h_fresh h_spokenAt h_heardAt h_lastAt h_answerAt x.1 x.2.1 x.2.2.1 x.2.2.2.1 x.2.2.2.2.1 x.2.2.2.2.2.1 h_heardNow h_seenAt v0_roundFrom v0_roundTo v0_goLast v0_goAnswer v0_goHeard h_fewest h_costNow h_costThen h_lawsOf h_heardBy v0_lawMany v0_askWorst h_placesOf h_sentIn v0_placeMany v0_parentFirst h_lostBy h_many h_width h_numbers h_moving), (h_answerAt, .inl (cI, 62, .inl x.2.2.2.2.2.2.1)), (h_heardAt, .inl (cI, 61, .inl x.2.2.2.2.2.2.2.1)), (h_lastAt, .inl (cI, 62, .inl x.2.2.2.2.2.2.2.2.1)), (h_lostBy, .inl (cI, 61, .inl x.2.2.2.2.2.2.2.2.2.1)), (h_spokenAt, .inl (cI, 61, .inl x.2.2.2.2.2.2.2.2.2.2)), (h_world, .inl (cI, 53, .inl f_world))])) (va_A [(mO h0 v0_thrown h_world h_images h_hasImage h_tape v0_taped h_five v0_size v0_at v0_from v0_token v0_value v0_faultKind v0_faultPlace h_fresh h_spokenAt h_heardAt h_lastAt h_answerAt v0_lawA v0_lawB v0_lawC v0_drawX v0_isDrawn v0_lostMany h_heardNow h_seenAt v0_roundFrom v0_roundTo v0_goLast v0_goAnswer v0_goHeard h_fewest h_costNow h_costThen h_lawsOf h_heardBy v0_lawMany v0_askWorst h_placesOf h_sentIn v0_placeMany v0_parentFirst h_lostBy h_many h_width h_numbers h_moving), (h_answerAt, .inl (cI, 62, .inl f_answerAt)), (h_heardAt, .inl (cI, 61, .inl f_heardAt)), (h_lastAt, .inl (cI, 62, .inl f_lastAt)), (h_lostBy, .inl (cI, 61, .inl f_lostBy)), (h_spokenAt, .inl (cI, 61, .inl f_spokenAt)), (h_world, .inl (cI, 53, .inl f_world))] sz)) 0 0 (va_A [(mO h0 v0_thrown h_world h_images h_hasImage h_tape v0_taped h_five v0_size v0_at v0_from v0_token v0_value v0_faultKind v0_faultPlace h_fresh h_spokenAt h_heardAt h_lastAt h_answerAt v0_lawA v0_lawB v0_lawC v0_drawX v0_isDrawn v0_lostMany h_heardNow h_seenAt v0_roundFrom v0_roundTo v0_goLast v0_goAnswer v0_goHeard h_fewest h_costNow h_costThen h_lawsOf h_heardBy v0_lawMany v0_askWorst h_placesOf h_sentIn v0_placeMany v0_parentFirst h_lostBy h_many h_width h_numbers h_moving), (h_answerAt, .inl (cI, 62, .inl f_answerAt)), (h_heardAt, .inl (cI, 61, .inl f_heardAt)), (h_lastAt, .inl (cI, 62, .inl f_lastAt)), (h_lostBy, .inl (cI, 61, .inl f_lostBy)), (h_spokenAt, .inl (cI, 61, .inl f_spokenAt)), (h_world, .inl (cI, 53, .inl f_world))] sz) := by
  refine metI (own := RX12) (by decide) rfl ?_
  intro p e s m below meth c Q hsz C hG hP hD hAB ret
  obtain ⟨hx, hb, hml, hown, hts, hK, hN, hT⟩ := id C
  subst hsz
  generalize hAe : va_A [(mO h0 v0_thrown h_world h_images h_hasImage h_tape v0_taped h_five v0_size v0_at v0_from v0_token v0_value v0_faultKind v0_faultPlace h_fresh h_spokenAt h_heardAt h_lastAt h_answerAt v0_lawA v0_lawB v0_lawC v0_drawX v0_isDrawn v0_lostMany h_heardNow h_seenAt v0_roundFrom v0_roundTo v0_goLast v0_goAnswer v0_goHeard h_fewest h_costNow h_costThen h_lawsOf h_heardBy v0_lawMany v0_askWorst h_placesOf h_sentIn v0_placeMany v0_parentFirst h_lostBy h_many h_width h_numbers h_moving), (h_answerAt, .inl (cI, 62, .inl f_answerAt)), (h_heardAt, .inl (cI, 61, .inl f_heardAt)), (h_lastAt, .inl (cI, 62, .inl f_lastAt)), (h_lostBy, .inl (cI, 61, .inl f_lostBy)), (h_spokenAt, .inl (cI, 61, .inl f_spokenAt)), (h_world, .inl (cI, 53, .inl f_world))] s.heap.size = A at hD hAB ret ⊢
  have hA : ∀ q : Nat, s.heap.size ≤ q → A q := fun q h => by rw [← hAe]; exact Or.inr h
  have hS : va_S A s.heap s.heap [] := va_S.rf
  have hl := lv_entry ([.ref h0, .int v1, .int v2, .int v3, .int v4]) (n := 7) (Nat.le_of_ble_eq_true rfl)
  rw [lg_entry_eq]
  generalize (lg_sl ([.ref h0, .int v1, .int v2, .int v3, .int v4]) ++ List.replicate (7 - (lg_sl ([.ref h0, .int v1, .int v2, .int v3, .int v4])).length) Slot.unset).toArray = ls at hl ⊢
  have hl : lv_has ls 7 [(0, .ref h0), (1, .int v1), (2, .int v2), (3, .int v3), (4, .int v4)] := hl
  have hP : va_P D vwCl [(mO h0 v0_thrown h_world h_images h_hasImage h_tape v0_taped h_five v0_size v0_at v0_from v0_token v0_value v0_faultKind v0_faultPlace h_fresh h_spokenAt h_heardAt h_lastAt h_answerAt v0_lawA v0_lawB v0_lawC v0_drawX v0_isDrawn v0_lostMany h_heardNow h_seenAt v0_roundFrom v0_roundTo v0_goLast v0_goAnswer v0_goHeard h_fewest h_costNow h_costThen h_lawsOf h_heardBy v0_lawMany v0_askWorst h_placesOf h_sentIn v0_placeMany v0_parentFirst h_lostBy h_many h_width h_numbers h_moving), (h_answerAt, .inl (cI, 62, .inl f_answerAt)), (h_heardAt, .inl (cI, 61, .inl f_heardAt)), (h_lastAt, .inl (cI, 62, .inl f_lastAt)), (h_lostBy, .inl (cI, 61, .inl f_lostBy)), (h_spokenAt, .inl (cI, 61, .inl f_spokenAt)), (h_world, .inl (cI, 53, .inl f_world))] s.heap := hP
  refine lv_aload_n hx hb dX12_luck_0 rfl (lv_at hl 0 rfl) ?_
  refine roi (As := []) (rest := []) ⟨hx, hb, hml, hown, hts⟩ (b_X12_isStation l G D cB cI cJ cZ cS cT h0 v0_thrown h_world h_images h_hasImage h_tape v0_taped h_five v0_size v0_at v0_from v0_token v0_value v0_faultKind v0_faultPlace h_fresh h_spokenAt h_heardAt h_lastAt h_answerAt v0_lawA v0_lawB v0_lawC v0_drawX v0_isDrawn v0_lostMany h_heardNow h_seenAt v0_roundFrom v0_roundTo v0_goLast v0_goAnswer v0_goHeard h_fewest h_costNow h_costThen h_lawsOf h_heardBy v0_lawMany v0_askWorst h_placesOf h_sentIn v0_placeMany v0_parentFirst h_lostBy h_many h_width h_numbers h_moving f_world (by first | assumption | (have := zI0; have := zI1; have := zIm; omega) | decide) (by first | assumption | (have := zI0; have := zI1; have := zIm; omega) | decide) (by first | assumption | (have := zI0; have := zI1; have := zIm; omega) | decide) (by first | assumption | (have := zI0; have := zI1; have := zIm; omega) | decide) (by first | assumption | (have := zI0; have := zI1; have := zIm; omega) | decide) (by first | assumption | (have := zI0; have := zI1; have := zIm; omega) | decide) (by first | assumption | (have := zI0; have := zI1; have := zIm; omega) | decide) (by first | assumption | (have := zI0; have := zI1; have := zIm; omega) | decide) (by first | assumption | (have := zI0; have := zI1; have := zIm; omega) | decide) (by first | assumption | (have := zI0; have := zI1; have := zIm; omega) | decide) (by first | assumption | (have := zI0; have := zI1; have := zIm; omega) | decide) (by first | assumption | (have := zI0; have := zI1; have := zIm; omega) | decide) (by first | assumption | (have := zI0; have := zI1; have := zIm; omega) | decide) (by first | assumption | (have := zI0; have := zI1; have := zIm; omega) | decide) (by first | assumption | (have := zI0; have := zI1; have := zIm; omega) | decide) (by first | assumption | (have := zI0; have := zI1; have := zIm; omega) | decide) (by first | assumption | (have := zI0; have := zI1; have := zIm; omega) | decide)) (cvB (n := 0) (inr24 _ (List.mem_of_getElem? (i := 19) rfl)) (inr24 _ (List.mem_of_getElem? (i := 20) rfl)) (inr24 _ (List.mem_of_getElem? (i := 21) rfl)) (inr1 _ (List.mem_of_getElem? (i := 5) rfl)) (inr24 _ (List.mem_of_getElem? (i := 22) rfl)) (by decide +kernel) hts rfl rfl ⟨Nat.le_of_ble_eq_true rfl, Nat.le_of_ble_eq_true rfl⟩) 0 12 rfl rfl rfl (hP.sub [0, 6] rfl) hK hN (kT.to hT hS hAB) rfl hl.1 rfl (Nat.le_of_ble_eq_true rfl) ⟨Nat.le_of_ble_eq_true rfl, Nat.le_of_ble_eq_true rfl⟩ dX12_luck_1 (fun r_1 h_2 => ?_)
  have h_2 : ((r_1.toInt = 1 ∧ 0 < (f_world 9).toInt) ∨ (r_1.toInt = 0 ∧ (f_world 9).toInt ≤ 0)) ∧ (r_1 = 0 ∨ r_1 = 1) := h_2
  obtain ⟨i_3, i_4⟩ := h_2
  have ar_1 : 0 ≤ r_1.toInt ∧ r_1.toInt ≤ 1 := by rcases i_4 with h | h <;> rw [h] <;> decide
  refine lv_if_eq (tgt := 44) hx hb dX12_luck_4 (by decide) (fun c_5 => ?_) (fun c_5 => ?_)
  · have c_5 : r_1.toInt = 0 := ci_eq_t c_5
    have b_r_1 := i32b r_1
    have d_6 : (f_world 9).toInt ≤ 0 := by omega
    clear i_3
    refine lv_bipush (v := (-2)) hx hb dX12_luck_44 (by decide) ?_
    exact ret _ _ _ _ _ (v0_lawA, v0_lawB, v0_lawC, v0_drawX, v0_isDrawn, v0_lostMany, f_answerAt, f_heardAt, f_lastAt, f_lostBy, f_spokenAt) dX12_luck_46 (show (0 ≤ v0_lawA.toInt ∧ v0_lawA.toInt ≤ 8) ∧ (0 ≤ v0_lawB.toInt ∧ v0_lawB.toInt ≤ 8) ∧ (0 ≤ v0_lawC.toInt ∧ v0_lawC.toInt ≤ 9) ∧ (0 ≤ v0_isDrawn.toInt ∧ v0_isDrawn.toInt ≤ 1) ∧ (sg sgLa f_answerAt) ∧ (sg sgSp f_heardAt) ∧ (sg sgLa f_lastAt) ∧ (sg sgSp f_spokenAt) from ⟨(by first | assumption | (have := zI0; have := zI1; have := zIm; omega) | decide), (by first | assumption | (have := zI0; have := zI1; have := zIm; omega) | decide), (by first | assumption | (have := zI0; have := zI1; have := zIm; omega) | decide), (by first | assumption | (have := zI0; have := zI1; have := zIm; omega) | decide), (by first | assumption | (have := zI0; have := zI1; have := zIm; omega) | decide), (by first | assumption | (have := zI0; have := zI1; have := zIm; omega) | decide), (by first | assumption | (have := zI0; have := zI1; have := zIm; omega) | decide), (by first | assumption | (have := zI0; have := zI1; have := zIm; omega) | decide)⟩) (hP.sub [0, 1, 2, 3, 4, 5, 6] rfl) (hD.sub [0, 1, 2, 3, 4, 5, 6] (by decide) rfl) hS
  · have c_5 : ¬ r_1.toInt = 0 := ci_eq_f c_5
    have b_r_1 := i32b r_1
    have d_7 : 0 < (f_world 9).toInt := by omega
    clear i_3
    refine lv_iload_n hx hb dX12_luck_7 rfl (lv_at hl 1 rfl) ?_
    refine rosi (As := [.int v1]) (rest := []) ⟨hx, hb, hml, hown, hts⟩ (b_X12_isSeed l G D cB cI cJ cZ cS cT v1 ) (csB (n := 1) (inr70 _ (List.mem_of_getElem? (i := 3) rfl)) (inr70 _ (List.mem_of_getElem? (i := 4) rfl)) (inr1 _ (List.mem_of_getElem? (i := 5) rfl)) (inr70 _ (List.mem_of_getElem? (i := 5) rfl)) (by decide +kernel) hts rfl rfl ⟨Nat.le_of_ble_eq_true rfl, Nat.le_of_ble_eq_true rfl⟩) (hP.sub [] rfl) hK hN (kT.to hT hS hAB) rfl hl.1 rfl (Nat.le_of_ble_eq_true rfl) ⟨Nat.le_of_ble_eq_true rfl, Nat.le_of_ble_eq_true rfl⟩ dX12_luck_8 (fun r_8 h_9 => ?_)
    have h_9 : ((r_8.toInt = 1 ∧ 0 ≤ v1.toInt ∧ v1.toInt ≤ 2000000000) ∨ r_8.toInt = 0) ∧ (r_8 = 0 ∨ r_8 = 1) := h_9
    obtain ⟨i_10, i_11⟩ := h_9
    have ar_8 : 0 ≤ r_8.toInt ∧ r_8.toInt ≤ 1 := by rcases i_11 with h | h <;> rw [h] <;> decide
    refine lv_if_eq (tgt := 44) hx hb dX12_luck_11 (by decide) (fun c_12 => ?_) (fun c_12 => ?_)
    · have c_12 : r_8.toInt = 0 := ci_eq_t c_12
      have b_r_8 := i32b r_8
      clear i_10
      refine lv_bipush (v := (-2)) hx hb dX12_luck_44 (by decide) ?_
      exact ret _ _ _ _ _ (v0_lawA, v0_lawB, v0_lawC, v0_drawX, v0_isDrawn, v0_lostMany, f_answerAt, f_heardAt, f_lastAt, f_lostBy, f_spokenAt) dX12_luck_46 (show (0 ≤ v0_lawA.toInt ∧ v0_lawA.toInt ≤ 8) ∧ (0 ≤ v0_lawB.toInt ∧ v0_lawB.toInt ≤ 8) ∧ (0 ≤ v0_lawC.toInt ∧ v0_lawC.toInt ≤ 9) ∧ (0 ≤ v0_isDrawn.toInt ∧ v0_isDrawn.toInt ≤ 1) ∧ (sg sgLa f_answerAt) ∧ (sg sgSp f_heardAt) ∧ (sg sgLa f_lastAt) ∧ (sg sgSp f_spokenAt) from ⟨(by first | assumption | (have := zI0; have := zI1; have := zIm; omega) | decide), (by first | assumption | (have := zI0; have := zI1; have := zIm; omega) | decide), (by first | assumption | (have := zI0; have := zI1; have := zIm; omega) | decide), (by first | assumption | (have := zI0; have := zI1; have := zIm; omega) | decide), (by first | assumption | (have := zI0; have := zI1; have := zIm; omega) | decide), (by first | assumption | (have := zI0; have := zI1; have := zIm; omega) | decide), (by first | assumption | (have := zI0; have := zI1; have := zIm; omega) | decide), (by first | assumption | (have := zI0; have := zI1; have := zIm; omega) | decide)⟩) (hP.sub [0, 1, 2, 3, 4, 5, 6] rfl) (hD.sub [0, 1, 2, 3, 4, 5, 6] (by decide) rfl) hS
    · have c_12 : ¬ r_8.toInt = 0 := ci_eq_f c_12
      have b_r_8 := i32b r_8
      have d_13 : 0 ≤ v1.toInt ∧ v1.toInt ≤ 2000000000 := by omega
      clear i_10
      refine lv_iload_n hx hb dX12_luck_14 rfl (lv_at hl 2 rfl) ?_
      have b_v2 := i32b v2
      obtain ⟨t_14, et_14⟩ : ∃ v9 : Int64, (v2 : Int32).toInt64 = v9 := ⟨_, rfl⟩
      refine lv_i2l (v := t_14) hx hb dX12_luck_15 et_14 ?_
      have ft_14 : t_14.toInt = v2.toInt := by rw [← et_14]; exact Int32.toInt_toInt64 _
      refine lv_lconst (v := 1) hx hb dX12_luck_16 (by decide) ?_
      refine lv_ldc2 hx hb hown (hts _ (inr70 _ (List.mem_of_getElem? (i := 19) rfl))) dX12_luck_17 ?_
      refine rosi (As := [.long t_14, .long 1, .long 20]) (rest := []) ⟨hx, hb, hml, hown, hts⟩ (b_X12_in l G D cB cI cJ cZ cS cT t_14 1 20 ) (csB (n := 3) (inr9 _ (List.mem_of_getElem? (i := 3) rfl)) (inr9 _ (List.mem_of_getElem? (i := 4) rfl)) (inr1 _ (List.mem_of_getElem? (i := 5) rfl)) (inr9 _ (List.mem_of_getElem? (i := 5) rfl)) (by decide +kernel) hts rfl rfl ⟨Nat.le_of_ble_eq_true rfl, Nat.le_of_ble_eq_true rfl⟩) (hP.sub [] rfl) hK hN (kT.to hT hS hAB) rfl hl.1 rfl (Nat.le_of_ble_eq_true rfl) ⟨Nat.le_of_ble_eq_true rfl, Nat.le_of_ble_eq_true rfl⟩ dX12_luck_20 (fun r_15 h_16 => ?_)
      have h_16 : ((r_15.toInt = 1 ∧ 1 ≤ t_14.toInt ∧ t_14.toInt ≤ 20) ∨ (r_15.toInt = 0 ∧ (t_14.toInt < 1 ∨ 20 < t_14.toInt))) ∧ (r_15 = 0 ∨ r_15 = 1) := h_16
      obtain ⟨i_17, i_18⟩ := h_16
      have ar_15 : 0 ≤ r_15.toInt ∧ r_15.toInt ≤ 1 := by rcases i_18 with h | h <;> rw [h] <;> decide
      refine lv_if_eq (tgt := 44) hx hb dX12_luck_23 (by decide) (fun c_19 => ?_) (fun c_19 => ?_)
      · have c_19 : r_15.toInt = 0 := ci_eq_t c_19
        have b_r_15 := i32b r_15
        have d_20 : (t_14.toInt < 1 ∨ 20 < t_14.toInt) := by omega
        clear i_17
        refine lv_bipush (v := (-2)) hx hb dX12_luck_44 (by decide) ?_
        exact ret _ _ _ _ _ (v0_lawA, v0_lawB, v0_lawC, v0_drawX, v0_isDrawn, v0_lostMany, f_answerAt, f_heardAt, f_lastAt, f_lostBy, f_spokenAt) dX12_luck_46 (show (0 ≤ v0_lawA.toInt ∧ v0_lawA.toInt ≤ 8) ∧ (0 ≤ v0_lawB.toInt ∧ v0_lawB.toInt ≤ 8) ∧ (0 ≤ v0_lawC.toInt ∧ v0_lawC.toInt ≤ 9) ∧ (0 ≤ v0_isDrawn.toInt ∧ v0_isDrawn.toInt ≤ 1) ∧ (sg sgLa f_answerAt) ∧ (sg sgSp f_heardAt) ∧ (sg sgLa f_lastAt) ∧ (sg sgSp f_spokenAt) from ⟨(by first | assumption | (have := zI0; have := zI1; have := zIm; omega) | decide), (by first | assumption | (have := zI0; have := zI1; have := zIm; omega) | decide), (by first | assumption | (have := zI0; have := zI1; have := zIm; omega) | decide), (by first | assumption | (have := zI0; have := zI1; have := zIm; omega) | decide), (by first | assumption | (have := zI0; have := zI1; have := zIm; omega) | decide), (by first | assumption | (have := zI0; have := zI1; have := zIm; omega) | decide), (by first | assumption | (have := zI0; have := zI1; have := zIm; omega) | decide), (by first | assumption | (have := zI0; have := zI1; have := zIm; omega) | decide)⟩) (hP.sub [0, 1, 2, 3, 4, 5, 6] rfl) (hD.sub [0, 1, 2, 3, 4, 5, 6] (by decide) rfl) hS
      · have c_19 : ¬ r_15.toInt = 0 := ci_eq_f c_19
        have b_r_15 := i32b r_15
        have d_21 : 1 ≤ t_14.toInt ∧ t_14.toInt ≤ 20 := by omega
        clear i_17
        refine lv_iload_n hx hb dX12_luck_26 rfl (lv_at hl 3 rfl) ?_
        have b_v3 := i32b v3
        obtain ⟨t_22, et_22⟩ : ∃ v9 : Int64, (v3 : Int32).toInt64 = v9 := ⟨_, rfl⟩
        refine lv_i2l (v := t_22) hx hb dX12_luck_27 et_22 ?_
        have ft_22 : t_22.toInt = v3.toInt := by rw [← et_22]; exact Int32.toInt_toInt64 _
        refine rosi (As := [.long t_22]) (rest := []) ⟨hx, hb, hml, hown, hts⟩ (b_X12_isStep l G D cB cI cJ cZ cS cT t_22 ) (csB (n := 1) (inr26 _ (List.mem_of_getElem? (i := 6) rfl)) (inr26 _ (List.mem_of_getElem? (i := 7) rfl)) (inr1 _ (List.mem_of_getElem? (i := 5) rfl)) (inr26 _ (List.mem_of_getElem? (i := 8) rfl)) (by decide +kernel) hts rfl rfl ⟨Nat.le_of_ble_eq_true rfl, Nat.le_of_ble_eq_true rfl⟩) (hP.sub [] rfl) hK hN (kT.to hT hS hAB) rfl hl.1 rfl (Nat.le_of_ble_eq_true rfl) ⟨Nat.le_of_ble_eq_true rfl, Nat.le_of_ble_eq_true rfl⟩ dX12_luck_28 (fun r_23 h_24 => ?_)
        have h_24 : ((r_23.toInt = 1 ∧ 0 ≤ t_22.toInt ∧ t_22.toInt ≤ 60) ∨ (r_23.toInt = 0 ∧ (t_22.toInt < 0 ∨ 60 < t_22.toInt))) ∧ (r_23 = 0 ∨ r_23 = 1) := h_24
        obtain ⟨i_25, i_26⟩ := h_24
        have ar_23 : 0 ≤ r_23.toInt ∧ r_23.toInt ≤ 1 := by rcases i_26 with h | h <;> rw [h] <;> decide
        refine lv_if_eq (tgt := 44) hx hb dX12_luck_31 (by decide) (fun c_27 => ?_) (fun c_27 => ?_)
        · have c_27 : r_23.toInt = 0 := ci_eq_t c_27
          have b_r_23 := i32b r_23
          have d_28 : (t_22.toInt < 0 ∨ 60 < t_22.toInt) := by omega
          clear i_25
          refine lv_bipush (v := (-2)) hx hb dX12_luck_44 (by decide) ?_
          exact ret _ _ _ _ _ (v0_lawA, v0_lawB, v0_lawC, v0_drawX, v0_isDrawn, v0_lostMany, f_answerAt, f_heardAt, f_lastAt, f_lostBy, f_spokenAt) dX12_luck_46 (show (0 ≤ v0_lawA.toInt ∧ v0_lawA.toInt ≤ 8) ∧ (0 ≤ v0_lawB.toInt ∧ v0_lawB.toInt ≤ 8) ∧ (0 ≤ v0_lawC.toInt ∧ v0_lawC.toInt ≤ 9) ∧ (0 ≤ v0_isDrawn.toInt ∧ v0_isDrawn.toInt ≤ 1) ∧ (sg sgLa f_answerAt) ∧ (sg sgSp f_heardAt) ∧ (sg sgLa f_lastAt) ∧ (sg sgSp f_spokenAt) from ⟨(by first | assumption | (have := zI0; have := zI1; have := zIm; omega) | decide), (by first | assumption | (have := zI0; have := zI1; have := zIm; omega) | decide), (by first | assumption | (have := zI0; have := zI1; have := zIm; omega) | decide), (by first | assumption | (have := zI0; have := zI1; have := zIm; omega) | decide), (by first | assumption | (have := zI0; have := zI1; have := zIm; omega) | decide), (by first | assumption | (have := zI0; have := zI1; have := zIm; omega) | decide), (by first | assumption | (have := zI0; have := zI1; have := zIm; omega) | decide), (by first | assumption | (have := zI0; have := zI1; have := zIm; omega) | decide)⟩) (hP.sub [0, 1, 2, 3, 4, 5, 6] rfl) (hD.sub [0, 1, 2, 3, 4, 5, 6] (by decide) rfl) hS
        · have c_27 : ¬ r_23.toInt = 0 := ci_eq_f c_27
          have b_r_23 := i32b r_23
          have d_29 : 0 ≤ t_22.toInt ∧ t_22.toInt ≤ 60 := by omega
          clear i_25
          refine lv_aload_n hx hb dX12_luck_34 rfl (lv_at hl 0 rfl) ?_
          refine lv_iload hx hb dX12_luck_35 (lv_at hl 4 rfl) ?_
          have b_v4 := i32b v4
          obtain ⟨t_30, et_30⟩ : ∃ v9 : Int64, (v4 : Int32).toInt64 = v9 := ⟨_, rfl⟩
          refine lv_i2l (v := t_30) hx hb dX12_luck_37 et_30 ?_
          have ft_30 : t_30.toInt = v4.toInt := by rw [← et_30]; exact Int32.toInt_toInt64 _
          refine roi (As := [.long t_30]) (rest := []) ⟨hx, hb, hml, hown, hts⟩ (b_X12_isTone l G D cB cI cJ cZ cS cT h0 v0_thrown h_world h_images h_hasImage h_tape v0_taped h_five v0_size v0_at v0_from v0_token v0_value v0_faultKind v0_faultPlace h_fresh h_spokenAt h_heardAt h_lastAt h_answerAt v0_lawA v0_lawB v0_lawC v0_drawX v0_isDrawn v0_lostMany h_heardNow h_seenAt v0_roundFrom v0_roundTo v0_goLast v0_goAnswer v0_goHeard h_fewest h_costNow h_costThen h_lawsOf h_heardBy v0_lawMany v0_askWorst h_placesOf h_sentIn v0_placeMany v0_parentFirst h_lostBy h_many h_width h_numbers h_moving f_world t_30 (by first | assumption | (have := zI0; have := zI1; have := zIm; omega) | decide) (by first | assumption | (have := zI0; have := zI1; have := zIm; omega) | decide) (by first | assumption | (have := zI0; have := zI1; have := zIm; omega) | decide) (by first | assumption | (have := zI0; have := zI1; have := zIm; omega) | decide) (by first | assumption | (have := zI0; have := zI1; have := zIm; omega) | decide) (by first | assumption | (have := zI0; have := zI1; have := zIm; omega) | decide) (by first | assumption | (have := zI0; have := zI1; have := zIm; omega) | decide) (by first | assumption | (have := zI0; have := zI1; have := zIm; omega) | decide) (by first | assumption | (have := zI0; have := zI1; have := zIm; omega) | decide) (by first | assumption | (have := zI0; have := zI1; have := zIm; omega) | decide) (by first | assumption | (have := zI0; have := zI1; have := zIm; omega) | decide) (by first | assumption | (have := zI0; have := zI1; have := zIm; omega) | decide) (by first | assumption | (have := zI0; have := zI1; have := zIm; omega) | decide) (by first | assumption | (have := zI0; have := zI1; have := zIm; omega) | decide) (by first | assumption | (have := zI0; have := zI1; have := zIm; omega) | decide) (by first | assumption | (have := zI0; have := zI1; have := zIm; omega) | decide) (by first | assumption | (have := zI0; have := zI1; have := zIm; omega) | decide)) (cvB (n := 1) (inr30 _ (List.mem_of_getElem? (i := 0) rfl)) (inr30 _ (List.mem_of_getElem? (i := 1) rfl)) (inr30 _ (List.mem_of_getElem? (i := 2) rfl)) (inr1 _ (List.mem_of_getElem? (i := 5) rfl)) (inr30 _ (List.mem_of_getElem? (i := 3) rfl)) (by decide +kernel) hts rfl rfl ⟨Nat.le_of_ble_eq_true rfl, Nat.le_of_ble_eq_true rfl⟩) 0 12 rfl rfl rfl (hP.sub [0, 6] rfl) hK hN (kT.to hT hS hAB) rfl hl.1 rfl (Nat.le_of_ble_eq_true rfl) ⟨Nat.le_of_ble_eq_true rfl, Nat.le_of_ble_eq_true rfl⟩ dX12_luck_38 (fun r_31 h_32 => ?_)
          have h_32 : ((r_31.toInt = 1 ∧ 0 ≤ t_30.toInt ∧ t_30.toInt ≤ (f_world 0).toInt - 1) ∨ r_31.toInt = 0) ∧ (r_31 = 0 ∨ r_31 = 1) := h_32
          obtain ⟨i_33, i_34⟩ := h_32
          have ar_31 : 0 ≤ r_31.toInt ∧ r_31.toInt ≤ 1 := by rcases i_34 with h | h <;> rw [h] <;> decide
          refine lv_if_ne (tgt := 47) hx hb dX12_luck_41 (by decide) (fun c_35 => ?_) (fun c_35 => ?_)
          · have c_35 : ¬ r_31.toInt = 0 := ci_ne_t c_35
            have b_r_31 := i32b r_31
            have d_36 : 0 ≤ t_30.toInt ∧ t_30.toInt ≤ (f_world 0).toInt - 1 := by omega
            have b_37 := (by assumption : sg sgWo f_world) _ (List.mem_of_getElem? (i := 0) rfl) 0 (by decide) (by decide)
            have b_37 : 0 ≤ (f_world 0).toInt ∧ (f_world 0).toInt ≤ 9 := b_37
            clear i_33
            refine lv_iconst (v := 0) hx hb dX12_luck_47 (by decide) ?_
            refine lv_istore (lv' := [(5, .int 0), (0, .ref h0), (1, .int v1), (2, .int v2), (3, .int v3), (4, .int v4)]) hx hb dX12_luck_48 hl (by decide) rfl (fun ls hl => ?_)
            refine lv_iconst (v := 0) hx hb dX12_luck_50 (by decide) ?_
            refine lv_istore (lv' := [(6, .int 0), (5, .int 0), (0, .ref h0), (1, .int v1), (2, .int v2), (3, .int v3), (4, .int v4)]) hx hb dX12_luck_51 hl (by decide) rfl (fun ls hl => ?_)
            exact b_X12_luck_l53 h0 v0_thrown h_world h_images h_hasImage h_tape v0_taped h_five v0_size v0_at v0_from v0_token v0_value v0_faultKind v0_faultPlace h_fresh h_spokenAt h_heardAt h_lastAt h_answerAt v0_lawA v0_lawB v0_lawC v0_isDrawn h_heardNow h_seenAt v0_roundFrom v0_roundTo v0_goLast v0_goAnswer v0_goHeard h_fewest h_costNow h_costThen h_lawsOf h_heardBy v0_lawMany v0_askWorst h_placesOf h_sentIn v0_placeMany v0_parentFirst h_lostBy h_many h_width h_numbers h_moving f_answerAt f_heardAt f_lastAt f_spokenAt f_world v1 v2 v3 v4 (by first | assumption | (have := zI0; have := zI1; have := zIm; omega) | decide) (by first | assumption | (have := zI0; have := zI1; have := zIm; omega) | decide) (by first | assumption | (have := zI0; have := zI1; have := zIm; omega) | decide) (by first | assumption | (have := zI0; have := zI1; have := zIm; omega) | decide) (by first | assumption | (have := zI0; have := zI1; have := zIm; omega) | decide) (by first | assumption | (have := zI0; have := zI1; have := zIm; omega) | decide) (by first | assumption | (have := zI0; have := zI1; have := zIm; omega) | decide) (by first | assumption | (have := zI0; have := zI1; have := zIm; omega) | decide) (by first | assumption | (have := zI0; have := zI1; have := zIm; omega) | decide) (by first | assumption | (have := zI0; have := zI1; have := zIm; omega) | decide) (by first | assumption | (have := zI0; have := zI1; have := zIm; omega) | decide) (by first | assumption | (have := zI0; have := zI1; have := zIm; omega) | decide) (by first | assumption | (have := zI0; have := zI1; have := zIm; omega) | decide) (by first | assumption | (have := zI0; have := zI1; have := zIm; omega) | decide) (by first | assumption | (have := zI0; have := zI1; have := zIm; omega) | decide) (by first | assumption | (have := zI0; have := zI1; have := zIm; omega) | decide) (by first | assumption | (have := zI0; have := zI1; have := zIm; omega) | decide) (by first | assumption | (have := zI0; have := zI1; have := zIm; omega) | decide) (by first | assumption | (have := zI0; have := zI1; have := zIm; omega) | decide) (by first | assumption | (have := zI0; have := zI1; have := zIm; omega) | decide) (by first | assumption | (have := zI0; have := zI1; have := zIm; omega) | decide) (by first | assumption | (have := zI0; have := zI1; have := zIm; omega) | decide) (by first | assumption | (have := zI0; have := zI1; have := zIm; omega) | decide) (by first | assumption | (have := zI0; have := zI1; have := zIm; omega) | decide) (by first | assumption | (have := zI0; have := zI1; have := zIm; omega) | decide) (by first | assumption | (have := zI0; have := zI1; have := zIm; omega) | decide) (by first | assumption | (have := zI0; have := zI1; have := zIm; omega) | decide) C hG hAB hA ret _ (v0_lawA) (v0_lawB) (v0_lawC) (v0_drawX) (v0_isDrawn) (v0_lostMany) (f_answerAt) (f_heardAt) (f_lastAt) (f_lostBy) (f_spokenAt) (0) (0) _ _ _ (by first | assumption | (have := zI0; have := zI1; have := zIm; omega) | decide) (by first | assumption | (have := zI0; have := zI1; have := zIm; omega) | decide) (by first | assumption | (have := zI0; have := zI1; have := zIm; omega) | decide) (by first | assumption | (have := zI0; have := zI1; have := zIm; omega) | decide) (by first | assumption | (have := zI0; have := zI1; have := zIm; omega) | decide) (by first | assumption | (have := zI0; have := zI1; have := zIm; omega) | decide) (by first | assumption | (have := zI0; have := zI1; have := zIm; omega) | decide) (by first | assumption | (have := zI0; have := zI1; have := zIm; omega) | decide) (by first | assumption | (have := zI0; have := zI1; have := zIm; omega) | decide) (Nat.lt_succ_self _) (hP.sub [0, 1, 2, 3, 4, 5, 6] rfl) (hD.sub [0, 1, 2, 3, 4, 5, 6] (by decide) rfl) hS (lv_sub hl [0, 1, 2, 3, 4, 5, 6] rfl)
          · have c_35 : r_31.toInt = 0 := ci_ne_f c_35
            have b_r_31 := i32b r_31
            clear i_33
            refine lv_bipush (v := (-2)) hx hb dX12_luck_44 (by decide) ?_
            exact ret _ _ _ _ _ (v0_lawA, v0_lawB, v0_lawC, v0_drawX, v0_isDrawn, v0_lostMany, f_answerAt, f_heardAt, f_lastAt, f_lostBy, f_spokenAt) dX12_luck_46 (show (0 ≤ v0_lawA.toInt ∧ v0_lawA.toInt ≤ 8) ∧ (0 ≤ v0_lawB.toInt ∧ v0_lawB.toInt ≤ 8) ∧ (0 ≤ v0_lawC.toInt ∧ v0_lawC.toInt ≤ 9) ∧ (0 ≤ v0_isDrawn.toInt ∧ v0_isDrawn.toInt ≤ 1) ∧ (sg sgLa f_answerAt) ∧ (sg sgSp f_heardAt) ∧ (sg sgLa f_lastAt) ∧ (sg sgSp f_spokenAt) from ⟨(by first | assumption | (have := zI0; have := zI1; have := zIm; omega) | decide), (by first | assumption | (have := zI0; have := zI1; have := zIm; omega) | decide), (by first | assumption | (have := zI0; have := zI1; have := zIm; omega) | decide), (by first | assumption | (have := zI0; have := zI1; have := zIm; omega) | decide), (by first | assumption | (have := zI0; have := zI1; have := zIm; omega) | decide), (by first | assumption | (have := zI0; have := zI1; have := zIm; omega) | decide), (by first | assumption | (have := zI0; have := zI1; have := zIm; omega) | decide), (by first | assumption | (have := zI0; have := zI1; have := zIm; omega) | decide)⟩) (hP.sub [0, 1, 2, 3, 4, 5, 6] rfl) (hD.sub [0, 1, 2, 3, 4, 5, 6] (by decide) rfl) hS

set_option maxHeartbeats 4000000 in
set_option maxRecDepth 100000 in
theorem b_X12_tune (l : Launch) (G : Gho) (D : va_G) (cB cI cJ cZ cS cT : ClassId) (sz : Nat) (h0 : Nat) (v0_thrown : Int32) (h_world : Nat) (h_images : Nat) (h_hasImage : Nat) (h_tape : Nat) (v0_taped : Int32) (h_five : Nat) (v0_size : Int32) (v0_at : Int32) (v0_from : Int32) (v0_token : Int32) (v0_value : Int32) (v0_faultKind : Int32) (v0_faultPlace : Int32) (h_fresh : Nat) (h_spokenAt : Nat) (h_heardAt : Nat) (h_lastAt : Nat) (h_answerAt : Nat) (v0_lawA : Int32) (v0_lawB : Int32) (v0_lawC : Int32) (v0_drawX : Int64) (v0_isDrawn : Int32) (v0_lostMany : Int32) (h_heardNow : Nat) (h_seenAt : Nat) (v0_roundFrom : Int32) (v0_roundTo : Int32) (v0_goLast : Int32) (v0_goAnswer : Int32) (v0_goHeard : Int32) (h_fewest : Nat) (h_costNow : Nat) (h_costThen : Nat) (h_lawsOf : Nat) (h_heardBy : Nat) (v0_lawMany : Int32) (v0_askWorst : Int32) (h_placesOf : Nat) (h_sentIn : Nat) (v0_placeMany : Int32) (v0_parentFirst : Int32) (h_lostBy : Nat) (h_many : Nat) (h_width : Nat) (h_numbers : Nat) (h_moving : Nat) (f_world : Nat → Int32) (v1 : Int32) (iv0_taped : 0 ≤ v0_taped.toInt ∧ v0_taped.toInt ≤ 500) (iv0_size : 0 ≤ v0_size.toInt ∧ v0_size.toInt ≤ 500) (iv0_at : 0 ≤ v0_at.toInt ∧ v0_at.toInt ≤ 500) (iv0_from : 0 ≤ v0_from.toInt ∧ v0_from.toInt ≤ 500) (iv0_faultKind : 0 ≤ v0_faultKind.toInt ∧ v0_faultKind.toInt ≤ 3) (iv0_lawA : 0 ≤ v0_lawA.toInt ∧ v0_lawA.toInt ≤ 8) (iv0_lawB : 0 ≤ v0_lawB.toInt ∧ v0_lawB.toInt ≤ 8) (iv0_lawC : 0 ≤ v0_lawC.toInt ∧ v0_lawC.toInt ≤ 9) (iv0_isDrawn : 0 ≤ v0_isDrawn.toInt ∧ v0_isDrawn.toInt ≤ 1) (iv0_roundFrom : 0 ≤ v0_roundFrom.toInt ∧ v0_roundFrom.toInt ≤ 648) (iv0_roundTo : 0 ≤ v0_roundTo.toInt ∧ v0_roundTo.toInt ≤ 648) (iv0_goLast : 0 ≤ v0_goLast.toInt ∧ v0_goLast.toInt ≤ 8) (iv0_goAnswer : 0 ≤ v0_goAnswer.toInt ∧ v0_goAnswer.toInt ≤ 8) (iv0_lawMany : 0 ≤ v0_lawMany.toInt ∧ v0_lawMany.toInt ≤ 729) (iv0_placeMany : 0 ≤ v0_placeMany.toInt ∧ v0_placeMany.toInt ≤ 100) (pf_world : sg sgWo f_world) (cf_world : 0 < (f_world 9).toInt → 2 ≤ (f_world 0).toInt) : Met l yX12_tune (Cond.code yX12_tune cX12_tune 3 (some .int) :: wsL_law) ({ frames := 2, cells := 0, slots := 0, locals := 47 }) (wrP G D (tyL cB cI cJ cZ cS cT) [(mO h0 v0_thrown h_world h_images h_hasImage h_tape v0_taped h_five v0_size v0_at v0_from v0_token v0_value v0_faultKind v0_faultPlace h_fresh h_spokenAt h_heardAt h_lastAt h_answerAt v0_lawA v0_lawB v0_lawC v0_drawX v0_isDrawn v0_lostMany h_heardNow h_seenAt v0_roundFrom v0_roundTo v0_goLast v0_goAnswer v0_goHeard h_fewest h_costNow h_costThen h_lawsOf h_heardBy v0_lawMany v0_askWorst h_placesOf h_sentIn v0_placeMany v0_parentFirst h_lostBy h_many h_width h_numbers h_moving), (h_world, .inl (cI, 53, .inl f_world))] sz [.ref h0, .int v1]) (va_Qi (fun (r : Int32) (x : (Nat → Int32)) => (sg sgWo x) ∧ (0 < (x 9).toInt → 2 ≤ (x 0).toInt)) (atW D (tyL cB cI cJ cZ cS cT) (va_A [(mO h0 v0_thrown h_world h_images h_hasImage h_tape v0_taped h_five v0_size v0_at v0_from v0_token v0_value v0_faultKind v0_faultPlace h_fresh h_spokenAt h_heardAt h_lastAt h_answerAt v0_lawA v0_lawB v0_lawC v0_drawX v0_isDrawn v0_lostMany h_heardNow h_seenAt v0_roundFrom v0_roundTo v0_goLast v0_goAnswer v0_goHeard h_fewest h_costNow h_costThen h_lawsOf h_heardBy v0_lawMany v0_askWorst h_placesOf h_sentIn v0_placeMany v0_parentFirst h_lostBy h_many h_width h_numbers h_moving), (h_world, .inl (cI, 53, .inl f_world))] sz) (fun x : (Nat → Int32) => [(mO h0 v0_thrown h_world h_images h_hasImage h_tape v0_taped h_five v0_size v0_at v0_from v0_token v0_value v0_faultKind v0_faultPlace h_fresh h_spokenAt h_heardAt h_lastAt h_answerAt v0_lawA v0_lawB v0_lawC v0_drawX v0_isDrawn v0_lostMany h_heardNow h_seenAt v0_roundFrom v0_roundTo v0_goLast v0_goAnswer v0_goHeard h_fewest h_costNow h_costThen h_lawsOf h_heardBy v0_lawMany v0_askWorst h_placesOf h_sentIn v0_placeMany v0_parentFirst h_lostBy h_many h_width h_numbers h_moving), (h_world, .inl (cI, 53, .inl x))])) (va_A [(mO h0 v0_thrown h_world h_images h_hasImage h_tape v0_taped h_five v0_size v0_at v0_from v0_token v0_value v0_faultKind v0_faultPlace h_fresh h_spokenAt h_heardAt h_lastAt h_answerAt v0_lawA v0_lawB v0_lawC v0_drawX v0_isDrawn v0_lostMany h_heardNow h_seenAt v0_roundFrom v0_roundTo v0_goLast v0_goAnswer v0_goHeard h_fewest h_costNow h_costThen h_lawsOf h_heardBy v0_lawMany v0_askWorst h_placesOf h_sentIn v0_placeMany v0_parentFirst h_lostBy h_many h_width h_numbers h_moving), (h_world, .inl (cI, 53, .inl f_world))] sz)) 0 0 (va_A [(mO h0 v0_thrown h_world h_images h_hasImage h_tape v0_taped h_five v0_size v0_at v0_from v0_token v0_value v0_faultKind v0_faultPlace h_fresh h_spokenAt h_heardAt h_lastAt h_answerAt v0_lawA v0_lawB v0_lawC v0_drawX v0_isDrawn v0_lostMany h_heardNow h_seenAt v0_roundFrom v0_roundTo v0_goLast v0_goAnswer v0_goHeard h_fewest h_costNow h_costThen h_lawsOf h_heardBy v0_lawMany v0_askWorst h_placesOf h_sentIn v0_placeMany v0_parentFirst h_lostBy h_many h_width h_numbers h_moving), (h_world, .inl (cI, 53, .inl f_world))] sz) := by
  refine metI (own := RX12) (by decide) rfl ?_
  intro p e s m below meth c Q hsz C hG hP hD hAB ret
  obtain ⟨hx, hb, hml, hown, hts, hK, hN, hT⟩ := id C
  subst hsz
  generalize hAe : va_A [(mO h0 v0_thrown h_world h_images h_hasImage h_tape v0_taped h_five v0_size v0_at v0_from v0_token v0_value v0_faultKind v0_faultPlace h_fresh h_spokenAt h_heardAt h_lastAt h_answerAt v0_lawA v0_lawB v0_lawC v0_drawX v0_isDrawn v0_lostMany h_heardNow h_seenAt v0_roundFrom v0_roundTo v0_goLast v0_goAnswer v0_goHeard h_fewest h_costNow h_costThen h_lawsOf h_heardBy v0_lawMany v0_askWorst h_placesOf h_sentIn v0_placeMany v0_parentFirst h_lostBy h_many h_width h_numbers h_moving), (h_world, .inl (cI, 53, .inl f_world))] s.heap.size = A at hD hAB ret ⊢
  have hA : ∀ q : Nat, s.heap.size ≤ q → A q := fun q h => by rw [← hAe]; exact Or.inr h
  have hS : va_S A s.heap s.heap [] := va_S.rf
  have hl := lv_entry ([.ref h0, .int v1]) (n := 3) (Nat.le_of_ble_eq_true rfl)
  rw [lg_entry_eq]
  generalize (lg_sl ([.ref h0, .int v1]) ++ List.replicate (3 - (lg_sl ([.ref h0, .int v1])).length) Slot.unset).toArray = ls at hl ⊢
  have hl : lv_has ls 3 [(0, .ref h0), (1, .int v1)] := hl
  have hP : va_P D vwCl [(mO h0 v0_thrown h_world h_images h_hasImage h_tape v0_taped h_five v0_size v0_at v0_from v0_token v0_value v0_faultKind v0_faultPlace h_fresh h_spokenAt h_heardAt h_lastAt h_answerAt v0_lawA v0_lawB v0_lawC v0_drawX v0_isDrawn v0_lostMany h_heardNow h_seenAt v0_roundFrom v0_roundTo v0_goLast v0_goAnswer v0_goHeard h_fewest h_costNow h_costThen h_lawsOf h_heardBy v0_lawMany v0_askWorst h_placesOf h_sentIn v0_placeMany v0_parentFirst h_lostBy h_many h_width h_numbers h_moving), (h_world, .inl (cI, 53, .inl f_world))] s.heap := hP
  refine lv_aload_n hx hb dX12_tune_0 rfl (lv_at hl 0 rfl) ?_
  refine roi (As := []) (rest := []) ⟨hx, hb, hml, hown, hts⟩ (b_X12_isStation l G D cB cI cJ cZ cS cT h0 v0_thrown h_world h_images h_hasImage h_tape v0_taped h_five v0_size v0_at v0_from v0_token v0_value v0_faultKind v0_faultPlace h_fresh h_spokenAt h_heardAt h_lastAt h_answerAt v0_lawA v0_lawB v0_lawC v0_drawX v0_isDrawn v0_lostMany h_heardNow h_seenAt v0_roundFrom v0_roundTo v0_goLast v0_goAnswer v0_goHeard h_fewest h_costNow h_costThen h_lawsOf h_heardBy v0_lawMany v0_askWorst h_placesOf h_sentIn v0_placeMany v0_parentFirst h_lostBy h_many h_width h_numbers h_moving f_world (by first | assumption | (have := zI0; have := zI1; have := zIm; omega) | decide) (by first | assumption | (have := zI0; have := zI1; have := zIm; omega) | decide) (by first | assumption | (have := zI0; have := zI1; have := zIm; omega) | decide) (by first | assumption | (have := zI0; have := zI1; have := zIm; omega) | decide) (by first | assumption | (have := zI0; have := zI1; have := zIm; omega) | decide) (by first | assumption | (have := zI0; have := zI1; have := zIm; omega) | decide) (by first | assumption | (have := zI0; have := zI1; have := zIm; omega) | decide) (by first | assumption | (have := zI0; have := zI1; have := zIm; omega) | decide) (by first | assumption | (have := zI0; have := zI1; have := zIm; omega) | decide) (by first | assumption | (have := zI0; have := zI1; have := zIm; omega) | decide) (by first | assumption | (have := zI0; have := zI1; have := zIm; omega) | decide) (by first | assumption | (have := zI0; have := zI1; have := zIm; omega) | decide) (by first | assumption | (have := zI0; have := zI1; have := zIm; omega) | decide) (by first | assumption | (have := zI0; have := zI1; have := zIm; omega) | decide) (by first | assumption | (have := zI0; have := zI1; have := zIm; omega) | decide) (by first | assumption | (have := zI0; have := zI1; have := zIm; omega) | decide) (by first | assumption | (have := zI0; have := zI1; have := zIm; omega) | decide)) (cvB (n := 0) (inr24 _ (List.mem_of_getElem? (i := 19) rfl)) (inr24 _ (List.mem_of_getElem? (i := 20) rfl)) (inr24 _ (List.mem_of_getElem? (i := 21) rfl)) (inr1 _ (List.mem_of_getElem? (i := 5) rfl)) (inr24 _ (List.mem_of_getElem? (i := 22) rfl)) (by decide +kernel) hts rfl rfl ⟨Nat.le_of_ble_eq_true rfl, Nat.le_of_ble_eq_true rfl⟩) 0 12 rfl rfl rfl (hP.sub [0, 1] rfl) hK hN (kT.to hT hS hAB) rfl hl.1 rfl (Nat.le_of_ble_eq_true rfl) ⟨Nat.le_of_ble_eq_true rfl, Nat.le_of_ble_eq_true rfl⟩ dX12_tune_1 (fun r_1 h_2 => ?_)
  have h_2 : ((r_1.toInt = 1 ∧ 0 < (f_world 9).toInt) ∨ (r_1.toInt = 0 ∧ (f_world 9).toInt ≤ 0)) ∧ (r_1 = 0 ∨ r_1 = 1) := h_2
  obtain ⟨i_3, i_4⟩ := h_2
  have ar_1 : 0 ≤ r_1.toInt ∧ r_1.toInt ≤ 1 := by rcases i_4 with h | h <;> rw [h] <;> decide
  refine lv_if_eq (tgt := 16) hx hb dX12_tune_4 (by decide) (fun c_5 => ?_) (fun c_5 => ?_)
  · have c_5 : r_1.toInt = 0 := ci_eq_t c_5
    have b_r_1 := i32b r_1
    have d_6 : (f_world 9).toInt ≤ 0 := by omega
    clear i_3
    refine lv_bipush (v := (-2)) hx hb dX12_tune_16 (by decide) ?_
    exact ret _ _ _ _ _ f_world dX12_tune_18 (show (sg sgWo f_world) ∧ (0 < (f_world 9).toInt → 2 ≤ (f_world 0).toInt) from ⟨(by first | assumption | (have := zI0; have := zI1; have := zIm; omega) | decide), (by first | assumption | (have := zI0; have := zI1; have := zIm; omega) | decide)⟩) (hP.sub [0, 1] rfl) (hD.sub [0, 1] (by decide) rfl) hS
  · have c_5 : ¬ r_1.toInt = 0 := ci_eq_f c_5
    have b_r_1 := i32b r_1
    have d_7 : 0 < (f_world 9).toInt := by omega
    clear i_3
    refine lv_aload_n hx hb dX12_tune_7 rfl (lv_at hl 0 rfl) ?_
    refine lv_iload_n hx hb dX12_tune_8 rfl (lv_at hl 1 rfl) ?_
    have b_v1 := i32b v1
    obtain ⟨t_8, et_8⟩ : ∃ v9 : Int64, (v1 : Int32).toInt64 = v9 := ⟨_, rfl⟩
    refine lv_i2l (v := t_8) hx hb dX12_tune_9 et_8 ?_
    have ft_8 : t_8.toInt = v1.toInt := by rw [← et_8]; exact Int32.toInt_toInt64 _
    refine roi (As := [.long t_8]) (rest := []) ⟨hx, hb, hml, hown, hts⟩ (b_X12_isTone l G D cB cI cJ cZ cS cT h0 v0_thrown h_world h_images h_hasImage h_tape v0_taped h_five v0_size v0_at v0_from v0_token v0_value v0_faultKind v0_faultPlace h_fresh h_spokenAt h_heardAt h_lastAt h_answerAt v0_lawA v0_lawB v0_lawC v0_drawX v0_isDrawn v0_lostMany h_heardNow h_seenAt v0_roundFrom v0_roundTo v0_goLast v0_goAnswer v0_goHeard h_fewest h_costNow h_costThen h_lawsOf h_heardBy v0_lawMany v0_askWorst h_placesOf h_sentIn v0_placeMany v0_parentFirst h_lostBy h_many h_width h_numbers h_moving f_world t_8 (by first | assumption | (have := zI0; have := zI1; have := zIm; omega) | decide) (by first | assumption | (have := zI0; have := zI1; have := zIm; omega) | decide) (by first | assumption | (have := zI0; have := zI1; have := zIm; omega) | decide) (by first | assumption | (have := zI0; have := zI1; have := zIm; omega) | decide) (by first | assumption | (have := zI0; have := zI1; have := zIm; omega) | decide) (by first | assumption | (have := zI0; have := zI1; have := zIm; omega) | decide) (by first | assumption | (have := zI0; have := zI1; have := zIm; omega) | decide) (by first | assumption | (have := zI0; have := zI1; have := zIm; omega) | decide) (by first | assumption | (have := zI0; have := zI1; have := zIm; omega) | decide) (by first | assumption | (have := zI0; have := zI1; have := zIm; omega) | decide) (by first | assumption | (have := zI0; have := zI1; have := zIm; omega) | decide) (by first | assumption | (have := zI0; have := zI1; have := zIm; omega) | decide) (by first | assumption | (have := zI0; have := zI1; have := zIm; omega) | decide) (by first | assumption | (have := zI0; have := zI1; have := zIm; omega) | decide) (by first | assumption | (have := zI0; have := zI1; have := zIm; omega) | decide) (by first | assumption | (have := zI0; have := zI1; have := zIm; omega) | decide) (by first | assumption | (have := zI0; have := zI1; have := zIm; omega) | decide)) (cvB (n := 1) (inr30 _ (List.mem_of_getElem? (i := 0) rfl)) (inr30 _ (List.mem_of_getElem? (i := 1) rfl)) (inr30 _ (List.mem_of_getElem? (i := 2) rfl)) (inr1 _ (List.mem_of_getElem? (i := 5) rfl)) (inr30 _ (List.mem_of_getElem? (i := 3) rfl)) (by decide +kernel) hts rfl rfl ⟨Nat.le_of_ble_eq_true rfl, Nat.le_of_ble_eq_true rfl⟩) 0 12 rfl rfl rfl (hP.sub [0, 1] rfl) hK hN (kT.to hT hS hAB) rfl hl.1 rfl (Nat.le_of_ble_eq_true rfl) ⟨Nat.le_of_ble_eq_true rfl, Nat.le_of_ble_eq_true rfl⟩ dX12_tune_10 (fun r_9 h_10 => ?_)
    have h_10 : ((r_9.toInt = 1 ∧ 0 ≤ t_8.toInt ∧ t_8.toInt ≤ (f_world 0).toInt - 1) ∨ r_9.toInt = 0) ∧ (r_9 = 0 ∨ r_9 = 1) := h_10
    obtain ⟨i_11, i_12⟩ := h_10
    have ar_9 : 0 ≤ r_9.toInt ∧ r_9.toInt ≤ 1 := by rcases i_12 with h | h <;> rw [h] <;> decide
    refine lv_if_ne (tgt := 19) hx hb dX12_tune_13 (by decide) (fun c_13 => ?_) (fun c_13 => ?_)
    · have c_13 : ¬ r_9.toInt = 0 := ci_ne_t c_13
      have b_r_9 := i32b r_9
      have d_14 : 0 ≤ t_8.toInt ∧ t_8.toInt ≤ (f_world 0).toInt - 1 := by omega
      have b_15 := (by assumption : sg sgWo f_world) _ (List.mem_of_getElem? (i := 0) rfl) 0 (by decide) (by decide)
      have b_15 : 0 ≤ (f_world 0).toInt ∧ (f_world 0).toInt ≤ 9 := b_15
      clear i_11
      refine lv_aload_n hx hb dX12_tune_19 rfl (lv_at hl 0 rfl) ?_
      refine va_get (D := D) (ci := 12) (v := .ref h_world) (C := RX12) (T := TX12) (N := 48) hx hb hts inlX12 hown hK hP 0 rfl rfl 1 (by decide) (hts _ (inr6 _ (List.mem_of_getElem? (i := 16) rfl))) (fun _ h9 => h9) rfl dX12_tune_20 ?_
      refine lv_bipush (v := 8) hx hb dX12_tune_23 (by decide) ?_
      obtain ⟨t_16, et_16⟩ : ∃ v9 : Int32, f_world (8 : Int32).toNatClampNeg = v9 := ⟨_, rfl⟩
      refine z_iald (v := t_16) hx hb hK hP 1 1 rfl rfl (by unfold vp_in; decide) et_16 dX12_tune_25 ?_
      have ft_16 : 0 ≤ t_16.toInt ∧ t_16.toInt ≤ 30 := sgL (by assumption : sg sgWo f_world) 5 rfl (by decide) (by decide) (by decide) et_16
      have qt_16 : (f_world 8).toInt = t_16.toInt := by rw [← et_16]; rfl
      refine lv_if_le (tgt := 32) hx hb dX12_tune_26 (by decide) (fun c_17 => ?_) (fun c_17 => ?_)
      · have c_17 : t_16.toInt ≤ 0 := ci_le_t c_17
        have b_t_16 := i32b t_16
        refine lv_aload_n hx hb dX12_tune_32 rfl (lv_at hl 0 rfl) ?_
        refine va_get (D := D) (ci := 12) (v := .ref h_world) (C := RX12) (T := TX12) (N := 48) hx hb hts inlX12 hown hK hP 0 rfl rfl 1 (by decide) (hts _ (inr6 _ (List.mem_of_getElem? (i := 16) rfl))) (fun _ h9 => h9) rfl dX12_tune_33 ?_
        refine lv_iconst (v := 3) hx hb dX12_tune_36 (by decide) ?_
        obtain ⟨t_18, et_18⟩ : ∃ v9 : Int32, f_world (3 : Int32).toNatClampNeg = v9 := ⟨_, rfl⟩
        refine z_iald (v := t_18) hx hb hK hP 1 1 rfl rfl (by unfold vp_in; decide) et_18 dX12_tune_37 ?_
        have ft_18 : 0 ≤ t_18.toInt ∧ t_18.toInt ≤ 8 := sgL (by assumption : sg sgWo f_world) 1 rfl (by decide) (by decide) (by decide) et_18
        have qt_18 : (f_world 3).toInt = t_18.toInt := by rw [← et_18]; rfl
        refine lv_istore_n (lv' := [(2, .int t_18), (0, .ref h0), (1, .int v1)]) hx hb dX12_tune_38 rfl hl (by decide) rfl (fun ls hl => ?_)
        refine lv_aload_n hx hb dX12_tune_39 rfl (lv_at hl 1 rfl) ?_
        refine va_get (D := D) (ci := 12) (v := .ref h_world) (C := RX12) (T := TX12) (N := 48) hx hb hts inlX12 hown hK hP 0 rfl rfl 1 (by decide) (hts _ (inr6 _ (List.mem_of_getElem? (i := 16) rfl))) (fun _ h9 => h9) rfl dX12_tune_40 ?_
        refine lv_iconst (v := 3) hx hb dX12_tune_43 (by decide) ?_
        refine lv_iload_n hx hb dX12_tune_44 rfl (lv_at hl 2 rfl) ?_
        refine va_iast hx hb hK hP hD hS 1 1 rfl rfl (by unfold vp_in; decide) dX12_tune_45 (fun H locs hP hD hS => ?_)
        have hP : va_P D vwCl [(mO h0 v0_thrown h_world h_images h_hasImage h_tape v0_taped h_five v0_size v0_at v0_from v0_token v0_value v0_faultKind v0_faultPlace h_fresh h_spokenAt h_heardAt h_lastAt h_answerAt v0_lawA v0_lawB v0_lawC v0_drawX v0_isDrawn v0_lostMany h_heardNow h_seenAt v0_roundFrom v0_roundTo v0_goLast v0_goAnswer v0_goHeard h_fewest h_costNow h_costThen h_lawsOf h_heardBy v0_lawMany v0_askWorst h_placesOf h_sentIn v0_placeMany v0_parentFirst h_lostBy h_many h_width h_numbers h_moving), (h_world, .inl (cI, 53, .inl (upd f_world (3 : Int32).toNatClampNeg v1)))] H := hP
        have hD : va_D A [(mO h0 v0_thrown h_world h_images h_hasImage h_tape v0_taped h_five v0_size v0_at v0_from v0_token v0_value v0_faultKind v0_faultPlace h_fresh h_spokenAt h_heardAt h_lastAt h_answerAt v0_lawA v0_lawB v0_lawC v0_drawX v0_isDrawn v0_lostMany h_heardNow h_seenAt v0_roundFrom v0_roundTo v0_goLast v0_goAnswer v0_goHeard h_fewest h_costNow h_costThen h_lawsOf h_heardBy v0_lawMany v0_askWorst h_placesOf h_sentIn v0_placeMany v0_parentFirst h_lostBy h_many h_width h_numbers h_moving), (h_world, .inl (cI, 53, .inl (upd f_world (3 : Int32).toNatClampNeg v1)))] := hD
        obtain ⟨g_19, eg_19⟩ : ∃ v9 : Nat → Int32, (upd f_world (3 : Int32).toNatClampNeg v1) = v9 := ⟨_, rfl⟩
        rw [eg_19] at hP hD
        have hP : va_P D vwCl [(mO h0 v0_thrown h_world h_images h_hasImage h_tape v0_taped h_five v0_size v0_at v0_from v0_token v0_value v0_faultKind v0_faultPlace h_fresh h_spokenAt h_heardAt h_lastAt h_answerAt v0_lawA v0_lawB v0_lawC v0_drawX v0_isDrawn v0_lostMany h_heardNow h_seenAt v0_roundFrom v0_roundTo v0_goLast v0_goAnswer v0_goHeard h_fewest h_costNow h_costThen h_lawsOf h_heardBy v0_lawMany v0_askWorst h_placesOf h_sentIn v0_placeMany v0_parentFirst h_lostBy h_many h_width h_numbers h_moving), (h_world, .inl (cI, 53, .inl g_19))] H := hP
        have hD : va_D A [(mO h0 v0_thrown h_world h_images h_hasImage h_tape v0_taped h_five v0_size v0_at v0_from v0_token v0_value v0_faultKind v0_faultPlace h_fresh h_spokenAt h_heardAt h_lastAt h_answerAt v0_lawA v0_lawB v0_lawC v0_drawX v0_isDrawn v0_lostMany h_heardNow h_seenAt v0_roundFrom v0_roundTo v0_goLast v0_goAnswer v0_goHeard h_fewest h_costNow h_costThen h_lawsOf h_heardBy v0_lawMany v0_askWorst h_placesOf h_sentIn v0_placeMany v0_parentFirst h_lostBy h_many h_width h_numbers h_moving), (h_world, .inl (cI, 53, .inl g_19))] := hD
        have pg_19 : sg sgWo g_19 := by rw [← eg_19]; exact sgS (by assumption : sg sgWo f_world) (by decide) (by have z9_i : (3 : Int32).toInt = 3 := (by decide); intro q9 hq9; simp only [sgWo, List.mem_cons, List.not_mem_nil, or_false] at hq9; rcases hq9 with rfl | rfl | rfl | rfl | rfl | rfl | rfl | rfl | rfl <;> dsimp only <;> omega)
        have wg_19_0 : (g_19 0).toInt = (f_world 0).toInt := upd9E (i := 3) eg_19 (by decide) (by decide)
        have wg_19_6 : (g_19 6).toInt = (f_world 6).toInt := upd9E (i := 3) eg_19 (by decide) (by decide)
        have wg_19_7 : (g_19 7).toInt = (f_world 7).toInt := upd9E (i := 3) eg_19 (by decide) (by decide)
        have wg_19_8 : (g_19 8).toInt = (f_world 8).toInt := upd9E (i := 3) eg_19 (by decide) (by decide)
        have wg_19_9 : (g_19 9).toInt = (f_world 9).toInt := upd9E (i := 3) eg_19 (by decide) (by decide)
        refine lv_iload_n hx hb dX12_tune_46 rfl (lv_at hl 0 rfl) ?_
        exact ret _ _ _ _ _ g_19 dX12_tune_47 (show (sg sgWo g_19) ∧ (0 < (g_19 9).toInt → 2 ≤ (g_19 0).toInt) from ⟨(by first | assumption | (have := zI0; have := zI1; have := zIm; omega) | decide), (by first | assumption | (have := zI0; have := zI1; have := zIm; omega) | decide)⟩) (hP.sub [0, 1] rfl) (hD.sub [0, 1] (by decide) rfl) hS
      · have c_17 : 0 < t_16.toInt := ci_le_f c_17
        have b_t_16 := i32b t_16
        refine lv_bipush (v := (-5)) hx hb dX12_tune_29 (by decide) ?_
        exact ret _ _ _ _ _ f_world dX12_tune_31 (show (sg sgWo f_world) ∧ (0 < (f_world 9).toInt → 2 ≤ (f_world 0).toInt) from ⟨(by first | assumption | (have := zI0; have := zI1; have := zIm; omega) | decide), (by first | assumption | (have := zI0; have := zI1; have := zIm; omega) | decide)⟩) (hP.sub [0, 1] rfl) (hD.sub [0, 1] (by decide) rfl) hS
    · have c_13 : r_9.toInt = 0 := ci_ne_f c_13
      have b_r_9 := i32b r_9
      clear i_11
      refine lv_bipush (v := (-2)) hx hb dX12_tune_16 (by decide) ?_
      exact ret _ _ _ _ _ f_world dX12_tune_18 (show (sg sgWo f_world) ∧ (0 < (f_world 9).toInt → 2 ≤ (f_world 0).toInt) from ⟨(by first | assumption | (have := zI0; have := zI1; have := zIm; omega) | decide), (by first | assumption | (have := zI0; have := zI1; have := zIm; omega) | decide)⟩) (hP.sub [0, 1] rfl) (hD.sub [0, 1] (by decide) rfl) hS

set_option maxHeartbeats 4000000 in
set_option maxRecDepth 100000 in
theorem b_X12_count_l42 {p : Program} {l : Launch} {e : Env} {s : State} {m : MethodId} {args : Array Value} {below : List Frame} {meth : Method} {c : Code} {Q : State → Prop} {G : Gho} {D : va_G} {cB cI cJ cZ cS cT : ClassId} (h0 : Nat) (v0_thrown : Int32) (h_world : Nat) (h_images : Nat) (h_hasImage : Nat) (h_tape : Nat) (v0_taped : Int32) (h_five : Nat) (v0_size : Int32) (v0_at : Int32) (v0_from : Int32) (v0_token : Int32) (v0_value : Int32) (v0_faultKind : Int32) (v0_faultPlace : Int32) (h_fresh : Nat) (h_spokenAt : Nat) (h_heardAt : Nat) (h_lastAt : Nat) (h_answerAt : Nat) (v0_lawA : Int32) (v0_lawB : Int32) (v0_lawC : Int32) (v0_drawX : Int64) (v0_isDrawn : Int32) (v0_lostMany : Int32) (h_heardNow : Nat) (h_seenAt : Nat) (v0_roundFrom : Int32) (v0_roundTo : Int32) (v0_goLast : Int32) (v0_goAnswer : Int32) (v0_goHeard : Int32) (h_fewest : Nat) (h_costNow : Nat) (h_costThen : Nat) (h_lawsOf : Nat) (h_heardBy : Nat) (v0_lawMany : Int32) (v0_askWorst : Int32) (h_placesOf : Nat) (h_sentIn : Nat) (v0_placeMany : Int32) (v0_parentFirst : Int32) (h_lostBy : Nat) (h_many : Nat) (h_width : Nat) (h_numbers : Nat) (h_moving : Nat) (f_many : Nat → Int32) (f_world : Nat → Int32) (v1 : Int32) (iv0_taped : 0 ≤ v0_taped.toInt ∧ v0_taped.toInt ≤ 500) (iv0_size : 0 ≤ v0_size.toInt ∧ v0_size.toInt ≤ 500) (iv0_at : 0 ≤ v0_at.toInt ∧ v0_at.toInt ≤ 500) (iv0_from : 0 ≤ v0_from.toInt ∧ v0_from.toInt ≤ 500) (iv0_faultKind : 0 ≤ v0_faultKind.toInt ∧ v0_faultKind.toInt ≤ 3) (iv0_lawA : 0 ≤ v0_lawA.toInt ∧ v0_lawA.toInt ≤ 8) (iv0_lawB : 0 ≤ v0_lawB.toInt ∧ v0_lawB.toInt ≤ 8) (iv0_lawC : 0 ≤ v0_lawC.toInt ∧ v0_lawC.toInt ≤ 9) (iv0_isDrawn : 0 ≤ v0_isDrawn.toInt ∧ v0_isDrawn.toInt ≤ 1) (iv0_roundFrom : 0 ≤ v0_roundFrom.toInt ∧ v0_roundFrom.toInt ≤ 648) (iv0_roundTo : 0 ≤ v0_roundTo.toInt ∧ v0_roundTo.toInt ≤ 648) (iv0_goLast : 0 ≤ v0_goLast.toInt ∧ v0_goLast.toInt ≤ 8) (iv0_goAnswer : 0 ≤ v0_goAnswer.toInt ∧ v0_goAnswer.toInt ≤ 8) (iv0_lawMany : 0 ≤ v0_lawMany.toInt ∧ v0_lawMany.toInt ≤ 729) (iv0_placeMany : 0 ≤ v0_placeMany.toInt ∧ v0_placeMany.toInt ≤ 100) (pf_many : sg sgMa f_many) (pf_world : sg sgWo f_world) (cf_world : 0 < (f_world 9).toInt → 2 ≤ (f_world 0).toInt) (c_8 : ¬ v1.toInt = 10) (c_9 : v1.toInt = 11) (C : Cx p s m args c RX12 cX12_count 4 G D (tyL cB cI cJ cZ cS cT)) (hP : va_P D vwCl [(mO h0 v0_thrown h_world h_images h_hasImage h_tape v0_taped h_five v0_size v0_at v0_from v0_token v0_value v0_faultKind v0_faultPlace h_fresh h_spokenAt h_heardAt h_lastAt h_answerAt v0_lawA v0_lawB v0_lawC v0_drawX v0_isDrawn v0_lostMany h_heardNow h_seenAt v0_roundFrom v0_roundTo v0_goLast v0_goAnswer v0_goHeard h_fewest h_costNow h_costThen h_lawsOf h_heardBy v0_lawMany v0_askWorst h_placesOf h_sentIn v0_placeMany v0_parentFirst h_lostBy h_many h_width h_numbers h_moving), (h_many, .inl (cI, 4, .inl f_many)), (h_world, .inl (cI, 53, .inl f_world))] s.heap) (ret : RroI p l e ({ frames := 1, cells := 0, slots := 0, locals := 25 }) s m args below meth c cX12_count (fun r : Int32 => True) Q) :
    ∀ (N : Nat) (l42_3 : Int32) (l42_2 : Int32) (ls : Array Slot), 0 ≤ l42_3.toInt ∧ l42_3.toInt ≤ 4 → (4 - l42_3.toInt).toNat < N → lv_has ls 4 [(3, .int l42_3), (2, .int l42_2), (0, .ref h0)] → W p l e ({ frames := 1, cells := 0, slots := 0, locals := 25 }) s m args below meth c s.heap [] 0 0 Q (F0 m 42 ls []) := by
  obtain ⟨hx, hb, hml, hown, hts, hK, hN, hT⟩ := id C
  intro N
  induction N with
  | zero =>
    intro l42_3 l42_2 ls kl42_3 hM_42 hl
    omega
  | succ N_42 ih_42 =>
    intro l42_3 l42_2 ls kl42_3 hM_42 hl
    have b_l42_3 := i32b l42_3
    refine lv_iload_n hx hb dX12_count_42 rfl (lv_at hl 0 rfl) ?_
    refine lv_iconst (v := 4) hx hb dX12_count_43 (by decide) ?_
    refine lv_icmp_ge (tgt := 71) hx hb dX12_count_44 (by decide) (fun c_10 => ?_) (fun c_10 => ?_)
    · have c_10 : 4 ≤ l42_3.toInt := ci_ge_t c_10
      refine lv_iload_n hx hb dX12_count_71 rfl (lv_at hl 1 rfl) ?_
      exact ret _ _ _ dX12_count_72 trivial
    · have c_10 : l42_3.toInt < 4 := ci_ge_f c_10
      refine lv_iload_n hx hb dX12_count_47 rfl (lv_at hl 1 rfl) ?_
      refine lv_aload_n hx hb dX12_count_48 rfl (lv_at hl 2 rfl) ?_
      refine va_get (D := D) (ci := 12) (v := .ref h_many) (C := RX12) (T := TX12) (N := 48) hx hb hts inlX12 hown hK hP 0 rfl rfl 44 (by decide) (hts _ (inr7 _ (List.mem_of_getElem? (i := 14) rfl))) (fun _ h9 => h9) rfl dX12_count_49 ?_
      refine lv_iload_n hx hb dX12_count_52 rfl (lv_at hl 0 rfl) ?_
      obtain ⟨t_11, et_11⟩ : ∃ v9 : Int32, f_many (l42_3 : Int32).toNatClampNeg = v9 := ⟨_, rfl⟩
      refine z_iald (v := t_11) hx hb hK hP 1 1 rfl rfl (vin_nat (by omega) (by omega)) et_11 dX12_count_53 ?_
      have ft_11 : (-1) ≤ t_11.toInt ∧ t_11.toInt ≤ 60 := sgL (by assumption : sg sgMa f_many) 0 rfl (by omega) (by omega) (by omega) et_11
      refine lv_iconst (v := (-1)) hx hb dX12_count_54 (by decide) ?_
      refine lv_icmp_ne (tgt := 62) hx hb dX12_count_55 (by decide) (fun c_12 => ?_) (fun c_12 => ?_)
      · have c_12 : ¬ t_11.toInt = (-1) := ci_ne_t c_12
        have b_t_11 := i32b t_11
        refine lv_iconst (v := 1) hx hb dX12_count_62 (by decide) ?_
        obtain ⟨t_13, et_13⟩ : ∃ v9 : Int32, l42_2 + 1 = v9 := ⟨_, rfl⟩
        refine z_iadd (v := t_13) hx hb dX12_count_63 et_13 ?_
        refine lv_istore_n (lv' := [(2, .int t_13), (3, .int l42_3), (0, .ref h0)]) hx hb dX12_count_64 rfl hl (by decide) rfl (fun ls hl => ?_)
        obtain ⟨t_14, et_14⟩ : ∃ v9 : Int32, l42_3 + 1 = v9 := ⟨_, rfl⟩
        have ft_14 : t_14.toInt = l42_3.toInt + 1 := addT (a := l42_3.toInt) (b := 1) rfl (by decide) et_14 (by omega) (by omega)
        refine lv_iinc (v := t_14) (lv' := [(3, .int t_14), (2, .int t_13), (0, .ref h0)]) hx hb dX12_count_65 hl (k := 1) rfl (by rw [← et_14]; rfl) (by decide) rfl (fun ls hl => ?_)
        refine lv_goto (tgt := 42) hx hb dX12_count_68 (by decide) ?_
        exact ih_42 (t_14) (t_13) _ (by first | assumption | (have := zI0; have := zI1; have := zIm; omega) | decide) (by omega) (lv_sub hl [0, 1, 2] rfl)
      · have c_12 : t_11.toInt = (-1) := ci_ne_f c_12
        have b_t_11 := i32b t_11
        refine lv_iconst (v := 0) hx hb dX12_count_58 (by decide) ?_
        refine lv_goto (tgt := 63) hx hb dX12_count_59 (by decide) ?_
        obtain ⟨t_15, et_15⟩ : ∃ v9 : Int32, l42_2 + 0 = v9 := ⟨_, rfl⟩
        refine z_iadd (v := t_15) hx hb dX12_count_63 et_15 ?_
        have b_l42_2 := i32b l42_2
        have ft_15 : t_15.toInt = l42_2.toInt + 0 := addT (a := l42_2.toInt) (b := 0) rfl (by decide) et_15 (by omega) (by omega)
        refine lv_istore_n (lv' := [(2, .int t_15), (3, .int l42_3), (0, .ref h0)]) hx hb dX12_count_64 rfl hl (by decide) rfl (fun ls hl => ?_)
        obtain ⟨t_16, et_16⟩ : ∃ v9 : Int32, l42_3 + 1 = v9 := ⟨_, rfl⟩
        have ft_16 : t_16.toInt = l42_3.toInt + 1 := addT (a := l42_3.toInt) (b := 1) rfl (by decide) et_16 (by omega) (by omega)
        refine lv_iinc (v := t_16) (lv' := [(3, .int t_16), (2, .int t_15), (0, .ref h0)]) hx hb dX12_count_65 hl (k := 1) rfl (by rw [← et_16]; rfl) (by decide) rfl (fun ls hl => ?_)
        refine lv_goto (tgt := 42) hx hb dX12_count_68 (by decide) ?_
        exact ih_42 (t_16) (t_15) _ (by first | assumption | (have := zI0; have := zI1; have := zIm; omega) | decide) (by omega) (lv_sub hl [0, 1, 2] rfl)

set_option maxHeartbeats 4000000 in
set_option maxRecDepth 100000 in
theorem b_X12_count (l : Launch) (G : Gho) (D : va_G) (cB cI cJ cZ cS cT : ClassId) (h0 : Nat) (v0_thrown : Int32) (h_world : Nat) (h_images : Nat) (h_hasImage : Nat) (h_tape : Nat) (v0_taped : Int32) (h_five : Nat) (v0_size : Int32) (v0_at : Int32) (v0_from : Int32) (v0_token : Int32) (v0_value : Int32) (v0_faultKind : Int32) (v0_faultPlace : Int32) (h_fresh : Nat) (h_spokenAt : Nat) (h_heardAt : Nat) (h_lastAt : Nat) (h_answerAt : Nat) (v0_lawA : Int32) (v0_lawB : Int32) (v0_lawC : Int32) (v0_drawX : Int64) (v0_isDrawn : Int32) (v0_lostMany : Int32) (h_heardNow : Nat) (h_seenAt : Nat) (v0_roundFrom : Int32) (v0_roundTo : Int32) (v0_goLast : Int32) (v0_goAnswer : Int32) (v0_goHeard : Int32) (h_fewest : Nat) (h_costNow : Nat) (h_costThen : Nat) (h_lawsOf : Nat) (h_heardBy : Nat) (v0_lawMany : Int32) (v0_askWorst : Int32) (h_placesOf : Nat) (h_sentIn : Nat) (v0_placeMany : Int32) (v0_parentFirst : Int32) (h_lostBy : Nat) (h_many : Nat) (h_width : Nat) (h_numbers : Nat) (h_moving : Nat) (f_many : Nat → Int32) (f_world : Nat → Int32) (v1 : Int32) (iv0_taped : 0 ≤ v0_taped.toInt ∧ v0_taped.toInt ≤ 500) (iv0_size : 0 ≤ v0_size.toInt ∧ v0_size.toInt ≤ 500) (iv0_at : 0 ≤ v0_at.toInt ∧ v0_at.toInt ≤ 500) (iv0_from : 0 ≤ v0_from.toInt ∧ v0_from.toInt ≤ 500) (iv0_faultKind : 0 ≤ v0_faultKind.toInt ∧ v0_faultKind.toInt ≤ 3) (iv0_lawA : 0 ≤ v0_lawA.toInt ∧ v0_lawA.toInt ≤ 8) (iv0_lawB : 0 ≤ v0_lawB.toInt ∧ v0_lawB.toInt ≤ 8) (iv0_lawC : 0 ≤ v0_lawC.toInt ∧ v0_lawC.toInt ≤ 9) (iv0_isDrawn : 0 ≤ v0_isDrawn.toInt ∧ v0_isDrawn.toInt ≤ 1) (iv0_roundFrom : 0 ≤ v0_roundFrom.toInt ∧ v0_roundFrom.toInt ≤ 648) (iv0_roundTo : 0 ≤ v0_roundTo.toInt ∧ v0_roundTo.toInt ≤ 648) (iv0_goLast : 0 ≤ v0_goLast.toInt ∧ v0_goLast.toInt ≤ 8) (iv0_goAnswer : 0 ≤ v0_goAnswer.toInt ∧ v0_goAnswer.toInt ≤ 8) (iv0_lawMany : 0 ≤ v0_lawMany.toInt ∧ v0_lawMany.toInt ≤ 729) (iv0_placeMany : 0 ≤ v0_placeMany.toInt ∧ v0_placeMany.toInt ≤ 100) (pf_many : sg sgMa f_many) (pf_world : sg sgWo f_world) (cf_world : 0 < (f_world 9).toInt → 2 ≤ (f_world 0).toInt) : Met l yX12_count (Cond.code yX12_count cX12_count 4 (some .int) :: wsL_law) ({ frames := 1, cells := 0, slots := 0, locals := 25 }) (roP G D (tyL cB cI cJ cZ cS cT) [(mO h0 v0_thrown h_world h_images h_hasImage h_tape v0_taped h_five v0_size v0_at v0_from v0_token v0_value v0_faultKind v0_faultPlace h_fresh h_spokenAt h_heardAt h_lastAt h_answerAt v0_lawA v0_lawB v0_lawC v0_drawX v0_isDrawn v0_lostMany h_heardNow h_seenAt v0_roundFrom v0_roundTo v0_goLast v0_goAnswer v0_goHeard h_fewest h_costNow h_costThen h_lawsOf h_heardBy v0_lawMany v0_askWorst h_placesOf h_sentIn v0_placeMany v0_parentFirst h_lostBy h_many h_width h_numbers h_moving), (h_many, .inl (cI, 4, .inl f_many)), (h_world, .inl (cI, 53, .inl f_world))] [.ref h0, .int v1]) (vp_Si (fun r : Int32 => True)) 0 0 (fun _ => False) := by
  refine metRO (own := RX12) (by decide) rfl ?_
  intro p e s m below meth c Q C hP ret
  obtain ⟨hx, hb, hml, hown, hts, hK, hN, hT⟩ := id C
  have hl := lv_entry ([.ref h0, .int v1]) (n := 4) (Nat.le_of_ble_eq_true rfl)
  rw [lg_entry_eq]
  generalize (lg_sl ([.ref h0, .int v1]) ++ List.replicate (4 - (lg_sl ([.ref h0, .int v1])).length) Slot.unset).toArray = ls at hl ⊢
  have hl : lv_has ls 4 [(0, .ref h0), (1, .int v1)] := hl
  have hP : va_P D vwCl [(mO h0 v0_thrown h_world h_images h_hasImage h_tape v0_taped h_five v0_size v0_at v0_from v0_token v0_value v0_faultKind v0_faultPlace h_fresh h_spokenAt h_heardAt h_lastAt h_answerAt v0_lawA v0_lawB v0_lawC v0_drawX v0_isDrawn v0_lostMany h_heardNow h_seenAt v0_roundFrom v0_roundTo v0_goLast v0_goAnswer v0_goHeard h_fewest h_costNow h_costThen h_lawsOf h_heardBy v0_lawMany v0_askWorst h_placesOf h_sentIn v0_placeMany v0_parentFirst h_lostBy h_many h_width h_numbers h_moving), (h_many, .inl (cI, 4, .inl f_many)), (h_world, .inl (cI, 53, .inl f_world))] s.heap := hP
  refine lv_iload_n hx hb dX12_count_0 rfl (lv_at hl 1 rfl) ?_
  have b_v1 := i32b v1
  obtain ⟨t_1, et_1⟩ : ∃ v9 : Int64, (v1 : Int32).toInt64 = v9 := ⟨_, rfl⟩
  refine lv_i2l (v := t_1) hx hb dX12_count_1 et_1 ?_
  have ft_1 : t_1.toInt = v1.toInt := by rw [← et_1]; exact Int32.toInt_toInt64 _
  refine lv_lconst (v := 0) hx hb dX12_count_2 (by decide) ?_
  refine lv_ldc2 hx hb hown (hts _ (inr72 _ (List.mem_of_getElem? (i := 8) rfl))) dX12_count_3 ?_
  refine rosi (As := [.long t_1, .long 0, .long 9]) (rest := []) ⟨hx, hb, hml, hown, hts⟩ (b_X12_in l G D cB cI cJ cZ cS cT t_1 0 9 ) (csB (n := 3) (inr9 _ (List.mem_of_getElem? (i := 3) rfl)) (inr9 _ (List.mem_of_getElem? (i := 4) rfl)) (inr1 _ (List.mem_of_getElem? (i := 5) rfl)) (inr9 _ (List.mem_of_getElem? (i := 5) rfl)) (by decide +kernel) hts rfl rfl ⟨Nat.le_of_ble_eq_true rfl, Nat.le_of_ble_eq_true rfl⟩) (hP.sub [] rfl) hK hN hT rfl hl.1 rfl (Nat.le_of_ble_eq_true rfl) ⟨Nat.le_of_ble_eq_true rfl, Nat.le_of_ble_eq_true rfl⟩ dX12_count_6 (fun r_2 h_3 => ?_)
  have h_3 : ((r_2.toInt = 1 ∧ 0 ≤ t_1.toInt ∧ t_1.toInt ≤ 9) ∨ (r_2.toInt = 0 ∧ (t_1.toInt < 0 ∨ 9 < t_1.toInt))) ∧ (r_2 = 0 ∨ r_2 = 1) := h_3
  obtain ⟨i_4, i_5⟩ := h_3
  have ar_2 : 0 ≤ r_2.toInt ∧ r_2.toInt ≤ 1 := by rcases i_5 with h | h <;> rw [h] <;> decide
  refine lv_if_eq (tgt := 19) hx hb dX12_count_9 (by decide) (fun c_6 => ?_) (fun c_6 => ?_)
  · have c_6 : r_2.toInt = 0 := ci_eq_t c_6
    have b_r_2 := i32b r_2
    have d_7 : (t_1.toInt < 0 ∨ 9 < t_1.toInt) := by omega
    clear i_4
    refine lv_iload_n hx hb dX12_count_19 rfl (lv_at hl 1 rfl) ?_
    refine lv_bipush (v := 10) hx hb dX12_count_20 (by decide) ?_
    refine lv_icmp_ne (tgt := 30) hx hb dX12_count_22 (by decide) (fun c_8 => ?_) (fun c_8 => ?_)
    · have c_8 : ¬ v1.toInt = 10 := ci_ne_t c_8
      refine lv_iload_n hx hb dX12_count_30 rfl (lv_at hl 1 rfl) ?_
      refine lv_bipush (v := 11) hx hb dX12_count_31 (by decide) ?_
      refine lv_icmp_eq (tgt := 38) hx hb dX12_count_33 (by decide) (fun c_9 => ?_) (fun c_9 => ?_)
      · have c_9 : v1.toInt = 11 := ci_eq_t c_9
        refine lv_iconst (v := 0) hx hb dX12_count_38 (by decide) ?_
        refine lv_istore_n (lv' := [(2, .int 0), (0, .ref h0), (1, .int v1)]) hx hb dX12_count_39 rfl hl (by decide) rfl (fun ls hl => ?_)
        refine lv_iconst (v := 0) hx hb dX12_count_40 (by decide) ?_
        refine lv_istore_n (lv' := [(3, .int 0), (2, .int 0), (0, .ref h0), (1, .int v1)]) hx hb dX12_count_41 rfl hl (by decide) rfl (fun ls hl => ?_)
        exact b_X12_count_l42 h0 v0_thrown h_world h_images h_hasImage h_tape v0_taped h_five v0_size v0_at v0_from v0_token v0_value v0_faultKind v0_faultPlace h_fresh h_spokenAt h_heardAt h_lastAt h_answerAt v0_lawA v0_lawB v0_lawC v0_drawX v0_isDrawn v0_lostMany h_heardNow h_seenAt v0_roundFrom v0_roundTo v0_goLast v0_goAnswer v0_goHeard h_fewest h_costNow h_costThen h_lawsOf h_heardBy v0_lawMany v0_askWorst h_placesOf h_sentIn v0_placeMany v0_parentFirst h_lostBy h_many h_width h_numbers h_moving f_many f_world v1 (by first | assumption | (have := zI0; have := zI1; have := zIm; omega) | decide) (by first | assumption | (have := zI0; have := zI1; have := zIm; omega) | decide) (by first | assumption | (have := zI0; have := zI1; have := zIm; omega) | decide) (by first | assumption | (have := zI0; have := zI1; have := zIm; omega) | decide) (by first | assumption | (have := zI0; have := zI1; have := zIm; omega) | decide) (by first | assumption | (have := zI0; have := zI1; have := zIm; omega) | decide) (by first | assumption | (have := zI0; have := zI1; have := zIm; omega) | decide) (by first | assumption | (have := zI0; have := zI1; have := zIm; omega) | decide) (by first | assumption | (have := zI0; have := zI1; have := zIm; omega) | decide) (by first | assumption | (have := zI0; have := zI1; have := zIm; omega) | decide) (by first | assumption | (have := zI0; have := zI1; have := zIm; omega) | decide) (by first | assumption | (have := zI0; have := zI1; have := zIm; omega) | decide) (by first | assumption | (have := zI0; have := zI1; have := zIm; omega) | decide) (by first | assumption | (have := zI0; have := zI1; have := zIm; omega) | decide) (by first | assumption | (have := zI0; have := zI1; have := zIm; omega) | decide) (by first | assumption | (have := zI0; have := zI1; have := zIm; omega) | decide) (by first | assumption | (have := zI0; have := zI1; have := zIm; omega) | decide) (by first | assumption | (have := zI0; have := zI1; have := zIm; omega) | decide) (by first | assumption | (have := zI0; have := zI1; have := zIm; omega) | decide) (by first | assumption | (have := zI0; have := zI1; have := zIm; omega) | decide) C (hP.sub [0, 1, 2] rfl) ret _ (0) (0) _ (by first | assumption | (have := zI0; have := zI1; have := zIm; omega) | decide) (Nat.lt_succ_self _) (lv_sub hl [0, 1, 2] rfl)
      · have c_9 : ¬ v1.toInt = 11 := ci_eq_f c_9
        refine lv_iconst (v := (-1)) hx hb dX12_count_36 (by decide) ?_
        exact ret _ _ _ dX12_count_37 trivial
    · have c_8 : v1.toInt = 10 := ci_ne_f c_8
      refine lv_aload_n hx hb dX12_count_25 rfl (lv_at hl 0 rfl) ?_
      refine va_get (D := D) (ci := 12) (v := .int v0_taped) (C := RX12) (T := TX12) (N := 48) hx hb hts inlX12 hown hK hP 0 rfl rfl 5 (by decide) (hts _ (inr8 _ (List.mem_of_getElem? (i := 11) rfl))) (fun _ h9 => h9) rfl dX12_count_26 ?_
      exact ret _ _ _ dX12_count_29 trivial
  · have c_6 : ¬ r_2.toInt = 0 := ci_eq_f c_6
    have b_r_2 := i32b r_2
    have d_10 : 0 ≤ t_1.toInt ∧ t_1.toInt ≤ 9 := by omega
    clear i_4
    refine lv_aload_n hx hb dX12_count_12 rfl (lv_at hl 0 rfl) ?_
    refine va_get (D := D) (ci := 12) (v := .ref h_world) (C := RX12) (T := TX12) (N := 48) hx hb hts inlX12 hown hK hP 0 rfl rfl 1 (by decide) (hts _ (inr6 _ (List.mem_of_getElem? (i := 16) rfl))) (fun _ h9 => h9) rfl dX12_count_13 ?_
    refine lv_iload_n hx hb dX12_count_16 rfl (lv_at hl 1 rfl) ?_
    obtain ⟨t_11, et_11⟩ : ∃ v9 : Int32, f_world (v1 : Int32).toNatClampNeg = v9 := ⟨_, rfl⟩
    refine z_iald (v := t_11) hx hb hK hP 2 1 rfl rfl (vin_nat (by omega) (by omega)) et_11 dX12_count_17 ?_
    exact ret _ _ _ dX12_count_18 trivial

set_option maxHeartbeats 4000000 in
set_option maxRecDepth 100000 in
theorem b_X12_cut (l : Launch) (G : Gho) (D : va_G) (cB cI cJ cZ cS cT : ClassId) (v0 : Int64) (v2 : Int32)  : Met l yX12_cut (Cond.code yX12_cut cX12_cut 4 (some .long) :: wsL_law) ({ frames := 0, cells := 0, slots := 0, locals := 0 }) (roP G D (tyL cB cI cJ cZ cS cT) [] [.long v0, .int v2]) (vp_Sl (fun r : Int64 => True)) 0 0 (fun _ => False) := by
  refine metROL (own := RX12) (by decide) rfl ?_
  intro p e s m below meth c Q C hP ret
  obtain ⟨hx, hb, hml, hown, hts, hK, hN, hT⟩ := id C
  have hl := lv_entry ([.long v0, .int v2]) (n := 4) (Nat.le_of_ble_eq_true rfl)
  rw [lg_entry_eq]
  generalize (lg_sl ([.long v0, .int v2]) ++ List.replicate (4 - (lg_sl ([.long v0, .int v2])).length) Slot.unset).toArray = ls at hl ⊢
  have hl : lv_has ls 4 [(0, .long v0), (2, .int v2)] := hl
  have hP : va_P D vwCl [] s.heap := hP
  refine lv_bipush (v := 64) hx hb dX12_cut_0 (by decide) ?_
  refine lv_bipush (v := 8) hx hb dX12_cut_2 (by decide) ?_
  refine lv_iload_n hx hb dX12_cut_4 rfl (lv_at hl 1 rfl) ?_
  obtain ⟨t_1, et_1⟩ : ∃ v9 : Int32, 8 <<< (v2 &&& 31) = v9 := ⟨_, rfl⟩
  refine z_ishl (v := t_1) hx hb dX12_cut_5 et_1 ?_
  obtain ⟨t_2, et_2⟩ : ∃ v9 : Int32, 64 - t_1 = v9 := ⟨_, rfl⟩
  refine z_isub (v := t_2) hx hb dX12_cut_6 et_2 ?_
  refine lv_istore_n (lv' := [(3, .int t_2), (0, .long v0), (2, .int v2)]) hx hb dX12_cut_7 rfl hl (by decide) rfl (fun ls hl => ?_)
  refine lv_lload_n hx hb dX12_cut_8 rfl (lv_at hl 1 rfl) ?_
  refine lv_iload_n hx hb dX12_cut_9 rfl (lv_at hl 0 rfl) ?_
  obtain ⟨t_3, et_3⟩ : ∃ v9 : Int64, v0 <<< ((t_2 : Int32).toInt64 &&& 63) = v9 := ⟨_, rfl⟩
  refine lv_lshl (v := t_3) hx hb dX12_cut_10 et_3 ?_
  refine lv_iload_n hx hb dX12_cut_11 rfl (lv_at hl 0 rfl) ?_
  obtain ⟨t_4, et_4⟩ : ∃ v9 : Int64, t_3 >>> ((t_2 : Int32).toInt64 &&& 63) = v9 := ⟨_, rfl⟩
  refine lv_lshr (v := t_4) hx hb dX12_cut_12 et_4 ?_
  exact ret _ _ _ dX12_cut_13 trivial

set_option maxHeartbeats 4000000 in
set_option maxRecDepth 100000 in
theorem b_X12_row_l52 {p : Program} {l : Launch} {e : Env} {s : State} {m : MethodId} {args : Array Value} {below : List Frame} {meth : Method} {c : Code} {Q : State → Prop} {G : Gho} {D : va_G} {cB cI cJ cZ cS cT : ClassId} {A : Nat → Prop} (h0 : Nat) (v0_thrown : Int32) (h_world : Nat) (h_images : Nat) (h_hasImage : Nat) (h_tape : Nat) (v0_taped : Int32) (h_five : Nat) (v0_size : Int32) (v0_at : Int32) (v0_from : Int32) (v0_token : Int32) (v0_value : Int32) (v0_faultKind : Int32) (v0_faultPlace : Int32) (h_fresh : Nat) (h_spokenAt : Nat) (h_heardAt : Nat) (h_lastAt : Nat) (h_answerAt : Nat) (v0_lawA : Int32) (v0_lawB : Int32) (v0_lawC : Int32) (v0_drawX : Int64) (v0_isDrawn : Int32) (v0_lostMany : Int32) (h_heardNow : Nat) (h_seenAt : Nat) (v0_roundFrom : Int32) (v0_roundTo : Int32) (v0_goLast : Int32) (v0_goAnswer : Int32) (v0_goHeard : Int32) (h_fewest : Nat) (h_costNow : Nat) (h_costThen : Nat) (h_lawsOf : Nat) (h_heardBy : Nat) (v0_lawMany : Int32) (v0_askWorst : Int32) (h_placesOf : Nat) (h_sentIn : Nat) (v0_placeMany : Int32) (v0_parentFirst : Int32) (h_lostBy : Nat) (h_many : Nat) (h_width : Nat) (h_numbers : Nat) (h_moving : Nat) (f_many : Nat → Int32) (f_width : Nat → Int32) (v1 : Int32) (v2 : Int32) (v3 : Int32) (g_18 : Nat → Int32) (g_19 : Nat → Int32) (iv0_taped : 0 ≤ v0_taped.toInt ∧ v0_taped.toInt ≤ 500) (iv0_size : 0 ≤ v0_size.toInt ∧ v0_size.toInt ≤ 500) (iv0_at : 0 ≤ v0_at.toInt ∧ v0_at.toInt ≤ 500) (iv0_from : 0 ≤ v0_from.toInt ∧ v0_from.toInt ≤ 500) (iv0_faultKind : 0 ≤ v0_faultKind.toInt ∧ v0_faultKind.toInt ≤ 3) (iv0_lawA : 0 ≤ v0_lawA.toInt ∧ v0_lawA.toInt ≤ 8) (iv0_lawB : 0 ≤ v0_lawB.toInt ∧ v0_lawB.toInt ≤ 8) (iv0_lawC : 0 ≤ v0_lawC.toInt ∧ v0_lawC.toInt ≤ 9) (iv0_isDrawn : 0 ≤ v0_isDrawn.toInt ∧ v0_isDrawn.toInt ≤ 1) (iv0_roundFrom : 0 ≤ v0_roundFrom.toInt ∧ v0_roundFrom.toInt ≤ 648) (iv0_roundTo : 0 ≤ v0_roundTo.toInt ∧ v0_roundTo.toInt ≤ 648) (iv0_goLast : 0 ≤ v0_goLast.toInt ∧ v0_goLast.toInt ≤ 8) (iv0_goAnswer : 0 ≤ v0_goAnswer.toInt ∧ v0_goAnswer.toInt ≤ 8) (iv0_lawMany : 0 ≤ v0_lawMany.toInt ∧ v0_lawMany.toInt ≤ 729) (iv0_placeMany : 0 ≤ v0_placeMany.toInt ∧ v0_placeMany.toInt ≤ 100) (pf_many : sg sgMa f_many) (zv1 : 0 ≤ v1.toInt ∧ v1.toInt ≤ 3) (zv2 : 0 ≤ v2.toInt ∧ v2.toInt ≤ 3) (zv3 : 0 ≤ v3.toInt ∧ v3.toInt ≤ 60) (yg_18 : sg sgMa g_18) (d_7 : 0 ≤ v1.toInt ∧ v1.toInt ≤ 3) (c_16 : v3.toInt ≤ 60) (c_17 : 0 ≤ v3.toInt) (hwmany : g_18 = S_rw v1 v2 v3 v3 f_many) (hwwidth : g_19 = S_rw v1 v2 v3 v2 f_width) (C : Cx p s m args c RX12 cX12_row 5 G D (tyL cB cI cJ cZ cS cT)) (hG : G.1 ≤ s.heap.size) (hAB : ∀ q, A q → G.1 ≤ q) (hA : ∀ q : Nat, s.heap.size ≤ q → A q) (ret : RetI p l e ({ frames := 2, cells := 0, slots := 0, locals := 45 }) s m args below meth c cX12_row D A (fun x : (Nat → Int32) × (Nat → Int64) × (Nat → Int32) => [(mO h0 v0_thrown h_world h_images h_hasImage h_tape v0_taped h_five v0_size v0_at v0_from v0_token v0_value v0_faultKind v0_faultPlace h_fresh h_spokenAt h_heardAt h_lastAt h_answerAt v0_lawA v0_lawB v0_lawC v0_drawX v0_isDrawn v0_lostMany h_heardNow h_seenAt v0_roundFrom v0_roundTo v0_goLast v0_goAnswer v0_goHeard h_fewest h_costNow h_costThen h_lawsOf h_heardBy v0_lawMany v0_askWorst h_placesOf h_sentIn v0_placeMany v0_parentFirst h_lostBy h_many h_width h_numbers h_moving), (h_many, .inl (cI, 4, .inl x.1)), (h_numbers, .inl (cJ, 240, .inr (.inl x.2.1))), (h_width, .inl (cI, 4, .inl x.2.2))]) (fun (r : Int32) (x : (Nat → Int32) × (Nat → Int64) × (Nat → Int32)) => (sg sgMa x.1) ∧ (x.1 = S_rw v1 v2 v3 v3 f_many) ∧ (x.2.2 = S_rw v1 v2 v3 v2 f_width) ∧ (r = S_row v1 v2 v3)) Q) :
    ∀ (N : Nat) (g52_numbers : Nat → Int64) (l52_4 : Int32) (H : Heap) (locs : List Loc) (ls : Array Slot), 0 ≤ l52_4.toInt ∧ l52_4.toInt ≤ 60 → (60 - l52_4.toInt).toNat < N → va_P D vwCl [(mO h0 v0_thrown h_world h_images h_hasImage h_tape v0_taped h_five v0_size v0_at v0_from v0_token v0_value v0_faultKind v0_faultPlace h_fresh h_spokenAt h_heardAt h_lastAt h_answerAt v0_lawA v0_lawB v0_lawC v0_drawX v0_isDrawn v0_lostMany h_heardNow h_seenAt v0_roundFrom v0_roundTo v0_goLast v0_goAnswer v0_goHeard h_fewest h_costNow h_costThen h_lawsOf h_heardBy v0_lawMany v0_askWorst h_placesOf h_sentIn v0_placeMany v0_parentFirst h_lostBy h_many h_width h_numbers h_moving), (h_many, .inl (cI, 4, .inl g_18)), (h_numbers, .inl (cJ, 240, .inr (.inl g52_numbers))), (h_width, .inl (cI, 4, .inl g_19))] H → va_D A [(mO h0 v0_thrown h_world h_images h_hasImage h_tape v0_taped h_five v0_size v0_at v0_from v0_token v0_value v0_faultKind v0_faultPlace h_fresh h_spokenAt h_heardAt h_lastAt h_answerAt v0_lawA v0_lawB v0_lawC v0_drawX v0_isDrawn v0_lostMany h_heardNow h_seenAt v0_roundFrom v0_roundTo v0_goLast v0_goAnswer v0_goHeard h_fewest h_costNow h_costThen h_lawsOf h_heardBy v0_lawMany v0_askWorst h_placesOf h_sentIn v0_placeMany v0_parentFirst h_lostBy h_many h_width h_numbers h_moving), (h_many, .inl (cI, 4, .inl g_18)), (h_numbers, .inl (cJ, 240, .inr (.inl g52_numbers))), (h_width, .inl (cI, 4, .inl g_19))] → va_S A s.heap H locs → lv_has ls 5 [(4, .int l52_4), (0, .ref h0), (1, .int v1)] → W p l e ({ frames := 2, cells := 0, slots := 0, locals := 45 }) s m args below meth c H locs 0 0 Q (F0 m 52 ls []) := by
  obtain ⟨hx, hb, hml, hown, hts, hK, hN, hT⟩ := id C
  intro N
  induction N with
  | zero =>
    intro g52_numbers l52_4 H locs ls kl52_4 hM_52 hP hD hS hl
    omega
  | succ N_52 ih_52 =>
    intro g52_numbers l52_4 H locs ls kl52_4 hM_52 hP hD hS hl
    have b_l52_4 := i32b l52_4
    refine lv_iload hx hb dX12_row_52 (lv_at hl 0 rfl) ?_
    refine lv_bipush (v := 60) hx hb dX12_row_54 (by decide) ?_
    refine lv_icmp_ge (tgt := 78) hx hb dX12_row_56 (by decide) (fun c_20 => ?_) (fun c_20 => ?_)
    · have c_20 : 60 ≤ l52_4.toInt := ci_ge_t c_20
      refine lv_iconst (v := 0) hx hb dX12_row_78 (by decide) ?_
      have hr9 : (0 : Int32).toInt = 0 := by decide
      exact ret _ _ _ _ _ (g_18, g52_numbers, g_19) dX12_row_79 (show (sg sgMa g_18) ∧ (g_18 = S_rw v1 v2 v3 v3 f_many) ∧ (g_19 = S_rw v1 v2 v3 v2 f_width) ∧ ((0 : Int32) = S_row v1 v2 v3) from ⟨(by first | assumption | (have := zI0; have := zI1; have := zIm; omega) | decide), hwmany, hwwidth, (by unfold S_row; (repeat' split) <;> first | rfl | (exfalso; omega))⟩) (hP.sub [0, 1, 2, 3] rfl) (hD.sub [0, 1, 2, 3] (by decide) rfl) hS
    · have c_20 : l52_4.toInt < 60 := ci_ge_f c_20
      refine lv_aload_n hx hb dX12_row_59 rfl (lv_at hl 1 rfl) ?_
      refine va_get (D := D) (ci := 12) (v := .ref h_numbers) (C := RX12) (T := TX12) (N := 48) hx hb hts inlX12 hown hK hP 0 rfl rfl 46 (by decide) (hts _ (inr7 _ (List.mem_of_getElem? (i := 16) rfl))) (fun _ h9 => h9) rfl dX12_row_60 ?_
      refine lv_bipush (v := 60) hx hb dX12_row_63 (by decide) ?_
      refine lv_iload_n hx hb dX12_row_65 rfl (lv_at hl 2 rfl) ?_
      obtain ⟨t_21, et_21⟩ : ∃ v9 : Int32, 60 * v1 = v9 := ⟨_, rfl⟩
      refine z_imul (v := t_21) hx hb dX12_row_66 et_21 ?_
      have b_v1 := i32b v1
      have ft_21 : t_21.toInt = 60 * v1.toInt := mulT (a := 60) (b := v1.toInt) (by decide) rfl et_21 (by omega) (by omega)
      refine lv_iload hx hb dX12_row_67 (lv_at hl 0 rfl) ?_
      obtain ⟨t_22, et_22⟩ : ∃ v9 : Int32, t_21 + l52_4 = v9 := ⟨_, rfl⟩
      refine z_iadd (v := t_22) hx hb dX12_row_69 et_22 ?_
      have b_t_21 := i32b t_21
      have ft_22 : t_22.toInt = t_21.toInt + l52_4.toInt := addT (a := t_21.toInt) (b := l52_4.toInt) rfl rfl et_22 (by omega) (by omega)
      refine lv_lconst (v := 0) hx hb dX12_row_70 (by decide) ?_
      refine va_last hx hb hK hP hD hS 2 2 rfl rfl (vin_nat (by omega) (by omega)) dX12_row_71 (fun H locs hP hD hS => ?_)
      have hP : va_P D vwCl [(mO h0 v0_thrown h_world h_images h_hasImage h_tape v0_taped h_five v0_size v0_at v0_from v0_token v0_value v0_faultKind v0_faultPlace h_fresh h_spokenAt h_heardAt h_lastAt h_answerAt v0_lawA v0_lawB v0_lawC v0_drawX v0_isDrawn v0_lostMany h_heardNow h_seenAt v0_roundFrom v0_roundTo v0_goLast v0_goAnswer v0_goHeard h_fewest h_costNow h_costThen h_lawsOf h_heardBy v0_lawMany v0_askWorst h_placesOf h_sentIn v0_placeMany v0_parentFirst h_lostBy h_many h_width h_numbers h_moving), (h_many, .inl (cI, 4, .inl g_18)), (h_numbers, .inl (cJ, 240, .inr (.inl (vp_updL g52_numbers (t_22 : Int32).toNatClampNeg 0)))), (h_width, .inl (cI, 4, .inl g_19))] H := hP
      have hD : va_D A [(mO h0 v0_thrown h_world h_images h_hasImage h_tape v0_taped h_five v0_size v0_at v0_from v0_token v0_value v0_faultKind v0_faultPlace h_fresh h_spokenAt h_heardAt h_lastAt h_answerAt v0_lawA v0_lawB v0_lawC v0_drawX v0_isDrawn v0_lostMany h_heardNow h_seenAt v0_roundFrom v0_roundTo v0_goLast v0_goAnswer v0_goHeard h_fewest h_costNow h_costThen h_lawsOf h_heardBy v0_lawMany v0_askWorst h_placesOf h_sentIn v0_placeMany v0_parentFirst h_lostBy h_many h_width h_numbers h_moving), (h_many, .inl (cI, 4, .inl g_18)), (h_numbers, .inl (cJ, 240, .inr (.inl (vp_updL g52_numbers (t_22 : Int32).toNatClampNeg 0)))), (h_width, .inl (cI, 4, .inl g_19))] := hD
      obtain ⟨g_23, eg_23⟩ : ∃ v9 : Nat → Int64, (vp_updL g52_numbers (t_22 : Int32).toNatClampNeg 0) = v9 := ⟨_, rfl⟩
      rw [eg_23] at hP hD
      have hP : va_P D vwCl [(mO h0 v0_thrown h_world h_images h_hasImage h_tape v0_taped h_five v0_size v0_at v0_from v0_token v0_value v0_faultKind v0_faultPlace h_fresh h_spokenAt h_heardAt h_lastAt h_answerAt v0_lawA v0_lawB v0_lawC v0_drawX v0_isDrawn v0_lostMany h_heardNow h_seenAt v0_roundFrom v0_roundTo v0_goLast v0_goAnswer v0_goHeard h_fewest h_costNow h_costThen h_lawsOf h_heardBy v0_lawMany v0_askWorst h_placesOf h_sentIn v0_placeMany v0_parentFirst h_lostBy h_many h_width h_numbers h_moving), (h_many, .inl (cI, 4, .inl g_18)), (h_numbers, .inl (cJ, 240, .inr (.inl g_23))), (h_width, .inl (cI, 4, .inl g_19))] H := hP
      have hD : va_D A [(mO h0 v0_thrown h_world h_images h_hasImage h_tape v0_taped h_five v0_size v0_at v0_from v0_token v0_value v0_faultKind v0_faultPlace h_fresh h_spokenAt h_heardAt h_lastAt h_answerAt v0_lawA v0_lawB v0_lawC v0_drawX v0_isDrawn v0_lostMany h_heardNow h_seenAt v0_roundFrom v0_roundTo v0_goLast v0_goAnswer v0_goHeard h_fewest h_costNow h_costThen h_lawsOf h_heardBy v0_lawMany v0_askWorst h_placesOf h_sentIn v0_placeMany v0_parentFirst h_lostBy h_many h_width h_numbers h_moving), (h_many, .inl (cI, 4, .inl g_18)), (h_numbers, .inl (cJ, 240, .inr (.inl g_23))), (h_width, .inl (cI, 4, .inl g_19))] := hD
      obtain ⟨t_24, et_24⟩ : ∃ v9 : Int32, l52_4 + 1 = v9 := ⟨_, rfl⟩
      have ft_24 : t_24.toInt = l52_4.toInt + 1 := addT (a := l52_4.toInt) (b := 1) rfl (by decide) et_24 (by omega) (by omega)
      refine lv_iinc (v := t_24) (lv' := [(4, .int t_24), (0, .ref h0), (1, .int v1)]) hx hb dX12_row_72 hl (k := 0) rfl (by rw [← et_24]; rfl) (by decide) rfl (fun ls hl => ?_)
      refine lv_goto (tgt := 52) hx hb dX12_row_75 (by decide) ?_
      exact ih_52 (g_23) (t_24) _ _ _ (by first | assumption | (have := zI0; have := zI1; have := zIm; omega) | decide) (by omega) (hP.sub [0, 1, 2, 3] rfl) (hD.sub [0, 1, 2, 3] (by decide) rfl) hS (lv_sub hl [0, 1, 2] rfl)

set_option maxHeartbeats 4000000 in
set_option maxRecDepth 100000 in
theorem b_X12_row (l : Launch) (G : Gho) (D : va_G) (cB cI cJ cZ cS cT : ClassId) (sz : Nat) (h0 : Nat) (v0_thrown : Int32) (h_world : Nat) (h_images : Nat) (h_hasImage : Nat) (h_tape : Nat) (v0_taped : Int32) (h_five : Nat) (v0_size : Int32) (v0_at : Int32) (v0_from : Int32) (v0_token : Int32) (v0_value : Int32) (v0_faultKind : Int32) (v0_faultPlace : Int32) (h_fresh : Nat) (h_spokenAt : Nat) (h_heardAt : Nat) (h_lastAt : Nat) (h_answerAt : Nat) (v0_lawA : Int32) (v0_lawB : Int32) (v0_lawC : Int32) (v0_drawX : Int64) (v0_isDrawn : Int32) (v0_lostMany : Int32) (h_heardNow : Nat) (h_seenAt : Nat) (v0_roundFrom : Int32) (v0_roundTo : Int32) (v0_goLast : Int32) (v0_goAnswer : Int32) (v0_goHeard : Int32) (h_fewest : Nat) (h_costNow : Nat) (h_costThen : Nat) (h_lawsOf : Nat) (h_heardBy : Nat) (v0_lawMany : Int32) (v0_askWorst : Int32) (h_placesOf : Nat) (h_sentIn : Nat) (v0_placeMany : Int32) (v0_parentFirst : Int32) (h_lostBy : Nat) (h_many : Nat) (h_width : Nat) (h_numbers : Nat) (h_moving : Nat) (f_many : Nat → Int32) (f_numbers : Nat → Int64) (f_width : Nat → Int32) (v1 : Int32) (v2 : Int32) (v3 : Int32) (iv0_taped : 0 ≤ v0_taped.toInt ∧ v0_taped.toInt ≤ 500) (iv0_size : 0 ≤ v0_size.toInt ∧ v0_size.toInt ≤ 500) (iv0_at : 0 ≤ v0_at.toInt ∧ v0_at.toInt ≤ 500) (iv0_from : 0 ≤ v0_from.toInt ∧ v0_from.toInt ≤ 500) (iv0_faultKind : 0 ≤ v0_faultKind.toInt ∧ v0_faultKind.toInt ≤ 3) (iv0_lawA : 0 ≤ v0_lawA.toInt ∧ v0_lawA.toInt ≤ 8) (iv0_lawB : 0 ≤ v0_lawB.toInt ∧ v0_lawB.toInt ≤ 8) (iv0_lawC : 0 ≤ v0_lawC.toInt ∧ v0_lawC.toInt ≤ 9) (iv0_isDrawn : 0 ≤ v0_isDrawn.toInt ∧ v0_isDrawn.toInt ≤ 1) (iv0_roundFrom : 0 ≤ v0_roundFrom.toInt ∧ v0_roundFrom.toInt ≤ 648) (iv0_roundTo : 0 ≤ v0_roundTo.toInt ∧ v0_roundTo.toInt ≤ 648) (iv0_goLast : 0 ≤ v0_goLast.toInt ∧ v0_goLast.toInt ≤ 8) (iv0_goAnswer : 0 ≤ v0_goAnswer.toInt ∧ v0_goAnswer.toInt ≤ 8) (iv0_lawMany : 0 ≤ v0_lawMany.toInt ∧ v0_lawMany.toInt ≤ 729) (iv0_placeMany : 0 ≤ v0_placeMany.toInt ∧ v0_placeMany.toInt ≤ 100) (pf_many : sg sgMa f_many) : Met l yX12_row (Cond.code yX12_row cX12_row 5 (some .int) :: wsL_law) ({ frames := 2, cells := 0, slots := 0, locals := 45 }) (wrP G D (tyL cB cI cJ cZ cS cT) [(mO h0 v0_thrown h_world h_images h_hasImage h_tape v0_taped h_five v0_size v0_at v0_from v0_token v0_value v0_faultKind v0_faultPlace h_fresh h_spokenAt h_heardAt h_lastAt h_answerAt v0_lawA v0_lawB v0_lawC v0_drawX v0_isDrawn v0_lostMany h_heardNow h_seenAt v0_roundFrom v0_roundTo v0_goLast v0_goAnswer v0_goHeard h_fewest h_costNow h_costThen h_lawsOf h_heardBy v0_lawMany v0_askWorst h_placesOf h_sentIn v0_placeMany v0_parentFirst h_lostBy h_many h_width h_numbers h_moving), (h_many, .inl (cI, 4, .inl f_many)), (h_numbers, .inl (cJ, 240, .inr (.inl f_numbers))), (h_width, .inl (cI, 4, .inl f_width))] sz [.ref h0, .int v1, .int v2, .int v3]) (va_Qi (fun (r : Int32) (x : (Nat → Int32) × (Nat → Int64) × (Nat → Int32)) => (sg sgMa x.1) ∧ (x.1 = S_rw v1 v2 v3 v3 f_many) ∧ (x.2.2 = S_rw v1 v2 v3 v2 f_width) ∧ (r = S_row v1 v2 v3)) (atW D (tyL cB cI cJ cZ cS cT) (va_A [(mO h0 v0_thrown h_world h_images h_hasImage h_tape v0_taped h_five v0_size v0_at v0_from v0_token v0_value v0_faultKind v0_faultPlace h_fresh h_spokenAt h_heardAt h_lastAt h_answerAt v0_lawA v0_lawB v0_lawC v0_drawX v0_isDrawn v0_lostMany h_heardNow h_seenAt v0_roundFrom v0_roundTo v0_goLast v0_goAnswer v0_goHeard h_fewest h_costNow h_costThen h_lawsOf h_heardBy v0_lawMany v0_askWorst h_placesOf h_sentIn v0_placeMany v0_parentFirst h_lostBy h_many h_width h_numbers h_moving), (h_many, .inl (cI, 4, .inl f_many)), (h_numbers, .inl (cJ, 240, .inr (.inl f_numbers))), (h_width, .inl (cI, 4, .inl f_width))] sz) (fun x : (Nat → Int32) × (Nat → Int64) × (Nat → Int32) => [(mO h0 v0_thrown h_world h_images h_hasImage h_tape v0_taped h_five v0_size v0_at v0_from v0_token v0_value v0_faultKind v0_faultPlace h_fresh h_spokenAt h_heardAt h_lastAt h_answerAt v0_lawA v0_lawB v0_lawC v0_drawX v0_isDrawn v0_lostMany h_heardNow h_seenAt v0_roundFrom v0_roundTo v0_goLast v0_goAnswer v0_goHeard h_fewest h_costNow h_costThen h_lawsOf h_heardBy v0_lawMany v0_askWorst h_placesOf h_sentIn v0_placeMany v0_parentFirst h_lostBy h_many h_width h_numbers h_moving), (h_many, .inl (cI, 4, .inl x.1)), (h_numbers, .inl (cJ, 240, .inr (.inl x.2.1))), (h_width, .inl (cI, 4, .inl x.2.2))])) (va_A [(mO h0 v0_thrown h_world h_images h_hasImage h_tape v0_taped h_five v0_size v0_at v0_from v0_token v0_value v0_faultKind v0_faultPlace h_fresh h_spokenAt h_heardAt h_lastAt h_answerAt v0_lawA v0_lawB v0_lawC v0_drawX v0_isDrawn v0_lostMany h_heardNow h_seenAt v0_roundFrom v0_roundTo v0_goLast v0_goAnswer v0_goHeard h_fewest h_costNow h_costThen h_lawsOf h_heardBy v0_lawMany v0_askWorst h_placesOf h_sentIn v0_placeMany v0_parentFirst h_lostBy h_many h_width h_numbers h_moving), (h_many, .inl (cI, 4, .inl f_many)), (h_numbers, .inl (cJ, 240, .inr (.inl f_numbers))), (h_width, .inl (cI, 4, .inl f_width))] sz)) 0 0 (va_A [(mO h0 v0_thrown h_world h_images h_hasImage h_tape v0_taped h_five v0_size v0_at v0_from v0_token v0_value v0_faultKind v0_faultPlace h_fresh h_spokenAt h_heardAt h_lastAt h_answerAt v0_lawA v0_lawB v0_lawC v0_drawX v0_isDrawn v0_lostMany h_heardNow h_seenAt v0_roundFrom v0_roundTo v0_goLast v0_goAnswer v0_goHeard h_fewest h_costNow h_costThen h_lawsOf h_heardBy v0_lawMany v0_askWorst h_placesOf h_sentIn v0_placeMany v0_parentFirst h_lostBy h_many h_width h_numbers h_moving), (h_many, .inl (cI, 4, .inl f_many)), (h_numbers, .inl (cJ, 240, .inr (.inl f_numbers))), (h_width, .inl (cI, 4, .inl f_width))] sz) := by
  refine metI (own := RX12) (by decide) rfl ?_
  intro p e s m below meth c Q hsz C hG hP hD hAB ret
  obtain ⟨hx, hb, hml, hown, hts, hK, hN, hT⟩ := id C
  subst hsz
  generalize hAe : va_A [(mO h0 v0_thrown h_world h_images h_hasImage h_tape v0_taped h_five v0_size v0_at v0_from v0_token v0_value v0_faultKind v0_faultPlace h_fresh h_spokenAt h_heardAt h_lastAt h_answerAt v0_lawA v0_lawB v0_lawC v0_drawX v0_isDrawn v0_lostMany h_heardNow h_seenAt v0_roundFrom v0_roundTo v0_goLast v0_goAnswer v0_goHeard h_fewest h_costNow h_costThen h_lawsOf h_heardBy v0_lawMany v0_askWorst h_placesOf h_sentIn v0_placeMany v0_parentFirst h_lostBy h_many h_width h_numbers h_moving), (h_many, .inl (cI, 4, .inl f_many)), (h_numbers, .inl (cJ, 240, .inr (.inl f_numbers))), (h_width, .inl (cI, 4, .inl f_width))] s.heap.size = A at hD hAB ret ⊢
  have hA : ∀ q : Nat, s.heap.size ≤ q → A q := fun q h => by rw [← hAe]; exact Or.inr h
  have hS : va_S A s.heap s.heap [] := va_S.rf
  have hl := lv_entry ([.ref h0, .int v1, .int v2, .int v3]) (n := 5) (Nat.le_of_ble_eq_true rfl)
  rw [lg_entry_eq]
  generalize (lg_sl ([.ref h0, .int v1, .int v2, .int v3]) ++ List.replicate (5 - (lg_sl ([.ref h0, .int v1, .int v2, .int v3])).length) Slot.unset).toArray = ls at hl ⊢
  have hl : lv_has ls 5 [(0, .ref h0), (1, .int v1), (2, .int v2), (3, .int v3)] := hl
  have hP : va_P D vwCl [(mO h0 v0_thrown h_world h_images h_hasImage h_tape v0_taped h_five v0_size v0_at v0_from v0_token v0_value v0_faultKind v0_faultPlace h_fresh h_spokenAt h_heardAt h_lastAt h_answerAt v0_lawA v0_lawB v0_lawC v0_drawX v0_isDrawn v0_lostMany h_heardNow h_seenAt v0_roundFrom v0_roundTo v0_goLast v0_goAnswer v0_goHeard h_fewest h_costNow h_costThen h_lawsOf h_heardBy v0_lawMany v0_askWorst h_placesOf h_sentIn v0_placeMany v0_parentFirst h_lostBy h_many h_width h_numbers h_moving), (h_many, .inl (cI, 4, .inl f_many)), (h_numbers, .inl (cJ, 240, .inr (.inl f_numbers))), (h_width, .inl (cI, 4, .inl f_width))] s.heap := hP
  refine lv_iload_n hx hb dX12_row_0 rfl (lv_at hl 1 rfl) ?_
  refine rosi (As := [.int v1]) (rest := []) ⟨hx, hb, hml, hown, hts⟩ (b_X12_isSlot l G D cB cI cJ cZ cS cT v1 ) (csB (n := 1) (inr54 _ (List.mem_of_getElem? (i := 4) rfl)) (inr54 _ (List.mem_of_getElem? (i := 5) rfl)) (inr1 _ (List.mem_of_getElem? (i := 5) rfl)) (inr54 _ (List.mem_of_getElem? (i := 6) rfl)) (by decide +kernel) hts rfl rfl ⟨Nat.le_of_ble_eq_true rfl, Nat.le_of_ble_eq_true rfl⟩) (hP.sub [] rfl) hK hN (kT.to hT hS hAB) rfl hl.1 rfl (Nat.le_of_ble_eq_true rfl) ⟨Nat.le_of_ble_eq_true rfl, Nat.le_of_ble_eq_true rfl⟩ dX12_row_1 (fun r_1 h_2 => ?_)
  have h_2 : ((r_1.toInt = 1 ∧ 0 ≤ v1.toInt ∧ v1.toInt ≤ 3) ∨ (r_1.toInt = 0 ∧ (v1.toInt < 0 ∨ 3 < v1.toInt))) ∧ (r_1 = 0 ∨ r_1 = 1) := h_2
  obtain ⟨i_3, i_4⟩ := h_2
  have ar_1 : 0 ≤ r_1.toInt ∧ r_1.toInt ≤ 1 := by rcases i_4 with h | h <;> rw [h] <;> decide
  refine lv_if_eq (tgt := 25) hx hb dX12_row_4 (by decide) (fun c_5 => ?_) (fun c_5 => ?_)
  · have c_5 : r_1.toInt = 0 := ci_eq_t c_5
    have b_r_1 := i32b r_1
    have d_6 : (v1.toInt < 0 ∨ 3 < v1.toInt) := by omega
    clear i_3
    refine lv_bipush (v := (-2)) hx hb dX12_row_25 (by decide) ?_
    have hr9 : ((-2) : Int32).toInt = (-2) := by decide
    exact ret _ _ _ _ _ (f_many, f_numbers, f_width) dX12_row_27 (show (sg sgMa f_many) ∧ (f_many = S_rw v1 v2 v3 v3 f_many) ∧ (f_width = S_rw v1 v2 v3 v2 f_width) ∧ (((-2) : Int32) = S_row v1 v2 v3) from ⟨(by first | assumption | (have := zI0; have := zI1; have := zIm; omega) | decide), (by unfold S_rw; rw [if_neg (by omega)]), (by unfold S_rw; rw [if_neg (by omega)]), (by unfold S_row; (repeat' split) <;> first | rfl | (exfalso; omega))⟩) (hP.sub [0, 1, 2, 3] rfl) (hD.sub [0, 1, 2, 3] (by decide) rfl) hS
  · have c_5 : ¬ r_1.toInt = 0 := ci_eq_f c_5
    have b_r_1 := i32b r_1
    have d_7 : 0 ≤ v1.toInt ∧ v1.toInt ≤ 3 := by omega
    clear i_3
    refine lv_iload_n hx hb dX12_row_7 rfl (lv_at hl 2 rfl) ?_
    have b_v2 := i32b v2
    obtain ⟨t_8, et_8⟩ : ∃ v9 : Int64, (v2 : Int32).toInt64 = v9 := ⟨_, rfl⟩
    refine lv_i2l (v := t_8) hx hb dX12_row_8 et_8 ?_
    have ft_8 : t_8.toInt = v2.toInt := by rw [← et_8]; exact Int32.toInt_toInt64 _
    refine lv_lconst (v := 0) hx hb dX12_row_9 (by decide) ?_
    refine lv_ldc2 hx hb hown (hts _ (inr54 _ (List.mem_of_getElem? (i := 7) rfl))) dX12_row_10 ?_
    refine rosi (As := [.long t_8, .long 0, .long 3]) (rest := []) ⟨hx, hb, hml, hown, hts⟩ (b_X12_in l G D cB cI cJ cZ cS cT t_8 0 3 ) (csB (n := 3) (inr9 _ (List.mem_of_getElem? (i := 3) rfl)) (inr9 _ (List.mem_of_getElem? (i := 4) rfl)) (inr1 _ (List.mem_of_getElem? (i := 5) rfl)) (inr9 _ (List.mem_of_getElem? (i := 5) rfl)) (by decide +kernel) hts rfl rfl ⟨Nat.le_of_ble_eq_true rfl, Nat.le_of_ble_eq_true rfl⟩) (hP.sub [] rfl) hK hN (kT.to hT hS hAB) rfl hl.1 rfl (Nat.le_of_ble_eq_true rfl) ⟨Nat.le_of_ble_eq_true rfl, Nat.le_of_ble_eq_true rfl⟩ dX12_row_13 (fun r_9 h_10 => ?_)
    have h_10 : ((r_9.toInt = 1 ∧ 0 ≤ t_8.toInt ∧ t_8.toInt ≤ 3) ∨ (r_9.toInt = 0 ∧ (t_8.toInt < 0 ∨ 3 < t_8.toInt))) ∧ (r_9 = 0 ∨ r_9 = 1) := h_10
    obtain ⟨i_11, i_12⟩ := h_10
    have ar_9 : 0 ≤ r_9.toInt ∧ r_9.toInt ≤ 1 := by rcases i_12 with h | h <;> rw [h] <;> decide
    refine lv_if_eq (tgt := 25) hx hb dX12_row_16 (by decide) (fun c_13 => ?_) (fun c_13 => ?_)
    · have c_13 : r_9.toInt = 0 := ci_eq_t c_13
      have b_r_9 := i32b r_9
      have d_14 : (t_8.toInt < 0 ∨ 3 < t_8.toInt) := by omega
      clear i_11
      refine lv_bipush (v := (-2)) hx hb dX12_row_25 (by decide) ?_
      have hr9 : ((-2) : Int32).toInt = (-2) := by decide
      exact ret _ _ _ _ _ (f_many, f_numbers, f_width) dX12_row_27 (show (sg sgMa f_many) ∧ (f_many = S_rw v1 v2 v3 v3 f_many) ∧ (f_width = S_rw v1 v2 v3 v2 f_width) ∧ (((-2) : Int32) = S_row v1 v2 v3) from ⟨(by first | assumption | (have := zI0; have := zI1; have := zIm; omega) | decide), (by unfold S_rw; rw [if_neg (by omega)]), (by unfold S_rw; rw [if_neg (by omega)]), (by unfold S_row; (repeat' split) <;> first | rfl | (exfalso; omega))⟩) (hP.sub [0, 1, 2, 3] rfl) (hD.sub [0, 1, 2, 3] (by decide) rfl) hS
    · have c_13 : ¬ r_9.toInt = 0 := ci_eq_f c_13
      have b_r_9 := i32b r_9
      have d_15 : 0 ≤ t_8.toInt ∧ t_8.toInt ≤ 3 := by omega
      clear i_11
      refine lv_iload_n hx hb dX12_row_19 rfl (lv_at hl 3 rfl) ?_
      refine lv_bipush (v := 60) hx hb dX12_row_20 (by decide) ?_
      refine lv_icmp_le (tgt := 28) hx hb dX12_row_22 (by decide) (fun c_16 => ?_) (fun c_16 => ?_)
      · have c_16 : v3.toInt ≤ 60 := ci_le_t c_16
        have b_v3 := i32b v3
        refine lv_iload_n hx hb dX12_row_28 rfl (lv_at hl 3 rfl) ?_
        refine lv_if_ge (tgt := 35) hx hb dX12_row_29 (by decide) (fun c_17 => ?_) (fun c_17 => ?_)
        · have c_17 : 0 ≤ v3.toInt := ci_ge_t c_17
          refine lv_aload_n hx hb dX12_row_35 rfl (lv_at hl 0 rfl) ?_
          refine va_get (D := D) (ci := 12) (v := .ref h_many) (C := RX12) (T := TX12) (N := 48) hx hb hts inlX12 hown hK hP 0 rfl rfl 44 (by decide) (hts _ (inr7 _ (List.mem_of_getElem? (i := 14) rfl))) (fun _ h9 => h9) rfl dX12_row_36 ?_
          refine lv_iload_n hx hb dX12_row_39 rfl (lv_at hl 1 rfl) ?_
          refine lv_iload_n hx hb dX12_row_40 rfl (lv_at hl 3 rfl) ?_
          refine va_iast hx hb hK hP hD hS 1 1 rfl rfl (vin_nat (by omega) (by omega)) dX12_row_41 (fun H locs hP hD hS => ?_)
          have hP : va_P D vwCl [(mO h0 v0_thrown h_world h_images h_hasImage h_tape v0_taped h_five v0_size v0_at v0_from v0_token v0_value v0_faultKind v0_faultPlace h_fresh h_spokenAt h_heardAt h_lastAt h_answerAt v0_lawA v0_lawB v0_lawC v0_drawX v0_isDrawn v0_lostMany h_heardNow h_seenAt v0_roundFrom v0_roundTo v0_goLast v0_goAnswer v0_goHeard h_fewest h_costNow h_costThen h_lawsOf h_heardBy v0_lawMany v0_askWorst h_placesOf h_sentIn v0_placeMany v0_parentFirst h_lostBy h_many h_width h_numbers h_moving), (h_many, .inl (cI, 4, .inl (upd f_many (v1 : Int32).toNatClampNeg v3))), (h_numbers, .inl (cJ, 240, .inr (.inl f_numbers))), (h_width, .inl (cI, 4, .inl f_width))] H := hP
          have hD : va_D A [(mO h0 v0_thrown h_world h_images h_hasImage h_tape v0_taped h_five v0_size v0_at v0_from v0_token v0_value v0_faultKind v0_faultPlace h_fresh h_spokenAt h_heardAt h_lastAt h_answerAt v0_lawA v0_lawB v0_lawC v0_drawX v0_isDrawn v0_lostMany h_heardNow h_seenAt v0_roundFrom v0_roundTo v0_goLast v0_goAnswer v0_goHeard h_fewest h_costNow h_costThen h_lawsOf h_heardBy v0_lawMany v0_askWorst h_placesOf h_sentIn v0_placeMany v0_parentFirst h_lostBy h_many h_width h_numbers h_moving), (h_many, .inl (cI, 4, .inl (upd f_many (v1 : Int32).toNatClampNeg v3))), (h_numbers, .inl (cJ, 240, .inr (.inl f_numbers))), (h_width, .inl (cI, 4, .inl f_width))] := hD
          obtain ⟨g_18, eg_18⟩ : ∃ v9 : Nat → Int32, (upd f_many (v1 : Int32).toNatClampNeg v3) = v9 := ⟨_, rfl⟩
          rw [eg_18] at hP hD
          have hP : va_P D vwCl [(mO h0 v0_thrown h_world h_images h_hasImage h_tape v0_taped h_five v0_size v0_at v0_from v0_token v0_value v0_faultKind v0_faultPlace h_fresh h_spokenAt h_heardAt h_lastAt h_answerAt v0_lawA v0_lawB v0_lawC v0_drawX v0_isDrawn v0_lostMany h_heardNow h_seenAt v0_roundFrom v0_roundTo v0_goLast v0_goAnswer v0_goHeard h_fewest h_costNow h_costThen h_lawsOf h_heardBy v0_lawMany v0_askWorst h_placesOf h_sentIn v0_placeMany v0_parentFirst h_lostBy h_many h_width h_numbers h_moving), (h_many, .inl (cI, 4, .inl g_18)), (h_numbers, .inl (cJ, 240, .inr (.inl f_numbers))), (h_width, .inl (cI, 4, .inl f_width))] H := hP
          have hD : va_D A [(mO h0 v0_thrown h_world h_images h_hasImage h_tape v0_taped h_five v0_size v0_at v0_from v0_token v0_value v0_faultKind v0_faultPlace h_fresh h_spokenAt h_heardAt h_lastAt h_answerAt v0_lawA v0_lawB v0_lawC v0_drawX v0_isDrawn v0_lostMany h_heardNow h_seenAt v0_roundFrom v0_roundTo v0_goLast v0_goAnswer v0_goHeard h_fewest h_costNow h_costThen h_lawsOf h_heardBy v0_lawMany v0_askWorst h_placesOf h_sentIn v0_placeMany v0_parentFirst h_lostBy h_many h_width h_numbers h_moving), (h_many, .inl (cI, 4, .inl g_18)), (h_numbers, .inl (cJ, 240, .inr (.inl f_numbers))), (h_width, .inl (cI, 4, .inl f_width))] := hD
          have pg_18 : sg sgMa g_18 := by rw [← eg_18]; exact sgS (by assumption : sg sgMa f_many) (by omega) (by intro q9 hq9; simp only [sgMa, List.mem_cons, List.not_mem_nil, or_false] at hq9; rcases hq9 with rfl <;> dsimp only <;> omega)
          refine lv_aload_n hx hb dX12_row_42 rfl (lv_at hl 0 rfl) ?_
          refine va_get (D := D) (ci := 12) (v := .ref h_width) (C := RX12) (T := TX12) (N := 48) hx hb hts inlX12 hown hK hP 0 rfl rfl 45 (by decide) (hts _ (inr7 _ (List.mem_of_getElem? (i := 15) rfl))) (fun _ h9 => h9) rfl dX12_row_43 ?_
          refine lv_iload_n hx hb dX12_row_46 rfl (lv_at hl 1 rfl) ?_
          refine lv_iload_n hx hb dX12_row_47 rfl (lv_at hl 2 rfl) ?_
          refine va_iast hx hb hK hP hD hS 3 1 rfl rfl (vin_nat (by omega) (by omega)) dX12_row_48 (fun H locs hP hD hS => ?_)
          have hP : va_P D vwCl [(mO h0 v0_thrown h_world h_images h_hasImage h_tape v0_taped h_five v0_size v0_at v0_from v0_token v0_value v0_faultKind v0_faultPlace h_fresh h_spokenAt h_heardAt h_lastAt h_answerAt v0_lawA v0_lawB v0_lawC v0_drawX v0_isDrawn v0_lostMany h_heardNow h_seenAt v0_roundFrom v0_roundTo v0_goLast v0_goAnswer v0_goHeard h_fewest h_costNow h_costThen h_lawsOf h_heardBy v0_lawMany v0_askWorst h_placesOf h_sentIn v0_placeMany v0_parentFirst h_lostBy h_many h_width h_numbers h_moving), (h_many, .inl (cI, 4, .inl g_18)), (h_numbers, .inl (cJ, 240, .inr (.inl f_numbers))), (h_width, .inl (cI, 4, .inl (upd f_width (v1 : Int32).toNatClampNeg v2)))] H := hP
          have hD : va_D A [(mO h0 v0_thrown h_world h_images h_hasImage h_tape v0_taped h_five v0_size v0_at v0_from v0_token v0_value v0_faultKind v0_faultPlace h_fresh h_spokenAt h_heardAt h_lastAt h_answerAt v0_lawA v0_lawB v0_lawC v0_drawX v0_isDrawn v0_lostMany h_heardNow h_seenAt v0_roundFrom v0_roundTo v0_goLast v0_goAnswer v0_goHeard h_fewest h_costNow h_costThen h_lawsOf h_heardBy v0_lawMany v0_askWorst h_placesOf h_sentIn v0_placeMany v0_parentFirst h_lostBy h_many h_width h_numbers h_moving), (h_many, .inl (cI, 4, .inl g_18)), (h_numbers, .inl (cJ, 240, .inr (.inl f_numbers))), (h_width, .inl (cI, 4, .inl (upd f_width (v1 : Int32).toNatClampNeg v2)))] := hD
          obtain ⟨g_19, eg_19⟩ : ∃ v9 : Nat → Int32, (upd f_width (v1 : Int32).toNatClampNeg v2) = v9 := ⟨_, rfl⟩
          rw [eg_19] at hP hD
          have hP : va_P D vwCl [(mO h0 v0_thrown h_world h_images h_hasImage h_tape v0_taped h_five v0_size v0_at v0_from v0_token v0_value v0_faultKind v0_faultPlace h_fresh h_spokenAt h_heardAt h_lastAt h_answerAt v0_lawA v0_lawB v0_lawC v0_drawX v0_isDrawn v0_lostMany h_heardNow h_seenAt v0_roundFrom v0_roundTo v0_goLast v0_goAnswer v0_goHeard h_fewest h_costNow h_costThen h_lawsOf h_heardBy v0_lawMany v0_askWorst h_placesOf h_sentIn v0_placeMany v0_parentFirst h_lostBy h_many h_width h_numbers h_moving), (h_many, .inl (cI, 4, .inl g_18)), (h_numbers, .inl (cJ, 240, .inr (.inl f_numbers))), (h_width, .inl (cI, 4, .inl g_19))] H := hP
          have hD : va_D A [(mO h0 v0_thrown h_world h_images h_hasImage h_tape v0_taped h_five v0_size v0_at v0_from v0_token v0_value v0_faultKind v0_faultPlace h_fresh h_spokenAt h_heardAt h_lastAt h_answerAt v0_lawA v0_lawB v0_lawC v0_drawX v0_isDrawn v0_lostMany h_heardNow h_seenAt v0_roundFrom v0_roundTo v0_goLast v0_goAnswer v0_goHeard h_fewest h_costNow h_costThen h_lawsOf h_heardBy v0_lawMany v0_askWorst h_placesOf h_sentIn v0_placeMany v0_parentFirst h_lostBy h_many h_width h_numbers h_moving), (h_many, .inl (cI, 4, .inl g_18)), (h_numbers, .inl (cJ, 240, .inr (.inl f_numbers))), (h_width, .inl (cI, 4, .inl g_19))] := hD
          have hwmany : g_18 = S_rw v1 v2 v3 v3 f_many := by unfold S_rw; rw [if_pos (by omega), ← eg_18]; rfl
          have hwwidth : g_19 = S_rw v1 v2 v3 v2 f_width := by unfold S_rw; rw [if_pos (by omega), ← eg_19]; rfl
          refine lv_iconst (v := 0) hx hb dX12_row_49 (by decide) ?_
          refine lv_istore (lv' := [(4, .int 0), (0, .ref h0), (1, .int v1), (2, .int v2), (3, .int v3)]) hx hb dX12_row_50 hl (by decide) rfl (fun ls hl => ?_)
          exact b_X12_row_l52 h0 v0_thrown h_world h_images h_hasImage h_tape v0_taped h_five v0_size v0_at v0_from v0_token v0_value v0_faultKind v0_faultPlace h_fresh h_spokenAt h_heardAt h_lastAt h_answerAt v0_lawA v0_lawB v0_lawC v0_drawX v0_isDrawn v0_lostMany h_heardNow h_seenAt v0_roundFrom v0_roundTo v0_goLast v0_goAnswer v0_goHeard h_fewest h_costNow h_costThen h_lawsOf h_heardBy v0_lawMany v0_askWorst h_placesOf h_sentIn v0_placeMany v0_parentFirst h_lostBy h_many h_width h_numbers h_moving f_many f_width v1 v2 v3 g_18 g_19 (by first | assumption | (have := zI0; have := zI1; have := zIm; omega) | decide) (by first | assumption | (have := zI0; have := zI1; have := zIm; omega) | decide) (by first | assumption | (have := zI0; have := zI1; have := zIm; omega) | decide) (by first | assumption | (have := zI0; have := zI1; have := zIm; omega) | decide) (by first | assumption | (have := zI0; have := zI1; have := zIm; omega) | decide) (by first | assumption | (have := zI0; have := zI1; have := zIm; omega) | decide) (by first | assumption | (have := zI0; have := zI1; have := zIm; omega) | decide) (by first | assumption | (have := zI0; have := zI1; have := zIm; omega) | decide) (by first | assumption | (have := zI0; have := zI1; have := zIm; omega) | decide) (by first | assumption | (have := zI0; have := zI1; have := zIm; omega) | decide) (by first | assumption | (have := zI0; have := zI1; have := zIm; omega) | decide) (by first | assumption | (have := zI0; have := zI1; have := zIm; omega) | decide) (by first | assumption | (have := zI0; have := zI1; have := zIm; omega) | decide) (by first | assumption | (have := zI0; have := zI1; have := zIm; omega) | decide) (by first | assumption | (have := zI0; have := zI1; have := zIm; omega) | decide) (by first | assumption | (have := zI0; have := zI1; have := zIm; omega) | decide) (by first | assumption | (have := zI0; have := zI1; have := zIm; omega) | decide) (by first | assumption | (have := zI0; have := zI1; have := zIm; omega) | decide) (by first | assumption | (have := zI0; have := zI1; have := zIm; omega) | decide) (by first | assumption | (have := zI0; have := zI1; have := zIm; omega) | decide) (by first | assumption | (have := zI0; have := zI1; have := zIm; omega) | decide) (by first | assumption | (have := zI0; have := zI1; have := zIm; omega) | decide) (by first | assumption | (have := zI0; have := zI1; have := zIm; omega) | decide) (by first | assumption | (have := zI0; have := zI1; have := zIm; omega) | decide) (by first | assumption | (have := zI0; have := zI1; have := zIm; omega) | decide) C hG hAB hA ret _ (f_numbers) (0) _ _ _ (by first | assumption | (have := zI0; have := zI1; have := zIm; omega) | decide) (Nat.lt_succ_self _) (hP.sub [0, 1, 2, 3] rfl) (hD.sub [0, 1, 2, 3] (by decide) rfl) hS (lv_sub hl [0, 1, 2] rfl)
        · have c_17 : v3.toInt < 0 := ci_ge_f c_17
          refine lv_bipush (v := (-3)) hx hb dX12_row_32 (by decide) ?_
          have hr9 : ((-3) : Int32).toInt = (-3) := by decide
          exact ret _ _ _ _ _ (f_many, f_numbers, f_width) dX12_row_34 (show (sg sgMa f_many) ∧ (f_many = S_rw v1 v2 v3 v3 f_many) ∧ (f_width = S_rw v1 v2 v3 v2 f_width) ∧ (((-3) : Int32) = S_row v1 v2 v3) from ⟨(by first | assumption | (have := zI0; have := zI1; have := zIm; omega) | decide), (by unfold S_rw; rw [if_neg (by omega)]), (by unfold S_rw; rw [if_neg (by omega)]), (by unfold S_row; (repeat' split) <;> first | rfl | (exfalso; omega))⟩) (hP.sub [0, 1, 2, 3] rfl) (hD.sub [0, 1, 2, 3] (by decide) rfl) hS
      · have c_16 : 60 < v3.toInt := ci_le_f c_16
        have b_v3 := i32b v3
        refine lv_bipush (v := (-2)) hx hb dX12_row_25 (by decide) ?_
        have hr9 : ((-2) : Int32).toInt = (-2) := by decide
        exact ret _ _ _ _ _ (f_many, f_numbers, f_width) dX12_row_27 (show (sg sgMa f_many) ∧ (f_many = S_rw v1 v2 v3 v3 f_many) ∧ (f_width = S_rw v1 v2 v3 v2 f_width) ∧ (((-2) : Int32) = S_row v1 v2 v3) from ⟨(by first | assumption | (have := zI0; have := zI1; have := zIm; omega) | decide), (by unfold S_rw; rw [if_neg (by omega)]), (by unfold S_rw; rw [if_neg (by omega)]), (by unfold S_row; (repeat' split) <;> first | rfl | (exfalso; omega))⟩) (hP.sub [0, 1, 2, 3] rfl) (hD.sub [0, 1, 2, 3] (by decide) rfl) hS

set_option maxHeartbeats 4000000 in
set_option maxRecDepth 100000 in
theorem b_X12_write (l : Launch) (G : Gho) (D : va_G) (cB cI cJ cZ cS cT : ClassId) (sz : Nat) (h0 : Nat) (v0_thrown : Int32) (h_world : Nat) (h_images : Nat) (h_hasImage : Nat) (h_tape : Nat) (v0_taped : Int32) (h_five : Nat) (v0_size : Int32) (v0_at : Int32) (v0_from : Int32) (v0_token : Int32) (v0_value : Int32) (v0_faultKind : Int32) (v0_faultPlace : Int32) (h_fresh : Nat) (h_spokenAt : Nat) (h_heardAt : Nat) (h_lastAt : Nat) (h_answerAt : Nat) (v0_lawA : Int32) (v0_lawB : Int32) (v0_lawC : Int32) (v0_drawX : Int64) (v0_isDrawn : Int32) (v0_lostMany : Int32) (h_heardNow : Nat) (h_seenAt : Nat) (v0_roundFrom : Int32) (v0_roundTo : Int32) (v0_goLast : Int32) (v0_goAnswer : Int32) (v0_goHeard : Int32) (h_fewest : Nat) (h_costNow : Nat) (h_costThen : Nat) (h_lawsOf : Nat) (h_heardBy : Nat) (v0_lawMany : Int32) (v0_askWorst : Int32) (h_placesOf : Nat) (h_sentIn : Nat) (v0_placeMany : Int32) (v0_parentFirst : Int32) (h_lostBy : Nat) (h_many : Nat) (h_width : Nat) (h_numbers : Nat) (h_moving : Nat) (f_many : Nat → Int32) (f_numbers : Nat → Int64) (f_width : Nat → Int32) (v1 : Int32) (v2 : Int32) (v3 : Int64) (iv0_taped : 0 ≤ v0_taped.toInt ∧ v0_taped.toInt ≤ 500) (iv0_size : 0 ≤ v0_size.toInt ∧ v0_size.toInt ≤ 500) (iv0_at : 0 ≤ v0_at.toInt ∧ v0_at.toInt ≤ 500) (iv0_from : 0 ≤ v0_from.toInt ∧ v0_from.toInt ≤ 500) (iv0_faultKind : 0 ≤ v0_faultKind.toInt ∧ v0_faultKind.toInt ≤ 3) (iv0_lawA : 0 ≤ v0_lawA.toInt ∧ v0_lawA.toInt ≤ 8) (iv0_lawB : 0 ≤ v0_lawB.toInt ∧ v0_lawB.toInt ≤ 8) (iv0_lawC : 0 ≤ v0_lawC.toInt ∧ v0_lawC.toInt ≤ 9) (iv0_isDrawn : 0 ≤ v0_isDrawn.toInt ∧ v0_isDrawn.toInt ≤ 1) (iv0_roundFrom : 0 ≤ v0_roundFrom.toInt ∧ v0_roundFrom.toInt ≤ 648) (iv0_roundTo : 0 ≤ v0_roundTo.toInt ∧ v0_roundTo.toInt ≤ 648) (iv0_goLast : 0 ≤ v0_goLast.toInt ∧ v0_goLast.toInt ≤ 8) (iv0_goAnswer : 0 ≤ v0_goAnswer.toInt ∧ v0_goAnswer.toInt ≤ 8) (iv0_lawMany : 0 ≤ v0_lawMany.toInt ∧ v0_lawMany.toInt ≤ 729) (iv0_placeMany : 0 ≤ v0_placeMany.toInt ∧ v0_placeMany.toInt ≤ 100) (pf_many : sg sgMa f_many) : Met l yX12_write (Cond.code yX12_write cX12_write 5 (some .int) :: wsL_law) ({ frames := 2, cells := 0, slots := 0, locals := 45 }) (wrP G D (tyL cB cI cJ cZ cS cT) [(mO h0 v0_thrown h_world h_images h_hasImage h_tape v0_taped h_five v0_size v0_at v0_from v0_token v0_value v0_faultKind v0_faultPlace h_fresh h_spokenAt h_heardAt h_lastAt h_answerAt v0_lawA v0_lawB v0_lawC v0_drawX v0_isDrawn v0_lostMany h_heardNow h_seenAt v0_roundFrom v0_roundTo v0_goLast v0_goAnswer v0_goHeard h_fewest h_costNow h_costThen h_lawsOf h_heardBy v0_lawMany v0_askWorst h_placesOf h_sentIn v0_placeMany v0_parentFirst h_lostBy h_many h_width h_numbers h_moving), (h_many, .inl (cI, 4, .inl f_many)), (h_numbers, .inl (cJ, 240, .inr (.inl f_numbers))), (h_width, .inl (cI, 4, .inl f_width))] sz [.ref h0, .int v1, .int v2, .long v3]) (va_Qi (fun (r : Int32) (x : (Nat → Int64)) => (r = S_writeM v1 v2 (f_many v1.toInt.toNat))) (atW D (tyL cB cI cJ cZ cS cT) (va_A [(mO h0 v0_thrown h_world h_images h_hasImage h_tape v0_taped h_five v0_size v0_at v0_from v0_token v0_value v0_faultKind v0_faultPlace h_fresh h_spokenAt h_heardAt h_lastAt h_answerAt v0_lawA v0_lawB v0_lawC v0_drawX v0_isDrawn v0_lostMany h_heardNow h_seenAt v0_roundFrom v0_roundTo v0_goLast v0_goAnswer v0_goHeard h_fewest h_costNow h_costThen h_lawsOf h_heardBy v0_lawMany v0_askWorst h_placesOf h_sentIn v0_placeMany v0_parentFirst h_lostBy h_many h_width h_numbers h_moving), (h_many, .inl (cI, 4, .inl f_many)), (h_numbers, .inl (cJ, 240, .inr (.inl f_numbers))), (h_width, .inl (cI, 4, .inl f_width))] sz) (fun x : (Nat → Int64) => [(mO h0 v0_thrown h_world h_images h_hasImage h_tape v0_taped h_five v0_size v0_at v0_from v0_token v0_value v0_faultKind v0_faultPlace h_fresh h_spokenAt h_heardAt h_lastAt h_answerAt v0_lawA v0_lawB v0_lawC v0_drawX v0_isDrawn v0_lostMany h_heardNow h_seenAt v0_roundFrom v0_roundTo v0_goLast v0_goAnswer v0_goHeard h_fewest h_costNow h_costThen h_lawsOf h_heardBy v0_lawMany v0_askWorst h_placesOf h_sentIn v0_placeMany v0_parentFirst h_lostBy h_many h_width h_numbers h_moving), (h_many, .inl (cI, 4, .inl f_many)), (h_numbers, .inl (cJ, 240, .inr (.inl x))), (h_width, .inl (cI, 4, .inl f_width))])) (va_A [(mO h0 v0_thrown h_world h_images h_hasImage h_tape v0_taped h_five v0_size v0_at v0_from v0_token v0_value v0_faultKind v0_faultPlace h_fresh h_spokenAt h_heardAt h_lastAt h_answerAt v0_lawA v0_lawB v0_lawC v0_drawX v0_isDrawn v0_lostMany h_heardNow h_seenAt v0_roundFrom v0_roundTo v0_goLast v0_goAnswer v0_goHeard h_fewest h_costNow h_costThen h_lawsOf h_heardBy v0_lawMany v0_askWorst h_placesOf h_sentIn v0_placeMany v0_parentFirst h_lostBy h_many h_width h_numbers h_moving), (h_many, .inl (cI, 4, .inl f_many)), (h_numbers, .inl (cJ, 240, .inr (.inl f_numbers))), (h_width, .inl (cI, 4, .inl f_width))] sz)) 0 0 (va_A [(mO h0 v0_thrown h_world h_images h_hasImage h_tape v0_taped h_five v0_size v0_at v0_from v0_token v0_value v0_faultKind v0_faultPlace h_fresh h_spokenAt h_heardAt h_lastAt h_answerAt v0_lawA v0_lawB v0_lawC v0_drawX v0_isDrawn v0_lostMany h_heardNow h_seenAt v0_roundFrom v0_roundTo v0_goLast v0_goAnswer v0_goHeard h_fewest h_costNow h_costThen h_lawsOf h_heardBy v0_lawMany v0_askWorst h_placesOf h_sentIn v0_placeMany v0_parentFirst h_lostBy h_many h_width h_numbers h_moving), (h_many, .inl (cI, 4, .inl f_many)), (h_numbers, .inl (cJ, 240, .inr (.inl f_numbers))), (h_width, .inl (cI, 4, .inl f_width))] sz) := by
  refine metI (own := RX12) (by decide) rfl ?_
  intro p e s m below meth c Q hsz C hG hP hD hAB ret
  obtain ⟨hx, hb, hml, hown, hts, hK, hN, hT⟩ := id C
  subst hsz
  generalize hAe : va_A [(mO h0 v0_thrown h_world h_images h_hasImage h_tape v0_taped h_five v0_size v0_at v0_from v0_token v0_value v0_faultKind v0_faultPlace h_fresh h_spokenAt h_heardAt h_lastAt h_answerAt v0_lawA v0_lawB v0_lawC v0_drawX v0_isDrawn v0_lostMany h_heardNow h_seenAt v0_roundFrom v0_roundTo v0_goLast v0_goAnswer v0_goHeard h_fewest h_costNow h_costThen h_lawsOf h_heardBy v0_lawMany v0_askWorst h_placesOf h_sentIn v0_placeMany v0_parentFirst h_lostBy h_many h_width h_numbers h_moving), (h_many, .inl (cI, 4, .inl f_many)), (h_numbers, .inl (cJ, 240, .inr (.inl f_numbers))), (h_width, .inl (cI, 4, .inl f_width))] s.heap.size = A at hD hAB ret ⊢
  have hA : ∀ q : Nat, s.heap.size ≤ q → A q := fun q h => by rw [← hAe]; exact Or.inr h
  have hS : va_S A s.heap s.heap [] := va_S.rf
  have hl := lv_entry ([.ref h0, .int v1, .int v2, .long v3]) (n := 5) (Nat.le_of_ble_eq_true rfl)
  rw [lg_entry_eq]
  generalize (lg_sl ([.ref h0, .int v1, .int v2, .long v3]) ++ List.replicate (5 - (lg_sl ([.ref h0, .int v1, .int v2, .long v3])).length) Slot.unset).toArray = ls at hl ⊢
  have hl : lv_has ls 5 [(0, .ref h0), (1, .int v1), (2, .int v2), (3, .long v3)] := hl
  have hP : va_P D vwCl [(mO h0 v0_thrown h_world h_images h_hasImage h_tape v0_taped h_five v0_size v0_at v0_from v0_token v0_value v0_faultKind v0_faultPlace h_fresh h_spokenAt h_heardAt h_lastAt h_answerAt v0_lawA v0_lawB v0_lawC v0_drawX v0_isDrawn v0_lostMany h_heardNow h_seenAt v0_roundFrom v0_roundTo v0_goLast v0_goAnswer v0_goHeard h_fewest h_costNow h_costThen h_lawsOf h_heardBy v0_lawMany v0_askWorst h_placesOf h_sentIn v0_placeMany v0_parentFirst h_lostBy h_many h_width h_numbers h_moving), (h_many, .inl (cI, 4, .inl f_many)), (h_numbers, .inl (cJ, 240, .inr (.inl f_numbers))), (h_width, .inl (cI, 4, .inl f_width))] s.heap := hP
  refine lv_iload_n hx hb dX12_write_0 rfl (lv_at hl 1 rfl) ?_
  refine rosi (As := [.int v1]) (rest := []) ⟨hx, hb, hml, hown, hts⟩ (b_X12_isSlot l G D cB cI cJ cZ cS cT v1 ) (csB (n := 1) (inr54 _ (List.mem_of_getElem? (i := 4) rfl)) (inr54 _ (List.mem_of_getElem? (i := 5) rfl)) (inr1 _ (List.mem_of_getElem? (i := 5) rfl)) (inr54 _ (List.mem_of_getElem? (i := 6) rfl)) (by decide +kernel) hts rfl rfl ⟨Nat.le_of_ble_eq_true rfl, Nat.le_of_ble_eq_true rfl⟩) (hP.sub [] rfl) hK hN (kT.to hT hS hAB) rfl hl.1 rfl (Nat.le_of_ble_eq_true rfl) ⟨Nat.le_of_ble_eq_true rfl, Nat.le_of_ble_eq_true rfl⟩ dX12_write_1 (fun r_1 h_2 => ?_)
  have h_2 : ((r_1.toInt = 1 ∧ 0 ≤ v1.toInt ∧ v1.toInt ≤ 3) ∨ (r_1.toInt = 0 ∧ (v1.toInt < 0 ∨ 3 < v1.toInt))) ∧ (r_1 = 0 ∨ r_1 = 1) := h_2
  obtain ⟨i_3, i_4⟩ := h_2
  have ar_1 : 0 ≤ r_1.toInt ∧ r_1.toInt ≤ 1 := by rcases i_4 with h | h <;> rw [h] <;> decide
  refine lv_if_ne (tgt := 10) hx hb dX12_write_4 (by decide) (fun c_5 => ?_) (fun c_5 => ?_)
  · have c_5 : ¬ r_1.toInt = 0 := ci_ne_t c_5
    have b_r_1 := i32b r_1
    have d_6 : 0 ≤ v1.toInt ∧ v1.toInt ≤ 3 := by omega
    clear i_3
    refine lv_aload_n hx hb dX12_write_10 rfl (lv_at hl 0 rfl) ?_
    refine va_get (D := D) (ci := 12) (v := .ref h_many) (C := RX12) (T := TX12) (N := 48) hx hb hts inlX12 hown hK hP 0 rfl rfl 44 (by decide) (hts _ (inr7 _ (List.mem_of_getElem? (i := 14) rfl))) (fun _ h9 => h9) rfl dX12_write_11 ?_
    refine lv_iload_n hx hb dX12_write_14 rfl (lv_at hl 1 rfl) ?_
    obtain ⟨t_7, et_7⟩ : ∃ v9 : Int32, f_many (v1 : Int32).toNatClampNeg = v9 := ⟨_, rfl⟩
    refine z_iald (v := t_7) hx hb hK hP 1 1 rfl rfl (vin_nat (by omega) (by omega)) et_7 dX12_write_15 ?_
    have ft_7 : (-1) ≤ t_7.toInt ∧ t_7.toInt ≤ 60 := sgL (by assumption : sg sgMa f_many) 0 rfl (by omega) (by omega) (by omega) et_7
    refine lv_iconst (v := (-1)) hx hb dX12_write_16 (by decide) ?_
    refine lv_icmp_ne (tgt := 23) hx hb dX12_write_17 (by decide) (fun c_8 => ?_) (fun c_8 => ?_)
    · have c_8 : ¬ t_7.toInt = (-1) := ci_ne_t c_8
      have b_t_7 := i32b t_7
      refine lv_iload_n hx hb dX12_write_23 rfl (lv_at hl 2 rfl) ?_
      have b_v2 := i32b v2
      obtain ⟨t_9, et_9⟩ : ∃ v9 : Int64, (v2 : Int32).toInt64 = v9 := ⟨_, rfl⟩
      refine lv_i2l (v := t_9) hx hb dX12_write_24 et_9 ?_
      have ft_9 : t_9.toInt = v2.toInt := by rw [← et_9]; exact Int32.toInt_toInt64 _
      refine lv_lconst (v := 0) hx hb dX12_write_25 (by decide) ?_
      refine lv_aload_n hx hb dX12_write_26 rfl (lv_at hl 0 rfl) ?_
      refine va_get (D := D) (ci := 12) (v := .ref h_many) (C := RX12) (T := TX12) (N := 48) hx hb hts inlX12 hown hK hP 0 rfl rfl 44 (by decide) (hts _ (inr7 _ (List.mem_of_getElem? (i := 14) rfl))) (fun _ h9 => h9) rfl dX12_write_27 ?_
      refine lv_iload_n hx hb dX12_write_30 rfl (lv_at hl 1 rfl) ?_
      obtain ⟨t_10, et_10⟩ : ∃ v9 : Int32, f_many (v1 : Int32).toNatClampNeg = v9 := ⟨_, rfl⟩
      refine z_iald (v := t_10) hx hb hK hP 1 1 rfl rfl (vin_nat (by omega) (by omega)) et_10 dX12_write_31 ?_
      have dt_10 : t_10.toInt = t_7.toInt := by rw [← et_10, ← et_7]
      have ft_10 : (-1) ≤ t_10.toInt ∧ t_10.toInt ≤ 60 := sgL (by assumption : sg sgMa f_many) 0 rfl (by omega) (by omega) (by omega) et_10
      refine lv_iconst (v := 1) hx hb dX12_write_32 (by decide) ?_
      obtain ⟨t_11, et_11⟩ : ∃ v9 : Int32, t_10 - 1 = v9 := ⟨_, rfl⟩
      refine z_isub (v := t_11) hx hb dX12_write_33 et_11 ?_
      have b_t_10 := i32b t_10
      have ft_11 : t_11.toInt = t_10.toInt - 1 := subT (a := t_10.toInt) (b := 1) rfl (by decide) et_11 (by omega) (by omega)
      have b_t_11 := i32b t_11
      obtain ⟨t_12, et_12⟩ : ∃ v9 : Int64, (t_11 : Int32).toInt64 = v9 := ⟨_, rfl⟩
      refine lv_i2l (v := t_12) hx hb dX12_write_34 et_12 ?_
      have ft_12 : t_12.toInt = t_11.toInt := by rw [← et_12]; exact Int32.toInt_toInt64 _
      refine rosi (As := [.long t_9, .long 0, .long t_12]) (rest := []) ⟨hx, hb, hml, hown, hts⟩ (b_X12_in l G D cB cI cJ cZ cS cT t_9 0 t_12 ) (csB (n := 3) (inr9 _ (List.mem_of_getElem? (i := 3) rfl)) (inr9 _ (List.mem_of_getElem? (i := 4) rfl)) (inr1 _ (List.mem_of_getElem? (i := 5) rfl)) (inr9 _ (List.mem_of_getElem? (i := 5) rfl)) (by decide +kernel) hts rfl rfl ⟨Nat.le_of_ble_eq_true rfl, Nat.le_of_ble_eq_true rfl⟩) (hP.sub [] rfl) hK hN (kT.to hT hS hAB) rfl hl.1 rfl (Nat.le_of_ble_eq_true rfl) ⟨Nat.le_of_ble_eq_true rfl, Nat.le_of_ble_eq_true rfl⟩ dX12_write_35 (fun r_13 h_14 => ?_)
      have h_14 : ((r_13.toInt = 1 ∧ 0 ≤ t_9.toInt ∧ t_9.toInt ≤ t_12.toInt) ∨ (r_13.toInt = 0 ∧ (t_9.toInt < 0 ∨ t_12.toInt < t_9.toInt))) ∧ (r_13 = 0 ∨ r_13 = 1) := h_14
      obtain ⟨i_15, i_16⟩ := h_14
      have ar_13 : 0 ≤ r_13.toInt ∧ r_13.toInt ≤ 1 := by rcases i_16 with h | h <;> rw [h] <;> decide
      refine lv_if_ne (tgt := 44) hx hb dX12_write_38 (by decide) (fun c_17 => ?_) (fun c_17 => ?_)
      · have c_17 : ¬ r_13.toInt = 0 := ci_ne_t c_17
        have b_r_13 := i32b r_13
        have d_18 : 0 ≤ t_9.toInt ∧ t_9.toInt ≤ t_12.toInt := by omega
        clear i_15
        refine lv_aload_n hx hb dX12_write_44 rfl (lv_at hl 0 rfl) ?_
        refine va_get (D := D) (ci := 12) (v := .ref h_numbers) (C := RX12) (T := TX12) (N := 48) hx hb hts inlX12 hown hK hP 0 rfl rfl 46 (by decide) (hts _ (inr7 _ (List.mem_of_getElem? (i := 16) rfl))) (fun _ h9 => h9) rfl dX12_write_45 ?_
        refine lv_bipush (v := 60) hx hb dX12_write_48 (by decide) ?_
        refine lv_iload_n hx hb dX12_write_50 rfl (lv_at hl 1 rfl) ?_
        obtain ⟨t_19, et_19⟩ : ∃ v9 : Int32, 60 * v1 = v9 := ⟨_, rfl⟩
        refine z_imul (v := t_19) hx hb dX12_write_51 et_19 ?_
        have b_v1 := i32b v1
        have ft_19 : t_19.toInt = 60 * v1.toInt := mulT (a := 60) (b := v1.toInt) (by decide) rfl et_19 (by omega) (by omega)
        refine lv_iload_n hx hb dX12_write_52 rfl (lv_at hl 2 rfl) ?_
        obtain ⟨t_20, et_20⟩ : ∃ v9 : Int32, t_19 + v2 = v9 := ⟨_, rfl⟩
        refine z_iadd (v := t_20) hx hb dX12_write_53 et_20 ?_
        have b_t_19 := i32b t_19
        have ft_20 : t_20.toInt = t_19.toInt + v2.toInt := addT (a := t_19.toInt) (b := v2.toInt) rfl rfl et_20 (by omega) (by omega)
        refine lv_lload_n hx hb dX12_write_54 rfl (lv_at hl 3 rfl) ?_
        refine lv_aload_n hx hb dX12_write_55 rfl (lv_at hl 0 rfl) ?_
        refine va_get (D := D) (ci := 12) (v := .ref h_width) (C := RX12) (T := TX12) (N := 48) hx hb hts inlX12 hown hK hP 0 rfl rfl 45 (by decide) (hts _ (inr7 _ (List.mem_of_getElem? (i := 15) rfl))) (fun _ h9 => h9) rfl dX12_write_56 ?_
        refine lv_iload_n hx hb dX12_write_59 rfl (lv_at hl 1 rfl) ?_
        obtain ⟨t_21, et_21⟩ : ∃ v9 : Int32, f_width (v1 : Int32).toNatClampNeg = v9 := ⟨_, rfl⟩
        refine z_iald (v := t_21) hx hb hK hP 3 1 rfl rfl (vin_nat (by omega) (by omega)) et_21 dX12_write_60 ?_
        refine rosl (As := [.long v3, .int t_21]) (rest := [.int t_20, .ref h_numbers]) ⟨hx, hb, hml, hown, hts⟩ (b_X12_cut l G D cB cI cJ cZ cS cT v3 t_21 ) (csB (n := 2) (inr74 _ (List.mem_of_getElem? (i := 11) rfl)) (inr74 _ (List.mem_of_getElem? (i := 12) rfl)) (inr1 _ (List.mem_of_getElem? (i := 5) rfl)) (inr74 _ (List.mem_of_getElem? (i := 13) rfl)) (by decide +kernel) hts rfl rfl ⟨Nat.le_of_ble_eq_true rfl, Nat.le_of_ble_eq_true rfl⟩) (hP.sub [] rfl) hK hN (kT.to hT hS hAB) rfl hl.1 rfl (Nat.le_of_ble_eq_true rfl) ⟨Nat.le_of_ble_eq_true rfl, Nat.le_of_ble_eq_true rfl⟩ dX12_write_61 (fun r_22 h_23 => ?_)
        refine va_last hx hb hK hP hD hS 2 2 rfl rfl (vin_nat (by omega) (by omega)) dX12_write_64 (fun H locs hP hD hS => ?_)
        have hP : va_P D vwCl [(mO h0 v0_thrown h_world h_images h_hasImage h_tape v0_taped h_five v0_size v0_at v0_from v0_token v0_value v0_faultKind v0_faultPlace h_fresh h_spokenAt h_heardAt h_lastAt h_answerAt v0_lawA v0_lawB v0_lawC v0_drawX v0_isDrawn v0_lostMany h_heardNow h_seenAt v0_roundFrom v0_roundTo v0_goLast v0_goAnswer v0_goHeard h_fewest h_costNow h_costThen h_lawsOf h_heardBy v0_lawMany v0_askWorst h_placesOf h_sentIn v0_placeMany v0_parentFirst h_lostBy h_many h_width h_numbers h_moving), (h_many, .inl (cI, 4, .inl f_many)), (h_numbers, .inl (cJ, 240, .inr (.inl (vp_updL f_numbers (t_20 : Int32).toNatClampNeg r_22)))), (h_width, .inl (cI, 4, .inl f_width))] H := hP
        have hD : va_D A [(mO h0 v0_thrown h_world h_images h_hasImage h_tape v0_taped h_five v0_size v0_at v0_from v0_token v0_value v0_faultKind v0_faultPlace h_fresh h_spokenAt h_heardAt h_lastAt h_answerAt v0_lawA v0_lawB v0_lawC v0_drawX v0_isDrawn v0_lostMany h_heardNow h_seenAt v0_roundFrom v0_roundTo v0_goLast v0_goAnswer v0_goHeard h_fewest h_costNow h_costThen h_lawsOf h_heardBy v0_lawMany v0_askWorst h_placesOf h_sentIn v0_placeMany v0_parentFirst h_lostBy h_many h_width h_numbers h_moving), (h_many, .inl (cI, 4, .inl f_many)), (h_numbers, .inl (cJ, 240, .inr (.inl (vp_updL f_numbers (t_20 : Int32).toNatClampNeg r_22)))), (h_width, .inl (cI, 4, .inl f_width))] := hD
        obtain ⟨g_24, eg_24⟩ : ∃ v9 : Nat → Int64, (vp_updL f_numbers (t_20 : Int32).toNatClampNeg r_22) = v9 := ⟨_, rfl⟩
        rw [eg_24] at hP hD
        have hP : va_P D vwCl [(mO h0 v0_thrown h_world h_images h_hasImage h_tape v0_taped h_five v0_size v0_at v0_from v0_token v0_value v0_faultKind v0_faultPlace h_fresh h_spokenAt h_heardAt h_lastAt h_answerAt v0_lawA v0_lawB v0_lawC v0_drawX v0_isDrawn v0_lostMany h_heardNow h_seenAt v0_roundFrom v0_roundTo v0_goLast v0_goAnswer v0_goHeard h_fewest h_costNow h_costThen h_lawsOf h_heardBy v0_lawMany v0_askWorst h_placesOf h_sentIn v0_placeMany v0_parentFirst h_lostBy h_many h_width h_numbers h_moving), (h_many, .inl (cI, 4, .inl f_many)), (h_numbers, .inl (cJ, 240, .inr (.inl g_24))), (h_width, .inl (cI, 4, .inl f_width))] H := hP
        have hD : va_D A [(mO h0 v0_thrown h_world h_images h_hasImage h_tape v0_taped h_five v0_size v0_at v0_from v0_token v0_value v0_faultKind v0_faultPlace h_fresh h_spokenAt h_heardAt h_lastAt h_answerAt v0_lawA v0_lawB v0_lawC v0_drawX v0_isDrawn v0_lostMany h_heardNow h_seenAt v0_roundFrom v0_roundTo v0_goLast v0_goAnswer v0_goHeard h_fewest h_costNow h_costThen h_lawsOf h_heardBy v0_lawMany v0_askWorst h_placesOf h_sentIn v0_placeMany v0_parentFirst h_lostBy h_many h_width h_numbers h_moving), (h_many, .inl (cI, 4, .inl f_many)), (h_numbers, .inl (cJ, 240, .inr (.inl g_24))), (h_width, .inl (cI, 4, .inl f_width))] := hD
        refine lv_iconst (v := 0) hx hb dX12_write_65 (by decide) ?_
        have hr9 : (0 : Int32).toInt = 0 := by decide
        exact ret _ _ _ _ _ g_24 dX12_write_66 (show ((0 : Int32) = S_writeM v1 v2 (f_many v1.toInt.toNat)) from (by rw [show f_many v1.toInt.toNat = t_10 from et_10]; unfold S_writeM; (repeat' split) <;> first | rfl | (exfalso; omega))) (hP.sub [0, 1, 2, 3] rfl) (hD.sub [0, 1, 2, 3] (by decide) rfl) hS
      · have c_17 : r_13.toInt = 0 := ci_ne_f c_17
        have b_r_13 := i32b r_13
        have d_25 : (t_9.toInt < 0 ∨ t_12.toInt < t_9.toInt) := by omega
        clear i_15
        refine lv_bipush (v := (-7)) hx hb dX12_write_41 (by decide) ?_
        have hr9 : ((-7) : Int32).toInt = (-7) := by decide
        exact ret _ _ _ _ _ f_numbers dX12_write_43 (show (((-7) : Int32) = S_writeM v1 v2 (f_many v1.toInt.toNat)) from (by rw [show f_many v1.toInt.toNat = t_10 from et_10]; unfold S_writeM; (repeat' split) <;> first | rfl | (exfalso; omega))) (hP.sub [0, 1, 2, 3] rfl) (hD.sub [0, 1, 2, 3] (by decide) rfl) hS
    · have c_8 : t_7.toInt = (-1) := ci_ne_f c_8
      have b_t_7 := i32b t_7
      refine lv_bipush (v := (-6)) hx hb dX12_write_20 (by decide) ?_
      have hr9 : ((-6) : Int32).toInt = (-6) := by decide
      exact ret _ _ _ _ _ f_numbers dX12_write_22 (show (((-6) : Int32) = S_writeM v1 v2 (f_many v1.toInt.toNat)) from (by rw [show f_many v1.toInt.toNat = t_7 from et_7]; unfold S_writeM; (repeat' split) <;> first | rfl | (exfalso; omega))) (hP.sub [0, 1, 2, 3] rfl) (hD.sub [0, 1, 2, 3] (by decide) rfl) hS
  · have c_5 : r_1.toInt = 0 := ci_ne_f c_5
    have b_r_1 := i32b r_1
    have d_26 : (v1.toInt < 0 ∨ 3 < v1.toInt) := by omega
    clear i_3
    refine lv_bipush (v := (-2)) hx hb dX12_write_7 (by decide) ?_
    have hr9 : ((-2) : Int32).toInt = (-2) := by decide
    exact ret _ _ _ _ _ f_numbers dX12_write_9 (show (((-2) : Int32) = S_writeM v1 v2 (f_many v1.toInt.toNat)) from (by unfold S_writeM; rw [if_neg (by omega)])) (hP.sub [0, 1, 2, 3] rfl) (hD.sub [0, 1, 2, 3] (by decide) rfl) hS

set_option maxHeartbeats 4000000 in
set_option maxRecDepth 100000 in
theorem b_X12_paste_l150 {p : Program} {l : Launch} {e : Env} {s : State} {m : MethodId} {args : Array Value} {below : List Frame} {meth : Method} {c : Code} {Q : State → Prop} {G : Gho} {D : va_G} {cB cI cJ cZ cS cT : ClassId} {A : Nat → Prop} (h0 : Nat) (v0_thrown : Int32) (h_world : Nat) (h_images : Nat) (h_hasImage : Nat) (h_tape : Nat) (v0_taped : Int32) (h_five : Nat) (v0_size : Int32) (v0_at : Int32) (v0_from : Int32) (v0_token : Int32) (v0_value : Int32) (v0_faultKind : Int32) (v0_faultPlace : Int32) (h_fresh : Nat) (h_spokenAt : Nat) (h_heardAt : Nat) (h_lastAt : Nat) (h_answerAt : Nat) (v0_lawA : Int32) (v0_lawB : Int32) (v0_lawC : Int32) (v0_drawX : Int64) (v0_isDrawn : Int32) (v0_lostMany : Int32) (h_heardNow : Nat) (h_seenAt : Nat) (v0_roundFrom : Int32) (v0_roundTo : Int32) (v0_goLast : Int32) (v0_goAnswer : Int32) (v0_goHeard : Int32) (h_fewest : Nat) (h_costNow : Nat) (h_costThen : Nat) (h_lawsOf : Nat) (h_heardBy : Nat) (v0_lawMany : Int32) (v0_askWorst : Int32) (h_placesOf : Nat) (h_sentIn : Nat) (v0_placeMany : Int32) (v0_parentFirst : Int32) (h_lostBy : Nat) (h_many : Nat) (h_width : Nat) (h_numbers : Nat) (h_moving : Nat) (f_many : Nat → Int32) (f_numbers : Nat → Int64) (f_width : Nat → Int32) (v1 : Int32) (v2 : Int32) (v3 : Int32) (v4 : Int32) (v5 : Int32) (g113_moving : Nat → Int64) (l113_6 : Int32) (N_113 : Nat) (iv0_taped : 0 ≤ v0_taped.toInt ∧ v0_taped.toInt ≤ 500) (iv0_size : 0 ≤ v0_size.toInt ∧ v0_size.toInt ≤ 500) (iv0_at : 0 ≤ v0_at.toInt ∧ v0_at.toInt ≤ 500) (iv0_from : 0 ≤ v0_from.toInt ∧ v0_from.toInt ≤ 500) (iv0_faultKind : 0 ≤ v0_faultKind.toInt ∧ v0_faultKind.toInt ≤ 3) (iv0_lawA : 0 ≤ v0_lawA.toInt ∧ v0_lawA.toInt ≤ 8) (iv0_lawB : 0 ≤ v0_lawB.toInt ∧ v0_lawB.toInt ≤ 8) (iv0_lawC : 0 ≤ v0_lawC.toInt ∧ v0_lawC.toInt ≤ 9) (iv0_isDrawn : 0 ≤ v0_isDrawn.toInt ∧ v0_isDrawn.toInt ≤ 1) (iv0_roundFrom : 0 ≤ v0_roundFrom.toInt ∧ v0_roundFrom.toInt ≤ 648) (iv0_roundTo : 0 ≤ v0_roundTo.toInt ∧ v0_roundTo.toInt ≤ 648) (iv0_goLast : 0 ≤ v0_goLast.toInt ∧ v0_goLast.toInt ≤ 8) (iv0_goAnswer : 0 ≤ v0_goAnswer.toInt ∧ v0_goAnswer.toInt ≤ 8) (iv0_lawMany : 0 ≤ v0_lawMany.toInt ∧ v0_lawMany.toInt ≤ 729) (iv0_placeMany : 0 ≤ v0_placeMany.toInt ∧ v0_placeMany.toInt ≤ 100) (pf_many : sg sgMa f_many) (zv1 : 0 ≤ v1.toInt ∧ v1.toInt ≤ 3) (zv2 : 0 ≤ v2.toInt ∧ v2.toInt ≤ 60) (zv3 : 0 ≤ v3.toInt ∧ v3.toInt ≤ 3) (zv4 : 0 ≤ v4.toInt ∧ v4.toInt ≤ 60) (zv5 : 0 ≤ v5.toInt ∧ v5.toInt ≤ 60) (d_7 : 0 ≤ v1.toInt ∧ v1.toInt ≤ 3) (d_13 : 0 ≤ v3.toInt ∧ v3.toInt ≤ 3) (c_21 : 0 ≤ v2.toInt) (c_22 : 0 ≤ v4.toInt) (c_23 : 0 ≤ v5.toInt) (hpp : 0 ≤ v2.toInt ∧ v2.toInt ≤ 60 ∧ 0 ≤ v4.toInt ∧ v4.toInt ≤ 60 ∧ 0 ≤ v5.toInt ∧ v5.toInt ≤ 60 ∧ v2.toInt + v5.toInt ≤ 60 ∧ v4.toInt + v5.toInt ≤ 60) (hS9 : S_pasteM v1 v2 v3 v4 v5 (f_many v1.toInt.toNat) (f_many v3.toInt.toNat) (f_width v1.toInt.toNat) (f_width v3.toInt.toNat) = 0) (kl113_6 : 0 ≤ l113_6.toInt) (c_38 : v5.toInt ≤ l113_6.toInt) (ih_113 : ∀ (g113_moving : Nat → Int64) (l113_6 : Int32) (H : Heap) (locs : List Loc) (ls : Array Slot), 0 ≤ l113_6.toInt → (v5.toInt - l113_6.toInt).toNat < N_113 → va_P D vwCl [(mO h0 v0_thrown h_world h_images h_hasImage h_tape v0_taped h_five v0_size v0_at v0_from v0_token v0_value v0_faultKind v0_faultPlace h_fresh h_spokenAt h_heardAt h_lastAt h_answerAt v0_lawA v0_lawB v0_lawC v0_drawX v0_isDrawn v0_lostMany h_heardNow h_seenAt v0_roundFrom v0_roundTo v0_goLast v0_goAnswer v0_goHeard h_fewest h_costNow h_costThen h_lawsOf h_heardBy v0_lawMany v0_askWorst h_placesOf h_sentIn v0_placeMany v0_parentFirst h_lostBy h_many h_width h_numbers h_moving), (h_many, .inl (cI, 4, .inl f_many)), (h_moving, .inl (cJ, 60, .inr (.inl g113_moving))), (h_numbers, .inl (cJ, 240, .inr (.inl f_numbers))), (h_width, .inl (cI, 4, .inl f_width))] H → va_D A [(mO h0 v0_thrown h_world h_images h_hasImage h_tape v0_taped h_five v0_size v0_at v0_from v0_token v0_value v0_faultKind v0_faultPlace h_fresh h_spokenAt h_heardAt h_lastAt h_answerAt v0_lawA v0_lawB v0_lawC v0_drawX v0_isDrawn v0_lostMany h_heardNow h_seenAt v0_roundFrom v0_roundTo v0_goLast v0_goAnswer v0_goHeard h_fewest h_costNow h_costThen h_lawsOf h_heardBy v0_lawMany v0_askWorst h_placesOf h_sentIn v0_placeMany v0_parentFirst h_lostBy h_many h_width h_numbers h_moving), (h_many, .inl (cI, 4, .inl f_many)), (h_moving, .inl (cJ, 60, .inr (.inl g113_moving))), (h_numbers, .inl (cJ, 240, .inr (.inl f_numbers))), (h_width, .inl (cI, 4, .inl f_width))] → va_S A s.heap H locs → lv_has ls 7 [(6, .int l113_6), (0, .ref h0), (1, .int v1), (2, .int v2), (3, .int v3), (4, .int v4), (5, .int v5)] → W p l e ({ frames := 2, cells := 0, slots := 0, locals := 45 }) s m args below meth c H locs 0 0 Q (F0 m 113 ls [])) (hM_113 : (v5.toInt - l113_6.toInt).toNat < N_113 + 1) (C : Cx p s m args c RX12 cX12_paste 7 G D (tyL cB cI cJ cZ cS cT)) (hG : G.1 ≤ s.heap.size) (hAB : ∀ q, A q → G.1 ≤ q) (hA : ∀ q : Nat, s.heap.size ≤ q → A q) (ret : RetI p l e ({ frames := 2, cells := 0, slots := 0, locals := 45 }) s m args below meth c cX12_paste D A (fun x : (Nat → Int64) × (Nat → Int64) => [(mO h0 v0_thrown h_world h_images h_hasImage h_tape v0_taped h_five v0_size v0_at v0_from v0_token v0_value v0_faultKind v0_faultPlace h_fresh h_spokenAt h_heardAt h_lastAt h_answerAt v0_lawA v0_lawB v0_lawC v0_drawX v0_isDrawn v0_lostMany h_heardNow h_seenAt v0_roundFrom v0_roundTo v0_goLast v0_goAnswer v0_goHeard h_fewest h_costNow h_costThen h_lawsOf h_heardBy v0_lawMany v0_askWorst h_placesOf h_sentIn v0_placeMany v0_parentFirst h_lostBy h_many h_width h_numbers h_moving), (h_many, .inl (cI, 4, .inl f_many)), (h_moving, .inl (cJ, 60, .inr (.inl x.1))), (h_numbers, .inl (cJ, 240, .inr (.inl x.2))), (h_width, .inl (cI, 4, .inl f_width))]) (fun (r : Int32) (x : (Nat → Int64) × (Nat → Int64)) => (r = S_pasteM v1 v2 v3 v4 v5 (f_many v1.toInt.toNat) (f_many v3.toInt.toNat) (f_width v1.toInt.toNat) (f_width v3.toInt.toNat))) Q) :
    ∀ (N : Nat) (g150_numbers : Nat → Int64) (l150_6 : Int32) (H : Heap) (locs : List Loc) (ls : Array Slot), 0 ≤ l150_6.toInt → (v5.toInt - l150_6.toInt).toNat < N → va_P D vwCl [(mO h0 v0_thrown h_world h_images h_hasImage h_tape v0_taped h_five v0_size v0_at v0_from v0_token v0_value v0_faultKind v0_faultPlace h_fresh h_spokenAt h_heardAt h_lastAt h_answerAt v0_lawA v0_lawB v0_lawC v0_drawX v0_isDrawn v0_lostMany h_heardNow h_seenAt v0_roundFrom v0_roundTo v0_goLast v0_goAnswer v0_goHeard h_fewest h_costNow h_costThen h_lawsOf h_heardBy v0_lawMany v0_askWorst h_placesOf h_sentIn v0_placeMany v0_parentFirst h_lostBy h_many h_width h_numbers h_moving), (h_many, .inl (cI, 4, .inl f_many)), (h_moving, .inl (cJ, 60, .inr (.inl g113_moving))), (h_numbers, .inl (cJ, 240, .inr (.inl g150_numbers))), (h_width, .inl (cI, 4, .inl f_width))] H → va_D A [(mO h0 v0_thrown h_world h_images h_hasImage h_tape v0_taped h_five v0_size v0_at v0_from v0_token v0_value v0_faultKind v0_faultPlace h_fresh h_spokenAt h_heardAt h_lastAt h_answerAt v0_lawA v0_lawB v0_lawC v0_drawX v0_isDrawn v0_lostMany h_heardNow h_seenAt v0_roundFrom v0_roundTo v0_goLast v0_goAnswer v0_goHeard h_fewest h_costNow h_costThen h_lawsOf h_heardBy v0_lawMany v0_askWorst h_placesOf h_sentIn v0_placeMany v0_parentFirst h_lostBy h_many h_width h_numbers h_moving), (h_many, .inl (cI, 4, .inl f_many)), (h_moving, .inl (cJ, 60, .inr (.inl g113_moving))), (h_numbers, .inl (cJ, 240, .inr (.inl g150_numbers))), (h_width, .inl (cI, 4, .inl f_width))] → va_S A s.heap H locs → lv_has ls 7 [(6, .int l150_6), (0, .ref h0), (3, .int v3), (4, .int v4), (5, .int v5)] → W p l e ({ frames := 2, cells := 0, slots := 0, locals := 45 }) s m args below meth c H locs 0 0 Q (F0 m 150 ls []) := by
  obtain ⟨hx, hb, hml, hown, hts, hK, hN, hT⟩ := id C
  intro N
  induction N with
  | zero =>
    intro g150_numbers l150_6 H locs ls kl150_6 hM_150 hP hD hS hl
    omega
  | succ N_150 ih_150 =>
    intro g150_numbers l150_6 H locs ls kl150_6 hM_150 hP hD hS hl
    have b_l150_6 := i32b l150_6
    refine lv_iload hx hb dX12_paste_150 (lv_at hl 0 rfl) ?_
    refine lv_iload hx hb dX12_paste_152 (lv_at hl 4 rfl) ?_
    refine lv_icmp_ge (tgt := 185) hx hb dX12_paste_154 (by decide) (fun c_39 => ?_) (fun c_39 => ?_)
    · have c_39 : v5.toInt ≤ l150_6.toInt := ci_ge_t c_39
      have b_v5 := i32b v5
      refine lv_iconst (v := 0) hx hb dX12_paste_185 (by decide) ?_
      have hr9 : (0 : Int32).toInt = 0 := by decide
      exact ret _ _ _ _ _ (g113_moving, g150_numbers) dX12_paste_186 (show ((0 : Int32) = S_pasteM v1 v2 v3 v4 v5 (f_many v1.toInt.toNat) (f_many v3.toInt.toNat) (f_width v1.toInt.toNat) (f_width v3.toInt.toNat)) from hS9.symm) (hP.sub [0, 1, 2, 3, 4] rfl) (hD.sub [0, 1, 2, 3, 4] (by decide) rfl) hS
    · have c_39 : l150_6.toInt < v5.toInt := ci_ge_f c_39
      have b_v5 := i32b v5
      refine lv_aload_n hx hb dX12_paste_157 rfl (lv_at hl 1 rfl) ?_
      refine va_get (D := D) (ci := 12) (v := .ref h_numbers) (C := RX12) (T := TX12) (N := 48) hx hb hts inlX12 hown hK hP 0 rfl rfl 46 (by decide) (hts _ (inr7 _ (List.mem_of_getElem? (i := 16) rfl))) (fun _ h9 => h9) rfl dX12_paste_158 ?_
      refine lv_bipush (v := 60) hx hb dX12_paste_161 (by decide) ?_
      refine lv_iload_n hx hb dX12_paste_163 rfl (lv_at hl 2 rfl) ?_
      obtain ⟨t_40, et_40⟩ : ∃ v9 : Int32, 60 * v3 = v9 := ⟨_, rfl⟩
      refine z_imul (v := t_40) hx hb dX12_paste_164 et_40 ?_
      have b_v3 := i32b v3
      have ft_40 : t_40.toInt = 60 * v3.toInt := mulT (a := 60) (b := v3.toInt) (by decide) rfl et_40 (by omega) (by omega)
      refine lv_iload hx hb dX12_paste_165 (lv_at hl 3 rfl) ?_
      obtain ⟨t_41, et_41⟩ : ∃ v9 : Int32, t_40 + v4 = v9 := ⟨_, rfl⟩
      refine z_iadd (v := t_41) hx hb dX12_paste_167 et_41 ?_
      have b_t_40 := i32b t_40
      have b_v4 := i32b v4
      have ft_41 : t_41.toInt = t_40.toInt + v4.toInt := addT (a := t_40.toInt) (b := v4.toInt) rfl rfl et_41 (by omega) (by omega)
      refine lv_iload hx hb dX12_paste_168 (lv_at hl 0 rfl) ?_
      obtain ⟨t_42, et_42⟩ : ∃ v9 : Int32, t_41 + l150_6 = v9 := ⟨_, rfl⟩
      refine z_iadd (v := t_42) hx hb dX12_paste_170 et_42 ?_
      have b_t_41 := i32b t_41
      have ft_42 : t_42.toInt = t_41.toInt + l150_6.toInt := addT (a := t_41.toInt) (b := l150_6.toInt) rfl rfl et_42 (by omega) (by omega)
      refine lv_aload_n hx hb dX12_paste_171 rfl (lv_at hl 1 rfl) ?_
      refine va_get (D := D) (ci := 12) (v := .ref h_moving) (C := RX12) (T := TX12) (N := 48) hx hb hts inlX12 hown hK hP 0 rfl rfl 47 (by decide) (hts _ (inr7 _ (List.mem_of_getElem? (i := 17) rfl))) (fun _ h9 => h9) rfl dX12_paste_172 ?_
      refine lv_iload hx hb dX12_paste_175 (lv_at hl 0 rfl) ?_
      obtain ⟨t_43, et_43⟩ : ∃ v9 : Int64, g113_moving (l150_6 : Int32).toNatClampNeg = v9 := ⟨_, rfl⟩
      refine z_lald (v := t_43) hx hb hK hP 2 2 rfl rfl (vin_nat (by omega) (by omega)) et_43 dX12_paste_177 ?_
      refine va_last hx hb hK hP hD hS 3 2 rfl rfl (vin_nat (by omega) (by omega)) dX12_paste_178 (fun H locs hP hD hS => ?_)
      have hP : va_P D vwCl [(mO h0 v0_thrown h_world h_images h_hasImage h_tape v0_taped h_five v0_size v0_at v0_from v0_token v0_value v0_faultKind v0_faultPlace h_fresh h_spokenAt h_heardAt h_lastAt h_answerAt v0_lawA v0_lawB v0_lawC v0_drawX v0_isDrawn v0_lostMany h_heardNow h_seenAt v0_roundFrom v0_roundTo v0_goLast v0_goAnswer v0_goHeard h_fewest h_costNow h_costThen h_lawsOf h_heardBy v0_lawMany v0_askWorst h_placesOf h_sentIn v0_placeMany v0_parentFirst h_lostBy h_many h_width h_numbers h_moving), (h_many, .inl (cI, 4, .inl f_many)), (h_moving, .inl (cJ, 60, .inr (.inl g113_moving))), (h_numbers, .inl (cJ, 240, .inr (.inl (vp_updL g150_numbers (t_42 : Int32).toNatClampNeg t_43)))), (h_width, .inl (cI, 4, .inl f_width))] H := hP
      have hD : va_D A [(mO h0 v0_thrown h_world h_images h_hasImage h_tape v0_taped h_five v0_size v0_at v0_from v0_token v0_value v0_faultKind v0_faultPlace h_fresh h_spokenAt h_heardAt h_lastAt h_answerAt v0_lawA v0_lawB v0_lawC v0_drawX v0_isDrawn v0_lostMany h_heardNow h_seenAt v0_roundFrom v0_roundTo v0_goLast v0_goAnswer v0_goHeard h_fewest h_costNow h_costThen h_lawsOf h_heardBy v0_lawMany v0_askWorst h_placesOf h_sentIn v0_placeMany v0_parentFirst h_lostBy h_many h_width h_numbers h_moving), (h_many, .inl (cI, 4, .inl f_many)), (h_moving, .inl (cJ, 60, .inr (.inl g113_moving))), (h_numbers, .inl (cJ, 240, .inr (.inl (vp_updL g150_numbers (t_42 : Int32).toNatClampNeg t_43)))), (h_width, .inl (cI, 4, .inl f_width))] := hD
      obtain ⟨g_44, eg_44⟩ : ∃ v9 : Nat → Int64, (vp_updL g150_numbers (t_42 : Int32).toNatClampNeg t_43) = v9 := ⟨_, rfl⟩
      rw [eg_44] at hP hD
      have hP : va_P D vwCl [(mO h0 v0_thrown h_world h_images h_hasImage h_tape v0_taped h_five v0_size v0_at v0_from v0_token v0_value v0_faultKind v0_faultPlace h_fresh h_spokenAt h_heardAt h_lastAt h_answerAt v0_lawA v0_lawB v0_lawC v0_drawX v0_isDrawn v0_lostMany h_heardNow h_seenAt v0_roundFrom v0_roundTo v0_goLast v0_goAnswer v0_goHeard h_fewest h_costNow h_costThen h_lawsOf h_heardBy v0_lawMany v0_askWorst h_placesOf h_sentIn v0_placeMany v0_parentFirst h_lostBy h_many h_width h_numbers h_moving), (h_many, .inl (cI, 4, .inl f_many)), (h_moving, .inl (cJ, 60, .inr (.inl g113_moving))), (h_numbers, .inl (cJ, 240, .inr (.inl g_44))), (h_width, .inl (cI, 4, .inl f_width))] H := hP
      have hD : va_D A [(mO h0 v0_thrown h_world h_images h_hasImage h_tape v0_taped h_five v0_size v0_at v0_from v0_token v0_value v0_faultKind v0_faultPlace h_fresh h_spokenAt h_heardAt h_lastAt h_answerAt v0_lawA v0_lawB v0_lawC v0_drawX v0_isDrawn v0_lostMany h_heardNow h_seenAt v0_roundFrom v0_roundTo v0_goLast v0_goAnswer v0_goHeard h_fewest h_costNow h_costThen h_lawsOf h_heardBy v0_lawMany v0_askWorst h_placesOf h_sentIn v0_placeMany v0_parentFirst h_lostBy h_many h_width h_numbers h_moving), (h_many, .inl (cI, 4, .inl f_many)), (h_moving, .inl (cJ, 60, .inr (.inl g113_moving))), (h_numbers, .inl (cJ, 240, .inr (.inl g_44))), (h_width, .inl (cI, 4, .inl f_width))] := hD
      obtain ⟨t_45, et_45⟩ : ∃ v9 : Int32, l150_6 + 1 = v9 := ⟨_, rfl⟩
      have ft_45 : t_45.toInt = l150_6.toInt + 1 := addT (a := l150_6.toInt) (b := 1) rfl (by decide) et_45 (by omega) (by omega)
      refine lv_iinc (v := t_45) (lv' := [(6, .int t_45), (0, .ref h0), (3, .int v3), (4, .int v4), (5, .int v5)]) hx hb dX12_paste_179 hl (k := 0) rfl (by rw [← et_45]; rfl) (by decide) rfl (fun ls hl => ?_)
      refine lv_goto (tgt := 150) hx hb dX12_paste_182 (by decide) ?_
      exact ih_150 (g_44) (t_45) _ _ _ (by first | assumption | (have := zI0; have := zI1; have := zIm; omega) | decide) (by omega) (hP.sub [0, 1, 2, 3, 4] rfl) (hD.sub [0, 1, 2, 3, 4] (by decide) rfl) hS (lv_sub hl [0, 1, 2, 3, 4] rfl)

set_option maxHeartbeats 4000000 in
set_option maxRecDepth 100000 in
theorem b_X12_paste_l113 {p : Program} {l : Launch} {e : Env} {s : State} {m : MethodId} {args : Array Value} {below : List Frame} {meth : Method} {c : Code} {Q : State → Prop} {G : Gho} {D : va_G} {cB cI cJ cZ cS cT : ClassId} {A : Nat → Prop} (h0 : Nat) (v0_thrown : Int32) (h_world : Nat) (h_images : Nat) (h_hasImage : Nat) (h_tape : Nat) (v0_taped : Int32) (h_five : Nat) (v0_size : Int32) (v0_at : Int32) (v0_from : Int32) (v0_token : Int32) (v0_value : Int32) (v0_faultKind : Int32) (v0_faultPlace : Int32) (h_fresh : Nat) (h_spokenAt : Nat) (h_heardAt : Nat) (h_lastAt : Nat) (h_answerAt : Nat) (v0_lawA : Int32) (v0_lawB : Int32) (v0_lawC : Int32) (v0_drawX : Int64) (v0_isDrawn : Int32) (v0_lostMany : Int32) (h_heardNow : Nat) (h_seenAt : Nat) (v0_roundFrom : Int32) (v0_roundTo : Int32) (v0_goLast : Int32) (v0_goAnswer : Int32) (v0_goHeard : Int32) (h_fewest : Nat) (h_costNow : Nat) (h_costThen : Nat) (h_lawsOf : Nat) (h_heardBy : Nat) (v0_lawMany : Int32) (v0_askWorst : Int32) (h_placesOf : Nat) (h_sentIn : Nat) (v0_placeMany : Int32) (v0_parentFirst : Int32) (h_lostBy : Nat) (h_many : Nat) (h_width : Nat) (h_numbers : Nat) (h_moving : Nat) (f_many : Nat → Int32) (f_numbers : Nat → Int64) (f_width : Nat → Int32) (v1 : Int32) (v2 : Int32) (v3 : Int32) (v4 : Int32) (v5 : Int32) (iv0_taped : 0 ≤ v0_taped.toInt ∧ v0_taped.toInt ≤ 500) (iv0_size : 0 ≤ v0_size.toInt ∧ v0_size.toInt ≤ 500) (iv0_at : 0 ≤ v0_at.toInt ∧ v0_at.toInt ≤ 500) (iv0_from : 0 ≤ v0_from.toInt ∧ v0_from.toInt ≤ 500) (iv0_faultKind : 0 ≤ v0_faultKind.toInt ∧ v0_faultKind.toInt ≤ 3) (iv0_lawA : 0 ≤ v0_lawA.toInt ∧ v0_lawA.toInt ≤ 8) (iv0_lawB : 0 ≤ v0_lawB.toInt ∧ v0_lawB.toInt ≤ 8) (iv0_lawC : 0 ≤ v0_lawC.toInt ∧ v0_lawC.toInt ≤ 9) (iv0_isDrawn : 0 ≤ v0_isDrawn.toInt ∧ v0_isDrawn.toInt ≤ 1) (iv0_roundFrom : 0 ≤ v0_roundFrom.toInt ∧ v0_roundFrom.toInt ≤ 648) (iv0_roundTo : 0 ≤ v0_roundTo.toInt ∧ v0_roundTo.toInt ≤ 648) (iv0_goLast : 0 ≤ v0_goLast.toInt ∧ v0_goLast.toInt ≤ 8) (iv0_goAnswer : 0 ≤ v0_goAnswer.toInt ∧ v0_goAnswer.toInt ≤ 8) (iv0_lawMany : 0 ≤ v0_lawMany.toInt ∧ v0_lawMany.toInt ≤ 729) (iv0_placeMany : 0 ≤ v0_placeMany.toInt ∧ v0_placeMany.toInt ≤ 100) (pf_many : sg sgMa f_many) (zv1 : 0 ≤ v1.toInt ∧ v1.toInt ≤ 3) (zv2 : 0 ≤ v2.toInt ∧ v2.toInt ≤ 60) (zv3 : 0 ≤ v3.toInt ∧ v3.toInt ≤ 3) (zv4 : 0 ≤ v4.toInt ∧ v4.toInt ≤ 60) (zv5 : 0 ≤ v5.toInt ∧ v5.toInt ≤ 60) (d_7 : 0 ≤ v1.toInt ∧ v1.toInt ≤ 3) (d_13 : 0 ≤ v3.toInt ∧ v3.toInt ≤ 3) (c_21 : 0 ≤ v2.toInt) (c_22 : 0 ≤ v4.toInt) (c_23 : 0 ≤ v5.toInt) (hpp : 0 ≤ v2.toInt ∧ v2.toInt ≤ 60 ∧ 0 ≤ v4.toInt ∧ v4.toInt ≤ 60 ∧ 0 ≤ v5.toInt ∧ v5.toInt ≤ 60 ∧ v2.toInt + v5.toInt ≤ 60 ∧ v4.toInt + v5.toInt ≤ 60) (hS9 : S_pasteM v1 v2 v3 v4 v5 (f_many v1.toInt.toNat) (f_many v3.toInt.toNat) (f_width v1.toInt.toNat) (f_width v3.toInt.toNat) = 0) (C : Cx p s m args c RX12 cX12_paste 7 G D (tyL cB cI cJ cZ cS cT)) (hG : G.1 ≤ s.heap.size) (hAB : ∀ q, A q → G.1 ≤ q) (hA : ∀ q : Nat, s.heap.size ≤ q → A q) (ret : RetI p l e ({ frames := 2, cells := 0, slots := 0, locals := 45 }) s m args below meth c cX12_paste D A (fun x : (Nat → Int64) × (Nat → Int64) => [(mO h0 v0_thrown h_world h_images h_hasImage h_tape v0_taped h_five v0_size v0_at v0_from v0_token v0_value v0_faultKind v0_faultPlace h_fresh h_spokenAt h_heardAt h_lastAt h_answerAt v0_lawA v0_lawB v0_lawC v0_drawX v0_isDrawn v0_lostMany h_heardNow h_seenAt v0_roundFrom v0_roundTo v0_goLast v0_goAnswer v0_goHeard h_fewest h_costNow h_costThen h_lawsOf h_heardBy v0_lawMany v0_askWorst h_placesOf h_sentIn v0_placeMany v0_parentFirst h_lostBy h_many h_width h_numbers h_moving), (h_many, .inl (cI, 4, .inl f_many)), (h_moving, .inl (cJ, 60, .inr (.inl x.1))), (h_numbers, .inl (cJ, 240, .inr (.inl x.2))), (h_width, .inl (cI, 4, .inl f_width))]) (fun (r : Int32) (x : (Nat → Int64) × (Nat → Int64)) => (r = S_pasteM v1 v2 v3 v4 v5 (f_many v1.toInt.toNat) (f_many v3.toInt.toNat) (f_width v1.toInt.toNat) (f_width v3.toInt.toNat))) Q) :
    ∀ (N : Nat) (g113_moving : Nat → Int64) (l113_6 : Int32) (H : Heap) (locs : List Loc) (ls : Array Slot), 0 ≤ l113_6.toInt → (v5.toInt - l113_6.toInt).toNat < N → va_P D vwCl [(mO h0 v0_thrown h_world h_images h_hasImage h_tape v0_taped h_five v0_size v0_at v0_from v0_token v0_value v0_faultKind v0_faultPlace h_fresh h_spokenAt h_heardAt h_lastAt h_answerAt v0_lawA v0_lawB v0_lawC v0_drawX v0_isDrawn v0_lostMany h_heardNow h_seenAt v0_roundFrom v0_roundTo v0_goLast v0_goAnswer v0_goHeard h_fewest h_costNow h_costThen h_lawsOf h_heardBy v0_lawMany v0_askWorst h_placesOf h_sentIn v0_placeMany v0_parentFirst h_lostBy h_many h_width h_numbers h_moving), (h_many, .inl (cI, 4, .inl f_many)), (h_moving, .inl (cJ, 60, .inr (.inl g113_moving))), (h_numbers, .inl (cJ, 240, .inr (.inl f_numbers))), (h_width, .inl (cI, 4, .inl f_width))] H → va_D A [(mO h0 v0_thrown h_world h_images h_hasImage h_tape v0_taped h_five v0_size v0_at v0_from v0_token v0_value v0_faultKind v0_faultPlace h_fresh h_spokenAt h_heardAt h_lastAt h_answerAt v0_lawA v0_lawB v0_lawC v0_drawX v0_isDrawn v0_lostMany h_heardNow h_seenAt v0_roundFrom v0_roundTo v0_goLast v0_goAnswer v0_goHeard h_fewest h_costNow h_costThen h_lawsOf h_heardBy v0_lawMany v0_askWorst h_placesOf h_sentIn v0_placeMany v0_parentFirst h_lostBy h_many h_width h_numbers h_moving), (h_many, .inl (cI, 4, .inl f_many)), (h_moving, .inl (cJ, 60, .inr (.inl g113_moving))), (h_numbers, .inl (cJ, 240, .inr (.inl f_numbers))), (h_width, .inl (cI, 4, .inl f_width))] → va_S A s.heap H locs → lv_has ls 7 [(6, .int l113_6), (0, .ref h0), (1, .int v1), (2, .int v2), (3, .int v3), (4, .int v4), (5, .int v5)] → W p l e ({ frames := 2, cells := 0, slots := 0, locals := 45 }) s m args below meth c H locs 0 0 Q (F0 m 113 ls []) := by
  obtain ⟨hx, hb, hml, hown, hts, hK, hN, hT⟩ := id C
  intro N
  induction N with
  | zero =>
    intro g113_moving l113_6 H locs ls kl113_6 hM_113 hP hD hS hl
    omega
  | succ N_113 ih_113 =>
    intro g113_moving l113_6 H locs ls kl113_6 hM_113 hP hD hS hl
    have b_l113_6 := i32b l113_6
    refine lv_iload hx hb dX12_paste_113 (lv_at hl 0 rfl) ?_
    refine lv_iload hx hb dX12_paste_115 (lv_at hl 6 rfl) ?_
    refine lv_icmp_ge (tgt := 147) hx hb dX12_paste_117 (by decide) (fun c_38 => ?_) (fun c_38 => ?_)
    · have c_38 : v5.toInt ≤ l113_6.toInt := ci_ge_t c_38
      have b_v5 := i32b v5
      refine lv_iconst (v := 0) hx hb dX12_paste_147 (by decide) ?_
      refine lv_istore (lv' := [(6, .int 0), (0, .ref h0), (1, .int v1), (2, .int v2), (3, .int v3), (4, .int v4), (5, .int v5)]) hx hb dX12_paste_148 hl (by decide) rfl (fun ls hl => ?_)
      exact b_X12_paste_l150 h0 v0_thrown h_world h_images h_hasImage h_tape v0_taped h_five v0_size v0_at v0_from v0_token v0_value v0_faultKind v0_faultPlace h_fresh h_spokenAt h_heardAt h_lastAt h_answerAt v0_lawA v0_lawB v0_lawC v0_drawX v0_isDrawn v0_lostMany h_heardNow h_seenAt v0_roundFrom v0_roundTo v0_goLast v0_goAnswer v0_goHeard h_fewest h_costNow h_costThen h_lawsOf h_heardBy v0_lawMany v0_askWorst h_placesOf h_sentIn v0_placeMany v0_parentFirst h_lostBy h_many h_width h_numbers h_moving f_many f_numbers f_width v1 v2 v3 v4 v5 g113_moving l113_6 N_113 (by first | assumption | (have := zI0; have := zI1; have := zIm; omega) | decide) (by first | assumption | (have := zI0; have := zI1; have := zIm; omega) | decide) (by first | assumption | (have := zI0; have := zI1; have := zIm; omega) | decide) (by first | assumption | (have := zI0; have := zI1; have := zIm; omega) | decide) (by first | assumption | (have := zI0; have := zI1; have := zIm; omega) | decide) (by first | assumption | (have := zI0; have := zI1; have := zIm; omega) | decide) (by first | assumption | (have := zI0; have := zI1; have := zIm; omega) | decide) (by first | assumption | (have := zI0; have := zI1; have := zIm; omega) | decide) (by first | assumption | (have := zI0; have := zI1; have := zIm; omega) | decide) (by first | assumption | (have := zI0; have := zI1; have := zIm; omega) | decide) (by first | assumption | (have := zI0; have := zI1; have := zIm; omega) | decide) (by first | assumption | (have := zI0; have := zI1; have := zIm; omega) | decide) (by first | assumption | (have := zI0; have := zI1; have := zIm; omega) | decide) (by first | assumption | (have := zI0; have := zI1; have := zIm; omega) | decide) (by first | assumption | (have := zI0; have := zI1; have := zIm; omega) | decide) (by first | assumption | (have := zI0; have := zI1; have := zIm; omega) | decide) (by first | assumption | (have := zI0; have := zI1; have := zIm; omega) | decide) (by first | assumption | (have := zI0; have := zI1; have := zIm; omega) | decide) (by first | assumption | (have := zI0; have := zI1; have := zIm; omega) | decide) (by first | assumption | (have := zI0; have := zI1; have := zIm; omega) | decide) (by first | assumption | (have := zI0; have := zI1; have := zIm; omega) | decide) (by first | assumption | (have := zI0; have := zI1; have := zIm; omega) | decide) (by first | assumption | (have := zI0; have := zI1; have := zIm; omega) | decide) (by first | assumption | (have := zI0; have := zI1; have := zIm; omega) | decide) (by first | assumption | (have := zI0; have := zI1; have := zIm; omega) | decide) (by first | assumption | (have := zI0; have := zI1; have := zIm; omega) | decide) (by first | assumption | (have := zI0; have := zI1; have := zIm; omega) | decide) (by first | assumption | (have := zI0; have := zI1; have := zIm; omega) | decide) (by first | assumption | (have := zI0; have := zI1; have := zIm; omega) | decide) (by first | assumption | (have := zI0; have := zI1; have := zIm; omega) | decide) (by first | assumption | (have := zI0; have := zI1; have := zIm; omega) | decide) (by first | assumption | (have := zI0; have := zI1; have := zIm; omega) | decide) C hG hAB hA ret _ (f_numbers) (0) _ _ _ (by first | assumption | (have := zI0; have := zI1; have := zIm; omega) | decide) (Nat.lt_succ_self _) (hP.sub [0, 1, 2, 3, 4] rfl) (hD.sub [0, 1, 2, 3, 4] (by decide) rfl) hS (lv_sub hl [0, 1, 4, 5, 6] rfl)
    · have c_38 : l113_6.toInt < v5.toInt := ci_ge_f c_38
      have b_v5 := i32b v5
      refine lv_aload_n hx hb dX12_paste_120 rfl (lv_at hl 1 rfl) ?_
      refine va_get (D := D) (ci := 12) (v := .ref h_moving) (C := RX12) (T := TX12) (N := 48) hx hb hts inlX12 hown hK hP 0 rfl rfl 47 (by decide) (hts _ (inr7 _ (List.mem_of_getElem? (i := 17) rfl))) (fun _ h9 => h9) rfl dX12_paste_121 ?_
      refine lv_iload hx hb dX12_paste_124 (lv_at hl 0 rfl) ?_
      refine lv_aload_n hx hb dX12_paste_126 rfl (lv_at hl 1 rfl) ?_
      refine va_get (D := D) (ci := 12) (v := .ref h_numbers) (C := RX12) (T := TX12) (N := 48) hx hb hts inlX12 hown hK hP 0 rfl rfl 46 (by decide) (hts _ (inr7 _ (List.mem_of_getElem? (i := 16) rfl))) (fun _ h9 => h9) rfl dX12_paste_127 ?_
      refine lv_bipush (v := 60) hx hb dX12_paste_130 (by decide) ?_
      refine lv_iload_n hx hb dX12_paste_132 rfl (lv_at hl 2 rfl) ?_
      obtain ⟨t_39, et_39⟩ : ∃ v9 : Int32, 60 * v1 = v9 := ⟨_, rfl⟩
      refine z_imul (v := t_39) hx hb dX12_paste_133 et_39 ?_
      have b_v1 := i32b v1
      have ft_39 : t_39.toInt = 60 * v1.toInt := mulT (a := 60) (b := v1.toInt) (by decide) rfl et_39 (by omega) (by omega)
      refine lv_iload_n hx hb dX12_paste_134 rfl (lv_at hl 3 rfl) ?_
      obtain ⟨t_40, et_40⟩ : ∃ v9 : Int32, t_39 + v2 = v9 := ⟨_, rfl⟩
      refine z_iadd (v := t_40) hx hb dX12_paste_135 et_40 ?_
      have b_t_39 := i32b t_39
      have b_v2 := i32b v2
      have ft_40 : t_40.toInt = t_39.toInt + v2.toInt := addT (a := t_39.toInt) (b := v2.toInt) rfl rfl et_40 (by omega) (by omega)
      refine lv_iload hx hb dX12_paste_136 (lv_at hl 0 rfl) ?_
      obtain ⟨t_41, et_41⟩ : ∃ v9 : Int32, t_40 + l113_6 = v9 := ⟨_, rfl⟩
      refine z_iadd (v := t_41) hx hb dX12_paste_138 et_41 ?_
      have b_t_40 := i32b t_40
      have ft_41 : t_41.toInt = t_40.toInt + l113_6.toInt := addT (a := t_40.toInt) (b := l113_6.toInt) rfl rfl et_41 (by omega) (by omega)
      obtain ⟨t_42, et_42⟩ : ∃ v9 : Int64, f_numbers (t_41 : Int32).toNatClampNeg = v9 := ⟨_, rfl⟩
      refine z_lald (v := t_42) hx hb hK hP 3 2 rfl rfl (vin_nat (by omega) (by omega)) et_42 dX12_paste_139 ?_
      refine va_last hx hb hK hP hD hS 2 2 rfl rfl (vin_nat (by omega) (by omega)) dX12_paste_140 (fun H locs hP hD hS => ?_)
      have hP : va_P D vwCl [(mO h0 v0_thrown h_world h_images h_hasImage h_tape v0_taped h_five v0_size v0_at v0_from v0_token v0_value v0_faultKind v0_faultPlace h_fresh h_spokenAt h_heardAt h_lastAt h_answerAt v0_lawA v0_lawB v0_lawC v0_drawX v0_isDrawn v0_lostMany h_heardNow h_seenAt v0_roundFrom v0_roundTo v0_goLast v0_goAnswer v0_goHeard h_fewest h_costNow h_costThen h_lawsOf h_heardBy v0_lawMany v0_askWorst h_placesOf h_sentIn v0_placeMany v0_parentFirst h_lostBy h_many h_width h_numbers h_moving), (h_many, .inl (cI, 4, .inl f_many)), (h_moving, .inl (cJ, 60, .inr (.inl (vp_updL g113_moving (l113_6 : Int32).toNatClampNeg t_42)))), (h_numbers, .inl (cJ, 240, .inr (.inl f_numbers))), (h_width, .inl (cI, 4, .inl f_width))] H := hP
      have hD : va_D A [(mO h0 v0_thrown h_world h_images h_hasImage h_tape v0_taped h_five v0_size v0_at v0_from v0_token v0_value v0_faultKind v0_faultPlace h_fresh h_spokenAt h_heardAt h_lastAt h_answerAt v0_lawA v0_lawB v0_lawC v0_drawX v0_isDrawn v0_lostMany h_heardNow h_seenAt v0_roundFrom v0_roundTo v0_goLast v0_goAnswer v0_goHeard h_fewest h_costNow h_costThen h_lawsOf h_heardBy v0_lawMany v0_askWorst h_placesOf h_sentIn v0_placeMany v0_parentFirst h_lostBy h_many h_width h_numbers h_moving), (h_many, .inl (cI, 4, .inl f_many)), (h_moving, .inl (cJ, 60, .inr (.inl (vp_updL g113_moving (l113_6 : Int32).toNatClampNeg t_42)))), (h_numbers, .inl (cJ, 240, .inr (.inl f_numbers))), (h_width, .inl (cI, 4, .inl f_width))] := hD
      obtain ⟨g_43, eg_43⟩ : ∃ v9 : Nat → Int64, (vp_updL g113_moving (l113_6 : Int32).toNatClampNeg t_42) = v9 := ⟨_, rfl⟩
      rw [eg_43] at hP hD
      have hP : va_P D vwCl [(mO h0 v0_thrown h_world h_images h_hasImage h_tape v0_taped h_five v0_size v0_at v0_from v0_token v0_value v0_faultKind v0_faultPlace h_fresh h_spokenAt h_heardAt h_lastAt h_answerAt v0_lawA v0_lawB v0_lawC v0_drawX v0_isDrawn v0_lostMany h_heardNow h_seenAt v0_roundFrom v0_roundTo v0_goLast v0_goAnswer v0_goHeard h_fewest h_costNow h_costThen h_lawsOf h_heardBy v0_lawMany v0_askWorst h_placesOf h_sentIn v0_placeMany v0_parentFirst h_lostBy h_many h_width h_numbers h_moving), (h_many, .inl (cI, 4, .inl f_many)), (h_moving, .inl (cJ, 60, .inr (.inl g_43))), (h_numbers, .inl (cJ, 240, .inr (.inl f_numbers))), (h_width, .inl (cI, 4, .inl f_width))] H := hP
      have hD : va_D A [(mO h0 v0_thrown h_world h_images h_hasImage h_tape v0_taped h_five v0_size v0_at v0_from v0_token v0_value v0_faultKind v0_faultPlace h_fresh h_spokenAt h_heardAt h_lastAt h_answerAt v0_lawA v0_lawB v0_lawC v0_drawX v0_isDrawn v0_lostMany h_heardNow h_seenAt v0_roundFrom v0_roundTo v0_goLast v0_goAnswer v0_goHeard h_fewest h_costNow h_costThen h_lawsOf h_heardBy v0_lawMany v0_askWorst h_placesOf h_sentIn v0_placeMany v0_parentFirst h_lostBy h_many h_width h_numbers h_moving), (h_many, .inl (cI, 4, .inl f_many)), (h_moving, .inl (cJ, 60, .inr (.inl g_43))), (h_numbers, .inl (cJ, 240, .inr (.inl f_numbers))), (h_width, .inl (cI, 4, .inl f_width))] := hD
      obtain ⟨t_44, et_44⟩ : ∃ v9 : Int32, l113_6 + 1 = v9 := ⟨_, rfl⟩
      have ft_44 : t_44.toInt = l113_6.toInt + 1 := addT (a := l113_6.toInt) (b := 1) rfl (by decide) et_44 (by omega) (by omega)
      refine lv_iinc (v := t_44) (lv' := [(6, .int t_44), (0, .ref h0), (1, .int v1), (2, .int v2), (3, .int v3), (4, .int v4), (5, .int v5)]) hx hb dX12_paste_141 hl (k := 0) rfl (by rw [← et_44]; rfl) (by decide) rfl (fun ls hl => ?_)
      refine lv_goto (tgt := 113) hx hb dX12_paste_144 (by decide) ?_
      exact ih_113 (g_43) (t_44) _ _ _ (by first | assumption | (have := zI0; have := zI1; have := zIm; omega) | decide) (by omega) (hP.sub [0, 1, 2, 3, 4] rfl) (hD.sub [0, 1, 2, 3, 4] (by decide) rfl) hS (lv_sub hl [0, 1, 2, 3, 4, 5, 6] rfl)

set_option maxHeartbeats 4000000 in
set_option maxRecDepth 100000 in
theorem b_X12_paste (l : Launch) (G : Gho) (D : va_G) (cB cI cJ cZ cS cT : ClassId) (sz : Nat) (h0 : Nat) (v0_thrown : Int32) (h_world : Nat) (h_images : Nat) (h_hasImage : Nat) (h_tape : Nat) (v0_taped : Int32) (h_five : Nat) (v0_size : Int32) (v0_at : Int32) (v0_from : Int32) (v0_token : Int32) (v0_value : Int32) (v0_faultKind : Int32) (v0_faultPlace : Int32) (h_fresh : Nat) (h_spokenAt : Nat) (h_heardAt : Nat) (h_lastAt : Nat) (h_answerAt : Nat) (v0_lawA : Int32) (v0_lawB : Int32) (v0_lawC : Int32) (v0_drawX : Int64) (v0_isDrawn : Int32) (v0_lostMany : Int32) (h_heardNow : Nat) (h_seenAt : Nat) (v0_roundFrom : Int32) (v0_roundTo : Int32) (v0_goLast : Int32) (v0_goAnswer : Int32) (v0_goHeard : Int32) (h_fewest : Nat) (h_costNow : Nat) (h_costThen : Nat) (h_lawsOf : Nat) (h_heardBy : Nat) (v0_lawMany : Int32) (v0_askWorst : Int32) (h_placesOf : Nat) (h_sentIn : Nat) (v0_placeMany : Int32) (v0_parentFirst : Int32) (h_lostBy : Nat) (h_many : Nat) (h_width : Nat) (h_numbers : Nat) (h_moving : Nat) (f_many : Nat → Int32) (f_moving : Nat → Int64) (f_numbers : Nat → Int64) (f_width : Nat → Int32) (v1 : Int32) (v2 : Int32) (v3 : Int32) (v4 : Int32) (v5 : Int32) (iv0_taped : 0 ≤ v0_taped.toInt ∧ v0_taped.toInt ≤ 500) (iv0_size : 0 ≤ v0_size.toInt ∧ v0_size.toInt ≤ 500) (iv0_at : 0 ≤ v0_at.toInt ∧ v0_at.toInt ≤ 500) (iv0_from : 0 ≤ v0_from.toInt ∧ v0_from.toInt ≤ 500) (iv0_faultKind : 0 ≤ v0_faultKind.toInt ∧ v0_faultKind.toInt ≤ 3) (iv0_lawA : 0 ≤ v0_lawA.toInt ∧ v0_lawA.toInt ≤ 8) (iv0_lawB : 0 ≤ v0_lawB.toInt ∧ v0_lawB.toInt ≤ 8) (iv0_lawC : 0 ≤ v0_lawC.toInt ∧ v0_lawC.toInt ≤ 9) (iv0_isDrawn : 0 ≤ v0_isDrawn.toInt ∧ v0_isDrawn.toInt ≤ 1) (iv0_roundFrom : 0 ≤ v0_roundFrom.toInt ∧ v0_roundFrom.toInt ≤ 648) (iv0_roundTo : 0 ≤ v0_roundTo.toInt ∧ v0_roundTo.toInt ≤ 648) (iv0_goLast : 0 ≤ v0_goLast.toInt ∧ v0_goLast.toInt ≤ 8) (iv0_goAnswer : 0 ≤ v0_goAnswer.toInt ∧ v0_goAnswer.toInt ≤ 8) (iv0_lawMany : 0 ≤ v0_lawMany.toInt ∧ v0_lawMany.toInt ≤ 729) (iv0_placeMany : 0 ≤ v0_placeMany.toInt ∧ v0_placeMany.toInt ≤ 100) (pf_many : sg sgMa f_many) : Met l yX12_paste (Cond.code yX12_paste cX12_paste 7 (some .int) :: wsL_law) ({ frames := 2, cells := 0, slots := 0, locals := 45 }) (wrP G D (tyL cB cI cJ cZ cS cT) [(mO h0 v0_thrown h_world h_images h_hasImage h_tape v0_taped h_five v0_size v0_at v0_from v0_token v0_value v0_faultKind v0_faultPlace h_fresh h_spokenAt h_heardAt h_lastAt h_answerAt v0_lawA v0_lawB v0_lawC v0_drawX v0_isDrawn v0_lostMany h_heardNow h_seenAt v0_roundFrom v0_roundTo v0_goLast v0_goAnswer v0_goHeard h_fewest h_costNow h_costThen h_lawsOf h_heardBy v0_lawMany v0_askWorst h_placesOf h_sentIn v0_placeMany v0_parentFirst h_lostBy h_many h_width h_numbers h_moving), (h_many, .inl (cI, 4, .inl f_many)), (h_moving, .inl (cJ, 60, .inr (.inl f_moving))), (h_numbers, .inl (cJ, 240, .inr (.inl f_numbers))), (h_width, .inl (cI, 4, .inl f_width))] sz [.ref h0, .int v1, .int v2, .int v3, .int v4, .int v5]) (va_Qi (fun (r : Int32) (x : (Nat → Int64) × (Nat → Int64)) => (r = S_pasteM v1 v2 v3 v4 v5 (f_many v1.toInt.toNat) (f_many v3.toInt.toNat) (f_width v1.toInt.toNat) (f_width v3.toInt.toNat))) (atW D (tyL cB cI cJ cZ cS cT) (va_A [(mO h0 v0_thrown h_world h_images h_hasImage h_tape v0_taped h_five v0_size v0_at v0_from v0_token v0_value v0_faultKind v0_faultPlace h_fresh h_spokenAt h_heardAt h_lastAt h_answerAt v0_lawA v0_lawB v0_lawC v0_drawX v0_isDrawn v0_lostMany h_heardNow h_seenAt v0_roundFrom v0_roundTo v0_goLast v0_goAnswer v0_goHeard h_fewest h_costNow h_costThen h_lawsOf h_heardBy v0_lawMany v0_askWorst h_placesOf h_sentIn v0_placeMany v0_parentFirst h_lostBy h_many h_width h_numbers h_moving), (h_many, .inl (cI, 4, .inl f_many)), (h_moving, .inl (cJ, 60, .inr (.inl f_moving))), (h_numbers, .inl (cJ, 240, .inr (.inl f_numbers))), (h_width, .inl (cI, 4, .inl f_width))] sz) (fun x : (Nat → Int64) × (Nat → Int64) => [(mO h0 v0_thrown h_world h_images h_hasImage h_tape v0_taped h_five v0_size v0_at v0_from v0_token v0_value v0_faultKind v0_faultPlace h_fresh h_spokenAt h_heardAt h_lastAt h_answerAt v0_lawA v0_lawB v0_lawC v0_drawX v0_isDrawn v0_lostMany h_heardNow h_seenAt v0_roundFrom v0_roundTo v0_goLast v0_goAnswer v0_goHeard h_fewest h_costNow h_costThen h_lawsOf h_heardBy v0_lawMany v0_askWorst h_placesOf h_sentIn v0_placeMany v0_parentFirst h_lostBy h_many h_width h_numbers h_moving), (h_many, .inl (cI, 4, .inl f_many)), (h_moving, .inl (cJ, 60, .inr (.inl x.1))), (h_numbers, .inl (cJ, 240, .inr (.inl x.2))), (h_width, .inl (cI, 4, .inl f_width))])) (va_A [(mO h0 v0_thrown h_world h_images h_hasImage h_tape v0_taped h_five v0_size v0_at v0_from v0_token v0_value v0_faultKind v0_faultPlace h_fresh h_spokenAt h_heardAt h_lastAt h_answerAt v0_lawA v0_lawB v0_lawC v0_drawX v0_isDrawn v0_lostMany h_heardNow h_seenAt v0_roundFrom v0_roundTo v0_goLast v0_goAnswer v0_goHeard h_fewest h_costNow h_costThen h_lawsOf h_heardBy v0_lawMany v0_askWorst h_placesOf h_sentIn v0_placeMany v0_parentFirst h_lostBy h_many h_width h_numbers h_moving), (h_many, .inl (cI, 4, .inl f_many)), (h_moving, .inl (cJ, 60, .inr (.inl f_moving))), (h_numbers, .inl (cJ, 240, .inr (.inl f_numbers))), (h_width, .inl (cI, 4, .inl f_width))] sz)) 0 0 (va_A [(mO h0 v0_thrown h_world h_images h_hasImage h_tape v0_taped h_five v0_size v0_at v0_from v0_token v0_value v0_faultKind v0_faultPlace h_fresh h_spokenAt h_heardAt h_lastAt h_answerAt v0_lawA v0_lawB v0_lawC v0_drawX v0_isDrawn v0_lostMany h_heardNow h_seenAt v0_roundFrom v0_roundTo v0_goLast v0_goAnswer v0_goHeard h_fewest h_costNow h_costThen h_lawsOf h_heardBy v0_lawMany v0_askWorst h_placesOf h_sentIn v0_placeMany v0_parentFirst h_lostBy h_many h_width h_numbers h_moving), (h_many, .inl (cI, 4, .inl f_many)), (h_moving, .inl (cJ, 60, .inr (.inl f_moving))), (h_numbers, .inl (cJ, 240, .inr (.inl f_numbers))), (h_width, .inl (cI, 4, .inl f_width))] sz) := by
  refine metI (own := RX12) (by decide) rfl ?_
  intro p e s m below meth c Q hsz C hG hP hD hAB ret
  obtain ⟨hx, hb, hml, hown, hts, hK, hN, hT⟩ := id C
  subst hsz
  generalize hAe : va_A [(mO h0 v0_thrown h_world h_images h_hasImage h_tape v0_taped h_five v0_size v0_at v0_from v0_token v0_value v0_faultKind v0_faultPlace h_fresh h_spokenAt h_heardAt h_lastAt h_answerAt v0_lawA v0_lawB v0_lawC v0_drawX v0_isDrawn v0_lostMany h_heardNow h_seenAt v0_roundFrom v0_roundTo v0_goLast v0_goAnswer v0_goHeard h_fewest h_costNow h_costThen h_lawsOf h_heardBy v0_lawMany v0_askWorst h_placesOf h_sentIn v0_placeMany v0_parentFirst h_lostBy h_many h_width h_numbers h_moving), (h_many, .inl (cI, 4, .inl f_many)), (h_moving, .inl (cJ, 60, .inr (.inl f_moving))), (h_numbers, .inl (cJ, 240, .inr (.inl f_numbers))), (h_width, .inl (cI, 4, .inl f_width))] s.heap.size = A at hD hAB ret ⊢
  have hA : ∀ q : Nat, s.heap.size ≤ q → A q := fun q h => by rw [← hAe]; exact Or.inr h
  have hS : va_S A s.heap s.heap [] := va_S.rf
  have hl := lv_entry ([.ref h0, .int v1, .int v2, .int v3, .int v4, .int v5]) (n := 7) (Nat.le_of_ble_eq_true rfl)
  rw [lg_entry_eq]
  generalize (lg_sl ([.ref h0, .int v1, .int v2, .int v3, .int v4, .int v5]) ++ List.replicate (7 - (lg_sl ([.ref h0, .int v1, .int v2, .int v3, .int v4, .int v5])).length) Slot.unset).toArray = ls at hl ⊢
  have hl : lv_has ls 7 [(0, .ref h0), (1, .int v1), (2, .int v2), (3, .int v3), (4, .int v4), (5, .int v5)] := hl
  have hP : va_P D vwCl [(mO h0 v0_thrown h_world h_images h_hasImage h_tape v0_taped h_five v0_size v0_at v0_from v0_token v0_value v0_faultKind v0_faultPlace h_fresh h_spokenAt h_heardAt h_lastAt h_answerAt v0_lawA v0_lawB v0_lawC v0_drawX v0_isDrawn v0_lostMany h_heardNow h_seenAt v0_roundFrom v0_roundTo v0_goLast v0_goAnswer v0_goHeard h_fewest h_costNow h_costThen h_lawsOf h_heardBy v0_lawMany v0_askWorst h_placesOf h_sentIn v0_placeMany v0_parentFirst h_lostBy h_many h_width h_numbers h_moving), (h_many, .inl (cI, 4, .inl f_many)), (h_moving, .inl (cJ, 60, .inr (.inl f_moving))), (h_numbers, .inl (cJ, 240, .inr (.inl f_numbers))), (h_width, .inl (cI, 4, .inl f_width))] s.heap := hP
  refine lv_iload_n hx hb dX12_paste_0 rfl (lv_at hl 1 rfl) ?_
  refine rosi (As := [.int v1]) (rest := []) ⟨hx, hb, hml, hown, hts⟩ (b_X12_isSlot l G D cB cI cJ cZ cS cT v1 ) (csB (n := 1) (inr54 _ (List.mem_of_getElem? (i := 4) rfl)) (inr54 _ (List.mem_of_getElem? (i := 5) rfl)) (inr1 _ (List.mem_of_getElem? (i := 5) rfl)) (inr54 _ (List.mem_of_getElem? (i := 6) rfl)) (by decide +kernel) hts rfl rfl ⟨Nat.le_of_ble_eq_true rfl, Nat.le_of_ble_eq_true rfl⟩) (hP.sub [] rfl) hK hN (kT.to hT hS hAB) rfl hl.1 rfl (Nat.le_of_ble_eq_true rfl) ⟨Nat.le_of_ble_eq_true rfl, Nat.le_of_ble_eq_true rfl⟩ dX12_paste_1 (fun r_1 h_2 => ?_)
  have h_2 : ((r_1.toInt = 1 ∧ 0 ≤ v1.toInt ∧ v1.toInt ≤ 3) ∨ (r_1.toInt = 0 ∧ (v1.toInt < 0 ∨ 3 < v1.toInt))) ∧ (r_1 = 0 ∨ r_1 = 1) := h_2
  obtain ⟨i_3, i_4⟩ := h_2
  have ar_1 : 0 ≤ r_1.toInt ∧ r_1.toInt ≤ 1 := by rcases i_4 with h | h <;> rw [h] <;> decide
  refine lv_if_eq (tgt := 14) hx hb dX12_paste_4 (by decide) (fun c_5 => ?_) (fun c_5 => ?_)
  · have c_5 : r_1.toInt = 0 := ci_eq_t c_5
    have b_r_1 := i32b r_1
    have d_6 : (v1.toInt < 0 ∨ 3 < v1.toInt) := by omega
    clear i_3
    refine lv_bipush (v := (-2)) hx hb dX12_paste_14 (by decide) ?_
    have hr9 : ((-2) : Int32).toInt = (-2) := by decide
    exact ret _ _ _ _ _ (f_moving, f_numbers) dX12_paste_16 (show (((-2) : Int32) = S_pasteM v1 v2 v3 v4 v5 (f_many v1.toInt.toNat) (f_many v3.toInt.toNat) (f_width v1.toInt.toNat) (f_width v3.toInt.toNat)) from (by unfold S_pasteM; rw [if_neg (by omega)])) (hP.sub [0, 1, 2, 3, 4] rfl) (hD.sub [0, 1, 2, 3, 4] (by decide) rfl) hS
  · have c_5 : ¬ r_1.toInt = 0 := ci_eq_f c_5
    have b_r_1 := i32b r_1
    have d_7 : 0 ≤ v1.toInt ∧ v1.toInt ≤ 3 := by omega
    clear i_3
    refine lv_iload_n hx hb dX12_paste_7 rfl (lv_at hl 3 rfl) ?_
    refine rosi (As := [.int v3]) (rest := []) ⟨hx, hb, hml, hown, hts⟩ (b_X12_isSlot l G D cB cI cJ cZ cS cT v3 ) (csB (n := 1) (inr54 _ (List.mem_of_getElem? (i := 4) rfl)) (inr54 _ (List.mem_of_getElem? (i := 5) rfl)) (inr1 _ (List.mem_of_getElem? (i := 5) rfl)) (inr54 _ (List.mem_of_getElem? (i := 6) rfl)) (by decide +kernel) hts rfl rfl ⟨Nat.le_of_ble_eq_true rfl, Nat.le_of_ble_eq_true rfl⟩) (hP.sub [] rfl) hK hN (kT.to hT hS hAB) rfl hl.1 rfl (Nat.le_of_ble_eq_true rfl) ⟨Nat.le_of_ble_eq_true rfl, Nat.le_of_ble_eq_true rfl⟩ dX12_paste_8 (fun r_8 h_9 => ?_)
    have h_9 : ((r_8.toInt = 1 ∧ 0 ≤ v3.toInt ∧ v3.toInt ≤ 3) ∨ (r_8.toInt = 0 ∧ (v3.toInt < 0 ∨ 3 < v3.toInt))) ∧ (r_8 = 0 ∨ r_8 = 1) := h_9
    obtain ⟨i_10, i_11⟩ := h_9
    have ar_8 : 0 ≤ r_8.toInt ∧ r_8.toInt ≤ 1 := by rcases i_11 with h | h <;> rw [h] <;> decide
    refine lv_if_ne (tgt := 17) hx hb dX12_paste_11 (by decide) (fun c_12 => ?_) (fun c_12 => ?_)
    · have c_12 : ¬ r_8.toInt = 0 := ci_ne_t c_12
      have b_r_8 := i32b r_8
      have d_13 : 0 ≤ v3.toInt ∧ v3.toInt ≤ 3 := by omega
      clear i_10
      refine lv_aload_n hx hb dX12_paste_17 rfl (lv_at hl 0 rfl) ?_
      refine va_get (D := D) (ci := 12) (v := .ref h_many) (C := RX12) (T := TX12) (N := 48) hx hb hts inlX12 hown hK hP 0 rfl rfl 44 (by decide) (hts _ (inr7 _ (List.mem_of_getElem? (i := 14) rfl))) (fun _ h9 => h9) rfl dX12_paste_18 ?_
      refine lv_iload_n hx hb dX12_paste_21 rfl (lv_at hl 1 rfl) ?_
      obtain ⟨t_14, et_14⟩ : ∃ v9 : Int32, f_many (v1 : Int32).toNatClampNeg = v9 := ⟨_, rfl⟩
      refine z_iald (v := t_14) hx hb hK hP 1 1 rfl rfl (vin_nat (by omega) (by omega)) et_14 dX12_paste_22 ?_
      have ft_14 : (-1) ≤ t_14.toInt ∧ t_14.toInt ≤ 60 := sgL (by assumption : sg sgMa f_many) 0 rfl (by omega) (by omega) (by omega) et_14
      refine lv_iconst (v := (-1)) hx hb dX12_paste_23 (by decide) ?_
      refine lv_icmp_eq (tgt := 37) hx hb dX12_paste_24 (by decide) (fun c_15 => ?_) (fun c_15 => ?_)
      · have c_15 : t_14.toInt = (-1) := ci_eq_t c_15
        have b_t_14 := i32b t_14
        refine lv_bipush (v := (-6)) hx hb dX12_paste_37 (by decide) ?_
        have hr9 : ((-6) : Int32).toInt = (-6) := by decide
        exact ret _ _ _ _ _ (f_moving, f_numbers) dX12_paste_39 (show (((-6) : Int32) = S_pasteM v1 v2 v3 v4 v5 (f_many v1.toInt.toNat) (f_many v3.toInt.toNat) (f_width v1.toInt.toNat) (f_width v3.toInt.toNat)) from (by rw [show f_many v1.toInt.toNat = t_14 from et_14]; unfold S_pasteM; (repeat' split) <;> first | rfl | (exfalso; omega))) (hP.sub [0, 1, 2, 3, 4] rfl) (hD.sub [0, 1, 2, 3, 4] (by decide) rfl) hS
      · have c_15 : ¬ t_14.toInt = (-1) := ci_eq_f c_15
        have b_t_14 := i32b t_14
        refine lv_aload_n hx hb dX12_paste_27 rfl (lv_at hl 0 rfl) ?_
        refine va_get (D := D) (ci := 12) (v := .ref h_many) (C := RX12) (T := TX12) (N := 48) hx hb hts inlX12 hown hK hP 0 rfl rfl 44 (by decide) (hts _ (inr7 _ (List.mem_of_getElem? (i := 14) rfl))) (fun _ h9 => h9) rfl dX12_paste_28 ?_
        refine lv_iload_n hx hb dX12_paste_31 rfl (lv_at hl 3 rfl) ?_
        obtain ⟨t_16, et_16⟩ : ∃ v9 : Int32, f_many (v3 : Int32).toNatClampNeg = v9 := ⟨_, rfl⟩
        refine z_iald (v := t_16) hx hb hK hP 1 1 rfl rfl (vin_nat (by omega) (by omega)) et_16 dX12_paste_32 ?_
        have ft_16 : (-1) ≤ t_16.toInt ∧ t_16.toInt ≤ 60 := sgL (by assumption : sg sgMa f_many) 0 rfl (by omega) (by omega) (by omega) et_16
        refine lv_iconst (v := (-1)) hx hb dX12_paste_33 (by decide) ?_
        refine lv_icmp_ne (tgt := 40) hx hb dX12_paste_34 (by decide) (fun c_17 => ?_) (fun c_17 => ?_)
        · have c_17 : ¬ t_16.toInt = (-1) := ci_ne_t c_17
          have b_t_16 := i32b t_16
          refine lv_aload_n hx hb dX12_paste_40 rfl (lv_at hl 0 rfl) ?_
          refine va_get (D := D) (ci := 12) (v := .ref h_width) (C := RX12) (T := TX12) (N := 48) hx hb hts inlX12 hown hK hP 0 rfl rfl 45 (by decide) (hts _ (inr7 _ (List.mem_of_getElem? (i := 15) rfl))) (fun _ h9 => h9) rfl dX12_paste_41 ?_
          refine lv_iload_n hx hb dX12_paste_44 rfl (lv_at hl 1 rfl) ?_
          obtain ⟨t_18, et_18⟩ : ∃ v9 : Int32, f_width (v1 : Int32).toNatClampNeg = v9 := ⟨_, rfl⟩
          refine z_iald (v := t_18) hx hb hK hP 4 1 rfl rfl (vin_nat (by omega) (by omega)) et_18 dX12_paste_45 ?_
          refine lv_aload_n hx hb dX12_paste_46 rfl (lv_at hl 0 rfl) ?_
          refine va_get (D := D) (ci := 12) (v := .ref h_width) (C := RX12) (T := TX12) (N := 48) hx hb hts inlX12 hown hK hP 0 rfl rfl 45 (by decide) (hts _ (inr7 _ (List.mem_of_getElem? (i := 15) rfl))) (fun _ h9 => h9) rfl dX12_paste_47 ?_
          refine lv_iload_n hx hb dX12_paste_50 rfl (lv_at hl 3 rfl) ?_
          obtain ⟨t_19, et_19⟩ : ∃ v9 : Int32, f_width (v3 : Int32).toNatClampNeg = v9 := ⟨_, rfl⟩
          refine z_iald (v := t_19) hx hb hK hP 4 1 rfl rfl (vin_nat (by omega) (by omega)) et_19 dX12_paste_51 ?_
          refine lv_icmp_eq (tgt := 58) hx hb dX12_paste_52 (by decide) (fun c_20 => ?_) (fun c_20 => ?_)
          · have c_20 : t_18.toInt = t_19.toInt := ci_eq_t c_20
            have b_t_18 := i32b t_18
            have b_t_19 := i32b t_19
            refine lv_iload_n hx hb dX12_paste_58 rfl (lv_at hl 2 rfl) ?_
            refine lv_if_lt (tgt := 107) hx hb dX12_paste_59 (by decide) (fun c_21 => ?_) (fun c_21 => ?_)
            · have c_21 : v2.toInt < 0 := ci_lt_t c_21
              have b_v2 := i32b v2
              refine lv_bipush (v := (-7)) hx hb dX12_paste_107 (by decide) ?_
              have hr9 : ((-7) : Int32).toInt = (-7) := by decide
              exact ret _ _ _ _ _ (f_moving, f_numbers) dX12_paste_109 (show (((-7) : Int32) = S_pasteM v1 v2 v3 v4 v5 (f_many v1.toInt.toNat) (f_many v3.toInt.toNat) (f_width v1.toInt.toNat) (f_width v3.toInt.toNat)) from (by rw [show f_many v1.toInt.toNat = t_14 from et_14, show f_many v3.toInt.toNat = t_16 from et_16, show f_width v1.toInt.toNat = t_18 from et_18, show f_width v3.toInt.toNat = t_19 from et_19]; unfold S_pasteM; (repeat' split) <;> first | rfl | (exfalso; omega))) (hP.sub [0, 1, 2, 3, 4] rfl) (hD.sub [0, 1, 2, 3, 4] (by decide) rfl) hS
            · have c_21 : 0 ≤ v2.toInt := ci_lt_f c_21
              have b_v2 := i32b v2
              refine lv_iload hx hb dX12_paste_62 (lv_at hl 4 rfl) ?_
              refine lv_if_lt (tgt := 107) hx hb dX12_paste_64 (by decide) (fun c_22 => ?_) (fun c_22 => ?_)
              · have c_22 : v4.toInt < 0 := ci_lt_t c_22
                have b_v4 := i32b v4
                refine lv_bipush (v := (-7)) hx hb dX12_paste_107 (by decide) ?_
                have hr9 : ((-7) : Int32).toInt = (-7) := by decide
                exact ret _ _ _ _ _ (f_moving, f_numbers) dX12_paste_109 (show (((-7) : Int32) = S_pasteM v1 v2 v3 v4 v5 (f_many v1.toInt.toNat) (f_many v3.toInt.toNat) (f_width v1.toInt.toNat) (f_width v3.toInt.toNat)) from (by rw [show f_many v1.toInt.toNat = t_14 from et_14, show f_many v3.toInt.toNat = t_16 from et_16, show f_width v1.toInt.toNat = t_18 from et_18, show f_width v3.toInt.toNat = t_19 from et_19]; unfold S_pasteM; (repeat' split) <;> first | rfl | (exfalso; omega))) (hP.sub [0, 1, 2, 3, 4] rfl) (hD.sub [0, 1, 2, 3, 4] (by decide) rfl) hS
              · have c_22 : 0 ≤ v4.toInt := ci_lt_f c_22
                have b_v4 := i32b v4
                refine lv_iload hx hb dX12_paste_67 (lv_at hl 5 rfl) ?_
                refine lv_if_lt (tgt := 107) hx hb dX12_paste_69 (by decide) (fun c_23 => ?_) (fun c_23 => ?_)
                · have c_23 : v5.toInt < 0 := ci_lt_t c_23
                  have b_v5 := i32b v5
                  refine lv_bipush (v := (-7)) hx hb dX12_paste_107 (by decide) ?_
                  have hr9 : ((-7) : Int32).toInt = (-7) := by decide
                  exact ret _ _ _ _ _ (f_moving, f_numbers) dX12_paste_109 (show (((-7) : Int32) = S_pasteM v1 v2 v3 v4 v5 (f_many v1.toInt.toNat) (f_many v3.toInt.toNat) (f_width v1.toInt.toNat) (f_width v3.toInt.toNat)) from (by rw [show f_many v1.toInt.toNat = t_14 from et_14, show f_many v3.toInt.toNat = t_16 from et_16, show f_width v1.toInt.toNat = t_18 from et_18, show f_width v3.toInt.toNat = t_19 from et_19]; unfold S_pasteM; (repeat' split) <;> first | rfl | (exfalso; omega))) (hP.sub [0, 1, 2, 3, 4] rfl) (hD.sub [0, 1, 2, 3, 4] (by decide) rfl) hS
                · have c_23 : 0 ≤ v5.toInt := ci_lt_f c_23
                  have b_v5 := i32b v5
                  refine lv_iload_n hx hb dX12_paste_72 rfl (lv_at hl 2 rfl) ?_
                  obtain ⟨t_24, et_24⟩ : ∃ v9 : Int64, (v2 : Int32).toInt64 = v9 := ⟨_, rfl⟩
                  refine lv_i2l (v := t_24) hx hb dX12_paste_73 et_24 ?_
                  have ft_24 : t_24.toInt = v2.toInt := by rw [← et_24]; exact Int32.toInt_toInt64 _
                  refine lv_iload hx hb dX12_paste_74 (lv_at hl 5 rfl) ?_
                  obtain ⟨t_25, et_25⟩ : ∃ v9 : Int64, (v5 : Int32).toInt64 = v9 := ⟨_, rfl⟩
                  refine lv_i2l (v := t_25) hx hb dX12_paste_76 et_25 ?_
                  have ft_25 : t_25.toInt = v5.toInt := by rw [← et_25]; exact Int32.toInt_toInt64 _
                  obtain ⟨t_26, et_26⟩ : ∃ v9 : Int64, t_24 + t_25 = v9 := ⟨_, rfl⟩
                  refine z_ladd (v := t_26) hx hb dX12_paste_77 et_26 ?_
                  have ft_26 : t_26.toInt = t_24.toInt + t_25.toInt := addTL (a := t_24.toInt) (b := t_25.toInt) rfl rfl et_26 (by omega) (by omega)
                  refine lv_aload_n hx hb dX12_paste_78 rfl (lv_at hl 0 rfl) ?_
                  refine va_get (D := D) (ci := 12) (v := .ref h_many) (C := RX12) (T := TX12) (N := 48) hx hb hts inlX12 hown hK hP 0 rfl rfl 44 (by decide) (hts _ (inr7 _ (List.mem_of_getElem? (i := 14) rfl))) (fun _ h9 => h9) rfl dX12_paste_79 ?_
                  refine lv_iload_n hx hb dX12_paste_82 rfl (lv_at hl 1 rfl) ?_
                  obtain ⟨t_27, et_27⟩ : ∃ v9 : Int32, f_many (v1 : Int32).toNatClampNeg = v9 := ⟨_, rfl⟩
                  refine z_iald (v := t_27) hx hb hK hP 1 1 rfl rfl (vin_nat (by omega) (by omega)) et_27 dX12_paste_83 ?_
                  have dt_27 : t_27.toInt = t_14.toInt := by rw [← et_27, ← et_14]
                  have ft_27 : (-1) ≤ t_27.toInt ∧ t_27.toInt ≤ 60 := sgL (by assumption : sg sgMa f_many) 0 rfl (by omega) (by omega) (by omega) et_27
                  have b_t_27 := i32b t_27
                  obtain ⟨t_28, et_28⟩ : ∃ v9 : Int64, (t_27 : Int32).toInt64 = v9 := ⟨_, rfl⟩
                  refine lv_i2l (v := t_28) hx hb dX12_paste_84 et_28 ?_
                  have ft_28 : t_28.toInt = t_27.toInt := by rw [← et_28]; exact Int32.toInt_toInt64 _
                  obtain ⟨t_29, et_29⟩ : ∃ v9 : Int32, lg_cmp t_26 t_28 = v9 := ⟨_, rfl⟩
                  refine z_lcmp (v := t_29) hx hb dX12_paste_85 et_29 ?_
                  refine lv_if_gt (tgt := 107) hx hb dX12_paste_86 (by decide) (fun c_30 => ?_) (fun c_30 => ?_)
                  · have c_30 : t_28.toInt < t_26.toInt := cl_gt_t et_29 c_30
                    refine lv_bipush (v := (-7)) hx hb dX12_paste_107 (by decide) ?_
                    have hr9 : ((-7) : Int32).toInt = (-7) := by decide
                    exact ret _ _ _ _ _ (f_moving, f_numbers) dX12_paste_109 (show (((-7) : Int32) = S_pasteM v1 v2 v3 v4 v5 (f_many v1.toInt.toNat) (f_many v3.toInt.toNat) (f_width v1.toInt.toNat) (f_width v3.toInt.toNat)) from (by rw [show f_many v1.toInt.toNat = t_27 from et_27, show f_many v3.toInt.toNat = t_16 from et_16, show f_width v1.toInt.toNat = t_18 from et_18, show f_width v3.toInt.toNat = t_19 from et_19]; unfold S_pasteM; (repeat' split) <;> first | rfl | (exfalso; omega))) (hP.sub [0, 1, 2, 3, 4] rfl) (hD.sub [0, 1, 2, 3, 4] (by decide) rfl) hS
                  · have c_30 : t_26.toInt ≤ t_28.toInt := cl_gt_f et_29 c_30
                    refine lv_iload hx hb dX12_paste_89 (lv_at hl 4 rfl) ?_
                    obtain ⟨t_31, et_31⟩ : ∃ v9 : Int64, (v4 : Int32).toInt64 = v9 := ⟨_, rfl⟩
                    refine lv_i2l (v := t_31) hx hb dX12_paste_91 et_31 ?_
                    have ft_31 : t_31.toInt = v4.toInt := by rw [← et_31]; exact Int32.toInt_toInt64 _
                    refine lv_iload hx hb dX12_paste_92 (lv_at hl 5 rfl) ?_
                    obtain ⟨t_32, et_32⟩ : ∃ v9 : Int64, (v5 : Int32).toInt64 = v9 := ⟨_, rfl⟩
                    refine lv_i2l (v := t_32) hx hb dX12_paste_94 et_32 ?_
                    have ft_32 : t_32.toInt = v5.toInt := by rw [← et_32]; exact Int32.toInt_toInt64 _
                    obtain ⟨t_33, et_33⟩ : ∃ v9 : Int64, t_31 + t_32 = v9 := ⟨_, rfl⟩
                    refine z_ladd (v := t_33) hx hb dX12_paste_95 et_33 ?_
                    have ft_33 : t_33.toInt = t_31.toInt + t_32.toInt := addTL (a := t_31.toInt) (b := t_32.toInt) rfl rfl et_33 (by omega) (by omega)
                    refine lv_aload_n hx hb dX12_paste_96 rfl (lv_at hl 0 rfl) ?_
                    refine va_get (D := D) (ci := 12) (v := .ref h_many) (C := RX12) (T := TX12) (N := 48) hx hb hts inlX12 hown hK hP 0 rfl rfl 44 (by decide) (hts _ (inr7 _ (List.mem_of_getElem? (i := 14) rfl))) (fun _ h9 => h9) rfl dX12_paste_97 ?_
                    refine lv_iload_n hx hb dX12_paste_100 rfl (lv_at hl 3 rfl) ?_
                    obtain ⟨t_34, et_34⟩ : ∃ v9 : Int32, f_many (v3 : Int32).toNatClampNeg = v9 := ⟨_, rfl⟩
                    refine z_iald (v := t_34) hx hb hK hP 1 1 rfl rfl (vin_nat (by omega) (by omega)) et_34 dX12_paste_101 ?_
                    have dt_34 : t_34.toInt = t_16.toInt := by rw [← et_34, ← et_16]
                    have ft_34 : (-1) ≤ t_34.toInt ∧ t_34.toInt ≤ 60 := sgL (by assumption : sg sgMa f_many) 0 rfl (by omega) (by omega) (by omega) et_34
                    have b_t_34 := i32b t_34
                    obtain ⟨t_35, et_35⟩ : ∃ v9 : Int64, (t_34 : Int32).toInt64 = v9 := ⟨_, rfl⟩
                    refine lv_i2l (v := t_35) hx hb dX12_paste_102 et_35 ?_
                    have ft_35 : t_35.toInt = t_34.toInt := by rw [← et_35]; exact Int32.toInt_toInt64 _
                    obtain ⟨t_36, et_36⟩ : ∃ v9 : Int32, lg_cmp t_33 t_35 = v9 := ⟨_, rfl⟩
                    refine z_lcmp (v := t_36) hx hb dX12_paste_103 et_36 ?_
                    refine lv_if_le (tgt := 110) hx hb dX12_paste_104 (by decide) (fun c_37 => ?_) (fun c_37 => ?_)
                    · have c_37 : t_33.toInt ≤ t_35.toInt := cl_le_t et_36 c_37
                      have hpp : 0 ≤ v2.toInt ∧ v2.toInt ≤ 60 ∧ 0 ≤ v4.toInt ∧ v4.toInt ≤ 60 ∧ 0 ≤ v5.toInt ∧ v5.toInt ≤ 60 ∧ v2.toInt + v5.toInt ≤ 60 ∧ v4.toInt + v5.toInt ≤ 60 := by omega
                      have hS9 : S_pasteM v1 v2 v3 v4 v5 (f_many v1.toInt.toNat) (f_many v3.toInt.toNat) (f_width v1.toInt.toNat) (f_width v3.toInt.toNat) = 0 := (by rw [show f_many v1.toInt.toNat = t_27 from et_27, show f_many v3.toInt.toNat = t_34 from et_34, show f_width v1.toInt.toNat = t_18 from et_18, show f_width v3.toInt.toNat = t_19 from et_19]; unfold S_pasteM; (repeat' split) <;> first | rfl | (exfalso; omega))
                      refine lv_iconst (v := 0) hx hb dX12_paste_110 (by decide) ?_
                      refine lv_istore (lv' := [(6, .int 0), (0, .ref h0), (1, .int v1), (2, .int v2), (3, .int v3), (4, .int v4), (5, .int v5)]) hx hb dX12_paste_111 hl (by decide) rfl (fun ls hl => ?_)
                      exact b_X12_paste_l113 h0 v0_thrown h_world h_images h_hasImage h_tape v0_taped h_five v0_size v0_at v0_from v0_token v0_value v0_faultKind v0_faultPlace h_fresh h_spokenAt h_heardAt h_lastAt h_answerAt v0_lawA v0_lawB v0_lawC v0_drawX v0_isDrawn v0_lostMany h_heardNow h_seenAt v0_roundFrom v0_roundTo v0_goLast v0_goAnswer v0_goHeard h_fewest h_costNow h_costThen h_lawsOf h_heardBy v0_lawMany v0_askWorst h_placesOf h_sentIn v0_placeMany v0_parentFirst h_lostBy h_many h_width h_numbers h_moving f_many f_numbers f_width v1 v2 v3 v4 v5 (by first | assumption | (have := zI0; have := zI1; have := zIm; omega) | decide) (by first | assumption | (have := zI0; have := zI1; have := zIm; omega) | decide) (by first | assumption | (have := zI0; have := zI1; have := zIm; omega) | decide) (by first | assumption | (have := zI0; have := zI1; have := zIm; omega) | decide) (by first | assumption | (have := zI0; have := zI1; have := zIm; omega) | decide) (by first | assumption | (have := zI0; have := zI1; have := zIm; omega) | decide) (by first | assumption | (have := zI0; have := zI1; have := zIm; omega) | decide) (by first | assumption | (have := zI0; have := zI1; have := zIm; omega) | decide) (by first | assumption | (have := zI0; have := zI1; have := zIm; omega) | decide) (by first | assumption | (have := zI0; have := zI1; have := zIm; omega) | decide) (by first | assumption | (have := zI0; have := zI1; have := zIm; omega) | decide) (by first | assumption | (have := zI0; have := zI1; have := zIm; omega) | decide) (by first | assumption | (have := zI0; have := zI1; have := zIm; omega) | decide) (by first | assumption | (have := zI0; have := zI1; have := zIm; omega) | decide) (by first | assumption | (have := zI0; have := zI1; have := zIm; omega) | decide) (by first | assumption | (have := zI0; have := zI1; have := zIm; omega) | decide) (by first | assumption | (have := zI0; have := zI1; have := zIm; omega) | decide) (by first | assumption | (have := zI0; have := zI1; have := zIm; omega) | decide) (by first | assumption | (have := zI0; have := zI1; have := zIm; omega) | decide) (by first | assumption | (have := zI0; have := zI1; have := zIm; omega) | decide) (by first | assumption | (have := zI0; have := zI1; have := zIm; omega) | decide) (by first | assumption | (have := zI0; have := zI1; have := zIm; omega) | decide) (by first | assumption | (have := zI0; have := zI1; have := zIm; omega) | decide) (by first | assumption | (have := zI0; have := zI1; have := zIm; omega) | decide) (by first | assumption | (have := zI0; have := zI1; have := zIm; omega) | decide) (by first | assumption | (have := zI0; have := zI1; have := zIm; omega) | decide) (by first | assumption | (have := zI0; have := zI1; have := zIm; omega) | decide) (by first | assumption | (have := zI0; have := zI1; have := zIm; omega) | decide) C hG hAB hA ret _ (f_moving) (0) _ _ _ (by first | assumption | (have := zI0; have := zI1; have := zIm; omega) | decide) (Nat.lt_succ_self _) (hP.sub [0, 1, 2, 3, 4] rfl) (hD.sub [0, 1, 2, 3, 4] (by decide) rfl) hS (lv_sub hl [0, 1, 2, 3, 4, 5, 6] rfl)
                    · have c_37 : t_35.toInt < t_33.toInt := cl_le_f et_36 c_37
                      refine lv_bipush (v := (-7)) hx hb dX12_paste_107 (by decide) ?_
                      have hr9 : ((-7) : Int32).toInt = (-7) := by decide
                      exact ret _ _ _ _ _ (f_moving, f_numbers) dX12_paste_109 (show (((-7) : Int32) = S_pasteM v1 v2 v3 v4 v5 (f_many v1.toInt.toNat) (f_many v3.toInt.toNat) (f_width v1.toInt.toNat) (f_width v3.toInt.toNat)) from (by rw [show f_many v1.toInt.toNat = t_27 from et_27, show f_many v3.toInt.toNat = t_34 from et_34, show f_width v1.toInt.toNat = t_18 from et_18, show f_width v3.toInt.toNat = t_19 from et_19]; unfold S_pasteM; (repeat' split) <;> first | rfl | (exfalso; omega))) (hP.sub [0, 1, 2, 3, 4] rfl) (hD.sub [0, 1, 2, 3, 4] (by decide) rfl) hS
          · have c_20 : ¬ t_18.toInt = t_19.toInt := ci_eq_f c_20
            have b_t_18 := i32b t_18
            have b_t_19 := i32b t_19
            refine lv_bipush (v := (-8)) hx hb dX12_paste_55 (by decide) ?_
            have hr9 : ((-8) : Int32).toInt = (-8) := by decide
            exact ret _ _ _ _ _ (f_moving, f_numbers) dX12_paste_57 (show (((-8) : Int32) = S_pasteM v1 v2 v3 v4 v5 (f_many v1.toInt.toNat) (f_many v3.toInt.toNat) (f_width v1.toInt.toNat) (f_width v3.toInt.toNat)) from (by rw [show f_many v1.toInt.toNat = t_14 from et_14, show f_many v3.toInt.toNat = t_16 from et_16, show f_width v1.toInt.toNat = t_18 from et_18, show f_width v3.toInt.toNat = t_19 from et_19]; unfold S_pasteM; (repeat' split) <;> first | rfl | (exfalso; omega))) (hP.sub [0, 1, 2, 3, 4] rfl) (hD.sub [0, 1, 2, 3, 4] (by decide) rfl) hS
        · have c_17 : t_16.toInt = (-1) := ci_ne_f c_17
          have b_t_16 := i32b t_16
          refine lv_bipush (v := (-6)) hx hb dX12_paste_37 (by decide) ?_
          have hr9 : ((-6) : Int32).toInt = (-6) := by decide
          exact ret _ _ _ _ _ (f_moving, f_numbers) dX12_paste_39 (show (((-6) : Int32) = S_pasteM v1 v2 v3 v4 v5 (f_many v1.toInt.toNat) (f_many v3.toInt.toNat) (f_width v1.toInt.toNat) (f_width v3.toInt.toNat)) from (by rw [show f_many v1.toInt.toNat = t_14 from et_14, show f_many v3.toInt.toNat = t_16 from et_16]; unfold S_pasteM; (repeat' split) <;> first | rfl | (exfalso; omega))) (hP.sub [0, 1, 2, 3, 4] rfl) (hD.sub [0, 1, 2, 3, 4] (by decide) rfl) hS
    · have c_12 : r_8.toInt = 0 := ci_ne_f c_12
      have b_r_8 := i32b r_8
      have d_38 : (v3.toInt < 0 ∨ 3 < v3.toInt) := by omega
      clear i_10
      refine lv_bipush (v := (-2)) hx hb dX12_paste_14 (by decide) ?_
      have hr9 : ((-2) : Int32).toInt = (-2) := by decide
      exact ret _ _ _ _ _ (f_moving, f_numbers) dX12_paste_16 (show (((-2) : Int32) = S_pasteM v1 v2 v3 v4 v5 (f_many v1.toInt.toNat) (f_many v3.toInt.toNat) (f_width v1.toInt.toNat) (f_width v3.toInt.toNat)) from (by unfold S_pasteM; rw [if_neg (by omega)])) (hP.sub [0, 1, 2, 3, 4] rfl) (hD.sub [0, 1, 2, 3, 4] (by decide) rfl) hS
