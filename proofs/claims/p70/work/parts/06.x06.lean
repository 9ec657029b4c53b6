theorem dX10_countMissingAhead_0 : decode cX10_countMissingAhead 0 = .ok (.aload_n 1, 1) := by decide +kernel
theorem dX10_countMissingAhead_1 : decode cX10_countMissingAhead 1 = .ok (.iload_n 2, 1) := by decide +kernel
theorem dX10_countMissingAhead_10 : decode cX10_countMissingAhead 10 = .ok (.istore 4, 2) := by decide +kernel
theorem dX10_countMissingAhead_100 : decode cX10_countMissingAhead 100 = .ok (.invokestatic 42, 3) := by decide +kernel
theorem dX10_countMissingAhead_103 : decode cX10_countMissingAhead 103 = .ok (.istore 10, 2) := by decide +kernel
theorem dX10_countMissingAhead_105 : decode cX10_countMissingAhead 105 = .ok (.aload_n 0, 1) := by decide +kernel
theorem dX10_countMissingAhead_106 : decode cX10_countMissingAhead 106 = .ok (.getfield 18, 3) := by decide +kernel
theorem dX10_countMissingAhead_109 : decode cX10_countMissingAhead 109 = .ok (.iload 4, 2) := by decide +kernel
theorem dX10_countMissingAhead_111 : decode cX10_countMissingAhead 111 = .ok (.iload_n 3, 1) := by decide +kernel
theorem dX10_countMissingAhead_112 : decode cX10_countMissingAhead 112 = .ok (.iload 6, 2) := by decide +kernel
theorem dX10_countMissingAhead_114 : decode cX10_countMissingAhead 114 = .ok (.iload 8, 2) := by decide +kernel
theorem dX10_countMissingAhead_116 : decode cX10_countMissingAhead 116 = .ok (.invokestatic 85, 3) := by decide +kernel
theorem dX10_countMissingAhead_119 : decode cX10_countMissingAhead 119 = .ok (.iadd, 1) := by decide +kernel
theorem dX10_countMissingAhead_12 : decode cX10_countMissingAhead 12 = .ok (.iload_n 2, 1) := by decide +kernel
theorem dX10_countMissingAhead_120 : decode cX10_countMissingAhead 120 = .ok (.iload 10, 2) := by decide +kernel
theorem dX10_countMissingAhead_122 : decode cX10_countMissingAhead 122 = .ok (.iastore, 1) := by decide +kernel
theorem dX10_countMissingAhead_123 : decode cX10_countMissingAhead 123 = .ok (.iinc 8 1, 3) := by decide +kernel
theorem dX10_countMissingAhead_126 : decode cX10_countMissingAhead 126 = .ok (.goto (-71), 3) := by decide +kernel
theorem dX10_countMissingAhead_129 : decode cX10_countMissingAhead 129 = .ok (.iinc 6 1, 3) := by decide +kernel
theorem dX10_countMissingAhead_13 : decode cX10_countMissingAhead 13 = .ok (.iconst 1, 1) := by decide +kernel
theorem dX10_countMissingAhead_132 : decode cX10_countMissingAhead 132 = .ok (.goto (-109), 3) := by decide +kernel
theorem dX10_countMissingAhead_135 : decode cX10_countMissingAhead 135 = .ok (.return_, 1) := by decide +kernel
theorem dX10_countMissingAhead_14 : decode cX10_countMissingAhead 14 = .ok (.iadd, 1) := by decide +kernel
theorem dX10_countMissingAhead_15 : decode cX10_countMissingAhead 15 = .ok (.invokestatic 92, 3) := by decide +kernel
theorem dX10_countMissingAhead_18 : decode cX10_countMissingAhead 18 = .ok (.istore 5, 2) := by decide +kernel
theorem dX10_countMissingAhead_2 : decode cX10_countMissingAhead 2 = .ok (.invokevirtual 47, 3) := by decide +kernel
theorem dX10_countMissingAhead_20 : decode cX10_countMissingAhead 20 = .ok (.iconst 0, 1) := by decide +kernel
theorem dX10_countMissingAhead_21 : decode cX10_countMissingAhead 21 = .ok (.istore 6, 2) := by decide +kernel
theorem dX10_countMissingAhead_23 : decode cX10_countMissingAhead 23 = .ok (.iload 6, 2) := by decide +kernel
theorem dX10_countMissingAhead_25 : decode cX10_countMissingAhead 25 = .ok (.aload_n 1, 1) := by decide +kernel
theorem dX10_countMissingAhead_26 : decode cX10_countMissingAhead 26 = .ok (.invokevirtual 31, 3) := by decide +kernel
theorem dX10_countMissingAhead_29 : decode cX10_countMissingAhead 29 = .ok (.if_icmp .ge 106, 3) := by decide +kernel
theorem dX10_countMissingAhead_32 : decode cX10_countMissingAhead 32 = .ok (.aload_n 0, 1) := by decide +kernel
theorem dX10_countMissingAhead_33 : decode cX10_countMissingAhead 33 = .ok (.getfield 18, 3) := by decide +kernel
theorem dX10_countMissingAhead_36 : decode cX10_countMissingAhead 36 = .ok (.iload 5, 2) := by decide +kernel
theorem dX10_countMissingAhead_38 : decode cX10_countMissingAhead 38 = .ok (.aload_n 1, 1) := by decide +kernel
theorem dX10_countMissingAhead_39 : decode cX10_countMissingAhead 39 = .ok (.invokevirtual 31, 3) := by decide +kernel
theorem dX10_countMissingAhead_42 : decode cX10_countMissingAhead 42 = .ok (.iload_n 3, 1) := by decide +kernel
theorem dX10_countMissingAhead_43 : decode cX10_countMissingAhead 43 = .ok (.iload 6, 2) := by decide +kernel
theorem dX10_countMissingAhead_45 : decode cX10_countMissingAhead 45 = .ok (.invokestatic 81, 3) := by decide +kernel
theorem dX10_countMissingAhead_48 : decode cX10_countMissingAhead 48 = .ok (.iconst 1, 1) := by decide +kernel
theorem dX10_countMissingAhead_49 : decode cX10_countMissingAhead 49 = .ok (.iadd, 1) := by decide +kernel
theorem dX10_countMissingAhead_5 : decode cX10_countMissingAhead 5 = .ok (.istore_n 3, 1) := by decide +kernel
theorem dX10_countMissingAhead_50 : decode cX10_countMissingAhead 50 = .ok (.istore 7, 2) := by decide +kernel
theorem dX10_countMissingAhead_52 : decode cX10_countMissingAhead 52 = .ok (.iconst 0, 1) := by decide +kernel
theorem dX10_countMissingAhead_53 : decode cX10_countMissingAhead 53 = .ok (.istore 8, 2) := by decide +kernel
theorem dX10_countMissingAhead_55 : decode cX10_countMissingAhead 55 = .ok (.iload 8, 2) := by decide +kernel
theorem dX10_countMissingAhead_57 : decode cX10_countMissingAhead 57 = .ok (.aload_n 1, 1) := by decide +kernel
theorem dX10_countMissingAhead_58 : decode cX10_countMissingAhead 58 = .ok (.invokevirtual 31, 3) := by decide +kernel
theorem dX10_countMissingAhead_6 : decode cX10_countMissingAhead 6 = .ok (.iload_n 2, 1) := by decide +kernel
theorem dX10_countMissingAhead_61 : decode cX10_countMissingAhead 61 = .ok (.if_icmp .ge 68, 3) := by decide +kernel
theorem dX10_countMissingAhead_64 : decode cX10_countMissingAhead 64 = .ok (.aload_n 0, 1) := by decide +kernel
theorem dX10_countMissingAhead_65 : decode cX10_countMissingAhead 65 = .ok (.getfield 18, 3) := by decide +kernel
theorem dX10_countMissingAhead_68 : decode cX10_countMissingAhead 68 = .ok (.iload 5, 2) := by decide +kernel
theorem dX10_countMissingAhead_7 : decode cX10_countMissingAhead 7 = .ok (.invokestatic 92, 3) := by decide +kernel
theorem dX10_countMissingAhead_70 : decode cX10_countMissingAhead 70 = .ok (.iload_n 3, 1) := by decide +kernel
theorem dX10_countMissingAhead_71 : decode cX10_countMissingAhead 71 = .ok (.iload 6, 2) := by decide +kernel
theorem dX10_countMissingAhead_73 : decode cX10_countMissingAhead 73 = .ok (.aload_n 1, 1) := by decide +kernel
theorem dX10_countMissingAhead_74 : decode cX10_countMissingAhead 74 = .ok (.iload_n 2, 1) := by decide +kernel
theorem dX10_countMissingAhead_75 : decode cX10_countMissingAhead 75 = .ok (.iload_n 3, 1) := by decide +kernel
theorem dX10_countMissingAhead_76 : decode cX10_countMissingAhead 76 = .ok (.iload 6, 2) := by decide +kernel
theorem dX10_countMissingAhead_78 : decode cX10_countMissingAhead 78 = .ok (.iload 8, 2) := by decide +kernel
theorem dX10_countMissingAhead_80 : decode cX10_countMissingAhead 80 = .ok (.invokestatic 89, 3) := by decide +kernel
theorem dX10_countMissingAhead_83 : decode cX10_countMissingAhead 83 = .ok (.invokestatic 85, 3) := by decide +kernel
theorem dX10_countMissingAhead_86 : decode cX10_countMissingAhead 86 = .ok (.iadd, 1) := by decide +kernel
theorem dX10_countMissingAhead_87 : decode cX10_countMissingAhead 87 = .ok (.iaload, 1) := by decide +kernel
theorem dX10_countMissingAhead_88 : decode cX10_countMissingAhead 88 = .ok (.istore 9, 2) := by decide +kernel
theorem dX10_countMissingAhead_90 : decode cX10_countMissingAhead 90 = .ok (.iload 9, 2) := by decide +kernel
theorem dX10_countMissingAhead_92 : decode cX10_countMissingAhead 92 = .ok (.iload 7, 2) := by decide +kernel
theorem dX10_countMissingAhead_94 : decode cX10_countMissingAhead 94 = .ok (.invokestatic 42, 3) := by decide +kernel
theorem dX10_countMissingAhead_97 : decode cX10_countMissingAhead 97 = .ok (.sipush 1000, 3) := by decide +kernel
theorem dX10_countMissing_0 : decode cX10_countMissing 0 = .ok (.aload_n 0, 1) := by decide +kernel
theorem dX10_countMissing_1 : decode cX10_countMissing 1 = .ok (.getfield 18, 3) := by decide +kernel
theorem dX10_countMissing_10 : decode cX10_countMissing 10 = .ok (.iconst 0, 1) := by decide +kernel
theorem dX10_countMissing_100 : decode cX10_countMissing 100 = .ok (.iload 4, 2) := by decide +kernel
theorem dX10_countMissing_102 : decode cX10_countMissing 102 = .ok (.ifCond .lt 16, 3) := by decide +kernel
theorem dX10_countMissing_105 : decode cX10_countMissing 105 = .ok (.aload_n 0, 1) := by decide +kernel
theorem dX10_countMissing_106 : decode cX10_countMissing 106 = .ok (.aload_n 1, 1) := by decide +kernel
theorem dX10_countMissing_107 : decode cX10_countMissing 107 = .ok (.iload 4, 2) := by decide +kernel
theorem dX10_countMissing_109 : decode cX10_countMissing 109 = .ok (.invokevirtual 95, 3) := by decide +kernel
theorem dX10_countMissing_11 : decode cX10_countMissing 11 = .ok (.istore 4, 2) := by decide +kernel
theorem dX10_countMissing_112 : decode cX10_countMissing 112 = .ok (.iinc 4 (-1), 3) := by decide +kernel
theorem dX10_countMissing_115 : decode cX10_countMissing 115 = .ok (.goto (-15), 3) := by decide +kernel
theorem dX10_countMissing_118 : decode cX10_countMissing 118 = .ok (.return_, 1) := by decide +kernel
theorem dX10_countMissing_13 : decode cX10_countMissing 13 = .ok (.iload 4, 2) := by decide +kernel
theorem dX10_countMissing_15 : decode cX10_countMissing 15 = .ok (.aload_n 1, 1) := by decide +kernel
theorem dX10_countMissing_16 : decode cX10_countMissing 16 = .ok (.invokevirtual 31, 3) := by decide +kernel
theorem dX10_countMissing_19 : decode cX10_countMissing 19 = .ok (.if_icmp .ge 76, 3) := by decide +kernel
theorem dX10_countMissing_22 : decode cX10_countMissing 22 = .ok (.iconst 0, 1) := by decide +kernel
theorem dX10_countMissing_23 : decode cX10_countMissing 23 = .ok (.istore 5, 2) := by decide +kernel
theorem dX10_countMissing_25 : decode cX10_countMissing 25 = .ok (.iload 5, 2) := by decide +kernel
theorem dX10_countMissing_27 : decode cX10_countMissing 27 = .ok (.aload_n 1, 1) := by decide +kernel
theorem dX10_countMissing_28 : decode cX10_countMissing 28 = .ok (.invokevirtual 31, 3) := by decide +kernel
theorem dX10_countMissing_31 : decode cX10_countMissing 31 = .ok (.if_icmp .ge 58, 3) := by decide +kernel
theorem dX10_countMissing_34 : decode cX10_countMissing 34 = .ok (.aload_n 1, 1) := by decide +kernel
theorem dX10_countMissing_35 : decode cX10_countMissing 35 = .ok (.iload_n 2, 1) := by decide +kernel
theorem dX10_countMissing_36 : decode cX10_countMissing 36 = .ok (.iload 4, 2) := by decide +kernel
theorem dX10_countMissing_38 : decode cX10_countMissing 38 = .ok (.iload 5, 2) := by decide +kernel
theorem dX10_countMissing_4 : decode cX10_countMissing 4 = .ok (.sipush 1000, 3) := by decide +kernel
theorem dX10_countMissing_40 : decode cX10_countMissing 40 = .ok (.invokevirtual 34, 3) := by decide +kernel
theorem dX10_countMissing_43 : decode cX10_countMissing 43 = .ok (.iload_n 3, 1) := by decide +kernel
theorem dX10_countMissing_44 : decode cX10_countMissing 44 = .ok (.if_icmp .ne 7, 3) := by decide +kernel
theorem dX10_countMissing_47 : decode cX10_countMissing 47 = .ok (.iconst 1, 1) := by decide +kernel
theorem dX10_countMissing_48 : decode cX10_countMissing 48 = .ok (.goto 4, 3) := by decide +kernel
theorem dX10_countMissing_51 : decode cX10_countMissing 51 = .ok (.iconst 0, 1) := by decide +kernel
theorem dX10_countMissing_52 : decode cX10_countMissing 52 = .ok (.istore 6, 2) := by decide +kernel
theorem dX10_countMissing_54 : decode cX10_countMissing 54 = .ok (.aload_n 0, 1) := by decide +kernel
theorem dX10_countMissing_55 : decode cX10_countMissing 55 = .ok (.getfield 18, 3) := by decide +kernel
theorem dX10_countMissing_58 : decode cX10_countMissing 58 = .ok (.iload_n 2, 1) := by decide +kernel
theorem dX10_countMissing_59 : decode cX10_countMissing 59 = .ok (.invokestatic 92, 3) := by decide +kernel
theorem dX10_countMissing_62 : decode cX10_countMissing 62 = .ok (.iload 4, 2) := by decide +kernel
theorem dX10_countMissing_64 : decode cX10_countMissing 64 = .ok (.iload 5, 2) := by decide +kernel
theorem dX10_countMissing_66 : decode cX10_countMissing 66 = .ok (.invokestatic 38, 3) := by decide +kernel
theorem dX10_countMissing_69 : decode cX10_countMissing 69 = .ok (.iadd, 1) := by decide +kernel
theorem dX10_countMissing_7 : decode cX10_countMissing 7 = .ok (.invokestatic 75, 3) := by decide +kernel
theorem dX10_countMissing_70 : decode cX10_countMissing 70 = .ok (.iload 6, 2) := by decide +kernel
theorem dX10_countMissing_72 : decode cX10_countMissing 72 = .ok (.ifCond .eq 7, 3) := by decide +kernel
theorem dX10_countMissing_75 : decode cX10_countMissing 75 = .ok (.iconst 0, 1) := by decide +kernel
theorem dX10_countMissing_76 : decode cX10_countMissing 76 = .ok (.goto 6, 3) := by decide +kernel
theorem dX10_countMissing_79 : decode cX10_countMissing 79 = .ok (.sipush 1000, 3) := by decide +kernel
theorem dX10_countMissing_82 : decode cX10_countMissing 82 = .ok (.iastore, 1) := by decide +kernel
theorem dX10_countMissing_83 : decode cX10_countMissing 83 = .ok (.iinc 5 1, 3) := by decide +kernel
theorem dX10_countMissing_86 : decode cX10_countMissing 86 = .ok (.goto (-61), 3) := by decide +kernel
theorem dX10_countMissing_89 : decode cX10_countMissing 89 = .ok (.iinc 4 1, 3) := by decide +kernel
theorem dX10_countMissing_92 : decode cX10_countMissing 92 = .ok (.goto (-79), 3) := by decide +kernel
theorem dX10_countMissing_95 : decode cX10_countMissing 95 = .ok (.iload_n 2, 1) := by decide +kernel
theorem dX10_countMissing_96 : decode cX10_countMissing 96 = .ok (.iconst 1, 1) := by decide +kernel
theorem dX10_countMissing_97 : decode cX10_countMissing 97 = .ok (.isub, 1) := by decide +kernel
theorem dX10_countMissing_98 : decode cX10_countMissing 98 = .ok (.istore 4, 2) := by decide +kernel
theorem dX10_firstWord_0 : decode cX10_firstWord 0 = .ok (.aload_n 1, 1) := by decide +kernel
theorem dX10_firstWord_1 : decode cX10_firstWord 1 = .ok (.iload_n 2, 1) := by decide +kernel
theorem dX10_firstWord_100 : decode cX10_firstWord 100 = .ok (.invokestatic 85, 3) := by decide +kernel
theorem dX10_firstWord_103 : decode cX10_firstWord 103 = .ok (.iadd, 1) := by decide +kernel
theorem dX10_firstWord_104 : decode cX10_firstWord 104 = .ok (.iaload, 1) := by decide +kernel
theorem dX10_firstWord_105 : decode cX10_firstWord 105 = .ok (.iconst 1, 1) := by decide +kernel
theorem dX10_firstWord_106 : decode cX10_firstWord 106 = .ok (.iadd, 1) := by decide +kernel
theorem dX10_firstWord_107 : decode cX10_firstWord 107 = .ok (.iload 7, 2) := by decide +kernel
theorem dX10_firstWord_109 : decode cX10_firstWord 109 = .ok (.if_icmp .ne 6, 3) := by decide +kernel
theorem dX10_firstWord_112 : decode cX10_firstWord 112 = .ok (.iload 9, 2) := by decide +kernel
theorem dX10_firstWord_114 : decode cX10_firstWord 114 = .ok (.ireturn, 1) := by decide +kernel
theorem dX10_firstWord_115 : decode cX10_firstWord 115 = .ok (.iinc 9 1, 3) := by decide +kernel
theorem dX10_firstWord_118 : decode cX10_firstWord 118 = .ok (.goto (-39), 3) := by decide +kernel
theorem dX10_firstWord_12 : decode cX10_firstWord 12 = .ok (.iload_n 3, 1) := by decide +kernel
theorem dX10_firstWord_121 : decode cX10_firstWord 121 = .ok (.iconst (-1), 1) := by decide +kernel
theorem dX10_firstWord_122 : decode cX10_firstWord 122 = .ok (.ireturn, 1) := by decide +kernel
theorem dX10_firstWord_13 : decode cX10_firstWord 13 = .ok (.goto 5, 3) := by decide +kernel
theorem dX10_firstWord_16 : decode cX10_firstWord 16 = .ok (.iload 4, 2) := by decide +kernel
theorem dX10_firstWord_18 : decode cX10_firstWord 18 = .ok (.istore 6, 2) := by decide +kernel
theorem dX10_firstWord_2 : decode cX10_firstWord 2 = .ok (.invokevirtual 47, 3) := by decide +kernel
theorem dX10_firstWord_20 : decode cX10_firstWord 20 = .ok (.aload_n 0, 1) := by decide +kernel
theorem dX10_firstWord_21 : decode cX10_firstWord 21 = .ok (.getfield 18, 3) := by decide +kernel
theorem dX10_firstWord_24 : decode cX10_firstWord 24 = .ok (.iload_n 2, 1) := by decide +kernel
theorem dX10_firstWord_25 : decode cX10_firstWord 25 = .ok (.invokestatic 92, 3) := by decide +kernel
theorem dX10_firstWord_28 : decode cX10_firstWord 28 = .ok (.iload_n 3, 1) := by decide +kernel
theorem dX10_firstWord_29 : decode cX10_firstWord 29 = .ok (.iload 4, 2) := by decide +kernel
theorem dX10_firstWord_31 : decode cX10_firstWord 31 = .ok (.invokestatic 38, 3) := by decide +kernel
theorem dX10_firstWord_34 : decode cX10_firstWord 34 = .ok (.iadd, 1) := by decide +kernel
theorem dX10_firstWord_35 : decode cX10_firstWord 35 = .ok (.iaload, 1) := by decide +kernel
theorem dX10_firstWord_36 : decode cX10_firstWord 36 = .ok (.istore 7, 2) := by decide +kernel
theorem dX10_firstWord_38 : decode cX10_firstWord 38 = .ok (.iload_n 2, 1) := by decide +kernel
theorem dX10_firstWord_39 : decode cX10_firstWord 39 = .ok (.iconst 1, 1) := by decide +kernel
theorem dX10_firstWord_40 : decode cX10_firstWord 40 = .ok (.iadd, 1) := by decide +kernel
theorem dX10_firstWord_41 : decode cX10_firstWord 41 = .ok (.invokestatic 92, 3) := by decide +kernel
theorem dX10_firstWord_44 : decode cX10_firstWord 44 = .ok (.istore 8, 2) := by decide +kernel
theorem dX10_firstWord_46 : decode cX10_firstWord 46 = .ok (.aload_n 0, 1) := by decide +kernel
theorem dX10_firstWord_47 : decode cX10_firstWord 47 = .ok (.getfield 18, 3) := by decide +kernel
theorem dX10_firstWord_5 : decode cX10_firstWord 5 = .ok (.istore 5, 2) := by decide +kernel
theorem dX10_firstWord_50 : decode cX10_firstWord 50 = .ok (.iload 8, 2) := by decide +kernel
theorem dX10_firstWord_52 : decode cX10_firstWord 52 = .ok (.iload 5, 2) := by decide +kernel
theorem dX10_firstWord_54 : decode cX10_firstWord 54 = .ok (.iload 6, 2) := by decide +kernel
theorem dX10_firstWord_56 : decode cX10_firstWord 56 = .ok (.aload_n 1, 1) := by decide +kernel
theorem dX10_firstWord_57 : decode cX10_firstWord 57 = .ok (.iload_n 2, 1) := by decide +kernel
theorem dX10_firstWord_58 : decode cX10_firstWord 58 = .ok (.iload_n 3, 1) := by decide +kernel
theorem dX10_firstWord_59 : decode cX10_firstWord 59 = .ok (.iload 4, 2) := by decide +kernel
theorem dX10_firstWord_61 : decode cX10_firstWord 61 = .ok (.invokevirtual 34, 3) := by decide +kernel
theorem dX10_firstWord_64 : decode cX10_firstWord 64 = .ok (.invokestatic 85, 3) := by decide +kernel
theorem dX10_firstWord_67 : decode cX10_firstWord 67 = .ok (.iadd, 1) := by decide +kernel
theorem dX10_firstWord_68 : decode cX10_firstWord 68 = .ok (.iaload, 1) := by decide +kernel
theorem dX10_firstWord_69 : decode cX10_firstWord 69 = .ok (.iload 7, 2) := by decide +kernel
theorem dX10_firstWord_7 : decode cX10_firstWord 7 = .ok (.iload 5, 2) := by decide +kernel
theorem dX10_firstWord_71 : decode cX10_firstWord 71 = .ok (.if_icmp .ne 5, 3) := by decide +kernel
theorem dX10_firstWord_74 : decode cX10_firstWord 74 = .ok (.iconst (-1), 1) := by decide +kernel
theorem dX10_firstWord_75 : decode cX10_firstWord 75 = .ok (.ireturn, 1) := by decide +kernel
theorem dX10_firstWord_76 : decode cX10_firstWord 76 = .ok (.iconst 0, 1) := by decide +kernel
theorem dX10_firstWord_77 : decode cX10_firstWord 77 = .ok (.istore 9, 2) := by decide +kernel
theorem dX10_firstWord_79 : decode cX10_firstWord 79 = .ok (.iload 9, 2) := by decide +kernel
theorem dX10_firstWord_81 : decode cX10_firstWord 81 = .ok (.aload_n 1, 1) := by decide +kernel
theorem dX10_firstWord_82 : decode cX10_firstWord 82 = .ok (.invokevirtual 31, 3) := by decide +kernel
theorem dX10_firstWord_85 : decode cX10_firstWord 85 = .ok (.if_icmp .ge 36, 3) := by decide +kernel
theorem dX10_firstWord_88 : decode cX10_firstWord 88 = .ok (.aload_n 0, 1) := by decide +kernel
theorem dX10_firstWord_89 : decode cX10_firstWord 89 = .ok (.getfield 18, 3) := by decide +kernel
theorem dX10_firstWord_9 : decode cX10_firstWord 9 = .ok (.ifCond .eq 7, 3) := by decide +kernel
theorem dX10_firstWord_92 : decode cX10_firstWord 92 = .ok (.iload 8, 2) := by decide +kernel
theorem dX10_firstWord_94 : decode cX10_firstWord 94 = .ok (.iload 5, 2) := by decide +kernel
theorem dX10_firstWord_96 : decode cX10_firstWord 96 = .ok (.iload 6, 2) := by decide +kernel
theorem dX10_firstWord_98 : decode cX10_firstWord 98 = .ok (.iload 9, 2) := by decide +kernel
theorem dX10_missingAt_0 : decode cX10_missingAt 0 = .ok (.iconst 0, 1) := by decide +kernel
theorem dX10_missingAt_1 : decode cX10_missingAt 1 = .ok (.iload_n 0, 1) := by decide +kernel
theorem dX10_missingAt_10 : decode cX10_missingAt 10 = .ok (.bipush 81, 2) := by decide +kernel
theorem dX10_missingAt_12 : decode cX10_missingAt 12 = .ok (.imul, 1) := by decide +kernel
theorem dX10_missingAt_13 : decode cX10_missingAt 13 = .ok (.ireturn, 1) := by decide +kernel
theorem dX10_missingAt_2 : decode cX10_missingAt 2 = .ok (.bipush 40, 2) := by decide +kernel
theorem dX10_missingAt_4 : decode cX10_missingAt 4 = .ok (.invokestatic 42, 3) := by decide +kernel
theorem dX10_missingAt_7 : decode cX10_missingAt 7 = .ok (.invokestatic 99, 3) := by decide +kernel
theorem dX10_spokenByPlan_0 : decode cX10_spokenByPlan 0 = .ok (.aload_n 1, 1) := by decide +kernel
theorem dX10_spokenByPlan_1 : decode cX10_spokenByPlan 1 = .ok (.invokevirtual 21, 3) := by decide +kernel
theorem dX10_spokenByPlan_10 : decode cX10_spokenByPlan 10 = .ok (.if_icmp .lt 5, 3) := by decide +kernel
theorem dX10_spokenByPlan_101 : decode cX10_spokenByPlan 101 = .ok (.invokevirtual 47, 3) := by decide +kernel
theorem dX10_spokenByPlan_104 : decode cX10_spokenByPlan 104 = .ok (.istore 10, 2) := by decide +kernel
theorem dX10_spokenByPlan_106 : decode cX10_spokenByPlan 106 = .ok (.iload 10, 2) := by decide +kernel
theorem dX10_spokenByPlan_108 : decode cX10_spokenByPlan 108 = .ok (.ifCond .eq 8, 3) := by decide +kernel
theorem dX10_spokenByPlan_111 : decode cX10_spokenByPlan 111 = .ok (.iload 5, 2) := by decide +kernel
theorem dX10_spokenByPlan_113 : decode cX10_spokenByPlan 113 = .ok (.goto 5, 3) := by decide +kernel
theorem dX10_spokenByPlan_116 : decode cX10_spokenByPlan 116 = .ok (.iload 9, 2) := by decide +kernel
theorem dX10_spokenByPlan_118 : decode cX10_spokenByPlan 118 = .ok (.istore 5, 2) := by decide +kernel
theorem dX10_spokenByPlan_120 : decode cX10_spokenByPlan 120 = .ok (.iload 10, 2) := by decide +kernel
theorem dX10_spokenByPlan_122 : decode cX10_spokenByPlan 122 = .ok (.ifCond .eq 8, 3) := by decide +kernel
theorem dX10_spokenByPlan_125 : decode cX10_spokenByPlan 125 = .ok (.iload 9, 2) := by decide +kernel
theorem dX10_spokenByPlan_127 : decode cX10_spokenByPlan 127 = .ok (.goto 5, 3) := by decide +kernel
theorem dX10_spokenByPlan_13 : decode cX10_spokenByPlan 13 = .ok (.iconst (-1), 1) := by decide +kernel
theorem dX10_spokenByPlan_130 : decode cX10_spokenByPlan 130 = .ok (.iload 6, 2) := by decide +kernel
theorem dX10_spokenByPlan_132 : decode cX10_spokenByPlan 132 = .ok (.istore 6, 2) := by decide +kernel
theorem dX10_spokenByPlan_134 : decode cX10_spokenByPlan 134 = .ok (.iinc 8 1, 3) := by decide +kernel
theorem dX10_spokenByPlan_137 : decode cX10_spokenByPlan 137 = .ok (.goto (-89), 3) := by decide +kernel
theorem dX10_spokenByPlan_14 : decode cX10_spokenByPlan 14 = .ok (.ireturn, 1) := by decide +kernel
theorem dX10_spokenByPlan_140 : decode cX10_spokenByPlan 140 = .ok (.iload 7, 2) := by decide +kernel
theorem dX10_spokenByPlan_142 : decode cX10_spokenByPlan 142 = .ok (.ireturn, 1) := by decide +kernel
theorem dX10_spokenByPlan_15 : decode cX10_spokenByPlan 15 = .ok (.aload_n 0, 1) := by decide +kernel
theorem dX10_spokenByPlan_16 : decode cX10_spokenByPlan 16 = .ok (.aload_n 1, 1) := by decide +kernel
theorem dX10_spokenByPlan_17 : decode cX10_spokenByPlan 17 = .ok (.iload_n 2, 1) := by decide +kernel
theorem dX10_spokenByPlan_18 : decode cX10_spokenByPlan 18 = .ok (.iload_n 3, 1) := by decide +kernel
theorem dX10_spokenByPlan_19 : decode cX10_spokenByPlan 19 = .ok (.invokevirtual 67, 3) := by decide +kernel
theorem dX10_spokenByPlan_22 : decode cX10_spokenByPlan 22 = .ok (.aload_n 0, 1) := by decide +kernel
theorem dX10_spokenByPlan_23 : decode cX10_spokenByPlan 23 = .ok (.getfield 18, 3) := by decide +kernel
theorem dX10_spokenByPlan_26 : decode cX10_spokenByPlan 26 = .ok (.iconst 0, 1) := by decide +kernel
theorem dX10_spokenByPlan_27 : decode cX10_spokenByPlan 27 = .ok (.iaload, 1) := by decide +kernel
theorem dX10_spokenByPlan_28 : decode cX10_spokenByPlan 28 = .ok (.sipush 1000, 3) := by decide +kernel
theorem dX10_spokenByPlan_31 : decode cX10_spokenByPlan 31 = .ok (.if_icmp .lt 5, 3) := by decide +kernel
theorem dX10_spokenByPlan_34 : decode cX10_spokenByPlan 34 = .ok (.iconst (-1), 1) := by decide +kernel
theorem dX10_spokenByPlan_35 : decode cX10_spokenByPlan 35 = .ok (.ireturn, 1) := by decide +kernel
theorem dX10_spokenByPlan_36 : decode cX10_spokenByPlan 36 = .ok (.iconst 0, 1) := by decide +kernel
theorem dX10_spokenByPlan_37 : decode cX10_spokenByPlan 37 = .ok (.istore 5, 2) := by decide +kernel
theorem dX10_spokenByPlan_39 : decode cX10_spokenByPlan 39 = .ok (.iconst 0, 1) := by decide +kernel
theorem dX10_spokenByPlan_4 : decode cX10_spokenByPlan 4 = .ok (.ifCond .eq 9, 3) := by decide +kernel
theorem dX10_spokenByPlan_40 : decode cX10_spokenByPlan 40 = .ok (.istore 6, 2) := by decide +kernel
theorem dX10_spokenByPlan_42 : decode cX10_spokenByPlan 42 = .ok (.iconst (-1), 1) := by decide +kernel
theorem dX10_spokenByPlan_43 : decode cX10_spokenByPlan 43 = .ok (.istore 7, 2) := by decide +kernel
theorem dX10_spokenByPlan_45 : decode cX10_spokenByPlan 45 = .ok (.iconst 0, 1) := by decide +kernel
theorem dX10_spokenByPlan_46 : decode cX10_spokenByPlan 46 = .ok (.istore 8, 2) := by decide +kernel
theorem dX10_spokenByPlan_48 : decode cX10_spokenByPlan 48 = .ok (.iload 8, 2) := by decide +kernel
theorem dX10_spokenByPlan_50 : decode cX10_spokenByPlan 50 = .ok (.iload 4, 2) := by decide +kernel
theorem dX10_spokenByPlan_52 : decode cX10_spokenByPlan 52 = .ok (.if_icmp .gt 88, 3) := by decide +kernel
theorem dX10_spokenByPlan_55 : decode cX10_spokenByPlan 55 = .ok (.iload 8, 2) := by decide +kernel
theorem dX10_spokenByPlan_57 : decode cX10_spokenByPlan 57 = .ok (.bipush 40, 2) := by decide +kernel
theorem dX10_spokenByPlan_59 : decode cX10_spokenByPlan 59 = .ok (.if_icmp .ge 81, 3) := by decide +kernel
theorem dX10_spokenByPlan_62 : decode cX10_spokenByPlan 62 = .ok (.aload_n 0, 1) := by decide +kernel
theorem dX10_spokenByPlan_63 : decode cX10_spokenByPlan 63 = .ok (.aload_n 1, 1) := by decide +kernel
theorem dX10_spokenByPlan_64 : decode cX10_spokenByPlan 64 = .ok (.iload 8, 2) := by decide +kernel
theorem dX10_spokenByPlan_66 : decode cX10_spokenByPlan 66 = .ok (.iload 5, 2) := by decide +kernel
theorem dX10_spokenByPlan_68 : decode cX10_spokenByPlan 68 = .ok (.iload 6, 2) := by decide +kernel
theorem dX10_spokenByPlan_7 : decode cX10_spokenByPlan 7 = .ok (.iload 4, 2) := by decide +kernel
theorem dX10_spokenByPlan_70 : decode cX10_spokenByPlan 70 = .ok (.invokevirtual 71, 3) := by decide +kernel
theorem dX10_spokenByPlan_73 : decode cX10_spokenByPlan 73 = .ok (.istore 7, 2) := by decide +kernel
theorem dX10_spokenByPlan_75 : decode cX10_spokenByPlan 75 = .ok (.iload 7, 2) := by decide +kernel
theorem dX10_spokenByPlan_77 : decode cX10_spokenByPlan 77 = .ok (.iconst (-1), 1) := by decide +kernel
theorem dX10_spokenByPlan_78 : decode cX10_spokenByPlan 78 = .ok (.if_icmp .ne 16, 3) := by decide +kernel
theorem dX10_spokenByPlan_81 : decode cX10_spokenByPlan 81 = .ok (.aload_n 1, 1) := by decide +kernel
theorem dX10_spokenByPlan_82 : decode cX10_spokenByPlan 82 = .ok (.iload 8, 2) := by decide +kernel
theorem dX10_spokenByPlan_84 : decode cX10_spokenByPlan 84 = .ok (.iload 5, 2) := by decide +kernel
theorem dX10_spokenByPlan_86 : decode cX10_spokenByPlan 86 = .ok (.iload 6, 2) := by decide +kernel
theorem dX10_spokenByPlan_88 : decode cX10_spokenByPlan 88 = .ok (.invokevirtual 34, 3) := by decide +kernel
theorem dX10_spokenByPlan_9 : decode cX10_spokenByPlan 9 = .ok (.iload_n 2, 1) := by decide +kernel
theorem dX10_spokenByPlan_91 : decode cX10_spokenByPlan 91 = .ok (.goto 5, 3) := by decide +kernel
theorem dX10_spokenByPlan_94 : decode cX10_spokenByPlan 94 = .ok (.iload 7, 2) := by decide +kernel
theorem dX10_spokenByPlan_96 : decode cX10_spokenByPlan 96 = .ok (.istore 9, 2) := by decide +kernel
theorem dX10_spokenByPlan_98 : decode cX10_spokenByPlan 98 = .ok (.aload_n 1, 1) := by decide +kernel
theorem dX10_spokenByPlan_99 : decode cX10_spokenByPlan 99 = .ok (.iload 8, 2) := by decide +kernel
theorem dX11_answer_0 : decode cX11_answer 0 = .ok (.aload_n 0, 1) := by decide +kernel
theorem dX11_answer_1 : decode cX11_answer 1 = .ok (.iload_n 1, 1) := by decide +kernel
theorem dX11_answer_10 : decode cX11_answer 10 = .ok (.goto 11, 3) := by decide +kernel
theorem dX11_answer_13 : decode cX11_answer 13 = .ok (.aload_n 0, 1) := by decide +kernel
theorem dX11_answer_14 : decode cX11_answer 14 = .ok (.invokevirtual 146, 3) := by decide +kernel
theorem dX11_answer_17 : decode cX11_answer 17 = .ok (.iload_n 1, 1) := by decide +kernel
theorem dX11_answer_18 : decode cX11_answer 18 = .ok (.invokevirtual 156, 3) := by decide +kernel
theorem dX11_answer_2 : decode cX11_answer 2 = .ok (.invokevirtual 142, 3) := by decide +kernel
theorem dX11_answer_21 : decode cX11_answer 21 = .ok (.ireturn, 1) := by decide +kernel
theorem dX11_answer_5 : decode cX11_answer 5 = .ok (.ifCond .eq 8, 3) := by decide +kernel
theorem dX11_answer_8 : decode cX11_answer 8 = .ok (.bipush (-2), 2) := by decide +kernel
theorem dX11_end_0 : decode cX11_end 0 = .ok (.iload_n 1, 1) := by decide +kernel
theorem dX11_end_1 : decode cX11_end 1 = .ok (.i2l, 1) := by decide +kernel
theorem dX11_end_10 : decode cX11_end 10 = .ok (.i2l, 1) := by decide +kernel
theorem dX11_end_11 : decode cX11_end 11 = .ok (.invokestatic 101, 3) := by decide +kernel
theorem dX11_end_14 : decode cX11_end 14 = .ok (.ifCond .eq 5, 3) := by decide +kernel
theorem dX11_end_17 : decode cX11_end 17 = .ok (.iconst (-1), 1) := by decide +kernel
theorem dX11_end_18 : decode cX11_end 18 = .ok (.ireturn, 1) := by decide +kernel
theorem dX11_end_19 : decode cX11_end 19 = .ok (.aload_n 0, 1) := by decide +kernel
theorem dX11_end_2 : decode cX11_end 2 = .ok (.lconst 0, 1) := by decide +kernel
theorem dX11_end_20 : decode cX11_end 20 = .ok (.getfield 12, 3) := by decide +kernel
theorem dX11_end_23 : decode cX11_end 23 = .ok (.iload_n 1, 1) := by decide +kernel
theorem dX11_end_24 : decode cX11_end 24 = .ok (.invokevirtual 105, 3) := by decide +kernel
theorem dX11_end_27 : decode cX11_end 27 = .ok (.iload_n 1, 1) := by decide +kernel
theorem dX11_end_28 : decode cX11_end 28 = .ok (.ireturn, 1) := by decide +kernel
theorem dX11_end_3 : decode cX11_end 3 = .ok (.aload_n 0, 1) := by decide +kernel
theorem dX11_end_4 : decode cX11_end 4 = .ok (.getfield 12, 3) := by decide +kernel
theorem dX11_end_7 : decode cX11_end 7 = .ok (.invokevirtual 93, 3) := by decide +kernel
theorem dX11_fault_0 : decode cX11_fault 0 = .ok (.iload_n 1, 1) := by decide +kernel
theorem dX11_fault_1 : decode cX11_fault 1 = .ok (.lookupswitch 43 #[(0, 27), (1, 35)], 27) := by decide +kernel
theorem dX11_fault_28 : decode cX11_fault 28 = .ok (.aload_n 0, 1) := by decide +kernel
theorem dX11_fault_29 : decode cX11_fault 29 = .ok (.getfield 19, 3) := by decide +kernel
theorem dX11_fault_32 : decode cX11_fault 32 = .ok (.invokevirtual 112, 3) := by decide +kernel
theorem dX11_fault_35 : decode cX11_fault 35 = .ok (.ireturn, 1) := by decide +kernel
theorem dX11_fault_36 : decode cX11_fault 36 = .ok (.aload_n 0, 1) := by decide +kernel
theorem dX11_fault_37 : decode cX11_fault 37 = .ok (.getfield 19, 3) := by decide +kernel
theorem dX11_fault_40 : decode cX11_fault 40 = .ok (.invokevirtual 126, 3) := by decide +kernel
theorem dX11_fault_43 : decode cX11_fault 43 = .ok (.ireturn, 1) := by decide +kernel
theorem dX11_fault_44 : decode cX11_fault 44 = .ok (.iconst (-1), 1) := by decide +kernel
theorem dX11_fault_45 : decode cX11_fault 45 = .ok (.ireturn, 1) := by decide +kernel
theorem dX11_feed_0 : decode cX11_feed 0 = .ok (.aload_n 0, 1) := by decide +kernel
theorem dX11_feed_1 : decode cX11_feed 1 = .ok (.getfield 12, 3) := by decide +kernel
theorem dX11_feed_10 : decode cX11_feed 10 = .ok (.sipush 500, 3) := by decide +kernel
theorem dX11_feed_13 : decode cX11_feed 13 = .ok (.if_icmp .le 5, 3) := by decide +kernel
theorem dX11_feed_16 : decode cX11_feed 16 = .ok (.iconst (-1), 1) := by decide +kernel
theorem dX11_feed_17 : decode cX11_feed 17 = .ok (.ireturn, 1) := by decide +kernel
theorem dX11_feed_18 : decode cX11_feed 18 = .ok (.aload_n 0, 1) := by decide +kernel
theorem dX11_feed_19 : decode cX11_feed 19 = .ok (.getfield 12, 3) := by decide +kernel
theorem dX11_feed_22 : decode cX11_feed 22 = .ok (.iload_n 1, 1) := by decide +kernel
theorem dX11_feed_23 : decode cX11_feed 23 = .ok (.invokevirtual 97, 3) := by decide +kernel
theorem dX11_feed_26 : decode cX11_feed 26 = .ok (.aload_n 0, 1) := by decide +kernel
theorem dX11_feed_27 : decode cX11_feed 27 = .ok (.getfield 12, 3) := by decide +kernel
theorem dX11_feed_30 : decode cX11_feed 30 = .ok (.iload_n 2, 1) := by decide +kernel
theorem dX11_feed_31 : decode cX11_feed 31 = .ok (.invokevirtual 97, 3) := by decide +kernel
theorem dX11_feed_34 : decode cX11_feed 34 = .ok (.aload_n 0, 1) := by decide +kernel
theorem dX11_feed_35 : decode cX11_feed 35 = .ok (.getfield 12, 3) := by decide +kernel
theorem dX11_feed_38 : decode cX11_feed 38 = .ok (.iload_n 3, 1) := by decide +kernel
theorem dX11_feed_39 : decode cX11_feed 39 = .ok (.invokevirtual 97, 3) := by decide +kernel
theorem dX11_feed_4 : decode cX11_feed 4 = .ok (.invokevirtual 93, 3) := by decide +kernel
theorem dX11_feed_42 : decode cX11_feed 42 = .ok (.aload_n 0, 1) := by decide +kernel
theorem dX11_feed_43 : decode cX11_feed 43 = .ok (.getfield 12, 3) := by decide +kernel
theorem dX11_feed_46 : decode cX11_feed 46 = .ok (.iload 4, 2) := by decide +kernel
theorem dX11_feed_48 : decode cX11_feed 48 = .ok (.invokevirtual 97, 3) := by decide +kernel
theorem dX11_feed_51 : decode cX11_feed 51 = .ok (.aload_n 0, 1) := by decide +kernel
theorem dX11_feed_52 : decode cX11_feed 52 = .ok (.getfield 12, 3) := by decide +kernel
theorem dX11_feed_55 : decode cX11_feed 55 = .ok (.iload 5, 2) := by decide +kernel
theorem dX11_feed_57 : decode cX11_feed 57 = .ok (.invokevirtual 97, 3) := by decide +kernel
theorem dX11_feed_60 : decode cX11_feed 60 = .ok (.aload_n 0, 1) := by decide +kernel
theorem dX11_feed_61 : decode cX11_feed 61 = .ok (.getfield 12, 3) := by decide +kernel
theorem dX11_feed_64 : decode cX11_feed 64 = .ok (.invokevirtual 93, 3) := by decide +kernel
theorem dX11_feed_67 : decode cX11_feed 67 = .ok (.ireturn, 1) := by decide +kernel
theorem dX11_feed_7 : decode cX11_feed 7 = .ok (.bipush 20, 2) := by decide +kernel
theorem dX11_feed_9 : decode cX11_feed 9 = .ok (.iadd, 1) := by decide +kernel
theorem dX11_gaps_0 : decode cX11_gaps 0 = .ok (.aload_n 0, 1) := by decide +kernel
theorem dX11_gaps_1 : decode cX11_gaps 1 = .ok (.iload_n 1, 1) := by decide +kernel
theorem dX11_gaps_10 : decode cX11_gaps 10 = .ok (.ireturn, 1) := by decide +kernel
theorem dX11_gaps_11 : decode cX11_gaps 11 = .ok (.iconst 0, 1) := by decide +kernel
theorem dX11_gaps_12 : decode cX11_gaps 12 = .ok (.istore_n 2, 1) := by decide +kernel
theorem dX11_gaps_13 : decode cX11_gaps 13 = .ok (.iconst 0, 1) := by decide +kernel
theorem dX11_gaps_14 : decode cX11_gaps 14 = .ok (.istore_n 3, 1) := by decide +kernel
theorem dX11_gaps_15 : decode cX11_gaps 15 = .ok (.iload_n 3, 1) := by decide +kernel
theorem dX11_gaps_16 : decode cX11_gaps 16 = .ok (.iload_n 1, 1) := by decide +kernel
theorem dX11_gaps_17 : decode cX11_gaps 17 = .ok (.if_icmp .gt 29, 3) := by decide +kernel
theorem dX11_gaps_2 : decode cX11_gaps 2 = .ok (.invokevirtual 142, 3) := by decide +kernel
theorem dX11_gaps_20 : decode cX11_gaps 20 = .ok (.iload_n 3, 1) := by decide +kernel
theorem dX11_gaps_21 : decode cX11_gaps 21 = .ok (.bipush 61, 2) := by decide +kernel
theorem dX11_gaps_23 : decode cX11_gaps 23 = .ok (.if_icmp .ge 23, 3) := by decide +kernel
theorem dX11_gaps_26 : decode cX11_gaps 26 = .ok (.aload_n 0, 1) := by decide +kernel
theorem dX11_gaps_27 : decode cX11_gaps 27 = .ok (.getfield 26, 3) := by decide +kernel
theorem dX11_gaps_30 : decode cX11_gaps 30 = .ok (.iload_n 3, 1) := by decide +kernel
theorem dX11_gaps_31 : decode cX11_gaps 31 = .ok (.invokevirtual 159, 3) := by decide +kernel
theorem dX11_gaps_34 : decode cX11_gaps 34 = .ok (.ifCond .eq 6, 3) := by decide +kernel
theorem dX11_gaps_37 : decode cX11_gaps 37 = .ok (.iinc 2 1, 3) := by decide +kernel
theorem dX11_gaps_40 : decode cX11_gaps 40 = .ok (.iinc 3 1, 3) := by decide +kernel
theorem dX11_gaps_43 : decode cX11_gaps 43 = .ok (.goto (-28), 3) := by decide +kernel
theorem dX11_gaps_46 : decode cX11_gaps 46 = .ok (.iload_n 2, 1) := by decide +kernel
theorem dX11_gaps_47 : decode cX11_gaps 47 = .ok (.ireturn, 1) := by decide +kernel
theorem dX11_gaps_5 : decode cX11_gaps 5 = .ok (.ifCond .eq 6, 3) := by decide +kernel
theorem dX11_gaps_8 : decode cX11_gaps 8 = .ok (.bipush (-2), 2) := by decide +kernel
theorem dX11_heard_0 : decode cX11_heard 0 = .ok (.aload_n 0, 1) := by decide +kernel
theorem dX11_heard_1 : decode cX11_heard 1 = .ok (.iload_n 1, 1) := by decide +kernel
theorem dX11_heard_10 : decode cX11_heard 10 = .ok (.goto 11, 3) := by decide +kernel
theorem dX11_heard_13 : decode cX11_heard 13 = .ok (.aload_n 0, 1) := by decide +kernel
theorem dX11_heard_14 : decode cX11_heard 14 = .ok (.invokevirtual 146, 3) := by decide +kernel
theorem dX11_heard_17 : decode cX11_heard 17 = .ok (.iload_n 1, 1) := by decide +kernel
theorem dX11_heard_18 : decode cX11_heard 18 = .ok (.invokevirtual 150, 3) := by decide +kernel
theorem dX11_heard_2 : decode cX11_heard 2 = .ok (.invokevirtual 142, 3) := by decide +kernel
theorem dX11_heard_21 : decode cX11_heard 21 = .ok (.ireturn, 1) := by decide +kernel
theorem dX11_heard_5 : decode cX11_heard 5 = .ok (.ifCond .eq 8, 3) := by decide +kernel
theorem dX11_heard_8 : decode cX11_heard 8 = .ok (.bipush (-2), 2) := by decide +kernel
theorem dX11_last_0 : decode cX11_last 0 = .ok (.aload_n 0, 1) := by decide +kernel
theorem dX11_last_1 : decode cX11_last 1 = .ok (.iload_n 1, 1) := by decide +kernel
theorem dX11_last_10 : decode cX11_last 10 = .ok (.goto 11, 3) := by decide +kernel
theorem dX11_last_13 : decode cX11_last 13 = .ok (.aload_n 0, 1) := by decide +kernel
theorem dX11_last_14 : decode cX11_last 14 = .ok (.invokevirtual 146, 3) := by decide +kernel
theorem dX11_last_17 : decode cX11_last 17 = .ok (.iload_n 1, 1) := by decide +kernel
theorem dX11_last_18 : decode cX11_last 18 = .ok (.invokevirtual 153, 3) := by decide +kernel
theorem dX11_last_2 : decode cX11_last 2 = .ok (.invokevirtual 142, 3) := by decide +kernel
theorem dX11_last_21 : decode cX11_last 21 = .ok (.ireturn, 1) := by decide +kernel
theorem dX11_last_5 : decode cX11_last 5 = .ok (.ifCond .eq 8, 3) := by decide +kernel
theorem dX11_last_8 : decode cX11_last 8 = .ok (.bipush (-2), 2) := by decide +kernel
theorem dX11_noStation_0 : decode cX11_noStation 0 = .ok (.aload_n 0, 1) := by decide +kernel
theorem dX11_noStation_1 : decode cX11_noStation 1 = .ok (.getfield 26, 3) := by decide +kernel
theorem dX11_noStation_10 : decode cX11_noStation 10 = .ok (.iconst 1, 1) := by decide +kernel
theorem dX11_noStation_11 : decode cX11_noStation 11 = .ok (.goto 4, 3) := by decide +kernel
theorem dX11_noStation_14 : decode cX11_noStation 14 = .ok (.iconst 0, 1) := by decide +kernel
theorem dX11_noStation_15 : decode cX11_noStation 15 = .ok (.ireturn, 1) := by decide +kernel
theorem dX11_noStation_4 : decode cX11_noStation 4 = .ok (.invokevirtual 123, 3) := by decide +kernel
theorem dX11_noStation_7 : decode cX11_noStation 7 = .ok (.ifCond .ne 7, 3) := by decide +kernel
theorem dX11_noStep_0 : decode cX11_noStep 0 = .ok (.aload_n 0, 1) := by decide +kernel
theorem dX11_noStep_1 : decode cX11_noStep 1 = .ok (.invokevirtual 165, 3) := by decide +kernel
theorem dX11_noStep_10 : decode cX11_noStep 10 = .ok (.ldc2_w 202, 3) := by decide +kernel
theorem dX11_noStep_13 : decode cX11_noStep 13 = .ok (.invokestatic 101, 3) := by decide +kernel
theorem dX11_noStep_16 : decode cX11_noStep 16 = .ok (.ifCond .eq 7, 3) := by decide +kernel
theorem dX11_noStep_19 : decode cX11_noStep 19 = .ok (.iconst 1, 1) := by decide +kernel
theorem dX11_noStep_20 : decode cX11_noStep 20 = .ok (.goto 4, 3) := by decide +kernel
theorem dX11_noStep_23 : decode cX11_noStep 23 = .ok (.iconst 0, 1) := by decide +kernel
theorem dX11_noStep_24 : decode cX11_noStep 24 = .ok (.ireturn, 1) := by decide +kernel
theorem dX11_noStep_4 : decode cX11_noStep 4 = .ok (.ifCond .ne 15, 3) := by decide +kernel
theorem dX11_noStep_7 : decode cX11_noStep 7 = .ok (.iload_n 1, 1) := by decide +kernel
theorem dX11_noStep_8 : decode cX11_noStep 8 = .ok (.i2l, 1) := by decide +kernel
theorem dX11_noStep_9 : decode cX11_noStep 9 = .ok (.lconst 0, 1) := by decide +kernel
theorem dX11_pips_0 : decode cX11_pips 0 = .ok (.aload_n 0, 1) := by decide +kernel
theorem dX11_pips_1 : decode cX11_pips 1 = .ok (.iload_n 1, 1) := by decide +kernel
theorem dX11_pips_10 : decode cX11_pips 10 = .ok (.goto 11, 3) := by decide +kernel
theorem dX11_pips_13 : decode cX11_pips 13 = .ok (.aload_n 0, 1) := by decide +kernel
theorem dX11_pips_14 : decode cX11_pips 14 = .ok (.invokevirtual 146, 3) := by decide +kernel
theorem dX11_pips_17 : decode cX11_pips 17 = .ok (.iload_n 1, 1) := by decide +kernel
theorem dX11_pips_18 : decode cX11_pips 18 = .ok (.invokevirtual 162, 3) := by decide +kernel
theorem dX11_pips_2 : decode cX11_pips 2 = .ok (.invokevirtual 142, 3) := by decide +kernel
theorem dX11_pips_21 : decode cX11_pips 21 = .ok (.ireturn, 1) := by decide +kernel
theorem dX11_pips_5 : decode cX11_pips 5 = .ok (.ifCond .eq 8, 3) := by decide +kernel
theorem dX11_pips_8 : decode cX11_pips 8 = .ok (.bipush (-2), 2) := by decide +kernel
theorem dX11_post_0 : decode cX11_post 0 = .ok (.iload_n 1, 1) := by decide +kernel
theorem dX11_post_1 : decode cX11_post 1 = .ok (.i2l, 1) := by decide +kernel
theorem dX11_post_10 : decode cX11_post 10 = .ok (.iconst 1, 1) := by decide +kernel
theorem dX11_post_11 : decode cX11_post 11 = .ok (.isub, 1) := by decide +kernel
theorem dX11_post_12 : decode cX11_post 12 = .ok (.i2l, 1) := by decide +kernel
theorem dX11_post_13 : decode cX11_post 13 = .ok (.invokestatic 101, 3) := by decide +kernel
theorem dX11_post_16 : decode cX11_post 16 = .ok (.ifCond .eq 8, 3) := by decide +kernel
theorem dX11_post_19 : decode cX11_post 19 = .ok (.bipush (-2), 2) := by decide +kernel
theorem dX11_post_2 : decode cX11_post 2 = .ok (.lconst 0, 1) := by decide +kernel
theorem dX11_post_21 : decode cX11_post 21 = .ok (.goto 11, 3) := by decide +kernel
theorem dX11_post_24 : decode cX11_post 24 = .ok (.aload_n 0, 1) := by decide +kernel
theorem dX11_post_25 : decode cX11_post 25 = .ok (.getfield 26, 3) := by decide +kernel
theorem dX11_post_28 : decode cX11_post 28 = .ok (.iload_n 1, 1) := by decide +kernel
theorem dX11_post_29 : decode cX11_post 29 = .ok (.invokevirtual 139, 3) := by decide +kernel
theorem dX11_post_3 : decode cX11_post 3 = .ok (.aload_n 0, 1) := by decide +kernel
theorem dX11_post_32 : decode cX11_post 32 = .ok (.ireturn, 1) := by decide +kernel
theorem dX11_post_4 : decode cX11_post 4 = .ok (.getfield 26, 3) := by decide +kernel
theorem dX11_post_7 : decode cX11_post 7 = .ok (.invokevirtual 136, 3) := by decide +kernel
theorem dX11_sign_0 : decode cX11_sign 0 = .ok (.iload_n 1, 1) := by decide +kernel
theorem dX11_sign_1 : decode cX11_sign 1 = .ok (.i2l, 1) := by decide +kernel
theorem dX11_sign_10 : decode cX11_sign 10 = .ok (.iconst 1, 1) := by decide +kernel
theorem dX11_sign_11 : decode cX11_sign 11 = .ok (.isub, 1) := by decide +kernel
theorem dX11_sign_12 : decode cX11_sign 12 = .ok (.i2l, 1) := by decide +kernel
theorem dX11_sign_13 : decode cX11_sign 13 = .ok (.invokestatic 101, 3) := by decide +kernel
theorem dX11_sign_16 : decode cX11_sign 16 = .ok (.ifCond .eq 8, 3) := by decide +kernel
theorem dX11_sign_19 : decode cX11_sign 19 = .ok (.bipush (-2), 2) := by decide +kernel
theorem dX11_sign_2 : decode cX11_sign 2 = .ok (.lconst 0, 1) := by decide +kernel
theorem dX11_sign_21 : decode cX11_sign 21 = .ok (.goto 11, 3) := by decide +kernel
theorem dX11_sign_24 : decode cX11_sign 24 = .ok (.aload_n 0, 1) := by decide +kernel
theorem dX11_sign_25 : decode cX11_sign 25 = .ok (.getfield 26, 3) := by decide +kernel
theorem dX11_sign_28 : decode cX11_sign 28 = .ok (.iload_n 1, 1) := by decide +kernel
theorem dX11_sign_29 : decode cX11_sign 29 = .ok (.invokevirtual 132, 3) := by decide +kernel
theorem dX11_sign_3 : decode cX11_sign 3 = .ok (.aload_n 0, 1) := by decide +kernel
theorem dX11_sign_32 : decode cX11_sign 32 = .ok (.ireturn, 1) := by decide +kernel
theorem dX11_sign_4 : decode cX11_sign 4 = .ok (.getfield 26, 3) := by decide +kernel
theorem dX11_sign_7 : decode cX11_sign 7 = .ok (.invokevirtual 129, 3) := by decide +kernel
theorem dX11_station_0 : decode cX11_station 0 = .ok (.aload_n 0, 1) := by decide +kernel
theorem dX11_station_1 : decode cX11_station 1 = .ok (.getfield 19, 3) := by decide +kernel
theorem dX11_station_11 : decode cX11_station 11 = .ok (.aload_n 0, 1) := by decide +kernel
theorem dX11_station_12 : decode cX11_station 12 = .ok (.getfield 19, 3) := by decide +kernel
theorem dX11_station_15 : decode cX11_station 15 = .ok (.invokevirtual 112, 3) := by decide +kernel
theorem dX11_station_18 : decode cX11_station 18 = .ok (.ifCond .eq 6, 3) := by decide +kernel
theorem dX11_station_21 : decode cX11_station 21 = .ok (.bipush (-4), 2) := by decide +kernel
theorem dX11_station_23 : decode cX11_station 23 = .ok (.ireturn, 1) := by decide +kernel
theorem dX11_station_24 : decode cX11_station 24 = .ok (.aload_n 0, 1) := by decide +kernel
theorem dX11_station_25 : decode cX11_station 25 = .ok (.getfield 26, 3) := by decide +kernel
theorem dX11_station_28 : decode cX11_station 28 = .ok (.aload_n 0, 1) := by decide +kernel
theorem dX11_station_29 : decode cX11_station 29 = .ok (.getfield 19, 3) := by decide +kernel
theorem dX11_station_32 : decode cX11_station 32 = .ok (.invokevirtual 115, 3) := by decide +kernel
theorem dX11_station_35 : decode cX11_station 35 = .ok (.invokevirtual 119, 3) := by decide +kernel
theorem dX11_station_38 : decode cX11_station 38 = .ok (.aload_n 0, 1) := by decide +kernel
theorem dX11_station_39 : decode cX11_station 39 = .ok (.getfield 12, 3) := by decide +kernel
theorem dX11_station_4 : decode cX11_station 4 = .ok (.aload_n 0, 1) := by decide +kernel
theorem dX11_station_42 : decode cX11_station 42 = .ok (.iconst 0, 1) := by decide +kernel
theorem dX11_station_43 : decode cX11_station 43 = .ok (.invokevirtual 105, 3) := by decide +kernel
theorem dX11_station_46 : decode cX11_station 46 = .ok (.aload_n 0, 1) := by decide +kernel
theorem dX11_station_47 : decode cX11_station 47 = .ok (.getfield 26, 3) := by decide +kernel
theorem dX11_station_5 : decode cX11_station 5 = .ok (.getfield 12, 3) := by decide +kernel
theorem dX11_station_50 : decode cX11_station 50 = .ok (.invokevirtual 123, 3) := by decide +kernel
theorem dX11_station_53 : decode cX11_station 53 = .ok (.ireturn, 1) := by decide +kernel
theorem dX11_station_8 : decode cX11_station 8 = .ok (.invokevirtual 108, 3) := by decide +kernel
theorem dX11_tonight_0 : decode cX11_tonight 0 = .ok (.aload_n 0, 1) := by decide +kernel
theorem dX11_tonight_1 : decode cX11_tonight 1 = .ok (.getfield 51, 3) := by decide +kernel
theorem dX11_tonight_10 : decode cX11_tonight 10 = .ok (.invokevirtual 239, 3) := by decide +kernel
theorem dX11_tonight_13 : decode cX11_tonight 13 = .ok (.aload_n 0, 1) := by decide +kernel
theorem dX11_tonight_14 : decode cX11_tonight 14 = .ok (.getfield 51, 3) := by decide +kernel
theorem dX11_tonight_17 : decode cX11_tonight 17 = .ok (.areturn, 1) := by decide +kernel
theorem dX11_tonight_4 : decode cX11_tonight 4 = .ok (.aload_n 0, 1) := by decide +kernel
theorem dX11_tonight_5 : decode cX11_tonight 5 = .ok (.getfield 26, 3) := by decide +kernel
theorem dX11_tonight_8 : decode cX11_tonight 8 = .ok (.bipush 60, 2) := by decide +kernel
set_option maxHeartbeats 4000000 in
set_option maxRecDepth 100000 in
theorem b_X10_missingAt (l : Launch) (G : Gho) (D : va_G) (cB cI cJ cZ cS cT : ClassId) (v0 : Int32)  : Met l yX10_missingAt (Cond.code yX10_missingAt cX10_missingAt 1 (some .int) :: wsL_law) ({ frames := 1, cells := 0, slots := 0, locals := 14 }) (roP G D (tyL cB cI cJ cZ cS cT) [] [.int v0]) (vp_Si (fun r : Int32 => (0 ≤ r.toInt ∧ r.toInt ≤ 3240))) 0 0 (fun _ => False) := by
  refine metRO (own := RX10) (by decide) rfl ?_
  intro p e s m below meth c Q C hP ret
  obtain ⟨hx, hb, hml, hown, hts, hK, hN, hT⟩ := id C
  have hl := lv_entry ([.int v0]) (n := 1) (Nat.le_of_ble_eq_true rfl)
  rw [lg_entry_eq]
  generalize (lg_sl ([.int v0]) ++ List.replicate (1 - (lg_sl ([.int v0])).length) Slot.unset).toArray = ls at hl ⊢
  have hl : lv_has ls 1 [(0, .int v0)] := hl
  have hP : va_P D vwCl [] s.heap := hP
  refine lv_iconst (v := 0) hx hb dX10_missingAt_0 (by decide) ?_
  refine lv_iload_n hx hb dX10_missingAt_1 rfl (lv_at hl 0 rfl) ?_
  refine lv_bipush (v := 40) hx hb dX10_missingAt_2 (by decide) ?_
  refine va_mmin hx hb (by rw [hml]; exact hl.1.symm) hown (hts _ (inr41 _ (List.mem_of_getElem? (i := 16) rfl))) (hts _ (inr18 _ (List.mem_of_getElem? (i := 11) rfl))) (hts _ (inr18 _ (List.mem_of_getElem? (i := 12) rfl))) (hts _ (inr18 _ (List.mem_of_getElem? (i := 13) rfl))) (Nat.le_of_ble_eq_true rfl) (Nat.le_of_ble_eq_true rfl) (Nat.le_of_ble_eq_true rfl) (Nat.le_of_ble_eq_true rfl) dX10_missingAt_4 ?_
  refine lv_topi (fun t_1 et_1 => ?_)
  have b_v0 := i32b v0
  have ft_1 : t_1.toInt ≤ v0.toInt ∧ t_1.toInt ≤ 40 ∧ (t_1.toInt = v0.toInt ∨ t_1.toInt = 40) := minT et_1
  refine va_mmax hx hb (by rw [hml]; exact hl.1.symm) hown (hts _ (inr49 _ (List.mem_of_getElem? (i := 7) rfl))) (hts _ (inr32 _ (List.mem_of_getElem? (i := 5) rfl))) (hts _ (inr18 _ (List.mem_of_getElem? (i := 12) rfl))) (hts _ (inr32 _ (List.mem_of_getElem? (i := 6) rfl))) (Nat.le_of_ble_eq_true rfl) (Nat.le_of_ble_eq_true rfl) (Nat.le_of_ble_eq_true rfl) (Nat.le_of_ble_eq_true rfl) dX10_missingAt_7 ?_
  refine lv_topi (fun t_2 et_2 => ?_)
  have b_t_1 := i32b t_1
  have ft_2 : 0 ≤ t_2.toInt ∧ t_1.toInt ≤ t_2.toInt ∧ (t_2.toInt = 0 ∨ t_2.toInt = t_1.toInt) := maxT et_2
  refine lv_bipush (v := 81) hx hb dX10_missingAt_10 (by decide) ?_
  obtain ⟨t_3, et_3⟩ : ∃ v9 : Int32, t_2 * 81 = v9 := ⟨_, rfl⟩
  refine z_imul (v := t_3) hx hb dX10_missingAt_12 et_3 ?_
  have b_t_2 := i32b t_2
  have ft_3 : t_3.toInt = t_2.toInt * 81 := mulT (a := t_2.toInt) (b := 81) rfl (by decide) et_3 (by omega) (by omega)
  exact ret _ _ _ dX10_missingAt_13 (show (0 ≤ t_3.toInt ∧ t_3.toInt ≤ 3240) from (by first | assumption | omega | decide))

set_option maxHeartbeats 4000000 in
set_option maxRecDepth 100000 in
theorem b_X10_countMissingAhead_l55 {p : Program} {l : Launch} {e : Env} {s : State} {m : MethodId} {args : Array Value} {below : List Frame} {meth : Method} {c : Code} {Q : State → Prop} {G : Gho} {D : va_G} {cB cI cJ cZ cS cT : ClassId} {A : Nat → Prop} (h0 : Nat) (h_spent : Nat) (h_spentNext : Nat) (h_missing : Nat) (h_a1 : Nat) (v_a1_tones : Int32) (v_a1_a : Int32) (v_a1_b : Int32) (v_a1_c : Int32) (v_a1_d : Int32) (v_a1_odds : Int32) (v_a1_lines : Int32) (h_a1_signs : Nat) (v_a1_signCount : Int32) (h_a1_posts : Nat) (v_a1_postCount : Int32) (h_a1_acts : Nat) (f_a1_signs : Nat → Int32) (v2 : Int32) (t_20 : Int32) (l23_6 : Int32) (r_8 : Int32) (r_4 : Int32) (r_1 : Int32) (g23_missing : Nat → Int32) (N_23 : Nat) (iv_a1_signCount : 0 ≤ v_a1_signCount.toInt ∧ v_a1_signCount.toInt ≤ 8) (iv_a1_postCount : 0 ≤ v_a1_postCount.toInt ∧ v_a1_postCount.toInt ≤ 5) (zv_a1_tones : 1 ≤ v_a1_tones.toInt ∧ v_a1_tones.toInt ≤ 2147483647) (zl23_6 : 0 ≤ l23_6.toInt ∧ l23_6.toInt ≤ 2147483646) (zr_8 : 0 ≤ r_8.toInt ∧ r_8.toInt ≤ 3240) (zr_4 : 0 ≤ r_4.toInt ∧ r_4.toInt ≤ 3240) (zr_1 : 0 ≤ r_1.toInt ∧ r_1.toInt ≤ 1) (kl23_6 : 0 ≤ l23_6.toInt) (c_14 : l23_6.toInt < v_a1_tones.toInt) (ih_23 : ∀ (g23_missing : Nat → Int32) (l23_6 : Int32) (H : Heap) (locs : List Loc) (ls : Array Slot), 0 ≤ l23_6.toInt → (v_a1_tones.toInt - l23_6.toInt).toNat < N_23 → va_P D vwCl [(h0, .inr (10, [.ref h_spent, .ref h_spentNext, .ref h_missing])), (h_missing, .inl (cI, 3321, .inl g23_missing)), (h_a1, .inr (8, [.int v_a1_tones, .int v_a1_a, .int v_a1_b, .int v_a1_c, .int v_a1_d, .int v_a1_odds, .int v_a1_lines, .ref h_a1_signs, .int v_a1_signCount, .ref h_a1_posts, .int v_a1_postCount, .ref h_a1_acts])), (h_a1_signs, .inl (cI, 8, .inl f_a1_signs))] H → va_D A [(h0, .inr (10, [.ref h_spent, .ref h_spentNext, .ref h_missing])), (h_missing, .inl (cI, 3321, .inl g23_missing)), (h_a1, .inr (8, [.int v_a1_tones, .int v_a1_a, .int v_a1_b, .int v_a1_c, .int v_a1_d, .int v_a1_odds, .int v_a1_lines, .ref h_a1_signs, .int v_a1_signCount, .ref h_a1_posts, .int v_a1_postCount, .ref h_a1_acts])), (h_a1_signs, .inl (cI, 8, .inl f_a1_signs))] → va_S A s.heap H locs → lv_has ls 11 [(6, .int l23_6), (5, .int r_8), (4, .int r_4), (3, .int r_1), (0, .ref h0), (1, .ref h_a1), (2, .int v2)] → W p l e ({ frames := 3, cells := 0, slots := 0, locals := 70 }) s m args below meth c H locs 0 0 Q (F0 m 23 ls [])) (hM_23 : (v_a1_tones.toInt - l23_6.toInt).toNat < N_23 + 1) (C : Cx p s m args c RX10 cX10_countMissingAhead 11 G D (tyL cB cI cJ cZ cS cT)) (hG : G.1 ≤ s.heap.size) (hAB : ∀ q, A q → G.1 ≤ q) (hA : ∀ q : Nat, s.heap.size ≤ q → A q) (ret : RetV p l e ({ frames := 3, cells := 0, slots := 0, locals := 70 }) s m args below meth c cX10_countMissingAhead D A (fun x : (Nat → Int32) => [(h0, .inr (10, [.ref h_spent, .ref h_spentNext, .ref h_missing])), (h_missing, .inl (cI, 3321, .inl x)), (h_a1, .inr (8, [.int v_a1_tones, .int v_a1_a, .int v_a1_b, .int v_a1_c, .int v_a1_d, .int v_a1_odds, .int v_a1_lines, .ref h_a1_signs, .int v_a1_signCount, .ref h_a1_posts, .int v_a1_postCount, .ref h_a1_acts])), (h_a1_signs, .inl (cI, 8, .inl f_a1_signs))]) (fun x : (Nat → Int32) => True) Q) :
    ∀ (N : Nat) (g55_missing : Nat → Int32) (l55_8 : Int32) (H : Heap) (locs : List Loc) (ls : Array Slot), 0 ≤ l55_8.toInt → (v_a1_tones.toInt - l55_8.toInt).toNat < N → va_P D vwCl [(h0, .inr (10, [.ref h_spent, .ref h_spentNext, .ref h_missing])), (h_missing, .inl (cI, 3321, .inl g55_missing)), (h_a1, .inr (8, [.int v_a1_tones, .int v_a1_a, .int v_a1_b, .int v_a1_c, .int v_a1_d, .int v_a1_odds, .int v_a1_lines, .ref h_a1_signs, .int v_a1_signCount, .ref h_a1_posts, .int v_a1_postCount, .ref h_a1_acts])), (h_a1_signs, .inl (cI, 8, .inl f_a1_signs))] H → va_D A [(h0, .inr (10, [.ref h_spent, .ref h_spentNext, .ref h_missing])), (h_missing, .inl (cI, 3321, .inl g55_missing)), (h_a1, .inr (8, [.int v_a1_tones, .int v_a1_a, .int v_a1_b, .int v_a1_c, .int v_a1_d, .int v_a1_odds, .int v_a1_lines, .ref h_a1_signs, .int v_a1_signCount, .ref h_a1_posts, .int v_a1_postCount, .ref h_a1_acts])), (h_a1_signs, .inl (cI, 8, .inl f_a1_signs))] → va_S A s.heap H locs → lv_has ls 11 [(8, .int l55_8), (7, .int t_20), (6, .int l23_6), (5, .int r_8), (4, .int r_4), (3, .int r_1), (0, .ref h0), (1, .ref h_a1), (2, .int v2)] → W p l e ({ frames := 3, cells := 0, slots := 0, locals := 70 }) s m args below meth c H locs 0 0 Q (F0 m 55 ls []) := by
  obtain ⟨hx, hb, hml, hown, hts, hK, hN, hT⟩ := id C
  intro N
  induction N with
  | zero =>
    intro g55_missing l55_8 H locs ls kl55_8 hM_55 hP hD hS hl
    omega
  | succ N_55 ih_55 =>
    intro g55_missing l55_8 H locs ls kl55_8 hM_55 hP hD hS hl
    have b_l55_8 := i32b l55_8
    refine lv_iload hx hb dX10_countMissingAhead_55 (lv_at hl 0 rfl) ?_
    refine lv_aload_n hx hb dX10_countMissingAhead_57 rfl (lv_at hl 7 rfl) ?_
    refine roi (As := []) (rest := [.int l55_8]) ⟨hx, hb, hml, hown, hts⟩ (b_X8_tones l G D cB cI cJ cZ cS cT h_a1 v_a1_tones v_a1_a v_a1_b v_a1_c v_a1_d v_a1_odds v_a1_lines h_a1_signs v_a1_signCount h_a1_posts v_a1_postCount h_a1_acts (by first | assumption | omega | decide) (by first | assumption | omega | decide)) (cvB (n := 0) (inr41 _ (List.mem_of_getElem? (i := 18) rfl)) (inr15 _ (List.mem_of_getElem? (i := 14) rfl)) (inr15 _ (List.mem_of_getElem? (i := 15) rfl)) (inr1 _ (List.mem_of_getElem? (i := 23) rfl)) (inr15 _ (List.mem_of_getElem? (i := 16) rfl)) (by decide +kernel) hts rfl rfl ⟨Nat.le_of_ble_eq_true rfl, Nat.le_of_ble_eq_true rfl⟩) 0 8 rfl rfl rfl (hP.sub [2] rfl) hK hN (kT.to hT hS hAB) rfl hl.1 rfl (Nat.le_of_ble_eq_true rfl) ⟨Nat.le_of_ble_eq_true rfl, Nat.le_of_ble_eq_true rfl⟩ dX10_countMissingAhead_58 (fun r_21 h_22 => ?_)
    have h_22 : (r_21 = v_a1_tones) := h_22
    have i_23 := h_22
    obtain rfl := i_23.symm
    refine lv_icmp_ge (tgt := 129) hx hb dX10_countMissingAhead_61 (by decide) (fun c_24 => ?_) (fun c_24 => ?_)
    · have c_24 : v_a1_tones.toInt ≤ l55_8.toInt := ci_ge_t c_24
      have b_v_a1_tones := i32b v_a1_tones
      obtain ⟨t_25, et_25⟩ : ∃ v9 : Int32, l23_6 + 1 = v9 := ⟨_, rfl⟩
      have b_l23_6 := i32b l23_6
      have ft_25 : t_25.toInt = l23_6.toInt + 1 := addT (a := l23_6.toInt) (b := 1) rfl (by decide) et_25 (by omega) (by omega)
      refine lv_iinc (v := t_25) (lv' := [(6, .int t_25), (8, .int l55_8), (7, .int t_20), (5, .int r_8), (4, .int r_4), (3, .int r_1), (0, .ref h0), (1, .ref h_a1), (2, .int v2)]) hx hb dX10_countMissingAhead_129 hl (k := 2) rfl (by rw [← et_25]; rfl) (by decide) rfl (fun ls hl => ?_)
      refine lv_goto (tgt := 23) hx hb dX10_countMissingAhead_132 (by decide) ?_
      exact ih_23 (g55_missing) (t_25) _ _ _ (by first | assumption | omega | decide) (by omega) (hP.sub [0, 1, 2, 3] rfl) (hD.sub [0, 1, 2, 3] (by decide) rfl) hS (lv_sub hl [0, 3, 4, 5, 6, 7, 8] rfl)
    · have c_24 : l55_8.toInt < v_a1_tones.toInt := ci_ge_f c_24
      have b_v_a1_tones := i32b v_a1_tones
      refine lv_aload_n hx hb dX10_countMissingAhead_64 rfl (lv_at hl 6 rfl) ?_
      refine va_get (D := D) (ci := 10) (v := .ref h_missing) (C := RX10) (T := TX10) (N := 3) hx hb hts inlX10 hown hK hP 0 rfl rfl 2 (by decide) (hts _ (inr5 _ (List.mem_of_getElem? (i := 19) rfl))) (fun _ h9 => h9) rfl dX10_countMissingAhead_65 ?_
      refine lv_iload hx hb dX10_countMissingAhead_68 (lv_at hl 3 rfl) ?_
      refine lv_iload_n hx hb dX10_countMissingAhead_70 rfl (lv_at hl 5 rfl) ?_
      refine lv_iload hx hb dX10_countMissingAhead_71 (lv_at hl 2 rfl) ?_
      refine lv_aload_n hx hb dX10_countMissingAhead_73 rfl (lv_at hl 7 rfl) ?_
      refine lv_iload_n hx hb dX10_countMissingAhead_74 rfl (lv_at hl 8 rfl) ?_
      refine lv_iload_n hx hb dX10_countMissingAhead_75 rfl (lv_at hl 5 rfl) ?_
      refine lv_iload hx hb dX10_countMissingAhead_76 (lv_at hl 2 rfl) ?_
      refine lv_iload hx hb dX10_countMissingAhead_78 (lv_at hl 0 rfl) ?_
      refine rosi (As := [.ref h_a1, .int v2, .int r_1, .int l23_6, .int l55_8]) (rest := [.int l23_6, .int r_1, .int r_8, .ref h_missing]) ⟨hx, hb, hml, hown, hts⟩ (b_X10_ownTone l G D cB cI cJ cZ cS cT h_a1 v_a1_tones v_a1_a v_a1_b v_a1_c v_a1_d v_a1_odds v_a1_lines h_a1_signs v_a1_signCount h_a1_posts v_a1_postCount h_a1_acts f_a1_signs v2 r_1 l23_6 l55_8 (by first | assumption | omega | decide) (by first | assumption | omega | decide)) (csB (n := 5) (inr42 _ (List.mem_of_getElem? (i := 1) rfl)) (inr42 _ (List.mem_of_getElem? (i := 2) rfl)) (inr2 _ (List.mem_of_getElem? (i := 20) rfl)) (inr42 _ (List.mem_of_getElem? (i := 3) rfl)) (by decide +kernel) hts rfl rfl ⟨Nat.le_of_ble_eq_true rfl, Nat.le_of_ble_eq_true rfl⟩) (hP.sub [2, 3] rfl) hK hN (kT.to hT hS hAB) rfl hl.1 rfl (Nat.le_of_ble_eq_true rfl) ⟨Nat.le_of_ble_eq_true rfl, Nat.le_of_ble_eq_true rfl⟩ dX10_countMissingAhead_80 (fun r_26 h_27 => ?_)
      refine rosi (As := [.int r_1, .int l23_6, .int r_26]) (rest := [.int r_8, .ref h_missing]) ⟨hx, hb, hml, hown, hts⟩ (b_X10_stateOf l G D cB cI cJ cZ cS cT r_1 l23_6 r_26 ) (csB (n := 3) (inr41 _ (List.mem_of_getElem? (i := 22) rfl)) (inr41 _ (List.mem_of_getElem? (i := 23) rfl)) (inr2 _ (List.mem_of_getElem? (i := 20) rfl)) (inr42 _ (List.mem_of_getElem? (i := 0) rfl)) (by decide +kernel) hts rfl rfl ⟨Nat.le_of_ble_eq_true rfl, Nat.le_of_ble_eq_true rfl⟩) (hP.sub [] rfl) hK hN (kT.to hT hS hAB) rfl hl.1 rfl (Nat.le_of_ble_eq_true rfl) ⟨Nat.le_of_ble_eq_true rfl, Nat.le_of_ble_eq_true rfl⟩ dX10_countMissingAhead_83 (fun r_28 h_29 => ?_)
      have h_29 : (0 ≤ r_28.toInt ∧ r_28.toInt ≤ 80) := h_29
      have i_30 := h_29
      obtain ⟨t_31, et_31⟩ : ∃ v9 : Int32, r_8 + r_28 = v9 := ⟨_, rfl⟩
      refine z_iadd (v := t_31) hx hb dX10_countMissingAhead_86 et_31 ?_
      have b_r_8 := i32b r_8
      have b_r_28 := i32b r_28
      have ft_31 : t_31.toInt = r_8.toInt + r_28.toInt := addT (a := r_8.toInt) (b := r_28.toInt) rfl rfl et_31 (by omega) (by omega)
      obtain ⟨t_32, et_32⟩ : ∃ v9 : Int32, g55_missing (t_31 : Int32).toNatClampNeg = v9 := ⟨_, rfl⟩
      refine z_iald (v := t_32) hx hb hK hP 1 1 rfl rfl (vin_nat (by omega) (by omega)) et_32 dX10_countMissingAhead_87 ?_
      refine lv_istore (lv' := [(9, .int t_32), (8, .int l55_8), (7, .int t_20), (6, .int l23_6), (5, .int r_8), (4, .int r_4), (3, .int r_1), (0, .ref h0), (1, .ref h_a1), (2, .int v2)]) hx hb dX10_countMissingAhead_88 hl (by decide) rfl (fun ls hl => ?_)
      refine lv_iload hx hb dX10_countMissingAhead_90 (lv_at hl 0 rfl) ?_
      refine lv_iload hx hb dX10_countMissingAhead_92 (lv_at hl 2 rfl) ?_
      refine va_mmin hx hb (by rw [hml]; exact hl.1.symm) hown (hts _ (inr41 _ (List.mem_of_getElem? (i := 16) rfl))) (hts _ (inr18 _ (List.mem_of_getElem? (i := 11) rfl))) (hts _ (inr18 _ (List.mem_of_getElem? (i := 12) rfl))) (hts _ (inr18 _ (List.mem_of_getElem? (i := 13) rfl))) (Nat.le_of_ble_eq_true rfl) (Nat.le_of_ble_eq_true rfl) (Nat.le_of_ble_eq_true rfl) (Nat.le_of_ble_eq_true rfl) dX10_countMissingAhead_94 ?_
      refine lv_topi (fun t_33 et_33 => ?_)
      have b_t_32 := i32b t_32
      have b_t_20 := i32b t_20
      have ft_33 : t_33.toInt ≤ t_32.toInt ∧ t_33.toInt ≤ t_20.toInt ∧ (t_33.toInt = t_32.toInt ∨ t_33.toInt = t_20.toInt) := minT et_33
      refine lv_sipush (v := 1000) hx hb dX10_countMissingAhead_97 (by decide) ?_
      refine va_mmin hx hb (by rw [hml]; exact hl.1.symm) hown (hts _ (inr41 _ (List.mem_of_getElem? (i := 16) rfl))) (hts _ (inr18 _ (List.mem_of_getElem? (i := 11) rfl))) (hts _ (inr18 _ (List.mem_of_getElem? (i := 12) rfl))) (hts _ (inr18 _ (List.mem_of_getElem? (i := 13) rfl))) (Nat.le_of_ble_eq_true rfl) (Nat.le_of_ble_eq_true rfl) (Nat.le_of_ble_eq_true rfl) (Nat.le_of_ble_eq_true rfl) dX10_countMissingAhead_100 ?_
      refine lv_topi (fun t_34 et_34 => ?_)
      have b_t_33 := i32b t_33
      have ft_34 : t_34.toInt ≤ t_33.toInt ∧ t_34.toInt ≤ 1000 ∧ (t_34.toInt = t_33.toInt ∨ t_34.toInt = 1000) := minT et_34
      refine lv_istore (lv' := [(10, .int t_34), (9, .int t_32), (8, .int l55_8), (7, .int t_20), (6, .int l23_6), (5, .int r_8), (4, .int r_4), (3, .int r_1), (0, .ref h0), (1, .ref h_a1), (2, .int v2)]) hx hb dX10_countMissingAhead_103 hl (by decide) rfl (fun ls hl => ?_)
      refine lv_aload_n hx hb dX10_countMissingAhead_105 rfl (lv_at hl 8 rfl) ?_
      refine va_get (D := D) (ci := 10) (v := .ref h_missing) (C := RX10) (T := TX10) (N := 3) hx hb hts inlX10 hown hK hP 0 rfl rfl 2 (by decide) (hts _ (inr5 _ (List.mem_of_getElem? (i := 19) rfl))) (fun _ h9 => h9) rfl dX10_countMissingAhead_106 ?_
      refine lv_iload hx hb dX10_countMissingAhead_109 (lv_at hl 6 rfl) ?_
      refine lv_iload_n hx hb dX10_countMissingAhead_111 rfl (lv_at hl 7 rfl) ?_
      refine lv_iload hx hb dX10_countMissingAhead_112 (lv_at hl 4 rfl) ?_
      refine lv_iload hx hb dX10_countMissingAhead_114 (lv_at hl 2 rfl) ?_
      refine rosi (As := [.int r_1, .int l23_6, .int l55_8]) (rest := [.int r_4, .ref h_missing]) ⟨hx, hb, hml, hown, hts⟩ (b_X10_stateOf l G D cB cI cJ cZ cS cT r_1 l23_6 l55_8 ) (csB (n := 3) (inr41 _ (List.mem_of_getElem? (i := 22) rfl)) (inr41 _ (List.mem_of_getElem? (i := 23) rfl)) (inr2 _ (List.mem_of_getElem? (i := 20) rfl)) (inr42 _ (List.mem_of_getElem? (i := 0) rfl)) (by decide +kernel) hts rfl rfl ⟨Nat.le_of_ble_eq_true rfl, Nat.le_of_ble_eq_true rfl⟩) (hP.sub [] rfl) hK hN (kT.to hT hS hAB) rfl hl.1 rfl (Nat.le_of_ble_eq_true rfl) ⟨Nat.le_of_ble_eq_true rfl, Nat.le_of_ble_eq_true rfl⟩ dX10_countMissingAhead_116 (fun r_35 h_36 => ?_)
      have h_36 : (0 ≤ r_35.toInt ∧ r_35.toInt ≤ 80) := h_36
      have i_37 := h_36
      obtain ⟨t_38, et_38⟩ : ∃ v9 : Int32, r_4 + r_35 = v9 := ⟨_, rfl⟩
      refine z_iadd (v := t_38) hx hb dX10_countMissingAhead_119 et_38 ?_
      have b_r_4 := i32b r_4
      have b_r_35 := i32b r_35
      have ft_38 : t_38.toInt = r_4.toInt + r_35.toInt := addT (a := r_4.toInt) (b := r_35.toInt) rfl rfl et_38 (by omega) (by omega)
      refine lv_iload hx hb dX10_countMissingAhead_120 (lv_at hl 0 rfl) ?_
      refine va_iast hx hb hK hP hD hS 1 1 rfl rfl (vin_nat (by omega) (by omega)) dX10_countMissingAhead_122 (fun H locs hP hD hS => ?_)
      have hP : va_P D vwCl [(h0, .inr (10, [.ref h_spent, .ref h_spentNext, .ref h_missing])), (h_missing, .inl (cI, 3321, .inl (upd g55_missing (t_38 : Int32).toNatClampNeg t_34))), (h_a1, .inr (8, [.int v_a1_tones, .int v_a1_a, .int v_a1_b, .int v_a1_c, .int v_a1_d, .int v_a1_odds, .int v_a1_lines, .ref h_a1_signs, .int v_a1_signCount, .ref h_a1_posts, .int v_a1_postCount, .ref h_a1_acts])), (h_a1_signs, .inl (cI, 8, .inl f_a1_signs))] H := hP
      have hD : va_D A [(h0, .inr (10, [.ref h_spent, .ref h_spentNext, .ref h_missing])), (h_missing, .inl (cI, 3321, .inl (upd g55_missing (t_38 : Int32).toNatClampNeg t_34))), (h_a1, .inr (8, [.int v_a1_tones, .int v_a1_a, .int v_a1_b, .int v_a1_c, .int v_a1_d, .int v_a1_odds, .int v_a1_lines, .ref h_a1_signs, .int v_a1_signCount, .ref h_a1_posts, .int v_a1_postCount, .ref h_a1_acts])), (h_a1_signs, .inl (cI, 8, .inl f_a1_signs))] := hD
      obtain ⟨g_39, eg_39⟩ : ∃ v9 : Nat → Int32, (upd g55_missing (t_38 : Int32).toNatClampNeg t_34) = v9 := ⟨_, rfl⟩
      rw [eg_39] at hP hD
      have hP : va_P D vwCl [(h0, .inr (10, [.ref h_spent, .ref h_spentNext, .ref h_missing])), (h_missing, .inl (cI, 3321, .inl g_39)), (h_a1, .inr (8, [.int v_a1_tones, .int v_a1_a, .int v_a1_b, .int v_a1_c, .int v_a1_d, .int v_a1_odds, .int v_a1_lines, .ref h_a1_signs, .int v_a1_signCount, .ref h_a1_posts, .int v_a1_postCount, .ref h_a1_acts])), (h_a1_signs, .inl (cI, 8, .inl f_a1_signs))] H := hP
      have hD : va_D A [(h0, .inr (10, [.ref h_spent, .ref h_spentNext, .ref h_missing])), (h_missing, .inl (cI, 3321, .inl g_39)), (h_a1, .inr (8, [.int v_a1_tones, .int v_a1_a, .int v_a1_b, .int v_a1_c, .int v_a1_d, .int v_a1_odds, .int v_a1_lines, .ref h_a1_signs, .int v_a1_signCount, .ref h_a1_posts, .int v_a1_postCount, .ref h_a1_acts])), (h_a1_signs, .inl (cI, 8, .inl f_a1_signs))] := hD
      obtain ⟨t_40, et_40⟩ : ∃ v9 : Int32, l55_8 + 1 = v9 := ⟨_, rfl⟩
      have ft_40 : t_40.toInt = l55_8.toInt + 1 := addT (a := l55_8.toInt) (b := 1) rfl (by decide) et_40 (by omega) (by omega)
      refine lv_iinc (v := t_40) (lv' := [(8, .int t_40), (10, .int t_34), (9, .int t_32), (7, .int t_20), (6, .int l23_6), (5, .int r_8), (4, .int r_4), (3, .int r_1), (0, .ref h0), (1, .ref h_a1), (2, .int v2)]) hx hb dX10_countMissingAhead_123 hl (k := 2) rfl (by rw [← et_40]; rfl) (by decide) rfl (fun ls hl => ?_)
      refine lv_goto (tgt := 55) hx hb dX10_countMissingAhead_126 (by decide) ?_
      exact ih_55 (g_39) (t_40) _ _ _ (by first | assumption | omega | decide) (by omega) (hP.sub [0, 1, 2, 3] rfl) (hD.sub [0, 1, 2, 3] (by decide) rfl) hS (lv_sub hl [0, 3, 4, 5, 6, 7, 8, 9, 10] rfl)

set_option maxHeartbeats 4000000 in
set_option maxRecDepth 100000 in
theorem b_X10_countMissingAhead_l23 {p : Program} {l : Launch} {e : Env} {s : State} {m : MethodId} {args : Array Value} {below : List Frame} {meth : Method} {c : Code} {Q : State → Prop} {G : Gho} {D : va_G} {cB cI cJ cZ cS cT : ClassId} {A : Nat → Prop} (h0 : Nat) (h_spent : Nat) (h_spentNext : Nat) (h_missing : Nat) (h_a1 : Nat) (v_a1_tones : Int32) (v_a1_a : Int32) (v_a1_b : Int32) (v_a1_c : Int32) (v_a1_d : Int32) (v_a1_odds : Int32) (v_a1_lines : Int32) (h_a1_signs : Nat) (v_a1_signCount : Int32) (h_a1_posts : Nat) (v_a1_postCount : Int32) (h_a1_acts : Nat) (f_a1_signs : Nat → Int32) (v2 : Int32) (r_8 : Int32) (r_4 : Int32) (r_1 : Int32) (iv_a1_signCount : 0 ≤ v_a1_signCount.toInt ∧ v_a1_signCount.toInt ≤ 8) (iv_a1_postCount : 0 ≤ v_a1_postCount.toInt ∧ v_a1_postCount.toInt ≤ 5) (zr_8 : 0 ≤ r_8.toInt ∧ r_8.toInt ≤ 3240) (zr_4 : 0 ≤ r_4.toInt ∧ r_4.toInt ≤ 3240) (zr_1 : 0 ≤ r_1.toInt ∧ r_1.toInt ≤ 1) (C : Cx p s m args c RX10 cX10_countMissingAhead 11 G D (tyL cB cI cJ cZ cS cT)) (hG : G.1 ≤ s.heap.size) (hAB : ∀ q, A q → G.1 ≤ q) (hA : ∀ q : Nat, s.heap.size ≤ q → A q) (ret : RetV p l e ({ frames := 3, cells := 0, slots := 0, locals := 70 }) s m args below meth c cX10_countMissingAhead D A (fun x : (Nat → Int32) => [(h0, .inr (10, [.ref h_spent, .ref h_spentNext, .ref h_missing])), (h_missing, .inl (cI, 3321, .inl x)), (h_a1, .inr (8, [.int v_a1_tones, .int v_a1_a, .int v_a1_b, .int v_a1_c, .int v_a1_d, .int v_a1_odds, .int v_a1_lines, .ref h_a1_signs, .int v_a1_signCount, .ref h_a1_posts, .int v_a1_postCount, .ref h_a1_acts])), (h_a1_signs, .inl (cI, 8, .inl f_a1_signs))]) (fun x : (Nat → Int32) => True) Q) :
    ∀ (N : Nat) (g23_missing : Nat → Int32) (l23_6 : Int32) (H : Heap) (locs : List Loc) (ls : Array Slot), 0 ≤ l23_6.toInt → (v_a1_tones.toInt - l23_6.toInt).toNat < N → va_P D vwCl [(h0, .inr (10, [.ref h_spent, .ref h_spentNext, .ref h_missing])), (h_missing, .inl (cI, 3321, .inl g23_missing)), (h_a1, .inr (8, [.int v_a1_tones, .int v_a1_a, .int v_a1_b, .int v_a1_c, .int v_a1_d, .int v_a1_odds, .int v_a1_lines, .ref h_a1_signs, .int v_a1_signCount, .ref h_a1_posts, .int v_a1_postCount, .ref h_a1_acts])), (h_a1_signs, .inl (cI, 8, .inl f_a1_signs))] H → va_D A [(h0, .inr (10, [.ref h_spent, .ref h_spentNext, .ref h_missing])), (h_missing, .inl (cI, 3321, .inl g23_missing)), (h_a1, .inr (8, [.int v_a1_tones, .int v_a1_a, .int v_a1_b, .int v_a1_c, .int v_a1_d, .int v_a1_odds, .int v_a1_lines, .ref h_a1_signs, .int v_a1_signCount, .ref h_a1_posts, .int v_a1_postCount, .ref h_a1_acts])), (h_a1_signs, .inl (cI, 8, .inl f_a1_signs))] → va_S A s.heap H locs → lv_has ls 11 [(6, .int l23_6), (5, .int r_8), (4, .int r_4), (3, .int r_1), (0, .ref h0), (1, .ref h_a1), (2, .int v2)] → W p l e ({ frames := 3, cells := 0, slots := 0, locals := 70 }) s m args below meth c H locs 0 0 Q (F0 m 23 ls []) := by
  obtain ⟨hx, hb, hml, hown, hts, hK, hN, hT⟩ := id C
  intro N
  induction N with
  | zero =>
    intro g23_missing l23_6 H locs ls kl23_6 hM_23 hP hD hS hl
    omega
  | succ N_23 ih_23 =>
    intro g23_missing l23_6 H locs ls kl23_6 hM_23 hP hD hS hl
    have b_l23_6 := i32b l23_6
    refine lv_iload hx hb dX10_countMissingAhead_23 (lv_at hl 0 rfl) ?_
    refine lv_aload_n hx hb dX10_countMissingAhead_25 rfl (lv_at hl 5 rfl) ?_
    refine roi (As := []) (rest := [.int l23_6]) ⟨hx, hb, hml, hown, hts⟩ (b_X8_tones l G D cB cI cJ cZ cS cT h_a1 v_a1_tones v_a1_a v_a1_b v_a1_c v_a1_d v_a1_odds v_a1_lines h_a1_signs v_a1_signCount h_a1_posts v_a1_postCount h_a1_acts (by first | assumption | omega | decide) (by first | assumption | omega | decide)) (cvB (n := 0) (inr41 _ (List.mem_of_getElem? (i := 18) rfl)) (inr15 _ (List.mem_of_getElem? (i := 14) rfl)) (inr15 _ (List.mem_of_getElem? (i := 15) rfl)) (inr1 _ (List.mem_of_getElem? (i := 23) rfl)) (inr15 _ (List.mem_of_getElem? (i := 16) rfl)) (by decide +kernel) hts rfl rfl ⟨Nat.le_of_ble_eq_true rfl, Nat.le_of_ble_eq_true rfl⟩) 0 8 rfl rfl rfl (hP.sub [2] rfl) hK hN (kT.to hT hS hAB) rfl hl.1 rfl (Nat.le_of_ble_eq_true rfl) ⟨Nat.le_of_ble_eq_true rfl, Nat.le_of_ble_eq_true rfl⟩ dX10_countMissingAhead_26 (fun r_11 h_12 => ?_)
    have h_12 : (r_11 = v_a1_tones) := h_12
    have i_13 := h_12
    obtain rfl := i_13.symm
    refine lv_icmp_ge (tgt := 135) hx hb dX10_countMissingAhead_29 (by decide) (fun c_14 => ?_) (fun c_14 => ?_)
    · have c_14 : v_a1_tones.toInt ≤ l23_6.toInt := ci_ge_t c_14
      have b_v_a1_tones := i32b v_a1_tones
      exact ret _ _ _ _ g23_missing dX10_countMissingAhead_135 trivial (hP.sub [0, 1, 2, 3] rfl) (hD.sub [0, 1, 2, 3] (by decide) rfl) hS
    · have c_14 : l23_6.toInt < v_a1_tones.toInt := ci_ge_f c_14
      have b_v_a1_tones := i32b v_a1_tones
      refine lv_aload_n hx hb dX10_countMissingAhead_32 rfl (lv_at hl 4 rfl) ?_
      refine va_get (D := D) (ci := 10) (v := .ref h_missing) (C := RX10) (T := TX10) (N := 3) hx hb hts inlX10 hown hK hP 0 rfl rfl 2 (by decide) (hts _ (inr5 _ (List.mem_of_getElem? (i := 19) rfl))) (fun _ h9 => h9) rfl dX10_countMissingAhead_33 ?_
      refine lv_iload hx hb dX10_countMissingAhead_36 (lv_at hl 1 rfl) ?_
      refine lv_aload_n hx hb dX10_countMissingAhead_38 rfl (lv_at hl 5 rfl) ?_
      refine roi (As := []) (rest := [.int r_8, .ref h_missing]) ⟨hx, hb, hml, hown, hts⟩ (b_X8_tones l G D cB cI cJ cZ cS cT h_a1 v_a1_tones v_a1_a v_a1_b v_a1_c v_a1_d v_a1_odds v_a1_lines h_a1_signs v_a1_signCount h_a1_posts v_a1_postCount h_a1_acts (by first | assumption | omega | decide) (by first | assumption | omega | decide)) (cvB (n := 0) (inr41 _ (List.mem_of_getElem? (i := 18) rfl)) (inr15 _ (List.mem_of_getElem? (i := 14) rfl)) (inr15 _ (List.mem_of_getElem? (i := 15) rfl)) (inr1 _ (List.mem_of_getElem? (i := 23) rfl)) (inr15 _ (List.mem_of_getElem? (i := 16) rfl)) (by decide +kernel) hts rfl rfl ⟨Nat.le_of_ble_eq_true rfl, Nat.le_of_ble_eq_true rfl⟩) 0 8 rfl rfl rfl (hP.sub [2] rfl) hK hN (kT.to hT hS hAB) rfl hl.1 rfl (Nat.le_of_ble_eq_true rfl) ⟨Nat.le_of_ble_eq_true rfl, Nat.le_of_ble_eq_true rfl⟩ dX10_countMissingAhead_39 (fun r_15 h_16 => ?_)
      have h_16 : (r_15 = v_a1_tones) := h_16
      have i_17 := h_16
      obtain rfl := i_17.symm
      refine lv_iload_n hx hb dX10_countMissingAhead_42 rfl (lv_at hl 3 rfl) ?_
      refine lv_iload hx hb dX10_countMissingAhead_43 (lv_at hl 0 rfl) ?_
      refine rosi (As := [.ref h_missing, .int r_8, .int v_a1_tones, .int r_1, .int l23_6]) (rest := []) ⟨hx, hb, hml, hown, hts⟩ (b_X10_cheapest l G D cB cI cJ cZ cS cT h_missing g23_missing 3321 r_8 v_a1_tones r_1 l23_6 (by first | assumption | omega | decide)) (csB (n := 5) (inr41 _ (List.mem_of_getElem? (i := 19) rfl)) (inr41 _ (List.mem_of_getElem? (i := 20) rfl)) (inr2 _ (List.mem_of_getElem? (i := 20) rfl)) (inr41 _ (List.mem_of_getElem? (i := 21) rfl)) (by decide +kernel) hts rfl rfl ⟨Nat.le_of_ble_eq_true rfl, Nat.le_of_ble_eq_true rfl⟩) (hP.sub [1] rfl) hK hN (kT.to hT hS hAB) rfl hl.1 rfl (Nat.le_of_ble_eq_true rfl) ⟨Nat.le_of_ble_eq_true rfl, Nat.le_of_ble_eq_true rfl⟩ dX10_countMissingAhead_45 (fun r_18 h_19 => ?_)
      refine lv_iconst (v := 1) hx hb dX10_countMissingAhead_48 (by decide) ?_
      obtain ⟨t_20, et_20⟩ : ∃ v9 : Int32, r_18 + 1 = v9 := ⟨_, rfl⟩
      refine z_iadd (v := t_20) hx hb dX10_countMissingAhead_49 et_20 ?_
      refine lv_istore (lv' := [(7, .int t_20), (6, .int l23_6), (5, .int r_8), (4, .int r_4), (3, .int r_1), (0, .ref h0), (1, .ref h_a1), (2, .int v2)]) hx hb dX10_countMissingAhead_50 hl (by decide) rfl (fun ls hl => ?_)
      refine lv_iconst (v := 0) hx hb dX10_countMissingAhead_52 (by decide) ?_
      refine lv_istore (lv' := [(8, .int 0), (7, .int t_20), (6, .int l23_6), (5, .int r_8), (4, .int r_4), (3, .int r_1), (0, .ref h0), (1, .ref h_a1), (2, .int v2)]) hx hb dX10_countMissingAhead_53 hl (by decide) rfl (fun ls hl => ?_)
      exact b_X10_countMissingAhead_l55 h0 h_spent h_spentNext h_missing h_a1 v_a1_tones v_a1_a v_a1_b v_a1_c v_a1_d v_a1_odds v_a1_lines h_a1_signs v_a1_signCount h_a1_posts v_a1_postCount h_a1_acts f_a1_signs v2 t_20 l23_6 r_8 r_4 r_1 g23_missing N_23 (by first | assumption | omega | decide) (by first | assumption | omega | decide) (by first | assumption | omega | decide) (by first | assumption | omega | decide) (by first | assumption | omega | decide) (by first | assumption | omega | decide) (by first | assumption | omega | decide) (by first | assumption | omega | decide) (by first | assumption | omega | decide) (by first | assumption | omega | decide) (by first | assumption | omega | decide) C hG hAB hA ret _ (g23_missing) (0) _ _ _ (by first | assumption | omega | decide) (Nat.lt_succ_self _) (hP.sub [0, 1, 2, 3] rfl) (hD.sub [0, 1, 2, 3] (by decide) rfl) hS (lv_sub hl [0, 1, 2, 3, 4, 5, 6, 7, 8] rfl)

set_option maxHeartbeats 4000000 in
set_option maxRecDepth 100000 in
theorem b_X10_countMissingAhead (l : Launch) (G : Gho) (D : va_G) (cB cI cJ cZ cS cT : ClassId) (sz : Nat) (h0 : Nat) (h_spent : Nat) (h_spentNext : Nat) (h_missing : Nat) (f_missing : Nat → Int32) (h_a1 : Nat) (v_a1_tones : Int32) (v_a1_a : Int32) (v_a1_b : Int32) (v_a1_c : Int32) (v_a1_d : Int32) (v_a1_odds : Int32) (v_a1_lines : Int32) (h_a1_signs : Nat) (v_a1_signCount : Int32) (h_a1_posts : Nat) (v_a1_postCount : Int32) (h_a1_acts : Nat) (f_a1_signs : Nat → Int32) (v2 : Int32) (iv_a1_signCount : 0 ≤ v_a1_signCount.toInt ∧ v_a1_signCount.toInt ≤ 8) (iv_a1_postCount : 0 ≤ v_a1_postCount.toInt ∧ v_a1_postCount.toInt ≤ 5) : Met l yX10_countMissingAhead (Cond.code yX10_countMissingAhead cX10_countMissingAhead 11 none :: wsL_law) ({ frames := 3, cells := 0, slots := 0, locals := 70 }) (wrP G D (tyL cB cI cJ cZ cS cT) [(h0, .inr (10, [.ref h_spent, .ref h_spentNext, .ref h_missing])), (h_missing, .inl (cI, 3321, .inl f_missing)), (h_a1, .inr (8, [.int v_a1_tones, .int v_a1_a, .int v_a1_b, .int v_a1_c, .int v_a1_d, .int v_a1_odds, .int v_a1_lines, .ref h_a1_signs, .int v_a1_signCount, .ref h_a1_posts, .int v_a1_postCount, .ref h_a1_acts])), (h_a1_signs, .inl (cI, 8, .inl f_a1_signs))] sz [.ref h0, .ref h_a1, .int v2]) (va_Qv (fun x : (Nat → Int32) => True) (atW D (tyL cB cI cJ cZ cS cT) (va_A [(h0, .inr (10, [.ref h_spent, .ref h_spentNext, .ref h_missing])), (h_missing, .inl (cI, 3321, .inl f_missing)), (h_a1, .inr (8, [.int v_a1_tones, .int v_a1_a, .int v_a1_b, .int v_a1_c, .int v_a1_d, .int v_a1_odds, .int v_a1_lines, .ref h_a1_signs, .int v_a1_signCount, .ref h_a1_posts, .int v_a1_postCount, .ref h_a1_acts])), (h_a1_signs, .inl (cI, 8, .inl f_a1_signs))] sz) (fun x : (Nat → Int32) => [(h0, .inr (10, [.ref h_spent, .ref h_spentNext, .ref h_missing])), (h_missing, .inl (cI, 3321, .inl x)), (h_a1, .inr (8, [.int v_a1_tones, .int v_a1_a, .int v_a1_b, .int v_a1_c, .int v_a1_d, .int v_a1_odds, .int v_a1_lines, .ref h_a1_signs, .int v_a1_signCount, .ref h_a1_posts, .int v_a1_postCount, .ref h_a1_acts])), (h_a1_signs, .inl (cI, 8, .inl f_a1_signs))])) (va_A [(h0, .inr (10, [.ref h_spent, .ref h_spentNext, .ref h_missing])), (h_missing, .inl (cI, 3321, .inl f_missing)), (h_a1, .inr (8, [.int v_a1_tones, .int v_a1_a, .int v_a1_b, .int v_a1_c, .int v_a1_d, .int v_a1_odds, .int v_a1_lines, .ref h_a1_signs, .int v_a1_signCount, .ref h_a1_posts, .int v_a1_postCount, .ref h_a1_acts])), (h_a1_signs, .inl (cI, 8, .inl f_a1_signs))] sz)) 0 0 (va_A [(h0, .inr (10, [.ref h_spent, .ref h_spentNext, .ref h_missing])), (h_missing, .inl (cI, 3321, .inl f_missing)), (h_a1, .inr (8, [.int v_a1_tones, .int v_a1_a, .int v_a1_b, .int v_a1_c, .int v_a1_d, .int v_a1_odds, .int v_a1_lines, .ref h_a1_signs, .int v_a1_signCount, .ref h_a1_posts, .int v_a1_postCount, .ref h_a1_acts])), (h_a1_signs, .inl (cI, 8, .inl f_a1_signs))] sz) := by
  refine metV (own := RX10) (by decide) rfl ?_
  intro p e s m below meth c Q hsz C hG hP hD hAB ret
  obtain ⟨hx, hb, hml, hown, hts, hK, hN, hT⟩ := id C
  subst hsz
  generalize hAe : va_A [(h0, .inr (10, [.ref h_spent, .ref h_spentNext, .ref h_missing])), (h_missing, .inl (cI, 3321, .inl f_missing)), (h_a1, .inr (8, [.int v_a1_tones, .int v_a1_a, .int v_a1_b, .int v_a1_c, .int v_a1_d, .int v_a1_odds, .int v_a1_lines, .ref h_a1_signs, .int v_a1_signCount, .ref h_a1_posts, .int v_a1_postCount, .ref h_a1_acts])), (h_a1_signs, .inl (cI, 8, .inl f_a1_signs))] s.heap.size = A at hD hAB ret ⊢
  have hA : ∀ q : Nat, s.heap.size ≤ q → A q := fun q h => by rw [← hAe]; exact Or.inr h
  have hS : va_S A s.heap s.heap [] := va_S.rf
  have hl := lv_entry ([.ref h0, .ref h_a1, .int v2]) (n := 11) (Nat.le_of_ble_eq_true rfl)
  rw [lg_entry_eq]
  generalize (lg_sl ([.ref h0, .ref h_a1, .int v2]) ++ List.replicate (11 - (lg_sl ([.ref h0, .ref h_a1, .int v2])).length) Slot.unset).toArray = ls at hl ⊢
  have hl : lv_has ls 11 [(0, .ref h0), (1, .ref h_a1), (2, .int v2)] := hl
  have hP : va_P D vwCl [(h0, .inr (10, [.ref h_spent, .ref h_spentNext, .ref h_missing])), (h_missing, .inl (cI, 3321, .inl f_missing)), (h_a1, .inr (8, [.int v_a1_tones, .int v_a1_a, .int v_a1_b, .int v_a1_c, .int v_a1_d, .int v_a1_odds, .int v_a1_lines, .ref h_a1_signs, .int v_a1_signCount, .ref h_a1_posts, .int v_a1_postCount, .ref h_a1_acts])), (h_a1_signs, .inl (cI, 8, .inl f_a1_signs))] s.heap := hP
  refine lv_aload_n hx hb dX10_countMissingAhead_0 rfl (lv_at hl 1 rfl) ?_
  refine lv_iload_n hx hb dX10_countMissingAhead_1 rfl (lv_at hl 2 rfl) ?_
  refine roi (As := [.int v2]) (rest := []) ⟨hx, hb, hml, hown, hts⟩ (b_X8_isGap l G D cB cI cJ cZ cS cT h_a1 v_a1_tones v_a1_a v_a1_b v_a1_c v_a1_d v_a1_odds v_a1_lines h_a1_signs v_a1_signCount h_a1_posts v_a1_postCount h_a1_acts f_a1_signs v2 (by first | assumption | omega | decide) (by first | assumption | omega | decide)) (cvB (n := 1) (inr41 _ (List.mem_of_getElem? (i := 17) rfl)) (inr23 _ (List.mem_of_getElem? (i := 12) rfl)) (inr23 _ (List.mem_of_getElem? (i := 13) rfl)) (inr1 _ (List.mem_of_getElem? (i := 23) rfl)) (inr23 _ (List.mem_of_getElem? (i := 14) rfl)) (by decide +kernel) hts rfl rfl ⟨Nat.le_of_ble_eq_true rfl, Nat.le_of_ble_eq_true rfl⟩) 0 8 rfl rfl rfl (hP.sub [2, 3] rfl) hK hN (kT.to hT hS hAB) rfl hl.1 rfl (Nat.le_of_ble_eq_true rfl) ⟨Nat.le_of_ble_eq_true rfl, Nat.le_of_ble_eq_true rfl⟩ dX10_countMissingAhead_2 (fun r_1 h_2 => ?_)
  have h_2 : (r_1 = 0 ∨ r_1 = 1) := h_2
  have i_3 := h_2
  have ar_1 : 0 ≤ r_1.toInt ∧ r_1.toInt ≤ 1 := by rcases i_3 with h | h <;> rw [h] <;> decide
  refine lv_istore_n (lv' := [(3, .int r_1), (0, .ref h0), (1, .ref h_a1), (2, .int v2)]) hx hb dX10_countMissingAhead_5 rfl hl (by decide) rfl (fun ls hl => ?_)
  refine lv_iload_n hx hb dX10_countMissingAhead_6 rfl (lv_at hl 3 rfl) ?_
  refine rosi (As := [.int v2]) (rest := []) ⟨hx, hb, hml, hown, hts⟩ (b_X10_missingAt l G D cB cI cJ cZ cS cT v2 ) (csB (n := 1) (inr49 _ (List.mem_of_getElem? (i := 4) rfl)) (inr49 _ (List.mem_of_getElem? (i := 5) rfl)) (inr2 _ (List.mem_of_getElem? (i := 20) rfl)) (inr49 _ (List.mem_of_getElem? (i := 6) rfl)) (by decide +kernel) hts rfl rfl ⟨Nat.le_of_ble_eq_true rfl, Nat.le_of_ble_eq_true rfl⟩) (hP.sub [] rfl) hK hN (kT.to hT hS hAB) rfl hl.1 rfl (Nat.le_of_ble_eq_true rfl) ⟨Nat.le_of_ble_eq_true rfl, Nat.le_of_ble_eq_true rfl⟩ dX10_countMissingAhead_7 (fun r_4 h_5 => ?_)
  have h_5 : (0 ≤ r_4.toInt ∧ r_4.toInt ≤ 3240) := h_5
  have i_6 := h_5
  refine lv_istore (lv' := [(4, .int r_4), (3, .int r_1), (0, .ref h0), (1, .ref h_a1), (2, .int v2)]) hx hb dX10_countMissingAhead_10 hl (by decide) rfl (fun ls hl => ?_)
  refine lv_iload_n hx hb dX10_countMissingAhead_12 rfl (lv_at hl 4 rfl) ?_
  refine lv_iconst (v := 1) hx hb dX10_countMissingAhead_13 (by decide) ?_
  obtain ⟨t_7, et_7⟩ : ∃ v9 : Int32, v2 + 1 = v9 := ⟨_, rfl⟩
  refine z_iadd (v := t_7) hx hb dX10_countMissingAhead_14 et_7 ?_
  refine rosi (As := [.int t_7]) (rest := []) ⟨hx, hb, hml, hown, hts⟩ (b_X10_missingAt l G D cB cI cJ cZ cS cT t_7 ) (csB (n := 1) (inr49 _ (List.mem_of_getElem? (i := 4) rfl)) (inr49 _ (List.mem_of_getElem? (i := 5) rfl)) (inr2 _ (List.mem_of_getElem? (i := 20) rfl)) (inr49 _ (List.mem_of_getElem? (i := 6) rfl)) (by decide +kernel) hts rfl rfl ⟨Nat.le_of_ble_eq_true rfl, Nat.le_of_ble_eq_true rfl⟩) (hP.sub [] rfl) hK hN (kT.to hT hS hAB) rfl hl.1 rfl (Nat.le_of_ble_eq_true rfl) ⟨Nat.le_of_ble_eq_true rfl, Nat.le_of_ble_eq_true rfl⟩ dX10_countMissingAhead_15 (fun r_8 h_9 => ?_)
  have h_9 : (0 ≤ r_8.toInt ∧ r_8.toInt ≤ 3240) := h_9
  have i_10 := h_9
  refine lv_istore (lv' := [(5, .int r_8), (4, .int r_4), (3, .int r_1), (0, .ref h0), (1, .ref h_a1), (2, .int v2)]) hx hb dX10_countMissingAhead_18 hl (by decide) rfl (fun ls hl => ?_)
  refine lv_iconst (v := 0) hx hb dX10_countMissingAhead_20 (by decide) ?_
  refine lv_istore (lv' := [(6, .int 0), (5, .int r_8), (4, .int r_4), (3, .int r_1), (0, .ref h0), (1, .ref h_a1), (2, .int v2)]) hx hb dX10_countMissingAhead_21 hl (by decide) rfl (fun ls hl => ?_)
  exact b_X10_countMissingAhead_l23 h0 h_spent h_spentNext h_missing h_a1 v_a1_tones v_a1_a v_a1_b v_a1_c v_a1_d v_a1_odds v_a1_lines h_a1_signs v_a1_signCount h_a1_posts v_a1_postCount h_a1_acts f_a1_signs v2 r_8 r_4 r_1 (by first | assumption | omega | decide) (by first | assumption | omega | decide) (by first | assumption | omega | decide) (by first | assumption | omega | decide) (by first | assumption | omega | decide) C hG hAB hA ret _ (f_missing) (0) _ _ _ (by first | assumption | omega | decide) (Nat.lt_succ_self _) (hP.sub [0, 1, 2, 3] rfl) (hD.sub [0, 1, 2, 3] (by decide) rfl) hS (lv_sub hl [0, 1, 2, 3, 4, 5, 6] rfl)

set_option maxHeartbeats 4000000 in
set_option maxRecDepth 100000 in
theorem b_X10_countMissing_l100 {p : Program} {l : Launch} {e : Env} {s : State} {m : MethodId} {args : Array Value} {below : List Frame} {meth : Method} {c : Code} {Q : State → Prop} {G : Gho} {D : va_G} {cB cI cJ cZ cS cT : ClassId} {A : Nat → Prop} (h0 : Nat) (h_spent : Nat) (h_spentNext : Nat) (h_missing : Nat) (h_a1 : Nat) (v_a1_tones : Int32) (v_a1_a : Int32) (v_a1_b : Int32) (v_a1_c : Int32) (v_a1_d : Int32) (v_a1_odds : Int32) (v_a1_lines : Int32) (h_a1_signs : Nat) (v_a1_signCount : Int32) (h_a1_posts : Nat) (v_a1_postCount : Int32) (h_a1_acts : Nat) (f_a1_signs : Nat → Int32) (v2 : Int32) (v3 : Int32) (g13_missing : Nat → Int32) (l13_4 : Int32) (N_13 : Nat) (iv_a1_signCount : 0 ≤ v_a1_signCount.toInt ∧ v_a1_signCount.toInt ≤ 8) (iv_a1_postCount : 0 ≤ v_a1_postCount.toInt ∧ v_a1_postCount.toInt ≤ 5) (kl13_4 : 0 ≤ l13_4.toInt) (c_8 : v_a1_tones.toInt ≤ l13_4.toInt) (ih_13 : ∀ (g13_missing : Nat → Int32) (l13_4 : Int32) (H : Heap) (locs : List Loc) (ls : Array Slot), 0 ≤ l13_4.toInt → (v_a1_tones.toInt - l13_4.toInt).toNat < N_13 → va_P D vwCl [(h0, .inr (10, [.ref h_spent, .ref h_spentNext, .ref h_missing])), (h_missing, .inl (cI, 3321, .inl g13_missing)), (h_a1, .inr (8, [.int v_a1_tones, .int v_a1_a, .int v_a1_b, .int v_a1_c, .int v_a1_d, .int v_a1_odds, .int v_a1_lines, .ref h_a1_signs, .int v_a1_signCount, .ref h_a1_posts, .int v_a1_postCount, .ref h_a1_acts])), (h_a1_signs, .inl (cI, 8, .inl f_a1_signs))] H → va_D A [(h0, .inr (10, [.ref h_spent, .ref h_spentNext, .ref h_missing])), (h_missing, .inl (cI, 3321, .inl g13_missing)), (h_a1, .inr (8, [.int v_a1_tones, .int v_a1_a, .int v_a1_b, .int v_a1_c, .int v_a1_d, .int v_a1_odds, .int v_a1_lines, .ref h_a1_signs, .int v_a1_signCount, .ref h_a1_posts, .int v_a1_postCount, .ref h_a1_acts])), (h_a1_signs, .inl (cI, 8, .inl f_a1_signs))] → va_S A s.heap H locs → lv_has ls 7 [(4, .int l13_4), (0, .ref h0), (1, .ref h_a1), (2, .int v2), (3, .int v3)] → W p l e ({ frames := 4, cells := 0, slots := 0, locals := 100 }) s m args below meth c H locs 0 0 Q (F0 m 13 ls [])) (hM_13 : (v_a1_tones.toInt - l13_4.toInt).toNat < N_13 + 1) (C : Cx p s m args c RX10 cX10_countMissing 7 G D (tyL cB cI cJ cZ cS cT)) (hG : G.1 ≤ s.heap.size) (hAB : ∀ q, A q → G.1 ≤ q) (hA : ∀ q : Nat, s.heap.size ≤ q → A q) (ret : RetV p l e ({ frames := 4, cells := 0, slots := 0, locals := 100 }) s m args below meth c cX10_countMissing D A (fun x : (Nat → Int32) => [(h0, .inr (10, [.ref h_spent, .ref h_spentNext, .ref h_missing])), (h_missing, .inl (cI, 3321, .inl x)), (h_a1, .inr (8, [.int v_a1_tones, .int v_a1_a, .int v_a1_b, .int v_a1_c, .int v_a1_d, .int v_a1_odds, .int v_a1_lines, .ref h_a1_signs, .int v_a1_signCount, .ref h_a1_posts, .int v_a1_postCount, .ref h_a1_acts])), (h_a1_signs, .inl (cI, 8, .inl f_a1_signs))]) (fun x : (Nat → Int32) => True) Q) :
    ∀ (N : Nat) (g100_missing : Nat → Int32) (l100_4 : Int32) (H : Heap) (locs : List Loc) (ls : Array Slot), (l100_4.toInt - 0 + 1).toNat < N → va_P D vwCl [(h0, .inr (10, [.ref h_spent, .ref h_spentNext, .ref h_missing])), (h_missing, .inl (cI, 3321, .inl g100_missing)), (h_a1, .inr (8, [.int v_a1_tones, .int v_a1_a, .int v_a1_b, .int v_a1_c, .int v_a1_d, .int v_a1_odds, .int v_a1_lines, .ref h_a1_signs, .int v_a1_signCount, .ref h_a1_posts, .int v_a1_postCount, .ref h_a1_acts])), (h_a1_signs, .inl (cI, 8, .inl f_a1_signs))] H → va_D A [(h0, .inr (10, [.ref h_spent, .ref h_spentNext, .ref h_missing])), (h_missing, .inl (cI, 3321, .inl g100_missing)), (h_a1, .inr (8, [.int v_a1_tones, .int v_a1_a, .int v_a1_b, .int v_a1_c, .int v_a1_d, .int v_a1_odds, .int v_a1_lines, .ref h_a1_signs, .int v_a1_signCount, .ref h_a1_posts, .int v_a1_postCount, .ref h_a1_acts])), (h_a1_signs, .inl (cI, 8, .inl f_a1_signs))] → va_S A s.heap H locs → lv_has ls 7 [(4, .int l100_4), (0, .ref h0), (1, .ref h_a1)] → W p l e ({ frames := 4, cells := 0, slots := 0, locals := 100 }) s m args below meth c H locs 0 0 Q (F0 m 100 ls []) := by
  obtain ⟨hx, hb, hml, hown, hts, hK, hN, hT⟩ := id C
  intro N
  induction N with
  | zero =>
    intro g100_missing l100_4 H locs ls  hM_100 hP hD hS hl
    omega
  | succ N_100 ih_100 =>
    intro g100_missing l100_4 H locs ls  hM_100 hP hD hS hl
    have b_l100_4 := i32b l100_4
    refine lv_iload hx hb dX10_countMissing_100 (lv_at hl 0 rfl) ?_
    refine lv_if_lt (tgt := 118) hx hb dX10_countMissing_102 (by decide) (fun c_10 => ?_) (fun c_10 => ?_)
    · have c_10 : l100_4.toInt < 0 := ci_lt_t c_10
      exact ret _ _ _ _ g100_missing dX10_countMissing_118 trivial (hP.sub [0, 1, 2, 3] rfl) (hD.sub [0, 1, 2, 3] (by decide) rfl) hS
    · have c_10 : 0 ≤ l100_4.toInt := ci_lt_f c_10
      refine lv_aload_n hx hb dX10_countMissing_105 rfl (lv_at hl 1 rfl) ?_
      refine lv_aload_n hx hb dX10_countMissing_106 rfl (lv_at hl 2 rfl) ?_
      refine lv_iload hx hb dX10_countMissing_107 (lv_at hl 0 rfl) ?_
      refine wrVv (As := [.ref h_a1, .int l100_4]) (rest := []) (wr := []) ⟨hx, hb, hml, hown, hts⟩ (b_X10_countMissingAhead l G D cB cI cJ cZ cS cT H.size h0 h_spent h_spentNext h_missing g100_missing h_a1 v_a1_tones v_a1_a v_a1_b v_a1_c v_a1_d v_a1_odds v_a1_lines h_a1_signs v_a1_signCount h_a1_posts v_a1_postCount h_a1_acts f_a1_signs l100_4 (by first | assumption | omega | decide) (by first | assumption | omega | decide)) hP hD hS hA hK hN hT hAB hG [0, 1, 2, 3] [] rfl rfl (by decide) (by decide) (by decide) (cvB (n := 2) (inr49 _ (List.mem_of_getElem? (i := 8) rfl)) (inr49 _ (List.mem_of_getElem? (i := 9) rfl)) (inr49 _ (List.mem_of_getElem? (i := 10) rfl)) (inr2 _ (List.mem_of_getElem? (i := 20) rfl)) (inr49 _ (List.mem_of_getElem? (i := 11) rfl)) (by decide +kernel) hts rfl rfl ⟨Nat.le_of_ble_eq_true rfl, Nat.le_of_ble_eq_true rfl⟩) 0 10 rfl rfl rfl rfl hl.1 rfl (Nat.le_of_ble_eq_true rfl) ⟨Nat.le_of_ble_eq_true rfl, Nat.le_of_ble_eq_true rfl⟩ dX10_countMissing_109 (fun x9 H locs h_12 hP hD hS => ?_)
      obtain ⟨g_13, rfl⟩ : ∃ z, z = x9 := ⟨_, rfl⟩
      have hP : va_P D vwCl [(h0, .inr (10, [.ref h_spent, .ref h_spentNext, .ref h_missing])), (h_missing, .inl (cI, 3321, .inl g_13)), (h_a1, .inr (8, [.int v_a1_tones, .int v_a1_a, .int v_a1_b, .int v_a1_c, .int v_a1_d, .int v_a1_odds, .int v_a1_lines, .ref h_a1_signs, .int v_a1_signCount, .ref h_a1_posts, .int v_a1_postCount, .ref h_a1_acts])), (h_a1_signs, .inl (cI, 8, .inl f_a1_signs))] H := hP
      have hD : va_D A [(h0, .inr (10, [.ref h_spent, .ref h_spentNext, .ref h_missing])), (h_missing, .inl (cI, 3321, .inl g_13)), (h_a1, .inr (8, [.int v_a1_tones, .int v_a1_a, .int v_a1_b, .int v_a1_c, .int v_a1_d, .int v_a1_odds, .int v_a1_lines, .ref h_a1_signs, .int v_a1_signCount, .ref h_a1_posts, .int v_a1_postCount, .ref h_a1_acts])), (h_a1_signs, .inl (cI, 8, .inl f_a1_signs))] := hD
      obtain ⟨t_14, et_14⟩ : ∃ v9 : Int32, l100_4 + (-1) = v9 := ⟨_, rfl⟩
      have ft_14 : t_14.toInt = l100_4.toInt + (-1) := addT (a := l100_4.toInt) (b := (-1)) rfl (by decide) et_14 (by omega) (by omega)
      refine lv_iinc (v := t_14) (lv' := [(4, .int t_14), (0, .ref h0), (1, .ref h_a1)]) hx hb dX10_countMissing_112 hl (k := 0) rfl (by rw [← et_14]; rfl) (by decide) rfl (fun ls hl => ?_)
      refine lv_goto (tgt := 100) hx hb dX10_countMissing_115 (by decide) ?_
      exact ih_100 (g_13) (t_14) _ _ _  (by omega) (hP.sub [0, 1, 2, 3] rfl) (hD.sub [0, 1, 2, 3] (by decide) rfl) hS (lv_sub hl [0, 1, 2] rfl)

set_option maxHeartbeats 4000000 in
set_option maxRecDepth 100000 in
theorem b_X10_countMissing_l25 {p : Program} {l : Launch} {e : Env} {s : State} {m : MethodId} {args : Array Value} {below : List Frame} {meth : Method} {c : Code} {Q : State → Prop} {G : Gho} {D : va_G} {cB cI cJ cZ cS cT : ClassId} {A : Nat → Prop} (h0 : Nat) (h_spent : Nat) (h_spentNext : Nat) (h_missing : Nat) (h_a1 : Nat) (v_a1_tones : Int32) (v_a1_a : Int32) (v_a1_b : Int32) (v_a1_c : Int32) (v_a1_d : Int32) (v_a1_odds : Int32) (v_a1_lines : Int32) (h_a1_signs : Nat) (v_a1_signCount : Int32) (h_a1_posts : Nat) (v_a1_postCount : Int32) (h_a1_acts : Nat) (f_a1_signs : Nat → Int32) (v2 : Int32) (v3 : Int32) (l13_4 : Int32) (g13_missing : Nat → Int32) (N_13 : Nat) (iv_a1_signCount : 0 ≤ v_a1_signCount.toInt ∧ v_a1_signCount.toInt ≤ 8) (iv_a1_postCount : 0 ≤ v_a1_postCount.toInt ∧ v_a1_postCount.toInt ≤ 5) (zv_a1_tones : 1 ≤ v_a1_tones.toInt ∧ v_a1_tones.toInt ≤ 2147483647) (zl13_4 : 0 ≤ l13_4.toInt ∧ l13_4.toInt ≤ 2147483646) (kl13_4 : 0 ≤ l13_4.toInt) (c_8 : l13_4.toInt < v_a1_tones.toInt) (ih_13 : ∀ (g13_missing : Nat → Int32) (l13_4 : Int32) (H : Heap) (locs : List Loc) (ls : Array Slot), 0 ≤ l13_4.toInt → (v_a1_tones.toInt - l13_4.toInt).toNat < N_13 → va_P D vwCl [(h0, .inr (10, [.ref h_spent, .ref h_spentNext, .ref h_missing])), (h_missing, .inl (cI, 3321, .inl g13_missing)), (h_a1, .inr (8, [.int v_a1_tones, .int v_a1_a, .int v_a1_b, .int v_a1_c, .int v_a1_d, .int v_a1_odds, .int v_a1_lines, .ref h_a1_signs, .int v_a1_signCount, .ref h_a1_posts, .int v_a1_postCount, .ref h_a1_acts])), (h_a1_signs, .inl (cI, 8, .inl f_a1_signs))] H → va_D A [(h0, .inr (10, [.ref h_spent, .ref h_spentNext, .ref h_missing])), (h_missing, .inl (cI, 3321, .inl g13_missing)), (h_a1, .inr (8, [.int v_a1_tones, .int v_a1_a, .int v_a1_b, .int v_a1_c, .int v_a1_d, .int v_a1_odds, .int v_a1_lines, .ref h_a1_signs, .int v_a1_signCount, .ref h_a1_posts, .int v_a1_postCount, .ref h_a1_acts])), (h_a1_signs, .inl (cI, 8, .inl f_a1_signs))] → va_S A s.heap H locs → lv_has ls 7 [(4, .int l13_4), (0, .ref h0), (1, .ref h_a1), (2, .int v2), (3, .int v3)] → W p l e ({ frames := 4, cells := 0, slots := 0, locals := 100 }) s m args below meth c H locs 0 0 Q (F0 m 13 ls [])) (hM_13 : (v_a1_tones.toInt - l13_4.toInt).toNat < N_13 + 1) (C : Cx p s m args c RX10 cX10_countMissing 7 G D (tyL cB cI cJ cZ cS cT)) (hG : G.1 ≤ s.heap.size) (hAB : ∀ q, A q → G.1 ≤ q) (hA : ∀ q : Nat, s.heap.size ≤ q → A q) (ret : RetV p l e ({ frames := 4, cells := 0, slots := 0, locals := 100 }) s m args below meth c cX10_countMissing D A (fun x : (Nat → Int32) => [(h0, .inr (10, [.ref h_spent, .ref h_spentNext, .ref h_missing])), (h_missing, .inl (cI, 3321, .inl x)), (h_a1, .inr (8, [.int v_a1_tones, .int v_a1_a, .int v_a1_b, .int v_a1_c, .int v_a1_d, .int v_a1_odds, .int v_a1_lines, .ref h_a1_signs, .int v_a1_signCount, .ref h_a1_posts, .int v_a1_postCount, .ref h_a1_acts])), (h_a1_signs, .inl (cI, 8, .inl f_a1_signs))]) (fun x : (Nat → Int32) => True) Q) :
    ∀ (N : Nat) (g25_missing : Nat → Int32) (l25_5 : Int32) (H : Heap) (locs : List Loc) (ls : Array Slot), 0 ≤ l25_5.toInt → (v_a1_tones.toInt - l25_5.toInt).toNat < N → va_P D vwCl [(h0, .inr (10, [.ref h_spent, .ref h_spentNext, .ref h_missing])), (h_missing, .inl (cI, 3321, .inl g25_missing)), (h_a1, .inr (8, [.int v_a1_tones, .int v_a1_a, .int v_a1_b, .int v_a1_c, .int v_a1_d, .int v_a1_odds, .int v_a1_lines, .ref h_a1_signs, .int v_a1_signCount, .ref h_a1_posts, .int v_a1_postCount, .ref h_a1_acts])), (h_a1_signs, .inl (cI, 8, .inl f_a1_signs))] H → va_D A [(h0, .inr (10, [.ref h_spent, .ref h_spentNext, .ref h_missing])), (h_missing, .inl (cI, 3321, .inl g25_missing)), (h_a1, .inr (8, [.int v_a1_tones, .int v_a1_a, .int v_a1_b, .int v_a1_c, .int v_a1_d, .int v_a1_odds, .int v_a1_lines, .ref h_a1_signs, .int v_a1_signCount, .ref h_a1_posts, .int v_a1_postCount, .ref h_a1_acts])), (h_a1_signs, .inl (cI, 8, .inl f_a1_signs))] → va_S A s.heap H locs → lv_has ls 7 [(5, .int l25_5), (4, .int l13_4), (0, .ref h0), (1, .ref h_a1), (2, .int v2), (3, .int v3)] → W p l e ({ frames := 4, cells := 0, slots := 0, locals := 100 }) s m args below meth c H locs 0 0 Q (F0 m 25 ls []) := by
  obtain ⟨hx, hb, hml, hown, hts, hK, hN, hT⟩ := id C
  intro N
  induction N with
  | zero =>
    intro g25_missing l25_5 H locs ls kl25_5 hM_25 hP hD hS hl
    omega
  | succ N_25 ih_25 =>
    intro g25_missing l25_5 H locs ls kl25_5 hM_25 hP hD hS hl
    have b_l25_5 := i32b l25_5
    refine lv_iload hx hb dX10_countMissing_25 (lv_at hl 0 rfl) ?_
    refine lv_aload_n hx hb dX10_countMissing_27 rfl (lv_at hl 3 rfl) ?_
    refine roi (As := []) (rest := [.int l25_5]) ⟨hx, hb, hml, hown, hts⟩ (b_X8_tones l G D cB cI cJ cZ cS cT h_a1 v_a1_tones v_a1_a v_a1_b v_a1_c v_a1_d v_a1_odds v_a1_lines h_a1_signs v_a1_signCount h_a1_posts v_a1_postCount h_a1_acts (by first | assumption | omega | decide) (by first | assumption | omega | decide)) (cvB (n := 0) (inr41 _ (List.mem_of_getElem? (i := 18) rfl)) (inr15 _ (List.mem_of_getElem? (i := 14) rfl)) (inr15 _ (List.mem_of_getElem? (i := 15) rfl)) (inr1 _ (List.mem_of_getElem? (i := 23) rfl)) (inr15 _ (List.mem_of_getElem? (i := 16) rfl)) (by decide +kernel) hts rfl rfl ⟨Nat.le_of_ble_eq_true rfl, Nat.le_of_ble_eq_true rfl⟩) 0 8 rfl rfl rfl (hP.sub [2] rfl) hK hN (kT.to hT hS hAB) rfl hl.1 rfl (Nat.le_of_ble_eq_true rfl) ⟨Nat.le_of_ble_eq_true rfl, Nat.le_of_ble_eq_true rfl⟩ dX10_countMissing_28 (fun r_10 h_11 => ?_)
    have h_11 : (r_10 = v_a1_tones) := h_11
    have i_12 := h_11
    obtain rfl := i_12.symm
    refine lv_icmp_ge (tgt := 89) hx hb dX10_countMissing_31 (by decide) (fun c_13 => ?_) (fun c_13 => ?_)
    · have c_13 : v_a1_tones.toInt ≤ l25_5.toInt := ci_ge_t c_13
      have b_v_a1_tones := i32b v_a1_tones
      obtain ⟨t_14, et_14⟩ : ∃ v9 : Int32, l13_4 + 1 = v9 := ⟨_, rfl⟩
      have b_l13_4 := i32b l13_4
      have ft_14 : t_14.toInt = l13_4.toInt + 1 := addT (a := l13_4.toInt) (b := 1) rfl (by decide) et_14 (by omega) (by omega)
      refine lv_iinc (v := t_14) (lv' := [(4, .int t_14), (5, .int l25_5), (0, .ref h0), (1, .ref h_a1), (2, .int v2), (3, .int v3)]) hx hb dX10_countMissing_89 hl (k := 1) rfl (by rw [← et_14]; rfl) (by decide) rfl (fun ls hl => ?_)
      refine lv_goto (tgt := 13) hx hb dX10_countMissing_92 (by decide) ?_
      exact ih_13 (g25_missing) (t_14) _ _ _ (by first | assumption | omega | decide) (by omega) (hP.sub [0, 1, 2, 3] rfl) (hD.sub [0, 1, 2, 3] (by decide) rfl) hS (lv_sub hl [0, 2, 3, 4, 5] rfl)
    · have c_13 : l25_5.toInt < v_a1_tones.toInt := ci_ge_f c_13
      have b_v_a1_tones := i32b v_a1_tones
      refine lv_aload_n hx hb dX10_countMissing_34 rfl (lv_at hl 3 rfl) ?_
      refine lv_iload_n hx hb dX10_countMissing_35 rfl (lv_at hl 4 rfl) ?_
      refine lv_iload hx hb dX10_countMissing_36 (lv_at hl 1 rfl) ?_
      refine lv_iload hx hb dX10_countMissing_38 (lv_at hl 0 rfl) ?_
      refine roi (As := [.int v2, .int l13_4, .int l25_5]) (rest := []) ⟨hx, hb, hml, hown, hts⟩ (b_X8_ownTone l G D cB cI cJ cZ cS cT h_a1 v_a1_tones v_a1_a v_a1_b v_a1_c v_a1_d v_a1_odds v_a1_lines h_a1_signs v_a1_signCount h_a1_posts v_a1_postCount h_a1_acts f_a1_signs v2 l13_4 l25_5 (by first | assumption | omega | decide) (by first | assumption | omega | decide)) (cvB (n := 3) (inr42 _ (List.mem_of_getElem? (i := 4) rfl)) (inr23 _ (List.mem_of_getElem? (i := 8) rfl)) (inr23 _ (List.mem_of_getElem? (i := 9) rfl)) (inr1 _ (List.mem_of_getElem? (i := 23) rfl)) (inr23 _ (List.mem_of_getElem? (i := 10) rfl)) (by decide +kernel) hts rfl rfl ⟨Nat.le_of_ble_eq_true rfl, Nat.le_of_ble_eq_true rfl⟩) 0 8 rfl rfl rfl (hP.sub [2, 3] rfl) hK hN (kT.to hT hS hAB) rfl hl.1 rfl (Nat.le_of_ble_eq_true rfl) ⟨Nat.le_of_ble_eq_true rfl, Nat.le_of_ble_eq_true rfl⟩ dX10_countMissing_40 (fun r_15 h_16 => ?_)
      refine lv_iload_n hx hb dX10_countMissing_43 rfl (lv_at hl 5 rfl) ?_
      refine lv_icmp_ne (tgt := 51) hx hb dX10_countMissing_44 (by decide) (fun c_17 => ?_) (fun c_17 => ?_)
      · have c_17 : ¬ r_15.toInt = v3.toInt := ci_ne_t c_17
        have b_r_15 := i32b r_15
        have b_v3 := i32b v3
        refine lv_iconst (v := 0) hx hb dX10_countMissing_51 (by decide) ?_
        refine lv_istore (lv' := [(6, .int 0), (5, .int l25_5), (4, .int l13_4), (0, .ref h0), (1, .ref h_a1), (2, .int v2), (3, .int v3)]) hx hb dX10_countMissing_52 hl (by decide) rfl (fun ls hl => ?_)
        refine lv_aload_n hx hb dX10_countMissing_54 rfl (lv_at hl 3 rfl) ?_
        refine va_get (D := D) (ci := 10) (v := .ref h_missing) (C := RX10) (T := TX10) (N := 3) hx hb hts inlX10 hown hK hP 0 rfl rfl 2 (by decide) (hts _ (inr5 _ (List.mem_of_getElem? (i := 19) rfl))) (fun _ h9 => h9) rfl dX10_countMissing_55 ?_
        refine lv_iload_n hx hb dX10_countMissing_58 rfl (lv_at hl 5 rfl) ?_
        refine rosi (As := [.int v2]) (rest := [.ref h_missing]) ⟨hx, hb, hml, hown, hts⟩ (b_X10_missingAt l G D cB cI cJ cZ cS cT v2 ) (csB (n := 1) (inr49 _ (List.mem_of_getElem? (i := 4) rfl)) (inr49 _ (List.mem_of_getElem? (i := 5) rfl)) (inr2 _ (List.mem_of_getElem? (i := 20) rfl)) (inr49 _ (List.mem_of_getElem? (i := 6) rfl)) (by decide +kernel) hts rfl rfl ⟨Nat.le_of_ble_eq_true rfl, Nat.le_of_ble_eq_true rfl⟩) (hP.sub [] rfl) hK hN (kT.to hT hS hAB) rfl hl.1 rfl (Nat.le_of_ble_eq_true rfl) ⟨Nat.le_of_ble_eq_true rfl, Nat.le_of_ble_eq_true rfl⟩ dX10_countMissing_59 (fun r_18 h_19 => ?_)
        have h_19 : (0 ≤ r_18.toInt ∧ r_18.toInt ≤ 3240) := h_19
        have i_20 := h_19
        refine lv_iload hx hb dX10_countMissing_62 (lv_at hl 2 rfl) ?_
        refine lv_iload hx hb dX10_countMissing_64 (lv_at hl 1 rfl) ?_
        refine rosi (As := [.int l13_4, .int l25_5]) (rest := [.int r_18, .ref h_missing]) ⟨hx, hb, hml, hown, hts⟩ (b_X10_state l G D cB cI cJ cZ cS cT l13_4 l25_5 ) (csB (n := 2) (inr41 _ (List.mem_of_getElem? (i := 9) rfl)) (inr41 _ (List.mem_of_getElem? (i := 10) rfl)) (inr2 _ (List.mem_of_getElem? (i := 20) rfl)) (inr41 _ (List.mem_of_getElem? (i := 11) rfl)) (by decide +kernel) hts rfl rfl ⟨Nat.le_of_ble_eq_true rfl, Nat.le_of_ble_eq_true rfl⟩) (hP.sub [] rfl) hK hN (kT.to hT hS hAB) rfl hl.1 rfl (Nat.le_of_ble_eq_true rfl) ⟨Nat.le_of_ble_eq_true rfl, Nat.le_of_ble_eq_true rfl⟩ dX10_countMissing_66 (fun r_21 h_22 => ?_)
        have h_22 : (0 ≤ r_21.toInt ∧ r_21.toInt ≤ 80) := h_22
        have i_23 := h_22
        obtain ⟨t_24, et_24⟩ : ∃ v9 : Int32, r_18 + r_21 = v9 := ⟨_, rfl⟩
        refine z_iadd (v := t_24) hx hb dX10_countMissing_69 et_24 ?_
        have b_r_18 := i32b r_18
        have b_r_21 := i32b r_21
        have ft_24 : t_24.toInt = r_18.toInt + r_21.toInt := addT (a := r_18.toInt) (b := r_21.toInt) rfl rfl et_24 (by omega) (by omega)
        refine lv_iload hx hb dX10_countMissing_70 (lv_at hl 0 rfl) ?_
        refine lv_if_eq (tgt := 79) hx hb dX10_countMissing_72 (by decide) (fun _ => ?_) (fun c0 => absurd c0 (by decide))
        refine lv_sipush (v := 1000) hx hb dX10_countMissing_79 (by decide) ?_
        refine va_iast hx hb hK hP hD hS 1 1 rfl rfl (vin_nat (by omega) (by omega)) dX10_countMissing_82 (fun H locs hP hD hS => ?_)
        have hP : va_P D vwCl [(h0, .inr (10, [.ref h_spent, .ref h_spentNext, .ref h_missing])), (h_missing, .inl (cI, 3321, .inl (upd g25_missing (t_24 : Int32).toNatClampNeg 1000))), (h_a1, .inr (8, [.int v_a1_tones, .int v_a1_a, .int v_a1_b, .int v_a1_c, .int v_a1_d, .int v_a1_odds, .int v_a1_lines, .ref h_a1_signs, .int v_a1_signCount, .ref h_a1_posts, .int v_a1_postCount, .ref h_a1_acts])), (h_a1_signs, .inl (cI, 8, .inl f_a1_signs))] H := hP
        have hD : va_D A [(h0, .inr (10, [.ref h_spent, .ref h_spentNext, .ref h_missing])), (h_missing, .inl (cI, 3321, .inl (upd g25_missing (t_24 : Int32).toNatClampNeg 1000))), (h_a1, .inr (8, [.int v_a1_tones, .int v_a1_a, .int v_a1_b, .int v_a1_c, .int v_a1_d, .int v_a1_odds, .int v_a1_lines, .ref h_a1_signs, .int v_a1_signCount, .ref h_a1_posts, .int v_a1_postCount, .ref h_a1_acts])), (h_a1_signs, .inl (cI, 8, .inl f_a1_signs))] := hD
        obtain ⟨g_25, eg_25⟩ : ∃ v9 : Nat → Int32, (upd g25_missing (t_24 : Int32).toNatClampNeg 1000) = v9 := ⟨_, rfl⟩
        rw [eg_25] at hP hD
        have hP : va_P D vwCl [(h0, .inr (10, [.ref h_spent, .ref h_spentNext, .ref h_missing])), (h_missing, .inl (cI, 3321, .inl g_25)), (h_a1, .inr (8, [.int v_a1_tones, .int v_a1_a, .int v_a1_b, .int v_a1_c, .int v_a1_d, .int v_a1_odds, .int v_a1_lines, .ref h_a1_signs, .int v_a1_signCount, .ref h_a1_posts, .int v_a1_postCount, .ref h_a1_acts])), (h_a1_signs, .inl (cI, 8, .inl f_a1_signs))] H := hP
        have hD : va_D A [(h0, .inr (10, [.ref h_spent, .ref h_spentNext, .ref h_missing])), (h_missing, .inl (cI, 3321, .inl g_25)), (h_a1, .inr (8, [.int v_a1_tones, .int v_a1_a, .int v_a1_b, .int v_a1_c, .int v_a1_d, .int v_a1_odds, .int v_a1_lines, .ref h_a1_signs, .int v_a1_signCount, .ref h_a1_posts, .int v_a1_postCount, .ref h_a1_acts])), (h_a1_signs, .inl (cI, 8, .inl f_a1_signs))] := hD
        obtain ⟨t_26, et_26⟩ : ∃ v9 : Int32, l25_5 + 1 = v9 := ⟨_, rfl⟩
        have ft_26 : t_26.toInt = l25_5.toInt + 1 := addT (a := l25_5.toInt) (b := 1) rfl (by decide) et_26 (by omega) (by omega)
        refine lv_iinc (v := t_26) (lv' := [(5, .int t_26), (6, .int 0), (4, .int l13_4), (0, .ref h0), (1, .ref h_a1), (2, .int v2), (3, .int v3)]) hx hb dX10_countMissing_83 hl (k := 1) rfl (by rw [← et_26]; rfl) (by decide) rfl (fun ls hl => ?_)
        refine lv_goto (tgt := 25) hx hb dX10_countMissing_86 (by decide) ?_
        exact ih_25 (g_25) (t_26) _ _ _ (by first | assumption | omega | decide) (by omega) (hP.sub [0, 1, 2, 3] rfl) (hD.sub [0, 1, 2, 3] (by decide) rfl) hS (lv_sub hl [0, 2, 3, 4, 5, 6] rfl)
      · have c_17 : r_15.toInt = v3.toInt := ci_ne_f c_17
        have b_r_15 := i32b r_15
        have b_v3 := i32b v3
        refine lv_iconst (v := 1) hx hb dX10_countMissing_47 (by decide) ?_
        refine lv_goto (tgt := 52) hx hb dX10_countMissing_48 (by decide) ?_
        refine lv_istore (lv' := [(6, .int 1), (5, .int l25_5), (4, .int l13_4), (0, .ref h0), (1, .ref h_a1), (2, .int v2), (3, .int v3)]) hx hb dX10_countMissing_52 hl (by decide) rfl (fun ls hl => ?_)
        refine lv_aload_n hx hb dX10_countMissing_54 rfl (lv_at hl 3 rfl) ?_
        refine va_get (D := D) (ci := 10) (v := .ref h_missing) (C := RX10) (T := TX10) (N := 3) hx hb hts inlX10 hown hK hP 0 rfl rfl 2 (by decide) (hts _ (inr5 _ (List.mem_of_getElem? (i := 19) rfl))) (fun _ h9 => h9) rfl dX10_countMissing_55 ?_
        refine lv_iload_n hx hb dX10_countMissing_58 rfl (lv_at hl 5 rfl) ?_
        refine rosi (As := [.int v2]) (rest := [.ref h_missing]) ⟨hx, hb, hml, hown, hts⟩ (b_X10_missingAt l G D cB cI cJ cZ cS cT v2 ) (csB (n := 1) (inr49 _ (List.mem_of_getElem? (i := 4) rfl)) (inr49 _ (List.mem_of_getElem? (i := 5) rfl)) (inr2 _ (List.mem_of_getElem? (i := 20) rfl)) (inr49 _ (List.mem_of_getElem? (i := 6) rfl)) (by decide +kernel) hts rfl rfl ⟨Nat.le_of_ble_eq_true rfl, Nat.le_of_ble_eq_true rfl⟩) (hP.sub [] rfl) hK hN (kT.to hT hS hAB) rfl hl.1 rfl (Nat.le_of_ble_eq_true rfl) ⟨Nat.le_of_ble_eq_true rfl, Nat.le_of_ble_eq_true rfl⟩ dX10_countMissing_59 (fun r_27 h_28 => ?_)
        have h_28 : (0 ≤ r_27.toInt ∧ r_27.toInt ≤ 3240) := h_28
        have i_29 := h_28
        refine lv_iload hx hb dX10_countMissing_62 (lv_at hl 2 rfl) ?_
        refine lv_iload hx hb dX10_countMissing_64 (lv_at hl 1 rfl) ?_
        refine rosi (As := [.int l13_4, .int l25_5]) (rest := [.int r_27, .ref h_missing]) ⟨hx, hb, hml, hown, hts⟩ (b_X10_state l G D cB cI cJ cZ cS cT l13_4 l25_5 ) (csB (n := 2) (inr41 _ (List.mem_of_getElem? (i := 9) rfl)) (inr41 _ (List.mem_of_getElem? (i := 10) rfl)) (inr2 _ (List.mem_of_getElem? (i := 20) rfl)) (inr41 _ (List.mem_of_getElem? (i := 11) rfl)) (by decide +kernel) hts rfl rfl ⟨Nat.le_of_ble_eq_true rfl, Nat.le_of_ble_eq_true rfl⟩) (hP.sub [] rfl) hK hN (kT.to hT hS hAB) rfl hl.1 rfl (Nat.le_of_ble_eq_true rfl) ⟨Nat.le_of_ble_eq_true rfl, Nat.le_of_ble_eq_true rfl⟩ dX10_countMissing_66 (fun r_30 h_31 => ?_)
        have h_31 : (0 ≤ r_30.toInt ∧ r_30.toInt ≤ 80) := h_31
        have i_32 := h_31
        obtain ⟨t_33, et_33⟩ : ∃ v9 : Int32, r_27 + r_30 = v9 := ⟨_, rfl⟩
        refine z_iadd (v := t_33) hx hb dX10_countMissing_69 et_33 ?_
        have b_r_27 := i32b r_27
        have b_r_30 := i32b r_30
        have ft_33 : t_33.toInt = r_27.toInt + r_30.toInt := addT (a := r_27.toInt) (b := r_30.toInt) rfl rfl et_33 (by omega) (by omega)
        refine lv_iload hx hb dX10_countMissing_70 (lv_at hl 0 rfl) ?_
        refine lv_if_eq (tgt := 79) hx hb dX10_countMissing_72 (by decide) (fun c0 => absurd c0 (by decide)) (fun _ => ?_)
        refine lv_iconst (v := 0) hx hb dX10_countMissing_75 (by decide) ?_
        refine lv_goto (tgt := 82) hx hb dX10_countMissing_76 (by decide) ?_
        refine va_iast hx hb hK hP hD hS 1 1 rfl rfl (vin_nat (by omega) (by omega)) dX10_countMissing_82 (fun H locs hP hD hS => ?_)
        have hP : va_P D vwCl [(h0, .inr (10, [.ref h_spent, .ref h_spentNext, .ref h_missing])), (h_missing, .inl (cI, 3321, .inl (upd g25_missing (t_33 : Int32).toNatClampNeg 0))), (h_a1, .inr (8, [.int v_a1_tones, .int v_a1_a, .int v_a1_b, .int v_a1_c, .int v_a1_d, .int v_a1_odds, .int v_a1_lines, .ref h_a1_signs, .int v_a1_signCount, .ref h_a1_posts, .int v_a1_postCount, .ref h_a1_acts])), (h_a1_signs, .inl (cI, 8, .inl f_a1_signs))] H := hP
        have hD : va_D A [(h0, .inr (10, [.ref h_spent, .ref h_spentNext, .ref h_missing])), (h_missing, .inl (cI, 3321, .inl (upd g25_missing (t_33 : Int32).toNatClampNeg 0))), (h_a1, .inr (8, [.int v_a1_tones, .int v_a1_a, .int v_a1_b, .int v_a1_c, .int v_a1_d, .int v_a1_odds, .int v_a1_lines, .ref h_a1_signs, .int v_a1_signCount, .ref h_a1_posts, .int v_a1_postCount, .ref h_a1_acts])), (h_a1_signs, .inl (cI, 8, .inl f_a1_signs))] := hD
        obtain ⟨g_34, eg_34⟩ : ∃ v9 : Nat → Int32, (upd g25_missing (t_33 : Int32).toNatClampNeg 0) = v9 := ⟨_, rfl⟩
        rw [eg_34] at hP hD
        have hP : va_P D vwCl [(h0, .inr (10, [.ref h_spent, .ref h_spentNext, .ref h_missing])), (h_missing, .inl (cI, 3321, .inl g_34)), (h_a1, .inr (8, [.int v_a1_tones, .int v_a1_a, .int v_a1_b, .int v_a1_c, .int v_a1_d, .int v_a1_odds, .int v_a1_lines, .ref h_a1_signs, .int v_a1_signCount, .ref h_a1_posts, .int v_a1_postCount, .ref h_a1_acts])), (h_a1_signs, .inl (cI, 8, .inl f_a1_signs))] H := hP
        have hD : va_D A [(h0, .inr (10, [.ref h_spent, .ref h_spentNext, .ref h_missing])), (h_missing, .inl (cI, 3321, .inl g_34)), (h_a1, .inr (8, [.int v_a1_tones, .int v_a1_a, .int v_a1_b, .int v_a1_c, .int v_a1_d, .int v_a1_odds, .int v_a1_lines, .ref h_a1_signs, .int v_a1_signCount, .ref h_a1_posts, .int v_a1_postCount, .ref h_a1_acts])), (h_a1_signs, .inl (cI, 8, .inl f_a1_signs))] := hD
        obtain ⟨t_35, et_35⟩ : ∃ v9 : Int32, l25_5 + 1 = v9 := ⟨_, rfl⟩
        have ft_35 : t_35.toInt = l25_5.toInt + 1 := addT (a := l25_5.toInt) (b := 1) rfl (by decide) et_35 (by omega) (by omega)
        refine lv_iinc (v := t_35) (lv' := [(5, .int t_35), (6, .int 1), (4, .int l13_4), (0, .ref h0), (1, .ref h_a1), (2, .int v2), (3, .int v3)]) hx hb dX10_countMissing_83 hl (k := 1) rfl (by rw [← et_35]; rfl) (by decide) rfl (fun ls hl => ?_)
        refine lv_goto (tgt := 25) hx hb dX10_countMissing_86 (by decide) ?_
        exact ih_25 (g_34) (t_35) _ _ _ (by first | assumption | omega | decide) (by omega) (hP.sub [0, 1, 2, 3] rfl) (hD.sub [0, 1, 2, 3] (by decide) rfl) hS (lv_sub hl [0, 2, 3, 4, 5, 6] rfl)

set_option maxHeartbeats 4000000 in
set_option maxRecDepth 100000 in
theorem b_X10_countMissing_l13 {p : Program} {l : Launch} {e : Env} {s : State} {m : MethodId} {args : Array Value} {below : List Frame} {meth : Method} {c : Code} {Q : State → Prop} {G : Gho} {D : va_G} {cB cI cJ cZ cS cT : ClassId} {A : Nat → Prop} (h0 : Nat) (h_spent : Nat) (h_spentNext : Nat) (h_missing : Nat) (h_a1 : Nat) (v_a1_tones : Int32) (v_a1_a : Int32) (v_a1_b : Int32) (v_a1_c : Int32) (v_a1_d : Int32) (v_a1_odds : Int32) (v_a1_lines : Int32) (h_a1_signs : Nat) (v_a1_signCount : Int32) (h_a1_posts : Nat) (v_a1_postCount : Int32) (h_a1_acts : Nat) (f_a1_signs : Nat → Int32) (v2 : Int32) (v3 : Int32) (iv_a1_signCount : 0 ≤ v_a1_signCount.toInt ∧ v_a1_signCount.toInt ≤ 8) (iv_a1_postCount : 0 ≤ v_a1_postCount.toInt ∧ v_a1_postCount.toInt ≤ 5) (C : Cx p s m args c RX10 cX10_countMissing 7 G D (tyL cB cI cJ cZ cS cT)) (hG : G.1 ≤ s.heap.size) (hAB : ∀ q, A q → G.1 ≤ q) (hA : ∀ q : Nat, s.heap.size ≤ q → A q) (ret : RetV p l e ({ frames := 4, cells := 0, slots := 0, locals := 100 }) s m args below meth c cX10_countMissing D A (fun x : (Nat → Int32) => [(h0, .inr (10, [.ref h_spent, .ref h_spentNext, .ref h_missing])), (h_missing, .inl (cI, 3321, .inl x)), (h_a1, .inr (8, [.int v_a1_tones, .int v_a1_a, .int v_a1_b, .int v_a1_c, .int v_a1_d, .int v_a1_odds, .int v_a1_lines, .ref h_a1_signs, .int v_a1_signCount, .ref h_a1_posts, .int v_a1_postCount, .ref h_a1_acts])), (h_a1_signs, .inl (cI, 8, .inl f_a1_signs))]) (fun x : (Nat → Int32) => True) Q) :
    ∀ (N : Nat) (g13_missing : Nat → Int32) (l13_4 : Int32) (H : Heap) (locs : List Loc) (ls : Array Slot), 0 ≤ l13_4.toInt → (v_a1_tones.toInt - l13_4.toInt).toNat < N → va_P D vwCl [(h0, .inr (10, [.ref h_spent, .ref h_spentNext, .ref h_missing])), (h_missing, .inl (cI, 3321, .inl g13_missing)), (h_a1, .inr (8, [.int v_a1_tones, .int v_a1_a, .int v_a1_b, .int v_a1_c, .int v_a1_d, .int v_a1_odds, .int v_a1_lines, .ref h_a1_signs, .int v_a1_signCount, .ref h_a1_posts, .int v_a1_postCount, .ref h_a1_acts])), (h_a1_signs, .inl (cI, 8, .inl f_a1_signs))] H → va_D A [(h0, .inr (10, [.ref h_spent, .ref h_spentNext, .ref h_missing])), (h_missing, .inl (cI, 3321, .inl g13_missing)), (h_a1, .inr (8, [.int v_a1_tones, .int v_a1_a, .int v_a1_b, .int v_a1_c, .int v_a1_d, .int v_a1_odds, .int v_a1_lines, .ref h_a1_signs, .int v_a1_signCount, .ref h_a1_posts, .int v_a1_postCount, .ref h_a1_acts])), (h_a1_signs, .inl (cI, 8, .inl f_a1_signs))] → va_S A s.heap H locs → lv_has ls 7 [(4, .int l13_4), (0, .ref h0), (1, .ref h_a1), (2, .int v2), (3, .int v3)] → W p l e ({ frames := 4, cells := 0, slots := 0, locals := 100 }) s m args below meth c H locs 0 0 Q (F0 m 13 ls []) := by
  obtain ⟨hx, hb, hml, hown, hts, hK, hN, hT⟩ := id C
  intro N
  induction N with
  | zero =>
    intro g13_missing l13_4 H locs ls kl13_4 hM_13 hP hD hS hl
    omega
  | succ N_13 ih_13 =>
    intro g13_missing l13_4 H locs ls kl13_4 hM_13 hP hD hS hl
    have b_l13_4 := i32b l13_4
    refine lv_iload hx hb dX10_countMissing_13 (lv_at hl 0 rfl) ?_
    refine lv_aload_n hx hb dX10_countMissing_15 rfl (lv_at hl 2 rfl) ?_
    refine roi (As := []) (rest := [.int l13_4]) ⟨hx, hb, hml, hown, hts⟩ (b_X8_tones l G D cB cI cJ cZ cS cT h_a1 v_a1_tones v_a1_a v_a1_b v_a1_c v_a1_d v_a1_odds v_a1_lines h_a1_signs v_a1_signCount h_a1_posts v_a1_postCount h_a1_acts (by first | assumption | omega | decide) (by first | assumption | omega | decide)) (cvB (n := 0) (inr41 _ (List.mem_of_getElem? (i := 18) rfl)) (inr15 _ (List.mem_of_getElem? (i := 14) rfl)) (inr15 _ (List.mem_of_getElem? (i := 15) rfl)) (inr1 _ (List.mem_of_getElem? (i := 23) rfl)) (inr15 _ (List.mem_of_getElem? (i := 16) rfl)) (by decide +kernel) hts rfl rfl ⟨Nat.le_of_ble_eq_true rfl, Nat.le_of_ble_eq_true rfl⟩) 0 8 rfl rfl rfl (hP.sub [2] rfl) hK hN (kT.to hT hS hAB) rfl hl.1 rfl (Nat.le_of_ble_eq_true rfl) ⟨Nat.le_of_ble_eq_true rfl, Nat.le_of_ble_eq_true rfl⟩ dX10_countMissing_16 (fun r_5 h_6 => ?_)
    have h_6 : (r_5 = v_a1_tones) := h_6
    have i_7 := h_6
    obtain rfl := i_7.symm
    refine lv_icmp_ge (tgt := 95) hx hb dX10_countMissing_19 (by decide) (fun c_8 => ?_) (fun c_8 => ?_)
    · have c_8 : v_a1_tones.toInt ≤ l13_4.toInt := ci_ge_t c_8
      have b_v_a1_tones := i32b v_a1_tones
      refine lv_iload_n hx hb dX10_countMissing_95 rfl (lv_at hl 3 rfl) ?_
      refine lv_iconst (v := 1) hx hb dX10_countMissing_96 (by decide) ?_
      obtain ⟨t_9, et_9⟩ : ∃ v9 : Int32, v2 - 1 = v9 := ⟨_, rfl⟩
      refine z_isub (v := t_9) hx hb dX10_countMissing_97 et_9 ?_
      refine lv_istore (lv' := [(4, .int t_9), (0, .ref h0), (1, .ref h_a1), (2, .int v2), (3, .int v3)]) hx hb dX10_countMissing_98 hl (by decide) rfl (fun ls hl => ?_)
      exact b_X10_countMissing_l100 h0 h_spent h_spentNext h_missing h_a1 v_a1_tones v_a1_a v_a1_b v_a1_c v_a1_d v_a1_odds v_a1_lines h_a1_signs v_a1_signCount h_a1_posts v_a1_postCount h_a1_acts f_a1_signs v2 v3 g13_missing l13_4 N_13 (by first | assumption | omega | decide) (by first | assumption | omega | decide) (by first | assumption | omega | decide) (by first | assumption | omega | decide) (by first | assumption | omega | decide) (by first | assumption | omega | decide) C hG hAB hA ret _ (g13_missing) (t_9) _ _ _  (Nat.lt_succ_self _) (hP.sub [0, 1, 2, 3] rfl) (hD.sub [0, 1, 2, 3] (by decide) rfl) hS (lv_sub hl [0, 1, 2] rfl)
    · have c_8 : l13_4.toInt < v_a1_tones.toInt := ci_ge_f c_8
      have b_v_a1_tones := i32b v_a1_tones
      refine lv_iconst (v := 0) hx hb dX10_countMissing_22 (by decide) ?_
      refine lv_istore (lv' := [(5, .int 0), (4, .int l13_4), (0, .ref h0), (1, .ref h_a1), (2, .int v2), (3, .int v3)]) hx hb dX10_countMissing_23 hl (by decide) rfl (fun ls hl => ?_)
      exact b_X10_countMissing_l25 h0 h_spent h_spentNext h_missing h_a1 v_a1_tones v_a1_a v_a1_b v_a1_c v_a1_d v_a1_odds v_a1_lines h_a1_signs v_a1_signCount h_a1_posts v_a1_postCount h_a1_acts f_a1_signs v2 v3 l13_4 g13_missing N_13 (by first | assumption | omega | decide) (by first | assumption | omega | decide) (by first | assumption | omega | decide) (by first | assumption | omega | decide) (by first | assumption | omega | decide) (by first | assumption | omega | decide) (by first | assumption | omega | decide) (by first | assumption | omega | decide) C hG hAB hA ret _ (g13_missing) (0) _ _ _ (by first | assumption | omega | decide) (Nat.lt_succ_self _) (hP.sub [0, 1, 2, 3] rfl) (hD.sub [0, 1, 2, 3] (by decide) rfl) hS (lv_sub hl [0, 1, 2, 3, 4, 5] rfl)

set_option maxHeartbeats 4000000 in
set_option maxRecDepth 100000 in
theorem b_X10_countMissing (l : Launch) (G : Gho) (D : va_G) (cB cI cJ cZ cS cT : ClassId) (sz : Nat) (h0 : Nat) (h_spent : Nat) (h_spentNext : Nat) (h_missing : Nat) (f_missing : Nat → Int32) (h_a1 : Nat) (v_a1_tones : Int32) (v_a1_a : Int32) (v_a1_b : Int32) (v_a1_c : Int32) (v_a1_d : Int32) (v_a1_odds : Int32) (v_a1_lines : Int32) (h_a1_signs : Nat) (v_a1_signCount : Int32) (h_a1_posts : Nat) (v_a1_postCount : Int32) (h_a1_acts : Nat) (f_a1_signs : Nat → Int32) (v2 : Int32) (v3 : Int32) (iv_a1_signCount : 0 ≤ v_a1_signCount.toInt ∧ v_a1_signCount.toInt ≤ 8) (iv_a1_postCount : 0 ≤ v_a1_postCount.toInt ∧ v_a1_postCount.toInt ≤ 5) : Met l yX10_countMissing (Cond.code yX10_countMissing cX10_countMissing 7 none :: wsL_law) ({ frames := 4, cells := 0, slots := 0, locals := 100 }) (wrP G D (tyL cB cI cJ cZ cS cT) [(h0, .inr (10, [.ref h_spent, .ref h_spentNext, .ref h_missing])), (h_missing, .inl (cI, 3321, .inl f_missing)), (h_a1, .inr (8, [.int v_a1_tones, .int v_a1_a, .int v_a1_b, .int v_a1_c, .int v_a1_d, .int v_a1_odds, .int v_a1_lines, .ref h_a1_signs, .int v_a1_signCount, .ref h_a1_posts, .int v_a1_postCount, .ref h_a1_acts])), (h_a1_signs, .inl (cI, 8, .inl f_a1_signs))] sz [.ref h0, .ref h_a1, .int v2, .int v3]) (va_Qv (fun x : (Nat → Int32) => True) (atW D (tyL cB cI cJ cZ cS cT) (va_A [(h0, .inr (10, [.ref h_spent, .ref h_spentNext, .ref h_missing])), (h_missing, .inl (cI, 3321, .inl f_missing)), (h_a1, .inr (8, [.int v_a1_tones, .int v_a1_a, .int v_a1_b, .int v_a1_c, .int v_a1_d, .int v_a1_odds, .int v_a1_lines, .ref h_a1_signs, .int v_a1_signCount, .ref h_a1_posts, .int v_a1_postCount, .ref h_a1_acts])), (h_a1_signs, .inl (cI, 8, .inl f_a1_signs))] sz) (fun x : (Nat → Int32) => [(h0, .inr (10, [.ref h_spent, .ref h_spentNext, .ref h_missing])), (h_missing, .inl (cI, 3321, .inl x)), (h_a1, .inr (8, [.int v_a1_tones, .int v_a1_a, .int v_a1_b, .int v_a1_c, .int v_a1_d, .int v_a1_odds, .int v_a1_lines, .ref h_a1_signs, .int v_a1_signCount, .ref h_a1_posts, .int v_a1_postCount, .ref h_a1_acts])), (h_a1_signs, .inl (cI, 8, .inl f_a1_signs))])) (va_A [(h0, .inr (10, [.ref h_spent, .ref h_spentNext, .ref h_missing])), (h_missing, .inl (cI, 3321, .inl f_missing)), (h_a1, .inr (8, [.int v_a1_tones, .int v_a1_a, .int v_a1_b, .int v_a1_c, .int v_a1_d, .int v_a1_odds, .int v_a1_lines, .ref h_a1_signs, .int v_a1_signCount, .ref h_a1_posts, .int v_a1_postCount, .ref h_a1_acts])), (h_a1_signs, .inl (cI, 8, .inl f_a1_signs))] sz)) 0 0 (va_A [(h0, .inr (10, [.ref h_spent, .ref h_spentNext, .ref h_missing])), (h_missing, .inl (cI, 3321, .inl f_missing)), (h_a1, .inr (8, [.int v_a1_tones, .int v_a1_a, .int v_a1_b, .int v_a1_c, .int v_a1_d, .int v_a1_odds, .int v_a1_lines, .ref h_a1_signs, .int v_a1_signCount, .ref h_a1_posts, .int v_a1_postCount, .ref h_a1_acts])), (h_a1_signs, .inl (cI, 8, .inl f_a1_signs))] sz) := by
  refine metV (own := RX10) (by decide) rfl ?_
  intro p e s m below meth c Q hsz C hG hP hD hAB ret
  obtain ⟨hx, hb, hml, hown, hts, hK, hN, hT⟩ := id C
  subst hsz
  generalize hAe : va_A [(h0, .inr (10, [.ref h_spent, .ref h_spentNext, .ref h_missing])), (h_missing, .inl (cI, 3321, .inl f_missing)), (h_a1, .inr (8, [.int v_a1_tones, .int v_a1_a, .int v_a1_b, .int v_a1_c, .int v_a1_d, .int v_a1_odds, .int v_a1_lines, .ref h_a1_signs, .int v_a1_signCount, .ref h_a1_posts, .int v_a1_postCount, .ref h_a1_acts])), (h_a1_signs, .inl (cI, 8, .inl f_a1_signs))] s.heap.size = A at hD hAB ret ⊢
  have hA : ∀ q : Nat, s.heap.size ≤ q → A q := fun q h => by rw [← hAe]; exact Or.inr h
  have hS : va_S A s.heap s.heap [] := va_S.rf
  have hl := lv_entry ([.ref h0, .ref h_a1, .int v2, .int v3]) (n := 7) (Nat.le_of_ble_eq_true rfl)
  rw [lg_entry_eq]
  generalize (lg_sl ([.ref h0, .ref h_a1, .int v2, .int v3]) ++ List.replicate (7 - (lg_sl ([.ref h0, .ref h_a1, .int v2, .int v3])).length) Slot.unset).toArray = ls at hl ⊢
  have hl : lv_has ls 7 [(0, .ref h0), (1, .ref h_a1), (2, .int v2), (3, .int v3)] := hl
  have hP : va_P D vwCl [(h0, .inr (10, [.ref h_spent, .ref h_spentNext, .ref h_missing])), (h_missing, .inl (cI, 3321, .inl f_missing)), (h_a1, .inr (8, [.int v_a1_tones, .int v_a1_a, .int v_a1_b, .int v_a1_c, .int v_a1_d, .int v_a1_odds, .int v_a1_lines, .ref h_a1_signs, .int v_a1_signCount, .ref h_a1_posts, .int v_a1_postCount, .ref h_a1_acts])), (h_a1_signs, .inl (cI, 8, .inl f_a1_signs))] s.heap := hP
  refine lv_aload_n hx hb dX10_countMissing_0 rfl (lv_at hl 0 rfl) ?_
  refine va_get (D := D) (ci := 10) (v := .ref h_missing) (C := RX10) (T := TX10) (N := 3) hx hb hts inlX10 hown hK hP 0 rfl rfl 2 (by decide) (hts _ (inr5 _ (List.mem_of_getElem? (i := 19) rfl))) (fun _ h9 => h9) rfl dX10_countMissing_1 ?_
  refine lv_sipush (v := 1000) hx hb dX10_countMissing_4 (by decide) ?_
  refine wrSv (As := [.ref h_missing, .int 1000]) (rest := []) (wr := [(h0, .inr (10, [.ref h_spent, .ref h_spentNext, .ref h_missing])), (h_a1, .inr (8, [.int v_a1_tones, .int v_a1_a, .int v_a1_b, .int v_a1_c, .int v_a1_d, .int v_a1_odds, .int v_a1_lines, .ref h_a1_signs, .int v_a1_signCount, .ref h_a1_posts, .int v_a1_postCount, .ref h_a1_acts])), (h_a1_signs, .inl (cI, 8, .inl f_a1_signs))]) ⟨hx, hb, hml, hown, hts⟩ (b_fillI l G D cB cI cJ cZ cS cT s.heap.size h_missing 3321 f_missing 1000 (by first | assumption | omega | decide)) hP hD hS hA hK hN hT hAB hG [1] [0, 2, 3] rfl rfl (by decide) (by decide) (by decide) (csX (n := 2) (inr41 _ (List.mem_of_getElem? (i := 8) rfl)) (inr4 _ (List.mem_of_getElem? (i := 15) rfl)) (inr4 _ (List.mem_of_getElem? (i := 16) rfl)) (inr4 _ (List.mem_of_getElem? (i := 17) rfl)) (by decide +kernel) hts rfl rfl ⟨Nat.le_of_ble_eq_true rfl, Nat.le_of_ble_eq_true rfl⟩) rfl hl.1 rfl (Nat.le_of_ble_eq_true rfl) ⟨Nat.le_of_ble_eq_true rfl, Nat.le_of_ble_eq_true rfl⟩ dX10_countMissing_7 (fun x9 H locs h_2 hP hD hS => ?_)
  obtain ⟨g_3, rfl⟩ : ∃ z, z = x9 := ⟨_, rfl⟩
  have hP : va_P D vwCl [(h0, .inr (10, [.ref h_spent, .ref h_spentNext, .ref h_missing])), (h_a1, .inr (8, [.int v_a1_tones, .int v_a1_a, .int v_a1_b, .int v_a1_c, .int v_a1_d, .int v_a1_odds, .int v_a1_lines, .ref h_a1_signs, .int v_a1_signCount, .ref h_a1_posts, .int v_a1_postCount, .ref h_a1_acts])), (h_a1_signs, .inl (cI, 8, .inl f_a1_signs)), (h_missing, .inl (cI, 3321, .inl g_3))] H := hP
  have hD : va_D A [(h0, .inr (10, [.ref h_spent, .ref h_spentNext, .ref h_missing])), (h_a1, .inr (8, [.int v_a1_tones, .int v_a1_a, .int v_a1_b, .int v_a1_c, .int v_a1_d, .int v_a1_odds, .int v_a1_lines, .ref h_a1_signs, .int v_a1_signCount, .ref h_a1_posts, .int v_a1_postCount, .ref h_a1_acts])), (h_a1_signs, .inl (cI, 8, .inl f_a1_signs)), (h_missing, .inl (cI, 3321, .inl g_3))] := hD
  have h_2 : (∀ j, j < 3321 → g_3 j = 1000) := h_2
  have i_4 := h_2
  refine lv_iconst (v := 0) hx hb dX10_countMissing_10 (by decide) ?_
  refine lv_istore (lv' := [(4, .int 0), (0, .ref h0), (1, .ref h_a1), (2, .int v2), (3, .int v3)]) hx hb dX10_countMissing_11 hl (by decide) rfl (fun ls hl => ?_)
  exact b_X10_countMissing_l13 h0 h_spent h_spentNext h_missing h_a1 v_a1_tones v_a1_a v_a1_b v_a1_c v_a1_d v_a1_odds v_a1_lines h_a1_signs v_a1_signCount h_a1_posts v_a1_postCount h_a1_acts f_a1_signs v2 v3 (by first | assumption | omega | decide) (by first | assumption | omega | decide) C hG hAB hA ret _ (g_3) (0) _ _ _ (by first | assumption | omega | decide) (Nat.lt_succ_self _) (hP.sub [0, 3, 1, 2] rfl) (hD.sub [0, 3, 1, 2] (by decide) rfl) hS (lv_sub hl [0, 1, 2, 3, 4] rfl)

set_option maxHeartbeats 4000000 in
set_option maxRecDepth 100000 in
theorem b_X10_firstWord_l79 {p : Program} {l : Launch} {e : Env} {s : State} {m : MethodId} {args : Array Value} {below : List Frame} {meth : Method} {c : Code} {Q : State → Prop} {G : Gho} {D : va_G} {cB cI cJ cZ cS cT : ClassId} (h0 : Nat) (h_spent : Nat) (h_spentNext : Nat) (h_missing : Nat) (f_missing : Nat → Int32) (h_a1 : Nat) (v_a1_tones : Int32) (v_a1_a : Int32) (v_a1_b : Int32) (v_a1_c : Int32) (v_a1_d : Int32) (v_a1_odds : Int32) (v_a1_lines : Int32) (h_a1_signs : Nat) (v_a1_signCount : Int32) (h_a1_posts : Nat) (v_a1_postCount : Int32) (h_a1_acts : Nat) (f_a1_signs : Nat → Int32) (v4 : Int32) (r_14 : Int32) (t_12 : Int32) (r_1 : Int32) (iv_a1_signCount : 0 ≤ v_a1_signCount.toInt ∧ v_a1_signCount.toInt ≤ 8) (iv_a1_postCount : 0 ≤ v_a1_postCount.toInt ∧ v_a1_postCount.toInt ≤ 5) (zr_14 : 0 ≤ r_14.toInt ∧ r_14.toInt ≤ 3240) (zr_1 : 0 ≤ r_1.toInt ∧ r_1.toInt ≤ 0) (c_4 : r_1.toInt = 0) (C : Cx p s m args c RX10 cX10_firstWord 10 G D (tyL cB cI cJ cZ cS cT)) (hP : va_P D vwCl [(h0, .inr (10, [.ref h_spent, .ref h_spentNext, .ref h_missing])), (h_missing, .inl (cI, 3321, .inl f_missing)), (h_a1, .inr (8, [.int v_a1_tones, .int v_a1_a, .int v_a1_b, .int v_a1_c, .int v_a1_d, .int v_a1_odds, .int v_a1_lines, .ref h_a1_signs, .int v_a1_signCount, .ref h_a1_posts, .int v_a1_postCount, .ref h_a1_acts])), (h_a1_signs, .inl (cI, 8, .inl f_a1_signs))] s.heap) (ret : RroI p l e ({ frames := 2, cells := 0, slots := 0, locals := 44 }) s m args below meth c cX10_firstWord (fun r : Int32 => True) Q) :
    ∀ (N : Nat) (l79_9 : Int32) (ls : Array Slot), 0 ≤ l79_9.toInt → (v_a1_tones.toInt - l79_9.toInt).toNat < N → lv_has ls 10 [(9, .int l79_9), (8, .int r_14), (7, .int t_12), (6, .int v4), (5, .int r_1), (0, .ref h0), (1, .ref h_a1)] → W p l e ({ frames := 2, cells := 0, slots := 0, locals := 44 }) s m args below meth c s.heap [] 0 0 Q (F0 m 79 ls []) := by
  obtain ⟨hx, hb, hml, hown, hts, hK, hN, hT⟩ := id C
  intro N
  induction N with
  | zero =>
    intro l79_9 ls kl79_9 hM_79 hl
    omega
  | succ N_79 ih_79 =>
    intro l79_9 ls kl79_9 hM_79 hl
    have b_l79_9 := i32b l79_9
    refine lv_iload hx hb dX10_firstWord_79 (lv_at hl 0 rfl) ?_
    refine lv_aload_n hx hb dX10_firstWord_81 rfl (lv_at hl 6 rfl) ?_
    refine roi (As := []) (rest := [.int l79_9]) ⟨hx, hb, hml, hown, hts⟩ (b_X8_tones l G D cB cI cJ cZ cS cT h_a1 v_a1_tones v_a1_a v_a1_b v_a1_c v_a1_d v_a1_odds v_a1_lines h_a1_signs v_a1_signCount h_a1_posts v_a1_postCount h_a1_acts (by first | assumption | omega | decide) (by first | assumption | omega | decide)) (cvB (n := 0) (inr41 _ (List.mem_of_getElem? (i := 18) rfl)) (inr15 _ (List.mem_of_getElem? (i := 14) rfl)) (inr15 _ (List.mem_of_getElem? (i := 15) rfl)) (inr1 _ (List.mem_of_getElem? (i := 23) rfl)) (inr15 _ (List.mem_of_getElem? (i := 16) rfl)) (by decide +kernel) hts rfl rfl ⟨Nat.le_of_ble_eq_true rfl, Nat.le_of_ble_eq_true rfl⟩) 0 8 rfl rfl rfl (hP.sub [2] rfl) hK hN hT rfl hl.1 rfl (Nat.le_of_ble_eq_true rfl) ⟨Nat.le_of_ble_eq_true rfl, Nat.le_of_ble_eq_true rfl⟩ dX10_firstWord_82 (fun r_25 h_26 => ?_)
    have h_26 : (r_25 = v_a1_tones) := h_26
    have i_27 := h_26
    obtain rfl := i_27.symm
    refine lv_icmp_ge (tgt := 121) hx hb dX10_firstWord_85 (by decide) (fun c_28 => ?_) (fun c_28 => ?_)
    · have c_28 : v_a1_tones.toInt ≤ l79_9.toInt := ci_ge_t c_28
      have b_v_a1_tones := i32b v_a1_tones
      refine lv_iconst (v := (-1)) hx hb dX10_firstWord_121 (by decide) ?_
      exact ret _ _ _ dX10_firstWord_122 trivial
    · have c_28 : l79_9.toInt < v_a1_tones.toInt := ci_ge_f c_28
      have b_v_a1_tones := i32b v_a1_tones
      refine lv_aload_n hx hb dX10_firstWord_88 rfl (lv_at hl 5 rfl) ?_
      refine va_get (D := D) (ci := 10) (v := .ref h_missing) (C := RX10) (T := TX10) (N := 3) hx hb hts inlX10 hown hK hP 0 rfl rfl 2 (by decide) (hts _ (inr5 _ (List.mem_of_getElem? (i := 19) rfl))) (fun _ h9 => h9) rfl dX10_firstWord_89 ?_
      refine lv_iload hx hb dX10_firstWord_92 (lv_at hl 1 rfl) ?_
      refine lv_iload hx hb dX10_firstWord_94 (lv_at hl 4 rfl) ?_
      refine lv_iload hx hb dX10_firstWord_96 (lv_at hl 3 rfl) ?_
      refine lv_iload hx hb dX10_firstWord_98 (lv_at hl 0 rfl) ?_
      refine rosi (As := [.int r_1, .int v4, .int l79_9]) (rest := [.int r_14, .ref h_missing]) ⟨hx, hb, hml, hown, hts⟩ (b_X10_stateOf l G D cB cI cJ cZ cS cT r_1 v4 l79_9 ) (csB (n := 3) (inr41 _ (List.mem_of_getElem? (i := 22) rfl)) (inr41 _ (List.mem_of_getElem? (i := 23) rfl)) (inr2 _ (List.mem_of_getElem? (i := 20) rfl)) (inr42 _ (List.mem_of_getElem? (i := 0) rfl)) (by decide +kernel) hts rfl rfl ⟨Nat.le_of_ble_eq_true rfl, Nat.le_of_ble_eq_true rfl⟩) (hP.sub [] rfl) hK hN hT rfl hl.1 rfl (Nat.le_of_ble_eq_true rfl) ⟨Nat.le_of_ble_eq_true rfl, Nat.le_of_ble_eq_true rfl⟩ dX10_firstWord_100 (fun r_29 h_30 => ?_)
      have h_30 : (0 ≤ r_29.toInt ∧ r_29.toInt ≤ 80) := h_30
      have i_31 := h_30
      obtain ⟨t_32, et_32⟩ : ∃ v9 : Int32, r_14 + r_29 = v9 := ⟨_, rfl⟩
      refine z_iadd (v := t_32) hx hb dX10_firstWord_103 et_32 ?_
      have b_r_14 := i32b r_14
      have b_r_29 := i32b r_29
      have ft_32 : t_32.toInt = r_14.toInt + r_29.toInt := addT (a := r_14.toInt) (b := r_29.toInt) rfl rfl et_32 (by omega) (by omega)
      obtain ⟨t_33, et_33⟩ : ∃ v9 : Int32, f_missing (t_32 : Int32).toNatClampNeg = v9 := ⟨_, rfl⟩
      refine z_iald (v := t_33) hx hb hK hP 1 1 rfl rfl (vin_nat (by omega) (by omega)) et_33 dX10_firstWord_104 ?_
      refine lv_iconst (v := 1) hx hb dX10_firstWord_105 (by decide) ?_
      obtain ⟨t_34, et_34⟩ : ∃ v9 : Int32, t_33 + 1 = v9 := ⟨_, rfl⟩
      refine z_iadd (v := t_34) hx hb dX10_firstWord_106 et_34 ?_
      refine lv_iload hx hb dX10_firstWord_107 (lv_at hl 2 rfl) ?_
      refine lv_icmp_ne (tgt := 115) hx hb dX10_firstWord_109 (by decide) (fun c_35 => ?_) (fun c_35 => ?_)
      · have c_35 : ¬ t_34.toInt = t_12.toInt := ci_ne_t c_35
        have b_t_34 := i32b t_34
        have b_t_12 := i32b t_12
        obtain ⟨t_36, et_36⟩ : ∃ v9 : Int32, l79_9 + 1 = v9 := ⟨_, rfl⟩
        have ft_36 : t_36.toInt = l79_9.toInt + 1 := addT (a := l79_9.toInt) (b := 1) rfl (by decide) et_36 (by omega) (by omega)
        refine lv_iinc (v := t_36) (lv' := [(9, .int t_36), (8, .int r_14), (7, .int t_12), (6, .int v4), (5, .int r_1), (0, .ref h0), (1, .ref h_a1)]) hx hb dX10_firstWord_115 hl (k := 0) rfl (by rw [← et_36]; rfl) (by decide) rfl (fun ls hl => ?_)
        refine lv_goto (tgt := 79) hx hb dX10_firstWord_118 (by decide) ?_
        exact ih_79 (t_36) _ (by first | assumption | omega | decide) (by omega) (lv_sub hl [0, 1, 2, 3, 4, 5, 6] rfl)
      · have c_35 : t_34.toInt = t_12.toInt := ci_ne_f c_35
        have b_t_34 := i32b t_34
        have b_t_12 := i32b t_12
        refine lv_iload hx hb dX10_firstWord_112 (lv_at hl 0 rfl) ?_
        exact ret _ _ _ dX10_firstWord_114 trivial

set_option maxHeartbeats 4000000 in
set_option maxRecDepth 100000 in
theorem b_X10_firstWord_l79x {p : Program} {l : Launch} {e : Env} {s : State} {m : MethodId} {args : Array Value} {below : List Frame} {meth : Method} {c : Code} {Q : State → Prop} {G : Gho} {D : va_G} {cB cI cJ cZ cS cT : ClassId} (h0 : Nat) (h_spent : Nat) (h_spentNext : Nat) (h_missing : Nat) (f_missing : Nat → Int32) (h_a1 : Nat) (v_a1_tones : Int32) (v_a1_a : Int32) (v_a1_b : Int32) (v_a1_c : Int32) (v_a1_d : Int32) (v_a1_odds : Int32) (v_a1_lines : Int32) (h_a1_signs : Nat) (v_a1_signCount : Int32) (h_a1_posts : Nat) (v_a1_postCount : Int32) (h_a1_acts : Nat) (f_a1_signs : Nat → Int32) (v3 : Int32) (r_34 : Int32) (t_32 : Int32) (r_1 : Int32) (iv_a1_signCount : 0 ≤ v_a1_signCount.toInt ∧ v_a1_signCount.toInt ≤ 8) (iv_a1_postCount : 0 ≤ v_a1_postCount.toInt ∧ v_a1_postCount.toInt ≤ 5) (zr_34 : 0 ≤ r_34.toInt ∧ r_34.toInt ≤ 3240) (zr_1 : 1 ≤ r_1.toInt ∧ r_1.toInt ≤ 1) (c_4 : ¬ r_1.toInt = 0) (C : Cx p s m args c RX10 cX10_firstWord 10 G D (tyL cB cI cJ cZ cS cT)) (hP : va_P D vwCl [(h0, .inr (10, [.ref h_spent, .ref h_spentNext, .ref h_missing])), (h_missing, .inl (cI, 3321, .inl f_missing)), (h_a1, .inr (8, [.int v_a1_tones, .int v_a1_a, .int v_a1_b, .int v_a1_c, .int v_a1_d, .int v_a1_odds, .int v_a1_lines, .ref h_a1_signs, .int v_a1_signCount, .ref h_a1_posts, .int v_a1_postCount, .ref h_a1_acts])), (h_a1_signs, .inl (cI, 8, .inl f_a1_signs))] s.heap) (ret : RroI p l e ({ frames := 2, cells := 0, slots := 0, locals := 44 }) s m args below meth c cX10_firstWord (fun r : Int32 => True) Q) :
    ∀ (N : Nat) (l79_9 : Int32) (ls : Array Slot), 0 ≤ l79_9.toInt → (v_a1_tones.toInt - l79_9.toInt).toNat < N → lv_has ls 10 [(9, .int l79_9), (8, .int r_34), (7, .int t_32), (6, .int v3), (5, .int r_1), (0, .ref h0), (1, .ref h_a1)] → W p l e ({ frames := 2, cells := 0, slots := 0, locals := 44 }) s m args below meth c s.heap [] 0 0 Q (F0 m 79 ls []) := by
  obtain ⟨hx, hb, hml, hown, hts, hK, hN, hT⟩ := id C
  intro N
  induction N with
  | zero =>
    intro l79_9 ls kl79_9 hM_79 hl
    omega
  | succ N_79 ih_79 =>
    intro l79_9 ls kl79_9 hM_79 hl
    have b_l79_9 := i32b l79_9
    refine lv_iload hx hb dX10_firstWord_79 (lv_at hl 0 rfl) ?_
    refine lv_aload_n hx hb dX10_firstWord_81 rfl (lv_at hl 6 rfl) ?_
    refine roi (As := []) (rest := [.int l79_9]) ⟨hx, hb, hml, hown, hts⟩ (b_X8_tones l G D cB cI cJ cZ cS cT h_a1 v_a1_tones v_a1_a v_a1_b v_a1_c v_a1_d v_a1_odds v_a1_lines h_a1_signs v_a1_signCount h_a1_posts v_a1_postCount h_a1_acts (by first | assumption | omega | decide) (by first | assumption | omega | decide)) (cvB (n := 0) (inr41 _ (List.mem_of_getElem? (i := 18) rfl)) (inr15 _ (List.mem_of_getElem? (i := 14) rfl)) (inr15 _ (List.mem_of_getElem? (i := 15) rfl)) (inr1 _ (List.mem_of_getElem? (i := 23) rfl)) (inr15 _ (List.mem_of_getElem? (i := 16) rfl)) (by decide +kernel) hts rfl rfl ⟨Nat.le_of_ble_eq_true rfl, Nat.le_of_ble_eq_true rfl⟩) 0 8 rfl rfl rfl (hP.sub [2] rfl) hK hN hT rfl hl.1 rfl (Nat.le_of_ble_eq_true rfl) ⟨Nat.le_of_ble_eq_true rfl, Nat.le_of_ble_eq_true rfl⟩ dX10_firstWord_82 (fun r_45 h_46 => ?_)
    have h_46 : (r_45 = v_a1_tones) := h_46
    have i_47 := h_46
    obtain rfl := i_47.symm
    refine lv_icmp_ge (tgt := 121) hx hb dX10_firstWord_85 (by decide) (fun c_48 => ?_) (fun c_48 => ?_)
    · have c_48 : v_a1_tones.toInt ≤ l79_9.toInt := ci_ge_t c_48
      have b_v_a1_tones := i32b v_a1_tones
      refine lv_iconst (v := (-1)) hx hb dX10_firstWord_121 (by decide) ?_
      exact ret _ _ _ dX10_firstWord_122 trivial
    · have c_48 : l79_9.toInt < v_a1_tones.toInt := ci_ge_f c_48
      have b_v_a1_tones := i32b v_a1_tones
      refine lv_aload_n hx hb dX10_firstWord_88 rfl (lv_at hl 5 rfl) ?_
      refine va_get (D := D) (ci := 10) (v := .ref h_missing) (C := RX10) (T := TX10) (N := 3) hx hb hts inlX10 hown hK hP 0 rfl rfl 2 (by decide) (hts _ (inr5 _ (List.mem_of_getElem? (i := 19) rfl))) (fun _ h9 => h9) rfl dX10_firstWord_89 ?_
      refine lv_iload hx hb dX10_firstWord_92 (lv_at hl 1 rfl) ?_
      refine lv_iload hx hb dX10_firstWord_94 (lv_at hl 4 rfl) ?_
      refine lv_iload hx hb dX10_firstWord_96 (lv_at hl 3 rfl) ?_
      refine lv_iload hx hb dX10_firstWord_98 (lv_at hl 0 rfl) ?_
      refine rosi (As := [.int r_1, .int v3, .int l79_9]) (rest := [.int r_34, .ref h_missing]) ⟨hx, hb, hml, hown, hts⟩ (b_X10_stateOf l G D cB cI cJ cZ cS cT r_1 v3 l79_9 ) (csB (n := 3) (inr41 _ (List.mem_of_getElem? (i := 22) rfl)) (inr41 _ (List.mem_of_getElem? (i := 23) rfl)) (inr2 _ (List.mem_of_getElem? (i := 20) rfl)) (inr42 _ (List.mem_of_getElem? (i := 0) rfl)) (by decide +kernel) hts rfl rfl ⟨Nat.le_of_ble_eq_true rfl, Nat.le_of_ble_eq_true rfl⟩) (hP.sub [] rfl) hK hN hT rfl hl.1 rfl (Nat.le_of_ble_eq_true rfl) ⟨Nat.le_of_ble_eq_true rfl, Nat.le_of_ble_eq_true rfl⟩ dX10_firstWord_100 (fun r_49 h_50 => ?_)
      have h_50 : (0 ≤ r_49.toInt ∧ r_49.toInt ≤ 80) := h_50
      have i_51 := h_50
      obtain ⟨t_52, et_52⟩ : ∃ v9 : Int32, r_34 + r_49 = v9 := ⟨_, rfl⟩
      refine z_iadd (v := t_52) hx hb dX10_firstWord_103 et_52 ?_
      have b_r_34 := i32b r_34
      have b_r_49 := i32b r_49
      have ft_52 : t_52.toInt = r_34.toInt + r_49.toInt := addT (a := r_34.toInt) (b := r_49.toInt) rfl rfl et_52 (by omega) (by omega)
      obtain ⟨t_53, et_53⟩ : ∃ v9 : Int32, f_missing (t_52 : Int32).toNatClampNeg = v9 := ⟨_, rfl⟩
      refine z_iald (v := t_53) hx hb hK hP 1 1 rfl rfl (vin_nat (by omega) (by omega)) et_53 dX10_firstWord_104 ?_
      refine lv_iconst (v := 1) hx hb dX10_firstWord_105 (by decide) ?_
      obtain ⟨t_54, et_54⟩ : ∃ v9 : Int32, t_53 + 1 = v9 := ⟨_, rfl⟩
      refine z_iadd (v := t_54) hx hb dX10_firstWord_106 et_54 ?_
      refine lv_iload hx hb dX10_firstWord_107 (lv_at hl 2 rfl) ?_
      refine lv_icmp_ne (tgt := 115) hx hb dX10_firstWord_109 (by decide) (fun c_55 => ?_) (fun c_55 => ?_)
      · have c_55 : ¬ t_54.toInt = t_32.toInt := ci_ne_t c_55
        have b_t_54 := i32b t_54
        have b_t_32 := i32b t_32
        obtain ⟨t_56, et_56⟩ : ∃ v9 : Int32, l79_9 + 1 = v9 := ⟨_, rfl⟩
        have ft_56 : t_56.toInt = l79_9.toInt + 1 := addT (a := l79_9.toInt) (b := 1) rfl (by decide) et_56 (by omega) (by omega)
        refine lv_iinc (v := t_56) (lv' := [(9, .int t_56), (8, .int r_34), (7, .int t_32), (6, .int v3), (5, .int r_1), (0, .ref h0), (1, .ref h_a1)]) hx hb dX10_firstWord_115 hl (k := 0) rfl (by rw [← et_56]; rfl) (by decide) rfl (fun ls hl => ?_)
        refine lv_goto (tgt := 79) hx hb dX10_firstWord_118 (by decide) ?_
        exact ih_79 (t_56) _ (by first | assumption | omega | decide) (by omega) (lv_sub hl [0, 1, 2, 3, 4, 5, 6] rfl)
      · have c_55 : t_54.toInt = t_32.toInt := ci_ne_f c_55
        have b_t_54 := i32b t_54
        have b_t_32 := i32b t_32
        refine lv_iload hx hb dX10_firstWord_112 (lv_at hl 0 rfl) ?_
        exact ret _ _ _ dX10_firstWord_114 trivial

set_option maxHeartbeats 4000000 in
set_option maxRecDepth 100000 in
theorem b_X10_firstWord (l : Launch) (G : Gho) (D : va_G) (cB cI cJ cZ cS cT : ClassId) (h0 : Nat) (h_spent : Nat) (h_spentNext : Nat) (h_missing : Nat) (f_missing : Nat → Int32) (h_a1 : Nat) (v_a1_tones : Int32) (v_a1_a : Int32) (v_a1_b : Int32) (v_a1_c : Int32) (v_a1_d : Int32) (v_a1_odds : Int32) (v_a1_lines : Int32) (h_a1_signs : Nat) (v_a1_signCount : Int32) (h_a1_posts : Nat) (v_a1_postCount : Int32) (h_a1_acts : Nat) (f_a1_signs : Nat → Int32) (v2 : Int32) (v3 : Int32) (v4 : Int32) (iv_a1_signCount : 0 ≤ v_a1_signCount.toInt ∧ v_a1_signCount.toInt ≤ 8) (iv_a1_postCount : 0 ≤ v_a1_postCount.toInt ∧ v_a1_postCount.toInt ≤ 5) : Met l yX10_firstWord (Cond.code yX10_firstWord cX10_firstWord 10 (some .int) :: wsL_law) ({ frames := 2, cells := 0, slots := 0, locals := 44 }) (roP G D (tyL cB cI cJ cZ cS cT) [(h0, .inr (10, [.ref h_spent, .ref h_spentNext, .ref h_missing])), (h_missing, .inl (cI, 3321, .inl f_missing)), (h_a1, .inr (8, [.int v_a1_tones, .int v_a1_a, .int v_a1_b, .int v_a1_c, .int v_a1_d, .int v_a1_odds, .int v_a1_lines, .ref h_a1_signs, .int v_a1_signCount, .ref h_a1_posts, .int v_a1_postCount, .ref h_a1_acts])), (h_a1_signs, .inl (cI, 8, .inl f_a1_signs))] [.ref h0, .ref h_a1, .int v2, .int v3, .int v4]) (vp_Si (fun r : Int32 => True)) 0 0 (fun _ => False) := by
  refine metRO (own := RX10) (by decide) rfl ?_
  intro p e s m below meth c Q C hP ret
  obtain ⟨hx, hb, hml, hown, hts, hK, hN, hT⟩ := id C
  have hl := lv_entry ([.ref h0, .ref h_a1, .int v2, .int v3, .int v4]) (n := 10) (Nat.le_of_ble_eq_true rfl)
  rw [lg_entry_eq]
  generalize (lg_sl ([.ref h0, .ref h_a1, .int v2, .int v3, .int v4]) ++ List.replicate (10 - (lg_sl ([.ref h0, .ref h_a1, .int v2, .int v3, .int v4])).length) Slot.unset).toArray = ls at hl ⊢
  have hl : lv_has ls 10 [(0, .ref h0), (1, .ref h_a1), (2, .int v2), (3, .int v3), (4, .int v4)] := hl
  have hP : va_P D vwCl [(h0, .inr (10, [.ref h_spent, .ref h_spentNext, .ref h_missing])), (h_missing, .inl (cI, 3321, .inl f_missing)), (h_a1, .inr (8, [.int v_a1_tones, .int v_a1_a, .int v_a1_b, .int v_a1_c, .int v_a1_d, .int v_a1_odds, .int v_a1_lines, .ref h_a1_signs, .int v_a1_signCount, .ref h_a1_posts, .int v_a1_postCount, .ref h_a1_acts])), (h_a1_signs, .inl (cI, 8, .inl f_a1_signs))] s.heap := hP
  refine lv_aload_n hx hb dX10_firstWord_0 rfl (lv_at hl 1 rfl) ?_
  refine lv_iload_n hx hb dX10_firstWord_1 rfl (lv_at hl 2 rfl) ?_
  refine roi (As := [.int v2]) (rest := []) ⟨hx, hb, hml, hown, hts⟩ (b_X8_isGap l G D cB cI cJ cZ cS cT h_a1 v_a1_tones v_a1_a v_a1_b v_a1_c v_a1_d v_a1_odds v_a1_lines h_a1_signs v_a1_signCount h_a1_posts v_a1_postCount h_a1_acts f_a1_signs v2 (by first | assumption | omega | decide) (by first | assumption | omega | decide)) (cvB (n := 1) (inr41 _ (List.mem_of_getElem? (i := 17) rfl)) (inr23 _ (List.mem_of_getElem? (i := 12) rfl)) (inr23 _ (List.mem_of_getElem? (i := 13) rfl)) (inr1 _ (List.mem_of_getElem? (i := 23) rfl)) (inr23 _ (List.mem_of_getElem? (i := 14) rfl)) (by decide +kernel) hts rfl rfl ⟨Nat.le_of_ble_eq_true rfl, Nat.le_of_ble_eq_true rfl⟩) 0 8 rfl rfl rfl (hP.sub [2, 3] rfl) hK hN hT rfl hl.1 rfl (Nat.le_of_ble_eq_true rfl) ⟨Nat.le_of_ble_eq_true rfl, Nat.le_of_ble_eq_true rfl⟩ dX10_firstWord_2 (fun r_1 h_2 => ?_)
  have h_2 : (r_1 = 0 ∨ r_1 = 1) := h_2
  have i_3 := h_2
  have ar_1 : 0 ≤ r_1.toInt ∧ r_1.toInt ≤ 1 := by rcases i_3 with h | h <;> rw [h] <;> decide
  refine lv_istore (lv' := [(5, .int r_1), (0, .ref h0), (1, .ref h_a1), (2, .int v2), (3, .int v3), (4, .int v4)]) hx hb dX10_firstWord_5 hl (by decide) rfl (fun ls hl => ?_)
  refine lv_iload hx hb dX10_firstWord_7 (lv_at hl 0 rfl) ?_
  refine lv_if_eq (tgt := 16) hx hb dX10_firstWord_9 (by decide) (fun c_4 => ?_) (fun c_4 => ?_)
  · have c_4 : r_1.toInt = 0 := ci_eq_t c_4
    have b_r_1 := i32b r_1
    refine lv_iload hx hb dX10_firstWord_16 (lv_at hl 5 rfl) ?_
    refine lv_istore (lv' := [(6, .int v4), (5, .int r_1), (0, .ref h0), (1, .ref h_a1), (2, .int v2), (3, .int v3), (4, .int v4)]) hx hb dX10_firstWord_18 hl (by decide) rfl (fun ls hl => ?_)
    refine lv_aload_n hx hb dX10_firstWord_20 rfl (lv_at hl 2 rfl) ?_
    refine va_get (D := D) (ci := 10) (v := .ref h_missing) (C := RX10) (T := TX10) (N := 3) hx hb hts inlX10 hown hK hP 0 rfl rfl 2 (by decide) (hts _ (inr5 _ (List.mem_of_getElem? (i := 19) rfl))) (fun _ h9 => h9) rfl dX10_firstWord_21 ?_
    refine lv_iload_n hx hb dX10_firstWord_24 rfl (lv_at hl 4 rfl) ?_
    refine rosi (As := [.int v2]) (rest := [.ref h_missing]) ⟨hx, hb, hml, hown, hts⟩ (b_X10_missingAt l G D cB cI cJ cZ cS cT v2 ) (csB (n := 1) (inr49 _ (List.mem_of_getElem? (i := 4) rfl)) (inr49 _ (List.mem_of_getElem? (i := 5) rfl)) (inr2 _ (List.mem_of_getElem? (i := 20) rfl)) (inr49 _ (List.mem_of_getElem? (i := 6) rfl)) (by decide +kernel) hts rfl rfl ⟨Nat.le_of_ble_eq_true rfl, Nat.le_of_ble_eq_true rfl⟩) (hP.sub [] rfl) hK hN hT rfl hl.1 rfl (Nat.le_of_ble_eq_true rfl) ⟨Nat.le_of_ble_eq_true rfl, Nat.le_of_ble_eq_true rfl⟩ dX10_firstWord_25 (fun r_5 h_6 => ?_)
    have h_6 : (0 ≤ r_5.toInt ∧ r_5.toInt ≤ 3240) := h_6
    have i_7 := h_6
    refine lv_iload_n hx hb dX10_firstWord_28 rfl (lv_at hl 5 rfl) ?_
    refine lv_iload hx hb dX10_firstWord_29 (lv_at hl 6 rfl) ?_
    refine rosi (As := [.int v3, .int v4]) (rest := [.int r_5, .ref h_missing]) ⟨hx, hb, hml, hown, hts⟩ (b_X10_state l G D cB cI cJ cZ cS cT v3 v4 ) (csB (n := 2) (inr41 _ (List.mem_of_getElem? (i := 9) rfl)) (inr41 _ (List.mem_of_getElem? (i := 10) rfl)) (inr2 _ (List.mem_of_getElem? (i := 20) rfl)) (inr41 _ (List.mem_of_getElem? (i := 11) rfl)) (by decide +kernel) hts rfl rfl ⟨Nat.le_of_ble_eq_true rfl, Nat.le_of_ble_eq_true rfl⟩) (hP.sub [] rfl) hK hN hT rfl hl.1 rfl (Nat.le_of_ble_eq_true rfl) ⟨Nat.le_of_ble_eq_true rfl, Nat.le_of_ble_eq_true rfl⟩ dX10_firstWord_31 (fun r_8 h_9 => ?_)
    have h_9 : (0 ≤ r_8.toInt ∧ r_8.toInt ≤ 80) := h_9
    have i_10 := h_9
    obtain ⟨t_11, et_11⟩ : ∃ v9 : Int32, r_5 + r_8 = v9 := ⟨_, rfl⟩
    refine z_iadd (v := t_11) hx hb dX10_firstWord_34 et_11 ?_
    have b_r_5 := i32b r_5
    have b_r_8 := i32b r_8
    have ft_11 : t_11.toInt = r_5.toInt + r_8.toInt := addT (a := r_5.toInt) (b := r_8.toInt) rfl rfl et_11 (by omega) (by omega)
    obtain ⟨t_12, et_12⟩ : ∃ v9 : Int32, f_missing (t_11 : Int32).toNatClampNeg = v9 := ⟨_, rfl⟩
    refine z_iald (v := t_12) hx hb hK hP 1 1 rfl rfl (vin_nat (by omega) (by omega)) et_12 dX10_firstWord_35 ?_
    refine lv_istore (lv' := [(7, .int t_12), (6, .int v4), (5, .int r_1), (0, .ref h0), (1, .ref h_a1), (2, .int v2), (3, .int v3), (4, .int v4)]) hx hb dX10_firstWord_36 hl (by decide) rfl (fun ls hl => ?_)
    refine lv_iload_n hx hb dX10_firstWord_38 rfl (lv_at hl 5 rfl) ?_
    refine lv_iconst (v := 1) hx hb dX10_firstWord_39 (by decide) ?_
    obtain ⟨t_13, et_13⟩ : ∃ v9 : Int32, v2 + 1 = v9 := ⟨_, rfl⟩
    refine z_iadd (v := t_13) hx hb dX10_firstWord_40 et_13 ?_
    refine rosi (As := [.int t_13]) (rest := []) ⟨hx, hb, hml, hown, hts⟩ (b_X10_missingAt l G D cB cI cJ cZ cS cT t_13 ) (csB (n := 1) (inr49 _ (List.mem_of_getElem? (i := 4) rfl)) (inr49 _ (List.mem_of_getElem? (i := 5) rfl)) (inr2 _ (List.mem_of_getElem? (i := 20) rfl)) (inr49 _ (List.mem_of_getElem? (i := 6) rfl)) (by decide +kernel) hts rfl rfl ⟨Nat.le_of_ble_eq_true rfl, Nat.le_of_ble_eq_true rfl⟩) (hP.sub [] rfl) hK hN hT rfl hl.1 rfl (Nat.le_of_ble_eq_true rfl) ⟨Nat.le_of_ble_eq_true rfl, Nat.le_of_ble_eq_true rfl⟩ dX10_firstWord_41 (fun r_14 h_15 => ?_)
    have h_15 : (0 ≤ r_14.toInt ∧ r_14.toInt ≤ 3240) := h_15
    have i_16 := h_15
    refine lv_istore (lv' := [(8, .int r_14), (7, .int t_12), (6, .int v4), (5, .int r_1), (0, .ref h0), (1, .ref h_a1), (2, .int v2), (3, .int v3), (4, .int v4)]) hx hb dX10_firstWord_44 hl (by decide) rfl (fun ls hl => ?_)
    refine lv_aload_n hx hb dX10_firstWord_46 rfl (lv_at hl 4 rfl) ?_
    refine va_get (D := D) (ci := 10) (v := .ref h_missing) (C := RX10) (T := TX10) (N := 3) hx hb hts inlX10 hown hK hP 0 rfl rfl 2 (by decide) (hts _ (inr5 _ (List.mem_of_getElem? (i := 19) rfl))) (fun _ h9 => h9) rfl dX10_firstWord_47 ?_
    refine lv_iload hx hb dX10_firstWord_50 (lv_at hl 0 rfl) ?_
    refine lv_iload hx hb dX10_firstWord_52 (lv_at hl 3 rfl) ?_
    refine lv_iload hx hb dX10_firstWord_54 (lv_at hl 2 rfl) ?_
    refine lv_aload_n hx hb dX10_firstWord_56 rfl (lv_at hl 5 rfl) ?_
    refine lv_iload_n hx hb dX10_firstWord_57 rfl (lv_at hl 6 rfl) ?_
    refine lv_iload_n hx hb dX10_firstWord_58 rfl (lv_at hl 7 rfl) ?_
    refine lv_iload hx hb dX10_firstWord_59 (lv_at hl 8 rfl) ?_
    refine roi (As := [.int v2, .int v3, .int v4]) (rest := [.int v4, .int r_1, .int r_14, .ref h_missing]) ⟨hx, hb, hml, hown, hts⟩ (b_X8_ownTone l G D cB cI cJ cZ cS cT h_a1 v_a1_tones v_a1_a v_a1_b v_a1_c v_a1_d v_a1_odds v_a1_lines h_a1_signs v_a1_signCount h_a1_posts v_a1_postCount h_a1_acts f_a1_signs v2 v3 v4 (by first | assumption | omega | decide) (by first | assumption | omega | decide)) (cvB (n := 3) (inr42 _ (List.mem_of_getElem? (i := 4) rfl)) (inr23 _ (List.mem_of_getElem? (i := 8) rfl)) (inr23 _ (List.mem_of_getElem? (i := 9) rfl)) (inr1 _ (List.mem_of_getElem? (i := 23) rfl)) (inr23 _ (List.mem_of_getElem? (i := 10) rfl)) (by decide +kernel) hts rfl rfl ⟨Nat.le_of_ble_eq_true rfl, Nat.le_of_ble_eq_true rfl⟩) 0 8 rfl rfl rfl (hP.sub [2, 3] rfl) hK hN hT rfl hl.1 rfl (Nat.le_of_ble_eq_true rfl) ⟨Nat.le_of_ble_eq_true rfl, Nat.le_of_ble_eq_true rfl⟩ dX10_firstWord_61 (fun r_17 h_18 => ?_)
    refine rosi (As := [.int r_1, .int v4, .int r_17]) (rest := [.int r_14, .ref h_missing]) ⟨hx, hb, hml, hown, hts⟩ (b_X10_stateOf l G D cB cI cJ cZ cS cT r_1 v4 r_17 ) (csB (n := 3) (inr41 _ (List.mem_of_getElem? (i := 22) rfl)) (inr41 _ (List.mem_of_getElem? (i := 23) rfl)) (inr2 _ (List.mem_of_getElem? (i := 20) rfl)) (inr42 _ (List.mem_of_getElem? (i := 0) rfl)) (by decide +kernel) hts rfl rfl ⟨Nat.le_of_ble_eq_true rfl, Nat.le_of_ble_eq_true rfl⟩) (hP.sub [] rfl) hK hN hT rfl hl.1 rfl (Nat.le_of_ble_eq_true rfl) ⟨Nat.le_of_ble_eq_true rfl, Nat.le_of_ble_eq_true rfl⟩ dX10_firstWord_64 (fun r_19 h_20 => ?_)
    have h_20 : (0 ≤ r_19.toInt ∧ r_19.toInt ≤ 80) := h_20
    have i_21 := h_20
    obtain ⟨t_22, et_22⟩ : ∃ v9 : Int32, r_14 + r_19 = v9 := ⟨_, rfl⟩
    refine z_iadd (v := t_22) hx hb dX10_firstWord_67 et_22 ?_
    have b_r_14 := i32b r_14
    have b_r_19 := i32b r_19
    have ft_22 : t_22.toInt = r_14.toInt + r_19.toInt := addT (a := r_14.toInt) (b := r_19.toInt) rfl rfl et_22 (by omega) (by omega)
    obtain ⟨t_23, et_23⟩ : ∃ v9 : Int32, f_missing (t_22 : Int32).toNatClampNeg = v9 := ⟨_, rfl⟩
    refine z_iald (v := t_23) hx hb hK hP 1 1 rfl rfl (vin_nat (by omega) (by omega)) et_23 dX10_firstWord_68 ?_
    refine lv_iload hx hb dX10_firstWord_69 (lv_at hl 1 rfl) ?_
    refine lv_icmp_ne (tgt := 76) hx hb dX10_firstWord_71 (by decide) (fun c_24 => ?_) (fun c_24 => ?_)
    · have c_24 : ¬ t_23.toInt = t_12.toInt := ci_ne_t c_24
      have b_t_23 := i32b t_23
      have b_t_12 := i32b t_12
      refine lv_iconst (v := 0) hx hb dX10_firstWord_76 (by decide) ?_
      refine lv_istore (lv' := [(9, .int 0), (8, .int r_14), (7, .int t_12), (6, .int v4), (5, .int r_1), (0, .ref h0), (1, .ref h_a1), (2, .int v2), (3, .int v3), (4, .int v4)]) hx hb dX10_firstWord_77 hl (by decide) rfl (fun ls hl => ?_)
      exact b_X10_firstWord_l79 h0 h_spent h_spentNext h_missing f_missing h_a1 v_a1_tones v_a1_a v_a1_b v_a1_c v_a1_d v_a1_odds v_a1_lines h_a1_signs v_a1_signCount h_a1_posts v_a1_postCount h_a1_acts f_a1_signs v4 r_14 t_12 r_1 (by first | assumption | omega | decide) (by first | assumption | omega | decide) (by first | assumption | omega | decide) (by first | assumption | omega | decide) (by first | assumption | omega | decide) C (hP.sub [0, 1, 2, 3] rfl) ret _ (0) _ (by first | assumption | omega | decide) (Nat.lt_succ_self _) (lv_sub hl [0, 1, 2, 3, 4, 5, 6] rfl)
    · have c_24 : t_23.toInt = t_12.toInt := ci_ne_f c_24
      have b_t_23 := i32b t_23
      have b_t_12 := i32b t_12
      refine lv_iconst (v := (-1)) hx hb dX10_firstWord_74 (by decide) ?_
      exact ret _ _ _ dX10_firstWord_75 trivial
  · have c_4 : ¬ r_1.toInt = 0 := ci_eq_f c_4
    have b_r_1 := i32b r_1
    refine lv_iload_n hx hb dX10_firstWord_12 rfl (lv_at hl 4 rfl) ?_
    refine lv_goto (tgt := 18) hx hb dX10_firstWord_13 (by decide) ?_
    refine lv_istore (lv' := [(6, .int v3), (5, .int r_1), (0, .ref h0), (1, .ref h_a1), (2, .int v2), (3, .int v3), (4, .int v4)]) hx hb dX10_firstWord_18 hl (by decide) rfl (fun ls hl => ?_)
    refine lv_aload_n hx hb dX10_firstWord_20 rfl (lv_at hl 2 rfl) ?_
    refine va_get (D := D) (ci := 10) (v := .ref h_missing) (C := RX10) (T := TX10) (N := 3) hx hb hts inlX10 hown hK hP 0 rfl rfl 2 (by decide) (hts _ (inr5 _ (List.mem_of_getElem? (i := 19) rfl))) (fun _ h9 => h9) rfl dX10_firstWord_21 ?_
    refine lv_iload_n hx hb dX10_firstWord_24 rfl (lv_at hl 4 rfl) ?_
    refine rosi (As := [.int v2]) (rest := [.ref h_missing]) ⟨hx, hb, hml, hown, hts⟩ (b_X10_missingAt l G D cB cI cJ cZ cS cT v2 ) (csB (n := 1) (inr49 _ (List.mem_of_getElem? (i := 4) rfl)) (inr49 _ (List.mem_of_getElem? (i := 5) rfl)) (inr2 _ (List.mem_of_getElem? (i := 20) rfl)) (inr49 _ (List.mem_of_getElem? (i := 6) rfl)) (by decide +kernel) hts rfl rfl ⟨Nat.le_of_ble_eq_true rfl, Nat.le_of_ble_eq_true rfl⟩) (hP.sub [] rfl) hK hN hT rfl hl.1 rfl (Nat.le_of_ble_eq_true rfl) ⟨Nat.le_of_ble_eq_true rfl, Nat.le_of_ble_eq_true rfl⟩ dX10_firstWord_25 (fun r_25 h_26 => ?_)
    have h_26 : (0 ≤ r_25.toInt ∧ r_25.toInt ≤ 3240) := h_26
    have i_27 := h_26
    refine lv_iload_n hx hb dX10_firstWord_28 rfl (lv_at hl 5 rfl) ?_
    refine lv_iload hx hb dX10_firstWord_29 (lv_at hl 6 rfl) ?_
    refine rosi (As := [.int v3, .int v4]) (rest := [.int r_25, .ref h_missing]) ⟨hx, hb, hml, hown, hts⟩ (b_X10_state l G D cB cI cJ cZ cS cT v3 v4 ) (csB (n := 2) (inr41 _ (List.mem_of_getElem? (i := 9) rfl)) (inr41 _ (List.mem_of_getElem? (i := 10) rfl)) (inr2 _ (List.mem_of_getElem? (i := 20) rfl)) (inr41 _ (List.mem_of_getElem? (i := 11) rfl)) (by decide +kernel) hts rfl rfl ⟨Nat.le_of_ble_eq_true rfl, Nat.le_of_ble_eq_true rfl⟩) (hP.sub [] rfl) hK hN hT rfl hl.1 rfl (Nat.le_of_ble_eq_true rfl) ⟨Nat.le_of_ble_eq_true rfl, Nat.le_of_ble_eq_true rfl⟩ dX10_firstWord_31 (fun r_28 h_29 => ?_)
    have h_29 : (0 ≤ r_28.toInt ∧ r_28.toInt ≤ 80) := h_29
    have i_30 := h_29
    obtain ⟨t_31, et_31⟩ : ∃ v9 : Int32, r_25 + r_28 = v9 := ⟨_, rfl⟩
    refine z_iadd (v := t_31) hx hb dX10_firstWord_34 et_31 ?_
    have b_r_25 := i32b r_25
    have b_r_28 := i32b r_28
    have ft_31 : t_31.toInt = r_25.toInt + r_28.toInt := addT (a := r_25.toInt) (b := r_28.toInt) rfl rfl et_31 (by omega) (by omega)
    obtain ⟨t_32, et_32⟩ : ∃ v9 : Int32, f_missing (t_31 : Int32).toNatClampNeg = v9 := ⟨_, rfl⟩
    refine z_iald (v := t_32) hx hb hK hP 1 1 rfl rfl (vin_nat (by omega) (by omega)) et_32 dX10_firstWord_35 ?_
    refine lv_istore (lv' := [(7, .int t_32), (6, .int v3), (5, .int r_1), (0, .ref h0), (1, .ref h_a1), (2, .int v2), (3, .int v3), (4, .int v4)]) hx hb dX10_firstWord_36 hl (by decide) rfl (fun ls hl => ?_)
    refine lv_iload_n hx hb dX10_firstWord_38 rfl (lv_at hl 5 rfl) ?_
    refine lv_iconst (v := 1) hx hb dX10_firstWord_39 (by decide) ?_
    obtain ⟨t_33, et_33⟩ : ∃ v9 : Int32, v2 + 1 = v9 := ⟨_, rfl⟩
    refine z_iadd (v := t_33) hx hb dX10_firstWord_40 et_33 ?_
    refine rosi (As := [.int t_33]) (rest := []) ⟨hx, hb, hml, hown, hts⟩ (b_X10_missingAt l G D cB cI cJ cZ cS cT t_33 ) (csB (n := 1) (inr49 _ (List.mem_of_getElem? (i := 4) rfl)) (inr49 _ (List.mem_of_getElem? (i := 5) rfl)) (inr2 _ (List.mem_of_getElem? (i := 20) rfl)) (inr49 _ (List.mem_of_getElem? (i := 6) rfl)) (by decide +kernel) hts rfl rfl ⟨Nat.le_of_ble_eq_true rfl, Nat.le_of_ble_eq_true rfl⟩) (hP.sub [] rfl) hK hN hT rfl hl.1 rfl (Nat.le_of_ble_eq_true rfl) ⟨Nat.le_of_ble_eq_true rfl, Nat.le_of_ble_eq_true rfl⟩ dX10_firstWord_41 (fun r_34 h_35 => ?_)
    have h_35 : (0 ≤ r_34.toInt ∧ r_34.toInt ≤ 3240) := h_35
    have i_36 := h_35
    refine lv_istore (lv' := [(8, .int r_34), (7, .int t_32), (6, .int v3), (5, .int r_1), (0, .ref h0), (1, .ref h_a1), (2, .int v2), (3, .int v3), (4, .int v4)]) hx hb dX10_firstWord_44 hl (by decide) rfl (fun ls hl => ?_)
    refine lv_aload_n hx hb dX10_firstWord_46 rfl (lv_at hl 4 rfl) ?_
    refine va_get (D := D) (ci := 10) (v := .ref h_missing) (C := RX10) (T := TX10) (N := 3) hx hb hts inlX10 hown hK hP 0 rfl rfl 2 (by decide) (hts _ (inr5 _ (List.mem_of_getElem? (i := 19) rfl))) (fun _ h9 => h9) rfl dX10_firstWord_47 ?_
    refine lv_iload hx hb dX10_firstWord_50 (lv_at hl 0 rfl) ?_
    refine lv_iload hx hb dX10_firstWord_52 (lv_at hl 3 rfl) ?_
    refine lv_iload hx hb dX10_firstWord_54 (lv_at hl 2 rfl) ?_
    refine lv_aload_n hx hb dX10_firstWord_56 rfl (lv_at hl 5 rfl) ?_
    refine lv_iload_n hx hb dX10_firstWord_57 rfl (lv_at hl 6 rfl) ?_
    refine lv_iload_n hx hb dX10_firstWord_58 rfl (lv_at hl 7 rfl) ?_
    refine lv_iload hx hb dX10_firstWord_59 (lv_at hl 8 rfl) ?_
    refine roi (As := [.int v2, .int v3, .int v4]) (rest := [.int v3, .int r_1, .int r_34, .ref h_missing]) ⟨hx, hb, hml, hown, hts⟩ (b_X8_ownTone l G D cB cI cJ cZ cS cT h_a1 v_a1_tones v_a1_a v_a1_b v_a1_c v_a1_d v_a1_odds v_a1_lines h_a1_signs v_a1_signCount h_a1_posts v_a1_postCount h_a1_acts f_a1_signs v2 v3 v4 (by first | assumption | omega | decide) (by first | assumption | omega | decide)) (cvB (n := 3) (inr42 _ (List.mem_of_getElem? (i := 4) rfl)) (inr23 _ (List.mem_of_getElem? (i := 8) rfl)) (inr23 _ (List.mem_of_getElem? (i := 9) rfl)) (inr1 _ (List.mem_of_getElem? (i := 23) rfl)) (inr23 _ (List.mem_of_getElem? (i := 10) rfl)) (by decide +kernel) hts rfl rfl ⟨Nat.le_of_ble_eq_true rfl, Nat.le_of_ble_eq_true rfl⟩) 0 8 rfl rfl rfl (hP.sub [2, 3] rfl) hK hN hT rfl hl.1 rfl (Nat.le_of_ble_eq_true rfl) ⟨Nat.le_of_ble_eq_true rfl, Nat.le_of_ble_eq_true rfl⟩ dX10_firstWord_61 (fun r_37 h_38 => ?_)
    refine rosi (As := [.int r_1, .int v3, .int r_37]) (rest := [.int r_34, .ref h_missing]) ⟨hx, hb, hml, hown, hts⟩ (b_X10_stateOf l G D cB cI cJ cZ cS cT r_1 v3 r_37 ) (csB (n := 3) (inr41 _ (List.mem_of_getElem? (i := 22) rfl)) (inr41 _ (List.mem_of_getElem? (i := 23) rfl)) (inr2 _ (List.mem_of_getElem? (i := 20) rfl)) (inr42 _ (List.mem_of_getElem? (i := 0) rfl)) (by decide +kernel) hts rfl rfl ⟨Nat.le_of_ble_eq_true rfl, Nat.le_of_ble_eq_true rfl⟩) (hP.sub [] rfl) hK hN hT rfl hl.1 rfl (Nat.le_of_ble_eq_true rfl) ⟨Nat.le_of_ble_eq_true rfl, Nat.le_of_ble_eq_true rfl⟩ dX10_firstWord_64 (fun r_39 h_40 => ?_)
    have h_40 : (0 ≤ r_39.toInt ∧ r_39.toInt ≤ 80) := h_40
    have i_41 := h_40
    obtain ⟨t_42, et_42⟩ : ∃ v9 : Int32, r_34 + r_39 = v9 := ⟨_, rfl⟩
    refine z_iadd (v := t_42) hx hb dX10_firstWord_67 et_42 ?_
    have b_r_34 := i32b r_34
    have b_r_39 := i32b r_39
    have ft_42 : t_42.toInt = r_34.toInt + r_39.toInt := addT (a := r_34.toInt) (b := r_39.toInt) rfl rfl et_42 (by omega) (by omega)
    obtain ⟨t_43, et_43⟩ : ∃ v9 : Int32, f_missing (t_42 : Int32).toNatClampNeg = v9 := ⟨_, rfl⟩
    refine z_iald (v := t_43) hx hb hK hP 1 1 rfl rfl (vin_nat (by omega) (by omega)) et_43 dX10_firstWord_68 ?_
    refine lv_iload hx hb dX10_firstWord_69 (lv_at hl 1 rfl) ?_
    refine lv_icmp_ne (tgt := 76) hx hb dX10_firstWord_71 (by decide) (fun c_44 => ?_) (fun c_44 => ?_)
    · have c_44 : ¬ t_43.toInt = t_32.toInt := ci_ne_t c_44
      have b_t_43 := i32b t_43
      have b_t_32 := i32b t_32
      refine lv_iconst (v := 0) hx hb dX10_firstWord_76 (by decide) ?_
      refine lv_istore (lv' := [(9, .int 0), (8, .int r_34), (7, .int t_32), (6, .int v3), (5, .int r_1), (0, .ref h0), (1, .ref h_a1), (2, .int v2), (3, .int v3), (4, .int v4)]) hx hb dX10_firstWord_77 hl (by decide) rfl (fun ls hl => ?_)
      exact b_X10_firstWord_l79x h0 h_spent h_spentNext h_missing f_missing h_a1 v_a1_tones v_a1_a v_a1_b v_a1_c v_a1_d v_a1_odds v_a1_lines h_a1_signs v_a1_signCount h_a1_posts v_a1_postCount h_a1_acts f_a1_signs v3 r_34 t_32 r_1 (by first | assumption | omega | decide) (by first | assumption | omega | decide) (by first | assumption | omega | decide) (by first | assumption | omega | decide) (by first | assumption | omega | decide) C (hP.sub [0, 1, 2, 3] rfl) ret _ (0) _ (by first | assumption | omega | decide) (Nat.lt_succ_self _) (lv_sub hl [0, 1, 2, 3, 4, 5, 6] rfl)
    · have c_44 : t_43.toInt = t_32.toInt := ci_ne_f c_44
      have b_t_43 := i32b t_43
      have b_t_32 := i32b t_32
      refine lv_iconst (v := (-1)) hx hb dX10_firstWord_74 (by decide) ?_
      exact ret _ _ _ dX10_firstWord_75 trivial

set_option maxHeartbeats 4000000 in
set_option maxRecDepth 100000 in
theorem b_X10_spokenByPlan_l48 {p : Program} {l : Launch} {e : Env} {s : State} {m : MethodId} {args : Array Value} {below : List Frame} {meth : Method} {c : Code} {Q : State → Prop} {G : Gho} {D : va_G} {cB cI cJ cZ cS cT : ClassId} {A : Nat → Prop} (h0 : Nat) (h_spent : Nat) (h_spentNext : Nat) (h_missing : Nat) (h_a1 : Nat) (v_a1_tones : Int32) (v_a1_a : Int32) (v_a1_b : Int32) (v_a1_c : Int32) (v_a1_d : Int32) (v_a1_odds : Int32) (v_a1_lines : Int32) (h_a1_signs : Nat) (v_a1_signCount : Int32) (h_a1_posts : Nat) (v_a1_postCount : Int32) (h_a1_acts : Nat) (f_a1_signs : Nat → Int32) (v4 : Int32) (g_8 : Nat → Int32) (iv_a1_signCount : 0 ≤ v_a1_signCount.toInt ∧ v_a1_signCount.toInt ≤ 8) (iv_a1_postCount : 0 ≤ v_a1_postCount.toInt ∧ v_a1_postCount.toInt ≤ 5) (zv4 : (-2147483648) ≤ v4.toInt ∧ v4.toInt ≤ 2147483646) (c_4 : ¬ v_a1_signCount.toInt = 0) (C : Cx p s m args c RX10 cX10_spokenByPlan 11 G D (tyL cB cI cJ cZ cS cT)) (hG : G.1 ≤ s.heap.size) (hAB : ∀ q, A q → G.1 ≤ q) (hA : ∀ q : Nat, s.heap.size ≤ q → A q) (ret : RetI p l e ({ frames := 5, cells := 0, slots := 0, locals := 126 }) s m args below meth c cX10_spokenByPlan D A (fun x : (Nat → Int32) => [(h0, .inr (10, [.ref h_spent, .ref h_spentNext, .ref h_missing])), (h_missing, .inl (cI, 3321, .inl x)), (h_a1, .inr (8, [.int v_a1_tones, .int v_a1_a, .int v_a1_b, .int v_a1_c, .int v_a1_d, .int v_a1_odds, .int v_a1_lines, .ref h_a1_signs, .int v_a1_signCount, .ref h_a1_posts, .int v_a1_postCount, .ref h_a1_acts])), (h_a1_signs, .inl (cI, 8, .inl f_a1_signs))]) (fun (r : Int32) (x : (Nat → Int32)) => True) Q) :
    ∀ (N : Nat) (l48_8 : Int32) (l48_7 : Int32) (l48_6 : Int32) (l48_5 : Int32) (H : Heap) (locs : List Loc) (ls : Array Slot), 0 ≤ l48_8.toInt → (v4.toInt - l48_8.toInt + 1).toNat < N → va_P D vwCl [(h0, .inr (10, [.ref h_spent, .ref h_spentNext, .ref h_missing])), (h_missing, .inl (cI, 3321, .inl g_8)), (h_a1, .inr (8, [.int v_a1_tones, .int v_a1_a, .int v_a1_b, .int v_a1_c, .int v_a1_d, .int v_a1_odds, .int v_a1_lines, .ref h_a1_signs, .int v_a1_signCount, .ref h_a1_posts, .int v_a1_postCount, .ref h_a1_acts])), (h_a1_signs, .inl (cI, 8, .inl f_a1_signs))] H → va_D A [(h0, .inr (10, [.ref h_spent, .ref h_spentNext, .ref h_missing])), (h_missing, .inl (cI, 3321, .inl g_8)), (h_a1, .inr (8, [.int v_a1_tones, .int v_a1_a, .int v_a1_b, .int v_a1_c, .int v_a1_d, .int v_a1_odds, .int v_a1_lines, .ref h_a1_signs, .int v_a1_signCount, .ref h_a1_posts, .int v_a1_postCount, .ref h_a1_acts])), (h_a1_signs, .inl (cI, 8, .inl f_a1_signs))] → va_S A s.heap H locs → lv_has ls 11 [(8, .int l48_8), (7, .int l48_7), (6, .int l48_6), (5, .int l48_5), (0, .ref h0), (1, .ref h_a1), (4, .int v4)] → W p l e ({ frames := 5, cells := 0, slots := 0, locals := 126 }) s m args below meth c H locs 0 0 Q (F0 m 48 ls []) := by
  obtain ⟨hx, hb, hml, hown, hts, hK, hN, hT⟩ := id C
  intro N
  induction N with
  | zero =>
    intro l48_8 l48_7 l48_6 l48_5 H locs ls kl48_8 hM_48 hP hD hS hl
    omega
  | succ N_48 ih_48 =>
    intro l48_8 l48_7 l48_6 l48_5 H locs ls kl48_8 hM_48 hP hD hS hl
    have b_l48_8 := i32b l48_8
    refine lv_iload hx hb dX10_spokenByPlan_48 (lv_at hl 0 rfl) ?_
    refine lv_iload hx hb dX10_spokenByPlan_50 (lv_at hl 6 rfl) ?_
    refine lv_icmp_gt (tgt := 140) hx hb dX10_spokenByPlan_52 (by decide) (fun c_11 => ?_) (fun c_11 => ?_)
    · have c_11 : v4.toInt < l48_8.toInt := ci_gt_t c_11
      have b_v4 := i32b v4
      refine lv_iload hx hb dX10_spokenByPlan_140 (lv_at hl 1 rfl) ?_
      exact ret _ _ _ _ _ g_8 dX10_spokenByPlan_142 trivial (hP.sub [0, 1, 2, 3] rfl) (hD.sub [0, 1, 2, 3] (by decide) rfl) hS
    · have c_11 : l48_8.toInt ≤ v4.toInt := ci_gt_f c_11
      have b_v4 := i32b v4
      refine lv_iload hx hb dX10_spokenByPlan_55 (lv_at hl 0 rfl) ?_
      refine lv_bipush (v := 40) hx hb dX10_spokenByPlan_57 (by decide) ?_
      refine lv_icmp_ge (tgt := 140) hx hb dX10_spokenByPlan_59 (by decide) (fun c_12 => ?_) (fun c_12 => ?_)
      · have c_12 : 40 ≤ l48_8.toInt := ci_ge_t c_12
        refine lv_iload hx hb dX10_spokenByPlan_140 (lv_at hl 1 rfl) ?_
        exact ret _ _ _ _ _ g_8 dX10_spokenByPlan_142 trivial (hP.sub [0, 1, 2, 3] rfl) (hD.sub [0, 1, 2, 3] (by decide) rfl) hS
      · have c_12 : l48_8.toInt < 40 := ci_ge_f c_12
        refine lv_aload_n hx hb dX10_spokenByPlan_62 rfl (lv_at hl 4 rfl) ?_
        refine lv_aload_n hx hb dX10_spokenByPlan_63 rfl (lv_at hl 5 rfl) ?_
        refine lv_iload hx hb dX10_spokenByPlan_64 (lv_at hl 0 rfl) ?_
        refine lv_iload hx hb dX10_spokenByPlan_66 (lv_at hl 3 rfl) ?_
        refine lv_iload hx hb dX10_spokenByPlan_68 (lv_at hl 2 rfl) ?_
        refine roi (As := [.ref h_a1, .int l48_8, .int l48_5, .int l48_6]) (rest := []) ⟨hx, hb, hml, hown, hts⟩ (b_X10_firstWord l G D cB cI cJ cZ cS cT h0 h_spent h_spentNext h_missing g_8 h_a1 v_a1_tones v_a1_a v_a1_b v_a1_c v_a1_d v_a1_odds v_a1_lines h_a1_signs v_a1_signCount h_a1_posts v_a1_postCount h_a1_acts f_a1_signs l48_8 l48_5 l48_6 (by first | assumption | omega | decide) (by first | assumption | omega | decide)) (cvB (n := 4) (inr49 _ (List.mem_of_getElem? (i := 12) rfl)) (inr49 _ (List.mem_of_getElem? (i := 13) rfl)) (inr49 _ (List.mem_of_getElem? (i := 14) rfl)) (inr2 _ (List.mem_of_getElem? (i := 20) rfl)) (inr49 _ (List.mem_of_getElem? (i := 15) rfl)) (by decide +kernel) hts rfl rfl ⟨Nat.le_of_ble_eq_true rfl, Nat.le_of_ble_eq_true rfl⟩) 0 10 rfl rfl rfl (hP.sub [0, 1, 2, 3] rfl) hK hN (kT.to hT hS hAB) rfl hl.1 rfl (Nat.le_of_ble_eq_true rfl) ⟨Nat.le_of_ble_eq_true rfl, Nat.le_of_ble_eq_true rfl⟩ dX10_spokenByPlan_70 (fun r_13 h_14 => ?_)
        refine lv_istore (lv' := [(7, .int r_13), (8, .int l48_8), (6, .int l48_6), (5, .int l48_5), (0, .ref h0), (1, .ref h_a1), (4, .int v4)]) hx hb dX10_spokenByPlan_73 hl (by decide) rfl (fun ls hl => ?_)
        refine lv_iload hx hb dX10_spokenByPlan_75 (lv_at hl 0 rfl) ?_
        refine lv_iconst (v := (-1)) hx hb dX10_spokenByPlan_77 (by decide) ?_
        refine lv_icmp_ne (tgt := 94) hx hb dX10_spokenByPlan_78 (by decide) (fun c_15 => ?_) (fun c_15 => ?_)
        · have c_15 : ¬ r_13.toInt = (-1) := ci_ne_t c_15
          have b_r_13 := i32b r_13
          refine lv_iload hx hb dX10_spokenByPlan_94 (lv_at hl 0 rfl) ?_
          refine lv_istore (lv' := [(9, .int r_13), (7, .int r_13), (8, .int l48_8), (6, .int l48_6), (5, .int l48_5), (0, .ref h0), (1, .ref h_a1), (4, .int v4)]) hx hb dX10_spokenByPlan_96 hl (by decide) rfl (fun ls hl => ?_)
          refine lv_aload_n hx hb dX10_spokenByPlan_98 rfl (lv_at hl 6 rfl) ?_
          refine lv_iload hx hb dX10_spokenByPlan_99 (lv_at hl 2 rfl) ?_
          refine roi (As := [.int l48_8]) (rest := []) ⟨hx, hb, hml, hown, hts⟩ (b_X8_isGap l G D cB cI cJ cZ cS cT h_a1 v_a1_tones v_a1_a v_a1_b v_a1_c v_a1_d v_a1_odds v_a1_lines h_a1_signs v_a1_signCount h_a1_posts v_a1_postCount h_a1_acts f_a1_signs l48_8 (by first | assumption | omega | decide) (by first | assumption | omega | decide)) (cvB (n := 1) (inr41 _ (List.mem_of_getElem? (i := 17) rfl)) (inr23 _ (List.mem_of_getElem? (i := 12) rfl)) (inr23 _ (List.mem_of_getElem? (i := 13) rfl)) (inr1 _ (List.mem_of_getElem? (i := 23) rfl)) (inr23 _ (List.mem_of_getElem? (i := 14) rfl)) (by decide +kernel) hts rfl rfl ⟨Nat.le_of_ble_eq_true rfl, Nat.le_of_ble_eq_true rfl⟩) 0 8 rfl rfl rfl (hP.sub [2, 3] rfl) hK hN (kT.to hT hS hAB) rfl hl.1 rfl (Nat.le_of_ble_eq_true rfl) ⟨Nat.le_of_ble_eq_true rfl, Nat.le_of_ble_eq_true rfl⟩ dX10_spokenByPlan_101 (fun r_16 h_17 => ?_)
          have h_17 : (r_16 = 0 ∨ r_16 = 1) := h_17
          have i_18 := h_17
          have ar_16 : 0 ≤ r_16.toInt ∧ r_16.toInt ≤ 1 := by rcases i_18 with h | h <;> rw [h] <;> decide
          refine lv_istore (lv' := [(10, .int r_16), (9, .int r_13), (7, .int r_13), (8, .int l48_8), (6, .int l48_6), (5, .int l48_5), (0, .ref h0), (1, .ref h_a1), (4, .int v4)]) hx hb dX10_spokenByPlan_104 hl (by decide) rfl (fun ls hl => ?_)
          refine lv_iload hx hb dX10_spokenByPlan_106 (lv_at hl 0 rfl) ?_
          refine lv_if_eq (tgt := 116) hx hb dX10_spokenByPlan_108 (by decide) (fun c_19 => ?_) (fun c_19 => ?_)
          · have c_19 : r_16.toInt = 0 := ci_eq_t c_19
            have b_r_16 := i32b r_16
            refine lv_iload hx hb dX10_spokenByPlan_116 (lv_at hl 1 rfl) ?_
            refine lv_istore (lv' := [(5, .int r_13), (10, .int r_16), (9, .int r_13), (7, .int r_13), (8, .int l48_8), (6, .int l48_6), (0, .ref h0), (1, .ref h_a1), (4, .int v4)]) hx hb dX10_spokenByPlan_118 hl (by decide) rfl (fun ls hl => ?_)
            refine lv_iload hx hb dX10_spokenByPlan_120 (lv_at hl 1 rfl) ?_
            refine lv_if_eq (tgt := 130) hx hb dX10_spokenByPlan_122 (by decide) (fun c_20 => ?_) (fun c_20 => ?_)
            · have c_20 : r_16.toInt = 0 := ci_eq_t c_20
              refine lv_iload hx hb dX10_spokenByPlan_130 (lv_at hl 5 rfl) ?_
              refine lv_istore (lv' := [(6, .int l48_6), (5, .int r_13), (10, .int r_16), (9, .int r_13), (7, .int r_13), (8, .int l48_8), (0, .ref h0), (1, .ref h_a1), (4, .int v4)]) hx hb dX10_spokenByPlan_132 hl (by decide) rfl (fun ls hl => ?_)
              obtain ⟨t_21, et_21⟩ : ∃ v9 : Int32, l48_8 + 1 = v9 := ⟨_, rfl⟩
              have ft_21 : t_21.toInt = l48_8.toInt + 1 := addT (a := l48_8.toInt) (b := 1) rfl (by decide) et_21 (by omega) (by omega)
              refine lv_iinc (v := t_21) (lv' := [(8, .int t_21), (6, .int l48_6), (5, .int r_13), (10, .int r_16), (9, .int r_13), (7, .int r_13), (0, .ref h0), (1, .ref h_a1), (4, .int v4)]) hx hb dX10_spokenByPlan_134 hl (k := 5) rfl (by rw [← et_21]; rfl) (by decide) rfl (fun ls hl => ?_)
              refine lv_goto (tgt := 48) hx hb dX10_spokenByPlan_137 (by decide) ?_
              exact ih_48 (t_21) (r_13) (l48_6) (r_13) _ _ _ (by first | assumption | omega | decide) (by omega) (hP.sub [0, 1, 2, 3] rfl) (hD.sub [0, 1, 2, 3] (by decide) rfl) hS (lv_sub hl [0, 5, 1, 2, 6, 7, 8] rfl)
            · have c_20 : ¬ r_16.toInt = 0 := ci_eq_f c_20
              exfalso
              omega
          · have c_19 : ¬ r_16.toInt = 0 := ci_eq_f c_19
            have b_r_16 := i32b r_16
            refine lv_iload hx hb dX10_spokenByPlan_111 (lv_at hl 5 rfl) ?_
            refine lv_goto (tgt := 118) hx hb dX10_spokenByPlan_113 (by decide) ?_
            refine lv_istore (lv' := [(5, .int l48_5), (10, .int r_16), (9, .int r_13), (7, .int r_13), (8, .int l48_8), (6, .int l48_6), (0, .ref h0), (1, .ref h_a1), (4, .int v4)]) hx hb dX10_spokenByPlan_118 hl (by decide) rfl (fun ls hl => ?_)
            refine lv_iload hx hb dX10_spokenByPlan_120 (lv_at hl 1 rfl) ?_
            refine lv_if_eq (tgt := 130) hx hb dX10_spokenByPlan_122 (by decide) (fun c_22 => ?_) (fun c_22 => ?_)
            · have c_22 : r_16.toInt = 0 := ci_eq_t c_22
              exfalso
              omega
            · have c_22 : ¬ r_16.toInt = 0 := ci_eq_f c_22
              refine lv_iload hx hb dX10_spokenByPlan_125 (lv_at hl 2 rfl) ?_
              refine lv_goto (tgt := 132) hx hb dX10_spokenByPlan_127 (by decide) ?_
              refine lv_istore (lv' := [(6, .int r_13), (5, .int l48_5), (10, .int r_16), (9, .int r_13), (7, .int r_13), (8, .int l48_8), (0, .ref h0), (1, .ref h_a1), (4, .int v4)]) hx hb dX10_spokenByPlan_132 hl (by decide) rfl (fun ls hl => ?_)
              obtain ⟨t_23, et_23⟩ : ∃ v9 : Int32, l48_8 + 1 = v9 := ⟨_, rfl⟩
              have ft_23 : t_23.toInt = l48_8.toInt + 1 := addT (a := l48_8.toInt) (b := 1) rfl (by decide) et_23 (by omega) (by omega)
              refine lv_iinc (v := t_23) (lv' := [(8, .int t_23), (6, .int r_13), (5, .int l48_5), (10, .int r_16), (9, .int r_13), (7, .int r_13), (0, .ref h0), (1, .ref h_a1), (4, .int v4)]) hx hb dX10_spokenByPlan_134 hl (k := 5) rfl (by rw [← et_23]; rfl) (by decide) rfl (fun ls hl => ?_)
              refine lv_goto (tgt := 48) hx hb dX10_spokenByPlan_137 (by decide) ?_
              exact ih_48 (t_23) (r_13) (r_13) (l48_5) _ _ _ (by first | assumption | omega | decide) (by omega) (hP.sub [0, 1, 2, 3] rfl) (hD.sub [0, 1, 2, 3] (by decide) rfl) hS (lv_sub hl [0, 5, 1, 2, 6, 7, 8] rfl)
        · have c_15 : r_13.toInt = (-1) := ci_ne_f c_15
          have b_r_13 := i32b r_13
          refine lv_aload_n hx hb dX10_spokenByPlan_81 rfl (lv_at hl 5 rfl) ?_
          refine lv_iload hx hb dX10_spokenByPlan_82 (lv_at hl 1 rfl) ?_
          refine lv_iload hx hb dX10_spokenByPlan_84 (lv_at hl 3 rfl) ?_
          refine lv_iload hx hb dX10_spokenByPlan_86 (lv_at hl 2 rfl) ?_
          refine roi (As := [.int l48_8, .int l48_5, .int l48_6]) (rest := []) ⟨hx, hb, hml, hown, hts⟩ (b_X8_ownTone l G D cB cI cJ cZ cS cT h_a1 v_a1_tones v_a1_a v_a1_b v_a1_c v_a1_d v_a1_odds v_a1_lines h_a1_signs v_a1_signCount h_a1_posts v_a1_postCount h_a1_acts f_a1_signs l48_8 l48_5 l48_6 (by first | assumption | omega | decide) (by first | assumption | omega | decide)) (cvB (n := 3) (inr42 _ (List.mem_of_getElem? (i := 4) rfl)) (inr23 _ (List.mem_of_getElem? (i := 8) rfl)) (inr23 _ (List.mem_of_getElem? (i := 9) rfl)) (inr1 _ (List.mem_of_getElem? (i := 23) rfl)) (inr23 _ (List.mem_of_getElem? (i := 10) rfl)) (by decide +kernel) hts rfl rfl ⟨Nat.le_of_ble_eq_true rfl, Nat.le_of_ble_eq_true rfl⟩) 0 8 rfl rfl rfl (hP.sub [2, 3] rfl) hK hN (kT.to hT hS hAB) rfl hl.1 rfl (Nat.le_of_ble_eq_true rfl) ⟨Nat.le_of_ble_eq_true rfl, Nat.le_of_ble_eq_true rfl⟩ dX10_spokenByPlan_88 (fun r_24 h_25 => ?_)
          refine lv_goto (tgt := 96) hx hb dX10_spokenByPlan_91 (by decide) ?_
          refine lv_istore (lv' := [(9, .int r_24), (7, .int r_13), (8, .int l48_8), (6, .int l48_6), (5, .int l48_5), (0, .ref h0), (1, .ref h_a1), (4, .int v4)]) hx hb dX10_spokenByPlan_96 hl (by decide) rfl (fun ls hl => ?_)
          refine lv_aload_n hx hb dX10_spokenByPlan_98 rfl (lv_at hl 6 rfl) ?_
          refine lv_iload hx hb dX10_spokenByPlan_99 (lv_at hl 2 rfl) ?_
          refine roi (As := [.int l48_8]) (rest := []) ⟨hx, hb, hml, hown, hts⟩ (b_X8_isGap l G D cB cI cJ cZ cS cT h_a1 v_a1_tones v_a1_a v_a1_b v_a1_c v_a1_d v_a1_odds v_a1_lines h_a1_signs v_a1_signCount h_a1_posts v_a1_postCount h_a1_acts f_a1_signs l48_8 (by first | assumption | omega | decide) (by first | assumption | omega | decide)) (cvB (n := 1) (inr41 _ (List.mem_of_getElem? (i := 17) rfl)) (inr23 _ (List.mem_of_getElem? (i := 12) rfl)) (inr23 _ (List.mem_of_getElem? (i := 13) rfl)) (inr1 _ (List.mem_of_getElem? (i := 23) rfl)) (inr23 _ (List.mem_of_getElem? (i := 14) rfl)) (by decide +kernel) hts rfl rfl ⟨Nat.le_of_ble_eq_true rfl, Nat.le_of_ble_eq_true rfl⟩) 0 8 rfl rfl rfl (hP.sub [2, 3] rfl) hK hN (kT.to hT hS hAB) rfl hl.1 rfl (Nat.le_of_ble_eq_true rfl) ⟨Nat.le_of_ble_eq_true rfl, Nat.le_of_ble_eq_true rfl⟩ dX10_spokenByPlan_101 (fun r_26 h_27 => ?_)
          have h_27 : (r_26 = 0 ∨ r_26 = 1) := h_27
          have i_28 := h_27
          have ar_26 : 0 ≤ r_26.toInt ∧ r_26.toInt ≤ 1 := by rcases i_28 with h | h <;> rw [h] <;> decide
          refine lv_istore (lv' := [(10, .int r_26), (9, .int r_24), (7, .int r_13), (8, .int l48_8), (6, .int l48_6), (5, .int l48_5), (0, .ref h0), (1, .ref h_a1), (4, .int v4)]) hx hb dX10_spokenByPlan_104 hl (by decide) rfl (fun ls hl => ?_)
          refine lv_iload hx hb dX10_spokenByPlan_106 (lv_at hl 0 rfl) ?_
          refine lv_if_eq (tgt := 116) hx hb dX10_spokenByPlan_108 (by decide) (fun c_29 => ?_) (fun c_29 => ?_)
          · have c_29 : r_26.toInt = 0 := ci_eq_t c_29
            have b_r_26 := i32b r_26
            refine lv_iload hx hb dX10_spokenByPlan_116 (lv_at hl 1 rfl) ?_
            refine lv_istore (lv' := [(5, .int r_24), (10, .int r_26), (9, .int r_24), (7, .int r_13), (8, .int l48_8), (6, .int l48_6), (0, .ref h0), (1, .ref h_a1), (4, .int v4)]) hx hb dX10_spokenByPlan_118 hl (by decide) rfl (fun ls hl => ?_)
            refine lv_iload hx hb dX10_spokenByPlan_120 (lv_at hl 1 rfl) ?_
            refine lv_if_eq (tgt := 130) hx hb dX10_spokenByPlan_122 (by decide) (fun c_30 => ?_) (fun c_30 => ?_)
            · have c_30 : r_26.toInt = 0 := ci_eq_t c_30
              refine lv_iload hx hb dX10_spokenByPlan_130 (lv_at hl 5 rfl) ?_
              refine lv_istore (lv' := [(6, .int l48_6), (5, .int r_24), (10, .int r_26), (9, .int r_24), (7, .int r_13), (8, .int l48_8), (0, .ref h0), (1, .ref h_a1), (4, .int v4)]) hx hb dX10_spokenByPlan_132 hl (by decide) rfl (fun ls hl => ?_)
              obtain ⟨t_31, et_31⟩ : ∃ v9 : Int32, l48_8 + 1 = v9 := ⟨_, rfl⟩
              have ft_31 : t_31.toInt = l48_8.toInt + 1 := addT (a := l48_8.toInt) (b := 1) rfl (by decide) et_31 (by omega) (by omega)
              refine lv_iinc (v := t_31) (lv' := [(8, .int t_31), (6, .int l48_6), (5, .int r_24), (10, .int r_26), (9, .int r_24), (7, .int r_13), (0, .ref h0), (1, .ref h_a1), (4, .int v4)]) hx hb dX10_spokenByPlan_134 hl (k := 5) rfl (by rw [← et_31]; rfl) (by decide) rfl (fun ls hl => ?_)
              refine lv_goto (tgt := 48) hx hb dX10_spokenByPlan_137 (by decide) ?_
              exact ih_48 (t_31) (r_13) (l48_6) (r_24) _ _ _ (by first | assumption | omega | decide) (by omega) (hP.sub [0, 1, 2, 3] rfl) (hD.sub [0, 1, 2, 3] (by decide) rfl) hS (lv_sub hl [0, 5, 1, 2, 6, 7, 8] rfl)
            · have c_30 : ¬ r_26.toInt = 0 := ci_eq_f c_30
              exfalso
              omega
          · have c_29 : ¬ r_26.toInt = 0 := ci_eq_f c_29
            have b_r_26 := i32b r_26
            refine lv_iload hx hb dX10_spokenByPlan_111 (lv_at hl 5 rfl) ?_
            refine lv_goto (tgt := 118) hx hb dX10_spokenByPlan_113 (by decide) ?_
            refine lv_istore (lv' := [(5, .int l48_5), (10, .int r_26), (9, .int r_24), (7, .int r_13), (8, .int l48_8), (6, .int l48_6), (0, .ref h0), (1, .ref h_a1), (4, .int v4)]) hx hb dX10_spokenByPlan_118 hl (by decide) rfl (fun ls hl => ?_)
            refine lv_iload hx hb dX10_spokenByPlan_120 (lv_at hl 1 rfl) ?_
            refine lv_if_eq (tgt := 130) hx hb dX10_spokenByPlan_122 (by decide) (fun c_32 => ?_) (fun c_32 => ?_)
            · have c_32 : r_26.toInt = 0 := ci_eq_t c_32
              exfalso
              omega
            · have c_32 : ¬ r_26.toInt = 0 := ci_eq_f c_32
              refine lv_iload hx hb dX10_spokenByPlan_125 (lv_at hl 2 rfl) ?_
              refine lv_goto (tgt := 132) hx hb dX10_spokenByPlan_127 (by decide) ?_
              refine lv_istore (lv' := [(6, .int r_24), (5, .int l48_5), (10, .int r_26), (9, .int r_24), (7, .int r_13), (8, .int l48_8), (0, .ref h0), (1, .ref h_a1), (4, .int v4)]) hx hb dX10_spokenByPlan_132 hl (by decide) rfl (fun ls hl => ?_)
              obtain ⟨t_33, et_33⟩ : ∃ v9 : Int32, l48_8 + 1 = v9 := ⟨_, rfl⟩
              have ft_33 : t_33.toInt = l48_8.toInt + 1 := addT (a := l48_8.toInt) (b := 1) rfl (by decide) et_33 (by omega) (by omega)
              refine lv_iinc (v := t_33) (lv' := [(8, .int t_33), (6, .int r_24), (5, .int l48_5), (10, .int r_26), (9, .int r_24), (7, .int r_13), (0, .ref h0), (1, .ref h_a1), (4, .int v4)]) hx hb dX10_spokenByPlan_134 hl (k := 5) rfl (by rw [← et_33]; rfl) (by decide) rfl (fun ls hl => ?_)
              refine lv_goto (tgt := 48) hx hb dX10_spokenByPlan_137 (by decide) ?_
              exact ih_48 (t_33) (r_13) (r_24) (l48_5) _ _ _ (by first | assumption | omega | decide) (by omega) (hP.sub [0, 1, 2, 3] rfl) (hD.sub [0, 1, 2, 3] (by decide) rfl) hS (lv_sub hl [0, 5, 1, 2, 6, 7, 8] rfl)

set_option maxHeartbeats 4000000 in
set_option maxRecDepth 100000 in
theorem b_X10_spokenByPlan (l : Launch) (G : Gho) (D : va_G) (cB cI cJ cZ cS cT : ClassId) (sz : Nat) (h0 : Nat) (h_spent : Nat) (h_spentNext : Nat) (h_missing : Nat) (f_missing : Nat → Int32) (h_a1 : Nat) (v_a1_tones : Int32) (v_a1_a : Int32) (v_a1_b : Int32) (v_a1_c : Int32) (v_a1_d : Int32) (v_a1_odds : Int32) (v_a1_lines : Int32) (h_a1_signs : Nat) (v_a1_signCount : Int32) (h_a1_posts : Nat) (v_a1_postCount : Int32) (h_a1_acts : Nat) (f_a1_signs : Nat → Int32) (v2 : Int32) (v3 : Int32) (v4 : Int32) (iv_a1_signCount : 0 ≤ v_a1_signCount.toInt ∧ v_a1_signCount.toInt ≤ 8) (iv_a1_postCount : 0 ≤ v_a1_postCount.toInt ∧ v_a1_postCount.toInt ≤ 5) : Met l yX10_spokenByPlan (Cond.code yX10_spokenByPlan cX10_spokenByPlan 11 (some .int) :: wsL_law) ({ frames := 5, cells := 0, slots := 0, locals := 126 }) (wrP G D (tyL cB cI cJ cZ cS cT) [(h0, .inr (10, [.ref h_spent, .ref h_spentNext, .ref h_missing])), (h_missing, .inl (cI, 3321, .inl f_missing)), (h_a1, .inr (8, [.int v_a1_tones, .int v_a1_a, .int v_a1_b, .int v_a1_c, .int v_a1_d, .int v_a1_odds, .int v_a1_lines, .ref h_a1_signs, .int v_a1_signCount, .ref h_a1_posts, .int v_a1_postCount, .ref h_a1_acts])), (h_a1_signs, .inl (cI, 8, .inl f_a1_signs))] sz [.ref h0, .ref h_a1, .int v2, .int v3, .int v4]) (va_Qi (fun (r : Int32) (x : (Nat → Int32)) => True) (atW D (tyL cB cI cJ cZ cS cT) (va_A [(h0, .inr (10, [.ref h_spent, .ref h_spentNext, .ref h_missing])), (h_missing, .inl (cI, 3321, .inl f_missing)), (h_a1, .inr (8, [.int v_a1_tones, .int v_a1_a, .int v_a1_b, .int v_a1_c, .int v_a1_d, .int v_a1_odds, .int v_a1_lines, .ref h_a1_signs, .int v_a1_signCount, .ref h_a1_posts, .int v_a1_postCount, .ref h_a1_acts])), (h_a1_signs, .inl (cI, 8, .inl f_a1_signs))] sz) (fun x : (Nat → Int32) => [(h0, .inr (10, [.ref h_spent, .ref h_spentNext, .ref h_missing])), (h_missing, .inl (cI, 3321, .inl x)), (h_a1, .inr (8, [.int v_a1_tones, .int v_a1_a, .int v_a1_b, .int v_a1_c, .int v_a1_d, .int v_a1_odds, .int v_a1_lines, .ref h_a1_signs, .int v_a1_signCount, .ref h_a1_posts, .int v_a1_postCount, .ref h_a1_acts])), (h_a1_signs, .inl (cI, 8, .inl f_a1_signs))])) (va_A [(h0, .inr (10, [.ref h_spent, .ref h_spentNext, .ref h_missing])), (h_missing, .inl (cI, 3321, .inl f_missing)), (h_a1, .inr (8, [.int v_a1_tones, .int v_a1_a, .int v_a1_b, .int v_a1_c, .int v_a1_d, .int v_a1_odds, .int v_a1_lines, .ref h_a1_signs, .int v_a1_signCount, .ref h_a1_posts, .int v_a1_postCount, .ref h_a1_acts])), (h_a1_signs, .inl (cI, 8, .inl f_a1_signs))] sz)) 0 0 (va_A [(h0, .inr (10, [.ref h_spent, .ref h_spentNext, .ref h_missing])), (h_missing, .inl (cI, 3321, .inl f_missing)), (h_a1, .inr (8, [.int v_a1_tones, .int v_a1_a, .int v_a1_b, .int v_a1_c, .int v_a1_d, .int v_a1_odds, .int v_a1_lines, .ref h_a1_signs, .int v_a1_signCount, .ref h_a1_posts, .int v_a1_postCount, .ref h_a1_acts])), (h_a1_signs, .inl (cI, 8, .inl f_a1_signs))] sz) := by
  refine metI (own := RX10) (by decide) rfl ?_
  intro p e s m below meth c Q hsz C hG hP hD hAB ret
  obtain ⟨hx, hb, hml, hown, hts, hK, hN, hT⟩ := id C
  subst hsz
  generalize hAe : va_A [(h0, .inr (10, [.ref h_spent, .ref h_spentNext, .ref h_missing])), (h_missing, .inl (cI, 3321, .inl f_missing)), (h_a1, .inr (8, [.int v_a1_tones, .int v_a1_a, .int v_a1_b, .int v_a1_c, .int v_a1_d, .int v_a1_odds, .int v_a1_lines, .ref h_a1_signs, .int v_a1_signCount, .ref h_a1_posts, .int v_a1_postCount, .ref h_a1_acts])), (h_a1_signs, .inl (cI, 8, .inl f_a1_signs))] s.heap.size = A at hD hAB ret ⊢
  have hA : ∀ q : Nat, s.heap.size ≤ q → A q := fun q h => by rw [← hAe]; exact Or.inr h
  have hS : va_S A s.heap s.heap [] := va_S.rf
  have hl := lv_entry ([.ref h0, .ref h_a1, .int v2, .int v3, .int v4]) (n := 11) (Nat.le_of_ble_eq_true rfl)
  rw [lg_entry_eq]
  generalize (lg_sl ([.ref h0, .ref h_a1, .int v2, .int v3, .int v4]) ++ List.replicate (11 - (lg_sl ([.ref h0, .ref h_a1, .int v2, .int v3, .int v4])).length) Slot.unset).toArray = ls at hl ⊢
  have hl : lv_has ls 11 [(0, .ref h0), (1, .ref h_a1), (2, .int v2), (3, .int v3), (4, .int v4)] := hl
  have hP : va_P D vwCl [(h0, .inr (10, [.ref h_spent, .ref h_spentNext, .ref h_missing])), (h_missing, .inl (cI, 3321, .inl f_missing)), (h_a1, .inr (8, [.int v_a1_tones, .int v_a1_a, .int v_a1_b, .int v_a1_c, .int v_a1_d, .int v_a1_odds, .int v_a1_lines, .ref h_a1_signs, .int v_a1_signCount, .ref h_a1_posts, .int v_a1_postCount, .ref h_a1_acts])), (h_a1_signs, .inl (cI, 8, .inl f_a1_signs))] s.heap := hP
  refine lv_aload_n hx hb dX10_spokenByPlan_0 rfl (lv_at hl 1 rfl) ?_
  refine roi (As := []) (rest := []) ⟨hx, hb, hml, hown, hts⟩ (b_X8_signCount l G D cB cI cJ cZ cS cT h_a1 v_a1_tones v_a1_a v_a1_b v_a1_c v_a1_d v_a1_odds v_a1_lines h_a1_signs v_a1_signCount h_a1_posts v_a1_postCount h_a1_acts (by first | assumption | omega | decide) (by first | assumption | omega | decide)) (cvB (n := 0) (inr40 _ (List.mem_of_getElem? (i := 23) rfl)) (inr15 _ (List.mem_of_getElem? (i := 10) rfl)) (inr15 _ (List.mem_of_getElem? (i := 11) rfl)) (inr1 _ (List.mem_of_getElem? (i := 23) rfl)) (inr15 _ (List.mem_of_getElem? (i := 12) rfl)) (by decide +kernel) hts rfl rfl ⟨Nat.le_of_ble_eq_true rfl, Nat.le_of_ble_eq_true rfl⟩) 0 8 rfl rfl rfl (hP.sub [2] rfl) hK hN (kT.to hT hS hAB) rfl hl.1 rfl (Nat.le_of_ble_eq_true rfl) ⟨Nat.le_of_ble_eq_true rfl, Nat.le_of_ble_eq_true rfl⟩ dX10_spokenByPlan_1 (fun r_1 h_2 => ?_)
  have h_2 : (r_1 = v_a1_signCount) := h_2
  have i_3 := h_2
  obtain rfl := i_3.symm
  refine lv_if_eq (tgt := 13) hx hb dX10_spokenByPlan_4 (by decide) (fun c_4 => ?_) (fun c_4 => ?_)
  · have c_4 : v_a1_signCount.toInt = 0 := ci_eq_t c_4
    have b_v_a1_signCount := i32b v_a1_signCount
    refine lv_iconst (v := (-1)) hx hb dX10_spokenByPlan_13 (by decide) ?_
    exact ret _ _ _ _ _ f_missing dX10_spokenByPlan_14 trivial (hP.sub [0, 1, 2, 3] rfl) (hD.sub [0, 1, 2, 3] (by decide) rfl) hS
  · have c_4 : ¬ v_a1_signCount.toInt = 0 := ci_eq_f c_4
    have b_v_a1_signCount := i32b v_a1_signCount
    refine lv_iload hx hb dX10_spokenByPlan_7 (lv_at hl 4 rfl) ?_
    refine lv_iload_n hx hb dX10_spokenByPlan_9 rfl (lv_at hl 2 rfl) ?_
    refine lv_icmp_lt (tgt := 15) hx hb dX10_spokenByPlan_10 (by decide) (fun c_5 => ?_) (fun c_5 => ?_)
    · have c_5 : v4.toInt < v2.toInt := ci_lt_t c_5
      have b_v4 := i32b v4
      have b_v2 := i32b v2
      refine lv_aload_n hx hb dX10_spokenByPlan_15 rfl (lv_at hl 0 rfl) ?_
      refine lv_aload_n hx hb dX10_spokenByPlan_16 rfl (lv_at hl 1 rfl) ?_
      refine lv_iload_n hx hb dX10_spokenByPlan_17 rfl (lv_at hl 2 rfl) ?_
      refine lv_iload_n hx hb dX10_spokenByPlan_18 rfl (lv_at hl 3 rfl) ?_
      refine wrVv (As := [.ref h_a1, .int v2, .int v3]) (rest := []) (wr := []) ⟨hx, hb, hml, hown, hts⟩ (b_X10_countMissing l G D cB cI cJ cZ cS cT s.heap.size h0 h_spent h_spentNext h_missing f_missing h_a1 v_a1_tones v_a1_a v_a1_b v_a1_c v_a1_d v_a1_odds v_a1_lines h_a1_signs v_a1_signCount h_a1_posts v_a1_postCount h_a1_acts f_a1_signs v2 v3 (by first | assumption | omega | decide) (by first | assumption | omega | decide)) hP hD hS hA hK hN hT hAB hG [0, 1, 2, 3] [] rfl rfl (by decide) (by decide) (by decide) (cvB (n := 3) (inr49 _ (List.mem_of_getElem? (i := 0) rfl)) (inr49 _ (List.mem_of_getElem? (i := 1) rfl)) (inr49 _ (List.mem_of_getElem? (i := 2) rfl)) (inr2 _ (List.mem_of_getElem? (i := 20) rfl)) (inr49 _ (List.mem_of_getElem? (i := 3) rfl)) (by decide +kernel) hts rfl rfl ⟨Nat.le_of_ble_eq_true rfl, Nat.le_of_ble_eq_true rfl⟩) 0 10 rfl rfl rfl rfl hl.1 rfl (Nat.le_of_ble_eq_true rfl) ⟨Nat.le_of_ble_eq_true rfl, Nat.le_of_ble_eq_true rfl⟩ dX10_spokenByPlan_19 (fun x9 H locs h_7 hP hD hS => ?_)
      obtain ⟨g_8, rfl⟩ : ∃ z, z = x9 := ⟨_, rfl⟩
      have hP : va_P D vwCl [(h0, .inr (10, [.ref h_spent, .ref h_spentNext, .ref h_missing])), (h_missing, .inl (cI, 3321, .inl g_8)), (h_a1, .inr (8, [.int v_a1_tones, .int v_a1_a, .int v_a1_b, .int v_a1_c, .int v_a1_d, .int v_a1_odds, .int v_a1_lines, .ref h_a1_signs, .int v_a1_signCount, .ref h_a1_posts, .int v_a1_postCount, .ref h_a1_acts])), (h_a1_signs, .inl (cI, 8, .inl f_a1_signs))] H := hP
      have hD : va_D A [(h0, .inr (10, [.ref h_spent, .ref h_spentNext, .ref h_missing])), (h_missing, .inl (cI, 3321, .inl g_8)), (h_a1, .inr (8, [.int v_a1_tones, .int v_a1_a, .int v_a1_b, .int v_a1_c, .int v_a1_d, .int v_a1_odds, .int v_a1_lines, .ref h_a1_signs, .int v_a1_signCount, .ref h_a1_posts, .int v_a1_postCount, .ref h_a1_acts])), (h_a1_signs, .inl (cI, 8, .inl f_a1_signs))] := hD
      refine lv_aload_n hx hb dX10_spokenByPlan_22 rfl (lv_at hl 0 rfl) ?_
      refine va_get (D := D) (ci := 10) (v := .ref h_missing) (C := RX10) (T := TX10) (N := 3) hx hb hts inlX10 hown hK hP 0 rfl rfl 2 (by decide) (hts _ (inr5 _ (List.mem_of_getElem? (i := 19) rfl))) (fun _ h9 => h9) rfl dX10_spokenByPlan_23 ?_
      refine lv_iconst (v := 0) hx hb dX10_spokenByPlan_26 (by decide) ?_
      obtain ⟨t_9, et_9⟩ : ∃ v9 : Int32, g_8 (0 : Int32).toNatClampNeg = v9 := ⟨_, rfl⟩
      refine z_iald (v := t_9) hx hb hK hP 1 1 rfl rfl (by unfold vp_in; decide) et_9 dX10_spokenByPlan_27 ?_
      refine lv_sipush (v := 1000) hx hb dX10_spokenByPlan_28 (by decide) ?_
      refine lv_icmp_lt (tgt := 36) hx hb dX10_spokenByPlan_31 (by decide) (fun c_10 => ?_) (fun c_10 => ?_)
      · have c_10 : t_9.toInt < 1000 := ci_lt_t c_10
        have b_t_9 := i32b t_9
        refine lv_iconst (v := 0) hx hb dX10_spokenByPlan_36 (by decide) ?_
        refine lv_istore (lv' := [(5, .int 0), (0, .ref h0), (1, .ref h_a1), (2, .int v2), (3, .int v3), (4, .int v4)]) hx hb dX10_spokenByPlan_37 hl (by decide) rfl (fun ls hl => ?_)
        refine lv_iconst (v := 0) hx hb dX10_spokenByPlan_39 (by decide) ?_
        refine lv_istore (lv' := [(6, .int 0), (5, .int 0), (0, .ref h0), (1, .ref h_a1), (2, .int v2), (3, .int v3), (4, .int v4)]) hx hb dX10_spokenByPlan_40 hl (by decide) rfl (fun ls hl => ?_)
        refine lv_iconst (v := (-1)) hx hb dX10_spokenByPlan_42 (by decide) ?_
        refine lv_istore (lv' := [(7, .int (-1)), (6, .int 0), (5, .int 0), (0, .ref h0), (1, .ref h_a1), (2, .int v2), (3, .int v3), (4, .int v4)]) hx hb dX10_spokenByPlan_43 hl (by decide) rfl (fun ls hl => ?_)
        refine lv_iconst (v := 0) hx hb dX10_spokenByPlan_45 (by decide) ?_
        refine lv_istore (lv' := [(8, .int 0), (7, .int (-1)), (6, .int 0), (5, .int 0), (0, .ref h0), (1, .ref h_a1), (2, .int v2), (3, .int v3), (4, .int v4)]) hx hb dX10_spokenByPlan_46 hl (by decide) rfl (fun ls hl => ?_)
        exact b_X10_spokenByPlan_l48 h0 h_spent h_spentNext h_missing h_a1 v_a1_tones v_a1_a v_a1_b v_a1_c v_a1_d v_a1_odds v_a1_lines h_a1_signs v_a1_signCount h_a1_posts v_a1_postCount h_a1_acts f_a1_signs v4 g_8 (by first | assumption | omega | decide) (by first | assumption | omega | decide) (by first | assumption | omega | decide) (by first | assumption | omega | decide) C hG hAB hA ret _ (0) ((-1)) (0) (0) _ _ _ (by first | assumption | omega | decide) (Nat.lt_succ_self _) (hP.sub [0, 1, 2, 3] rfl) (hD.sub [0, 1, 2, 3] (by decide) rfl) hS (lv_sub hl [0, 1, 2, 3, 4, 5, 8] rfl)
      · have c_10 : 1000 ≤ t_9.toInt := ci_lt_f c_10
        have b_t_9 := i32b t_9
        refine lv_iconst (v := (-1)) hx hb dX10_spokenByPlan_34 (by decide) ?_
        exact ret _ _ _ _ _ g_8 dX10_spokenByPlan_35 trivial (hP.sub [0, 1, 2, 3] rfl) (hD.sub [0, 1, 2, 3] (by decide) rfl) hS
    · have c_5 : v2.toInt ≤ v4.toInt := ci_lt_f c_5
      have b_v4 := i32b v4
      have b_v2 := i32b v2
      refine lv_iconst (v := (-1)) hx hb dX10_spokenByPlan_13 (by decide) ?_
      exact ret _ _ _ _ _ f_missing dX10_spokenByPlan_14 trivial (hP.sub [0, 1, 2, 3] rfl) (hD.sub [0, 1, 2, 3] (by decide) rfl) hS

set_option maxHeartbeats 4000000 in
set_option maxRecDepth 100000 in
theorem b_X11_feed (l : Launch) (G : Gho) (D : va_G) (cB cI cJ cZ cS cT : ClassId) (sz : Nat) (h0 : Nat) (h_tape : Nat) (h_reader : Nat) (h_now : Nat) (h_trial : Nat) (h_images : Nat) (h_imageKept : Nat) (h_slots : Nat) (h_night : Nat) (h_otherNight : Nat) (h_circle : Nat) (h_words : Nat) (h_lawSearch : Nat) (h_placeSearch : Nat) (h_drawnNight : Nat) (h_tape_bytes : Nat) (v_tape_length : Int32) (f_tape_bytes : Nat → Int32) (v1 : Int32) (v2 : Int32) (v3 : Int32) (v4 : Int32) (v5 : Int32) (iv_tape_length : 0 ≤ v_tape_length.toInt ∧ v_tape_length.toInt ≤ 500) : Met l yX11_feed (Cond.code yX11_feed cX11_feed 6 (some .int) :: wsL_law) ({ frames := 1, cells := 0, slots := 0, locals := 22 }) (wrP G D (tyL cB cI cJ cZ cS cT) [(h0, .inr (11, [.ref h_tape, .ref h_reader, .ref h_now, .ref h_trial, .ref h_images, .ref h_imageKept, .ref h_slots, .ref h_night, .ref h_otherNight, .ref h_circle, .ref h_words, .ref h_lawSearch, .ref h_placeSearch, .ref h_drawnNight])), (h_tape, .inr (9, [.ref h_tape_bytes, .int v_tape_length])), (h_tape_bytes, .inl (cB, 500, .inl f_tape_bytes))] sz [.ref h0, .int v1, .int v2, .int v3, .int v4, .int v5]) (va_Qi (fun (r : Int32) (x : Int32 × (Nat → Int32)) => (0 ≤ x.1.toInt ∧ x.1.toInt ≤ 500)) (atW D (tyL cB cI cJ cZ cS cT) (va_A [(h0, .inr (11, [.ref h_tape, .ref h_reader, .ref h_now, .ref h_trial, .ref h_images, .ref h_imageKept, .ref h_slots, .ref h_night, .ref h_otherNight, .ref h_circle, .ref h_words, .ref h_lawSearch, .ref h_placeSearch, .ref h_drawnNight])), (h_tape, .inr (9, [.ref h_tape_bytes, .int v_tape_length])), (h_tape_bytes, .inl (cB, 500, .inl f_tape_bytes))] sz) (fun x : Int32 × (Nat → Int32) => [(h0, .inr (11, [.ref h_tape, .ref h_reader, .ref h_now, .ref h_trial, .ref h_images, .ref h_imageKept, .ref h_slots, .ref h_night, .ref h_otherNight, .ref h_circle, .ref h_words, .ref h_lawSearch, .ref h_placeSearch, .ref h_drawnNight])), (h_tape, .inr (9, [.ref h_tape_bytes, .int x.1])), (h_tape_bytes, .inl (cB, 500, .inl x.2))])) (va_A [(h0, .inr (11, [.ref h_tape, .ref h_reader, .ref h_now, .ref h_trial, .ref h_images, .ref h_imageKept, .ref h_slots, .ref h_night, .ref h_otherNight, .ref h_circle, .ref h_words, .ref h_lawSearch, .ref h_placeSearch, .ref h_drawnNight])), (h_tape, .inr (9, [.ref h_tape_bytes, .int v_tape_length])), (h_tape_bytes, .inl (cB, 500, .inl f_tape_bytes))] sz)) 0 0 (va_A [(h0, .inr (11, [.ref h_tape, .ref h_reader, .ref h_now, .ref h_trial, .ref h_images, .ref h_imageKept, .ref h_slots, .ref h_night, .ref h_otherNight, .ref h_circle, .ref h_words, .ref h_lawSearch, .ref h_placeSearch, .ref h_drawnNight])), (h_tape, .inr (9, [.ref h_tape_bytes, .int v_tape_length])), (h_tape_bytes, .inl (cB, 500, .inl f_tape_bytes))] sz) := by
  refine metI (own := RX11) (by decide) rfl ?_
  intro p e s m below meth c Q hsz C hG hP hD hAB ret
  obtain ⟨hx, hb, hml, hown, hts, hK, hN, hT⟩ := id C
  subst hsz
  generalize hAe : va_A [(h0, .inr (11, [.ref h_tape, .ref h_reader, .ref h_now, .ref h_trial, .ref h_images, .ref h_imageKept, .ref h_slots, .ref h_night, .ref h_otherNight, .ref h_circle, .ref h_words, .ref h_lawSearch, .ref h_placeSearch, .ref h_drawnNight])), (h_tape, .inr (9, [.ref h_tape_bytes, .int v_tape_length])), (h_tape_bytes, .inl (cB, 500, .inl f_tape_bytes))] s.heap.size = A at hD hAB ret ⊢
  have hA : ∀ q : Nat, s.heap.size ≤ q → A q := fun q h => by rw [← hAe]; exact Or.inr h
  have hS : va_S A s.heap s.heap [] := va_S.rf
  have hl := lv_entry ([.ref h0, .int v1, .int v2, .int v3, .int v4, .int v5]) (n := 6) (Nat.le_of_ble_eq_true rfl)
  rw [lg_entry_eq]
  generalize (lg_sl ([.ref h0, .int v1, .int v2, .int v3, .int v4, .int v5]) ++ List.replicate (6 - (lg_sl ([.ref h0, .int v1, .int v2, .int v3, .int v4, .int v5])).length) Slot.unset).toArray = ls at hl ⊢
  have hl : lv_has ls 6 [(0, .ref h0), (1, .int v1), (2, .int v2), (3, .int v3), (4, .int v4), (5, .int v5)] := hl
  have hP : va_P D vwCl [(h0, .inr (11, [.ref h_tape, .ref h_reader, .ref h_now, .ref h_trial, .ref h_images, .ref h_imageKept, .ref h_slots, .ref h_night, .ref h_otherNight, .ref h_circle, .ref h_words, .ref h_lawSearch, .ref h_placeSearch, .ref h_drawnNight])), (h_tape, .inr (9, [.ref h_tape_bytes, .int v_tape_length])), (h_tape_bytes, .inl (cB, 500, .inl f_tape_bytes))] s.heap := hP
  refine lv_aload_n hx hb dX11_feed_0 rfl (lv_at hl 0 rfl) ?_
  refine va_get (D := D) (ci := 11) (v := .ref h_tape) (C := RX11) (T := TX11) (N := 14) hx hb hts inlX11 hown hK hP 0 rfl rfl 0 (by decide) (hts _ (inr1 _ (List.mem_of_getElem? (i := 16) rfl))) (fun _ h9 => h9) rfl dX11_feed_1 ?_
  refine roi (As := []) (rest := []) ⟨hx, hb, hml, hown, hts⟩ (b_X9_size l G D cB cI cJ cZ cS cT h_tape h_tape_bytes v_tape_length (by first | assumption | omega | decide)) (cvB (n := 0) (inr7 _ (List.mem_of_getElem? (i := 22) rfl)) (inr7 _ (List.mem_of_getElem? (i := 23) rfl)) (inr8 _ (List.mem_of_getElem? (i := 0) rfl)) (inr1 _ (List.mem_of_getElem? (i := 15) rfl)) (inr8 _ (List.mem_of_getElem? (i := 1) rfl)) (by decide +kernel) hts rfl rfl ⟨Nat.le_of_ble_eq_true rfl, Nat.le_of_ble_eq_true rfl⟩) 0 9 rfl rfl rfl (hP.sub [1] rfl) hK hN (kT.to hT hS hAB) rfl hl.1 rfl (Nat.le_of_ble_eq_true rfl) ⟨Nat.le_of_ble_eq_true rfl, Nat.le_of_ble_eq_true rfl⟩ dX11_feed_4 (fun r_1 h_2 => ?_)
  have h_2 : (r_1 = v_tape_length) := h_2
  have i_3 := h_2
  obtain rfl := i_3.symm
  refine lv_bipush (v := 20) hx hb dX11_feed_7 (by decide) ?_
  obtain ⟨t_4, et_4⟩ : ∃ v9 : Int32, v_tape_length + 20 = v9 := ⟨_, rfl⟩
  refine z_iadd (v := t_4) hx hb dX11_feed_9 et_4 ?_
  have b_v_tape_length := i32b v_tape_length
  have ft_4 : t_4.toInt = v_tape_length.toInt + 20 := addT (a := v_tape_length.toInt) (b := 20) rfl (by decide) et_4 (by omega) (by omega)
  refine lv_sipush (v := 500) hx hb dX11_feed_10 (by decide) ?_
  refine lv_icmp_le (tgt := 18) hx hb dX11_feed_13 (by decide) (fun c_5 => ?_) (fun c_5 => ?_)
  · have c_5 : t_4.toInt ≤ 500 := ci_le_t c_5
    have b_t_4 := i32b t_4
    refine lv_aload_n hx hb dX11_feed_18 rfl (lv_at hl 0 rfl) ?_
    refine va_get (D := D) (ci := 11) (v := .ref h_tape) (C := RX11) (T := TX11) (N := 14) hx hb hts inlX11 hown hK hP 0 rfl rfl 0 (by decide) (hts _ (inr1 _ (List.mem_of_getElem? (i := 16) rfl))) (fun _ h9 => h9) rfl dX11_feed_19 ?_
    refine lv_iload_n hx hb dX11_feed_22 rfl (lv_at hl 1 rfl) ?_
    refine wrVv (As := [.int v1]) (rest := []) (wr := [(h0, .inr (11, [.ref h_tape, .ref h_reader, .ref h_now, .ref h_trial, .ref h_images, .ref h_imageKept, .ref h_slots, .ref h_night, .ref h_otherNight, .ref h_circle, .ref h_words, .ref h_lawSearch, .ref h_placeSearch, .ref h_drawnNight]))]) ⟨hx, hb, hml, hown, hts⟩ (b_X9_add l G D cB cI cJ cZ cS cT s.heap.size h_tape h_tape_bytes v_tape_length f_tape_bytes v1 (by first | assumption | omega | decide)) hP hD hS hA hK hN hT hAB hG [1, 2] [0] rfl rfl (by decide) (by decide) (by decide) (cvB (n := 1) (inr8 _ (List.mem_of_getElem? (i := 3) rfl)) (inr8 _ (List.mem_of_getElem? (i := 4) rfl)) (inr8 _ (List.mem_of_getElem? (i := 5) rfl)) (inr1 _ (List.mem_of_getElem? (i := 15) rfl)) (inr8 _ (List.mem_of_getElem? (i := 6) rfl)) (by decide +kernel) hts rfl rfl ⟨Nat.le_of_ble_eq_true rfl, Nat.le_of_ble_eq_true rfl⟩) 0 9 rfl rfl rfl rfl hl.1 rfl (Nat.le_of_ble_eq_true rfl) ⟨Nat.le_of_ble_eq_true rfl, Nat.le_of_ble_eq_true rfl⟩ dX11_feed_23 (fun x9 H locs h_7 hP hD hS => ?_)
    obtain ⟨t_8, g_9⟩ := x9
    have hP : va_P D vwCl [(h0, .inr (11, [.ref h_tape, .ref h_reader, .ref h_now, .ref h_trial, .ref h_images, .ref h_imageKept, .ref h_slots, .ref h_night, .ref h_otherNight, .ref h_circle, .ref h_words, .ref h_lawSearch, .ref h_placeSearch, .ref h_drawnNight])), (h_tape, .inr (9, [.ref h_tape_bytes, .int t_8])), (h_tape_bytes, .inl (cB, 500, .inl g_9))] H := hP
    have hD : va_D A [(h0, .inr (11, [.ref h_tape, .ref h_reader, .ref h_now, .ref h_trial, .ref h_images, .ref h_imageKept, .ref h_slots, .ref h_night, .ref h_otherNight, .ref h_circle, .ref h_words, .ref h_lawSearch, .ref h_placeSearch, .ref h_drawnNight])), (h_tape, .inr (9, [.ref h_tape_bytes, .int t_8])), (h_tape_bytes, .inl (cB, 500, .inl g_9))] := hD
    have h_7 : (0 ≤ t_8.toInt ∧ t_8.toInt ≤ 500) := h_7
    have i_10 := h_7
    refine lv_aload_n hx hb dX11_feed_26 rfl (lv_at hl 0 rfl) ?_
    refine va_get (D := D) (ci := 11) (v := .ref h_tape) (C := RX11) (T := TX11) (N := 14) hx hb hts inlX11 hown hK hP 0 rfl rfl 0 (by decide) (hts _ (inr1 _ (List.mem_of_getElem? (i := 16) rfl))) (fun _ h9 => h9) rfl dX11_feed_27 ?_
    refine lv_iload_n hx hb dX11_feed_30 rfl (lv_at hl 2 rfl) ?_
    refine wrVv (As := [.int v2]) (rest := []) (wr := [(h0, .inr (11, [.ref h_tape, .ref h_reader, .ref h_now, .ref h_trial, .ref h_images, .ref h_imageKept, .ref h_slots, .ref h_night, .ref h_otherNight, .ref h_circle, .ref h_words, .ref h_lawSearch, .ref h_placeSearch, .ref h_drawnNight]))]) ⟨hx, hb, hml, hown, hts⟩ (b_X9_add l G D cB cI cJ cZ cS cT H.size h_tape h_tape_bytes t_8 g_9 v2 (by first | assumption | omega | decide)) hP hD hS hA hK hN hT hAB hG [1, 2] [0] rfl rfl (by decide) (by decide) (by decide) (cvB (n := 1) (inr8 _ (List.mem_of_getElem? (i := 3) rfl)) (inr8 _ (List.mem_of_getElem? (i := 4) rfl)) (inr8 _ (List.mem_of_getElem? (i := 5) rfl)) (inr1 _ (List.mem_of_getElem? (i := 15) rfl)) (inr8 _ (List.mem_of_getElem? (i := 6) rfl)) (by decide +kernel) hts rfl rfl ⟨Nat.le_of_ble_eq_true rfl, Nat.le_of_ble_eq_true rfl⟩) 0 9 rfl rfl rfl rfl hl.1 rfl (Nat.le_of_ble_eq_true rfl) ⟨Nat.le_of_ble_eq_true rfl, Nat.le_of_ble_eq_true rfl⟩ dX11_feed_31 (fun x9 H locs h_12 hP hD hS => ?_)
    obtain ⟨t_13, g_14⟩ := x9
    have hP : va_P D vwCl [(h0, .inr (11, [.ref h_tape, .ref h_reader, .ref h_now, .ref h_trial, .ref h_images, .ref h_imageKept, .ref h_slots, .ref h_night, .ref h_otherNight, .ref h_circle, .ref h_words, .ref h_lawSearch, .ref h_placeSearch, .ref h_drawnNight])), (h_tape, .inr (9, [.ref h_tape_bytes, .int t_13])), (h_tape_bytes, .inl (cB, 500, .inl g_14))] H := hP
    have hD : va_D A [(h0, .inr (11, [.ref h_tape, .ref h_reader, .ref h_now, .ref h_trial, .ref h_images, .ref h_imageKept, .ref h_slots, .ref h_night, .ref h_otherNight, .ref h_circle, .ref h_words, .ref h_lawSearch, .ref h_placeSearch, .ref h_drawnNight])), (h_tape, .inr (9, [.ref h_tape_bytes, .int t_13])), (h_tape_bytes, .inl (cB, 500, .inl g_14))] := hD
    have h_12 : (0 ≤ t_13.toInt ∧ t_13.toInt ≤ 500) := h_12
    have i_15 := h_12
    refine lv_aload_n hx hb dX11_feed_34 rfl (lv_at hl 0 rfl) ?_
    refine va_get (D := D) (ci := 11) (v := .ref h_tape) (C := RX11) (T := TX11) (N := 14) hx hb hts inlX11 hown hK hP 0 rfl rfl 0 (by decide) (hts _ (inr1 _ (List.mem_of_getElem? (i := 16) rfl))) (fun _ h9 => h9) rfl dX11_feed_35 ?_
    refine lv_iload_n hx hb dX11_feed_38 rfl (lv_at hl 3 rfl) ?_
    refine wrVv (As := [.int v3]) (rest := []) (wr := [(h0, .inr (11, [.ref h_tape, .ref h_reader, .ref h_now, .ref h_trial, .ref h_images, .ref h_imageKept, .ref h_slots, .ref h_night, .ref h_otherNight, .ref h_circle, .ref h_words, .ref h_lawSearch, .ref h_placeSearch, .ref h_drawnNight]))]) ⟨hx, hb, hml, hown, hts⟩ (b_X9_add l G D cB cI cJ cZ cS cT H.size h_tape h_tape_bytes t_13 g_14 v3 (by first | assumption | omega | decide)) hP hD hS hA hK hN hT hAB hG [1, 2] [0] rfl rfl (by decide) (by decide) (by decide) (cvB (n := 1) (inr8 _ (List.mem_of_getElem? (i := 3) rfl)) (inr8 _ (List.mem_of_getElem? (i := 4) rfl)) (inr8 _ (List.mem_of_getElem? (i := 5) rfl)) (inr1 _ (List.mem_of_getElem? (i := 15) rfl)) (inr8 _ (List.mem_of_getElem? (i := 6) rfl)) (by decide +kernel) hts rfl rfl ⟨Nat.le_of_ble_eq_true rfl, Nat.le_of_ble_eq_true rfl⟩) 0 9 rfl rfl rfl rfl hl.1 rfl (Nat.le_of_ble_eq_true rfl) ⟨Nat.le_of_ble_eq_true rfl, Nat.le_of_ble_eq_true rfl⟩ dX11_feed_39 (fun x9 H locs h_17 hP hD hS => ?_)
    obtain ⟨t_18, g_19⟩ := x9
    have hP : va_P D vwCl [(h0, .inr (11, [.ref h_tape, .ref h_reader, .ref h_now, .ref h_trial, .ref h_images, .ref h_imageKept, .ref h_slots, .ref h_night, .ref h_otherNight, .ref h_circle, .ref h_words, .ref h_lawSearch, .ref h_placeSearch, .ref h_drawnNight])), (h_tape, .inr (9, [.ref h_tape_bytes, .int t_18])), (h_tape_bytes, .inl (cB, 500, .inl g_19))] H := hP
    have hD : va_D A [(h0, .inr (11, [.ref h_tape, .ref h_reader, .ref h_now, .ref h_trial, .ref h_images, .ref h_imageKept, .ref h_slots, .ref h_night, .ref h_otherNight, .ref h_circle, .ref h_words, .ref h_lawSearch, .ref h_placeSearch, .ref h_drawnNight])), (h_tape, .inr (9, [.ref h_tape_bytes, .int t_18])), (h_tape_bytes, .inl (cB, 500, .inl g_19))] := hD
    have h_17 : (0 ≤ t_18.toInt ∧ t_18.toInt ≤ 500) := h_17
    have i_20 := h_17
    refine lv_aload_n hx hb dX11_feed_42 rfl (lv_at hl 0 rfl) ?_
    refine va_get (D := D) (ci := 11) (v := .ref h_tape) (C := RX11) (T := TX11) (N := 14) hx hb hts inlX11 hown hK hP 0 rfl rfl 0 (by decide) (hts _ (inr1 _ (List.mem_of_getElem? (i := 16) rfl))) (fun _ h9 => h9) rfl dX11_feed_43 ?_
    refine lv_iload hx hb dX11_feed_46 (lv_at hl 4 rfl) ?_
    refine wrVv (As := [.int v4]) (rest := []) (wr := [(h0, .inr (11, [.ref h_tape, .ref h_reader, .ref h_now, .ref h_trial, .ref h_images, .ref h_imageKept, .ref h_slots, .ref h_night, .ref h_otherNight, .ref h_circle, .ref h_words, .ref h_lawSearch, .ref h_placeSearch, .ref h_drawnNight]))]) ⟨hx, hb, hml, hown, hts⟩ (b_X9_add l G D cB cI cJ cZ cS cT H.size h_tape h_tape_bytes t_18 g_19 v4 (by first | assumption | omega | decide)) hP hD hS hA hK hN hT hAB hG [1, 2] [0] rfl rfl (by decide) (by decide) (by decide) (cvB (n := 1) (inr8 _ (List.mem_of_getElem? (i := 3) rfl)) (inr8 _ (List.mem_of_getElem? (i := 4) rfl)) (inr8 _ (List.mem_of_getElem? (i := 5) rfl)) (inr1 _ (List.mem_of_getElem? (i := 15) rfl)) (inr8 _ (List.mem_of_getElem? (i := 6) rfl)) (by decide +kernel) hts rfl rfl ⟨Nat.le_of_ble_eq_true rfl, Nat.le_of_ble_eq_true rfl⟩) 0 9 rfl rfl rfl rfl hl.1 rfl (Nat.le_of_ble_eq_true rfl) ⟨Nat.le_of_ble_eq_true rfl, Nat.le_of_ble_eq_true rfl⟩ dX11_feed_48 (fun x9 H locs h_22 hP hD hS => ?_)
    obtain ⟨t_23, g_24⟩ := x9
    have hP : va_P D vwCl [(h0, .inr (11, [.ref h_tape, .ref h_reader, .ref h_now, .ref h_trial, .ref h_images, .ref h_imageKept, .ref h_slots, .ref h_night, .ref h_otherNight, .ref h_circle, .ref h_words, .ref h_lawSearch, .ref h_placeSearch, .ref h_drawnNight])), (h_tape, .inr (9, [.ref h_tape_bytes, .int t_23])), (h_tape_bytes, .inl (cB, 500, .inl g_24))] H := hP
    have hD : va_D A [(h0, .inr (11, [.ref h_tape, .ref h_reader, .ref h_now, .ref h_trial, .ref h_images, .ref h_imageKept, .ref h_slots, .ref h_night, .ref h_otherNight, .ref h_circle, .ref h_words, .ref h_lawSearch, .ref h_placeSearch, .ref h_drawnNight])), (h_tape, .inr (9, [.ref h_tape_bytes, .int t_23])), (h_tape_bytes, .inl (cB, 500, .inl g_24))] := hD
    have h_22 : (0 ≤ t_23.toInt ∧ t_23.toInt ≤ 500) := h_22
    have i_25 := h_22
    refine lv_aload_n hx hb dX11_feed_51 rfl (lv_at hl 0 rfl) ?_
    refine va_get (D := D) (ci := 11) (v := .ref h_tape) (C := RX11) (T := TX11) (N := 14) hx hb hts inlX11 hown hK hP 0 rfl rfl 0 (by decide) (hts _ (inr1 _ (List.mem_of_getElem? (i := 16) rfl))) (fun _ h9 => h9) rfl dX11_feed_52 ?_
    refine lv_iload hx hb dX11_feed_55 (lv_at hl 5 rfl) ?_
    refine wrVv (As := [.int v5]) (rest := []) (wr := [(h0, .inr (11, [.ref h_tape, .ref h_reader, .ref h_now, .ref h_trial, .ref h_images, .ref h_imageKept, .ref h_slots, .ref h_night, .ref h_otherNight, .ref h_circle, .ref h_words, .ref h_lawSearch, .ref h_placeSearch, .ref h_drawnNight]))]) ⟨hx, hb, hml, hown, hts⟩ (b_X9_add l G D cB cI cJ cZ cS cT H.size h_tape h_tape_bytes t_23 g_24 v5 (by first | assumption | omega | decide)) hP hD hS hA hK hN hT hAB hG [1, 2] [0] rfl rfl (by decide) (by decide) (by decide) (cvB (n := 1) (inr8 _ (List.mem_of_getElem? (i := 3) rfl)) (inr8 _ (List.mem_of_getElem? (i := 4) rfl)) (inr8 _ (List.mem_of_getElem? (i := 5) rfl)) (inr1 _ (List.mem_of_getElem? (i := 15) rfl)) (inr8 _ (List.mem_of_getElem? (i := 6) rfl)) (by decide +kernel) hts rfl rfl ⟨Nat.le_of_ble_eq_true rfl, Nat.le_of_ble_eq_true rfl⟩) 0 9 rfl rfl rfl rfl hl.1 rfl (Nat.le_of_ble_eq_true rfl) ⟨Nat.le_of_ble_eq_true rfl, Nat.le_of_ble_eq_true rfl⟩ dX11_feed_57 (fun x9 H locs h_27 hP hD hS => ?_)
    obtain ⟨t_28, g_29⟩ := x9
    have hP : va_P D vwCl [(h0, .inr (11, [.ref h_tape, .ref h_reader, .ref h_now, .ref h_trial, .ref h_images, .ref h_imageKept, .ref h_slots, .ref h_night, .ref h_otherNight, .ref h_circle, .ref h_words, .ref h_lawSearch, .ref h_placeSearch, .ref h_drawnNight])), (h_tape, .inr (9, [.ref h_tape_bytes, .int t_28])), (h_tape_bytes, .inl (cB, 500, .inl g_29))] H := hP
    have hD : va_D A [(h0, .inr (11, [.ref h_tape, .ref h_reader, .ref h_now, .ref h_trial, .ref h_images, .ref h_imageKept, .ref h_slots, .ref h_night, .ref h_otherNight, .ref h_circle, .ref h_words, .ref h_lawSearch, .ref h_placeSearch, .ref h_drawnNight])), (h_tape, .inr (9, [.ref h_tape_bytes, .int t_28])), (h_tape_bytes, .inl (cB, 500, .inl g_29))] := hD
    have h_27 : (0 ≤ t_28.toInt ∧ t_28.toInt ≤ 500) := h_27
    have i_30 := h_27
    refine lv_aload_n hx hb dX11_feed_60 rfl (lv_at hl 0 rfl) ?_
    refine va_get (D := D) (ci := 11) (v := .ref h_tape) (C := RX11) (T := TX11) (N := 14) hx hb hts inlX11 hown hK hP 0 rfl rfl 0 (by decide) (hts _ (inr1 _ (List.mem_of_getElem? (i := 16) rfl))) (fun _ h9 => h9) rfl dX11_feed_61 ?_
    refine roi (As := []) (rest := []) ⟨hx, hb, hml, hown, hts⟩ (b_X9_size l G D cB cI cJ cZ cS cT h_tape h_tape_bytes t_28 (by first | assumption | omega | decide)) (cvB (n := 0) (inr7 _ (List.mem_of_getElem? (i := 22) rfl)) (inr7 _ (List.mem_of_getElem? (i := 23) rfl)) (inr8 _ (List.mem_of_getElem? (i := 0) rfl)) (inr1 _ (List.mem_of_getElem? (i := 15) rfl)) (inr8 _ (List.mem_of_getElem? (i := 1) rfl)) (by decide +kernel) hts rfl rfl ⟨Nat.le_of_ble_eq_true rfl, Nat.le_of_ble_eq_true rfl⟩) 0 9 rfl rfl rfl (hP.sub [1] rfl) hK hN (kT.to hT hS hAB) rfl hl.1 rfl (Nat.le_of_ble_eq_true rfl) ⟨Nat.le_of_ble_eq_true rfl, Nat.le_of_ble_eq_true rfl⟩ dX11_feed_64 (fun r_31 h_32 => ?_)
    have h_32 : (r_31 = t_28) := h_32
    have i_33 := h_32
    obtain rfl := i_33.symm
    exact ret _ _ _ _ _ (t_28, g_29) dX11_feed_67 (show (0 ≤ t_28.toInt ∧ t_28.toInt ≤ 500) from (by first | assumption | omega | decide)) (hP.sub [0, 1, 2] rfl) (hD.sub [0, 1, 2] (by decide) rfl) hS
  · have c_5 : 500 < t_4.toInt := ci_le_f c_5
    have b_t_4 := i32b t_4
    refine lv_iconst (v := (-1)) hx hb dX11_feed_16 (by decide) ?_
    exact ret _ _ _ _ _ (v_tape_length, f_tape_bytes) dX11_feed_17 (show (0 ≤ v_tape_length.toInt ∧ v_tape_length.toInt ≤ 500) from (by first | assumption | omega | decide)) (hP.sub [0, 1, 2] rfl) (hD.sub [0, 1, 2] (by decide) rfl) hS

set_option maxHeartbeats 4000000 in
set_option maxRecDepth 100000 in
theorem b_X11_end (l : Launch) (G : Gho) (D : va_G) (cB cI cJ cZ cS cT : ClassId) (sz : Nat) (h0 : Nat) (h_tape : Nat) (h_reader : Nat) (h_now : Nat) (h_trial : Nat) (h_images : Nat) (h_imageKept : Nat) (h_slots : Nat) (h_night : Nat) (h_otherNight : Nat) (h_circle : Nat) (h_words : Nat) (h_lawSearch : Nat) (h_placeSearch : Nat) (h_drawnNight : Nat) (h_tape_bytes : Nat) (v_tape_length : Int32) (v1 : Int32) (iv_tape_length : 0 ≤ v_tape_length.toInt ∧ v_tape_length.toInt ≤ 500) : Met l yX11_end (Cond.code yX11_end cX11_end 2 (some .int) :: wsL_law) ({ frames := 1, cells := 0, slots := 0, locals := 25 }) (wrP G D (tyL cB cI cJ cZ cS cT) [(h0, .inr (11, [.ref h_tape, .ref h_reader, .ref h_now, .ref h_trial, .ref h_images, .ref h_imageKept, .ref h_slots, .ref h_night, .ref h_otherNight, .ref h_circle, .ref h_words, .ref h_lawSearch, .ref h_placeSearch, .ref h_drawnNight])), (h_tape, .inr (9, [.ref h_tape_bytes, .int v_tape_length]))] sz [.ref h0, .int v1]) (va_Qi (fun (r : Int32) (x : Int32) => (0 ≤ x.toInt ∧ x.toInt ≤ 500)) (atW D (tyL cB cI cJ cZ cS cT) (va_A [(h0, .inr (11, [.ref h_tape, .ref h_reader, .ref h_now, .ref h_trial, .ref h_images, .ref h_imageKept, .ref h_slots, .ref h_night, .ref h_otherNight, .ref h_circle, .ref h_words, .ref h_lawSearch, .ref h_placeSearch, .ref h_drawnNight])), (h_tape, .inr (9, [.ref h_tape_bytes, .int v_tape_length]))] sz) (fun x : Int32 => [(h0, .inr (11, [.ref h_tape, .ref h_reader, .ref h_now, .ref h_trial, .ref h_images, .ref h_imageKept, .ref h_slots, .ref h_night, .ref h_otherNight, .ref h_circle, .ref h_words, .ref h_lawSearch, .ref h_placeSearch, .ref h_drawnNight])), (h_tape, .inr (9, [.ref h_tape_bytes, .int x]))])) (va_A [(h0, .inr (11, [.ref h_tape, .ref h_reader, .ref h_now, .ref h_trial, .ref h_images, .ref h_imageKept, .ref h_slots, .ref h_night, .ref h_otherNight, .ref h_circle, .ref h_words, .ref h_lawSearch, .ref h_placeSearch, .ref h_drawnNight])), (h_tape, .inr (9, [.ref h_tape_bytes, .int v_tape_length]))] sz)) 0 0 (va_A [(h0, .inr (11, [.ref h_tape, .ref h_reader, .ref h_now, .ref h_trial, .ref h_images, .ref h_imageKept, .ref h_slots, .ref h_night, .ref h_otherNight, .ref h_circle, .ref h_words, .ref h_lawSearch, .ref h_placeSearch, .ref h_drawnNight])), (h_tape, .inr (9, [.ref h_tape_bytes, .int v_tape_length]))] sz) := by
  refine metI (own := RX11) (by decide) rfl ?_
  intro p e s m below meth c Q hsz C hG hP hD hAB ret
  obtain ⟨hx, hb, hml, hown, hts, hK, hN, hT⟩ := id C
  subst hsz
  generalize hAe : va_A [(h0, .inr (11, [.ref h_tape, .ref h_reader, .ref h_now, .ref h_trial, .ref h_images, .ref h_imageKept, .ref h_slots, .ref h_night, .ref h_otherNight, .ref h_circle, .ref h_words, .ref h_lawSearch, .ref h_placeSearch, .ref h_drawnNight])), (h_tape, .inr (9, [.ref h_tape_bytes, .int v_tape_length]))] s.heap.size = A at hD hAB ret ⊢
  have hA : ∀ q : Nat, s.heap.size ≤ q → A q := fun q h => by rw [← hAe]; exact Or.inr h
  have hS : va_S A s.heap s.heap [] := va_S.rf
  have hl := lv_entry ([.ref h0, .int v1]) (n := 2) (Nat.le_of_ble_eq_true rfl)
  rw [lg_entry_eq]
  generalize (lg_sl ([.ref h0, .int v1]) ++ List.replicate (2 - (lg_sl ([.ref h0, .int v1])).length) Slot.unset).toArray = ls at hl ⊢
  have hl : lv_has ls 2 [(0, .ref h0), (1, .int v1)] := hl
  have hP : va_P D vwCl [(h0, .inr (11, [.ref h_tape, .ref h_reader, .ref h_now, .ref h_trial, .ref h_images, .ref h_imageKept, .ref h_slots, .ref h_night, .ref h_otherNight, .ref h_circle, .ref h_words, .ref h_lawSearch, .ref h_placeSearch, .ref h_drawnNight])), (h_tape, .inr (9, [.ref h_tape_bytes, .int v_tape_length]))] s.heap := hP
  refine lv_iload_n hx hb dX11_end_0 rfl (lv_at hl 1 rfl) ?_
  have b_v1 := i32b v1
  obtain ⟨t_1, et_1⟩ : ∃ v9 : Int64, (v1 : Int32).toInt64 = v9 := ⟨_, rfl⟩
  refine lv_i2l (v := t_1) hx hb dX11_end_1 et_1 ?_
  have ft_1 : t_1.toInt = v1.toInt := by rw [← et_1]; exact Int32.toInt_toInt64 _
  refine lv_lconst (v := 0) hx hb dX11_end_2 (by decide) ?_
  refine lv_aload_n hx hb dX11_end_3 rfl (lv_at hl 0 rfl) ?_
  refine va_get (D := D) (ci := 11) (v := .ref h_tape) (C := RX11) (T := TX11) (N := 14) hx hb hts inlX11 hown hK hP 0 rfl rfl 0 (by decide) (hts _ (inr1 _ (List.mem_of_getElem? (i := 16) rfl))) (fun _ h9 => h9) rfl dX11_end_4 ?_
  refine roi (As := []) (rest := [.long 0, .long t_1]) ⟨hx, hb, hml, hown, hts⟩ (b_X9_size l G D cB cI cJ cZ cS cT h_tape h_tape_bytes v_tape_length (by first | assumption | omega | decide)) (cvB (n := 0) (inr7 _ (List.mem_of_getElem? (i := 22) rfl)) (inr7 _ (List.mem_of_getElem? (i := 23) rfl)) (inr8 _ (List.mem_of_getElem? (i := 0) rfl)) (inr1 _ (List.mem_of_getElem? (i := 15) rfl)) (inr8 _ (List.mem_of_getElem? (i := 1) rfl)) (by decide +kernel) hts rfl rfl ⟨Nat.le_of_ble_eq_true rfl, Nat.le_of_ble_eq_true rfl⟩) 0 9 rfl rfl rfl (hP.sub [1] rfl) hK hN (kT.to hT hS hAB) rfl hl.1 rfl (Nat.le_of_ble_eq_true rfl) ⟨Nat.le_of_ble_eq_true rfl, Nat.le_of_ble_eq_true rfl⟩ dX11_end_7 (fun r_2 h_3 => ?_)
  have h_3 : (r_2 = v_tape_length) := h_3
  have i_4 := h_3
  obtain rfl := i_4.symm
  have b_v_tape_length := i32b v_tape_length
  obtain ⟨t_5, et_5⟩ : ∃ v9 : Int64, (v_tape_length : Int32).toInt64 = v9 := ⟨_, rfl⟩
  refine lv_i2l (v := t_5) hx hb dX11_end_10 et_5 ?_
  have ft_5 : t_5.toInt = v_tape_length.toInt := by rw [← et_5]; exact Int32.toInt_toInt64 _
  refine rosi (As := [.long t_1, .long 0, .long t_5]) (rest := []) ⟨hx, hb, hml, hown, hts⟩ (b_X11_outside l G D cB cI cJ cZ cS cT t_1 0 t_5 ) (csB (n := 3) (inr8 _ (List.mem_of_getElem? (i := 16) rfl)) (inr8 _ (List.mem_of_getElem? (i := 17) rfl)) (inr1 _ (List.mem_of_getElem? (i := 2) rfl)) (inr8 _ (List.mem_of_getElem? (i := 18) rfl)) (by decide +kernel) hts rfl rfl ⟨Nat.le_of_ble_eq_true rfl, Nat.le_of_ble_eq_true rfl⟩) (hP.sub [] rfl) hK hN (kT.to hT hS hAB) rfl hl.1 rfl (Nat.le_of_ble_eq_true rfl) ⟨Nat.le_of_ble_eq_true rfl, Nat.le_of_ble_eq_true rfl⟩ dX11_end_11 (fun r_6 h_7 => ?_)
  have h_7 : ((r_6.toInt = 0 ∧ 0 ≤ t_1.toInt ∧ t_1.toInt ≤ t_5.toInt) ∨ (r_6.toInt = 1 ∧ (t_1.toInt < 0 ∨ t_5.toInt < t_1.toInt))) := h_7
  have i_8 := h_7
  refine lv_if_eq (tgt := 19) hx hb dX11_end_14 (by decide) (fun c_9 => ?_) (fun c_9 => ?_)
  · have c_9 : r_6.toInt = 0 := ci_eq_t c_9
    have b_r_6 := i32b r_6
    refine lv_aload_n hx hb dX11_end_19 rfl (lv_at hl 0 rfl) ?_
    refine va_get (D := D) (ci := 11) (v := .ref h_tape) (C := RX11) (T := TX11) (N := 14) hx hb hts inlX11 hown hK hP 0 rfl rfl 0 (by decide) (hts _ (inr1 _ (List.mem_of_getElem? (i := 16) rfl))) (fun _ h9 => h9) rfl dX11_end_20 ?_
    refine lv_iload_n hx hb dX11_end_23 rfl (lv_at hl 1 rfl) ?_
    refine wrVv (As := [.int v1]) (rest := []) (wr := [(h0, .inr (11, [.ref h_tape, .ref h_reader, .ref h_now, .ref h_trial, .ref h_images, .ref h_imageKept, .ref h_slots, .ref h_night, .ref h_otherNight, .ref h_circle, .ref h_words, .ref h_lawSearch, .ref h_placeSearch, .ref h_drawnNight]))]) ⟨hx, hb, hml, hown, hts⟩ (b_X9_cut l G D cB cI cJ cZ cS cT s.heap.size h_tape h_tape_bytes v_tape_length v1 (by first | assumption | omega | decide)) hP hD hS hA hK hN hT hAB hG [1] [0] rfl rfl (by decide) (by decide) (by decide) (cvB (n := 1) (inr8 _ (List.mem_of_getElem? (i := 19) rfl)) (inr8 _ (List.mem_of_getElem? (i := 20) rfl)) (inr8 _ (List.mem_of_getElem? (i := 21) rfl)) (inr1 _ (List.mem_of_getElem? (i := 15) rfl)) (inr8 _ (List.mem_of_getElem? (i := 22) rfl)) (by decide +kernel) hts rfl rfl ⟨Nat.le_of_ble_eq_true rfl, Nat.le_of_ble_eq_true rfl⟩) 0 9 rfl rfl rfl rfl hl.1 rfl (Nat.le_of_ble_eq_true rfl) ⟨Nat.le_of_ble_eq_true rfl, Nat.le_of_ble_eq_true rfl⟩ dX11_end_24 (fun x9 H locs h_11 hP hD hS => ?_)
    obtain ⟨t_12, rfl⟩ : ∃ z, z = x9 := ⟨_, rfl⟩
    have hP : va_P D vwCl [(h0, .inr (11, [.ref h_tape, .ref h_reader, .ref h_now, .ref h_trial, .ref h_images, .ref h_imageKept, .ref h_slots, .ref h_night, .ref h_otherNight, .ref h_circle, .ref h_words, .ref h_lawSearch, .ref h_placeSearch, .ref h_drawnNight])), (h_tape, .inr (9, [.ref h_tape_bytes, .int t_12]))] H := hP
    have hD : va_D A [(h0, .inr (11, [.ref h_tape, .ref h_reader, .ref h_now, .ref h_trial, .ref h_images, .ref h_imageKept, .ref h_slots, .ref h_night, .ref h_otherNight, .ref h_circle, .ref h_words, .ref h_lawSearch, .ref h_placeSearch, .ref h_drawnNight])), (h_tape, .inr (9, [.ref h_tape_bytes, .int t_12]))] := hD
    have h_11 : (0 ≤ t_12.toInt ∧ t_12.toInt ≤ 500) := h_11
    have i_13 := h_11
    refine lv_iload_n hx hb dX11_end_27 rfl (lv_at hl 1 rfl) ?_
    exact ret _ _ _ _ _ t_12 dX11_end_28 (show (0 ≤ t_12.toInt ∧ t_12.toInt ≤ 500) from (by first | assumption | omega | decide)) (hP.sub [0, 1] rfl) (hD.sub [0, 1] (by decide) rfl) hS
  · have c_9 : ¬ r_6.toInt = 0 := ci_eq_f c_9
    have b_r_6 := i32b r_6
    refine lv_iconst (v := (-1)) hx hb dX11_end_17 (by decide) ?_
    exact ret _ _ _ _ _ v_tape_length dX11_end_18 (show (0 ≤ v_tape_length.toInt ∧ v_tape_length.toInt ≤ 500) from (by first | assumption | omega | decide)) (hP.sub [0, 1] rfl) (hD.sub [0, 1] (by decide) rfl) hS

set_option maxHeartbeats 4000000 in
set_option maxRecDepth 100000 in
theorem b_X11_station (l : Launch) (G : Gho) (D : va_G) (cB cI cJ cZ cS cT : ClassId) (sz : Nat) (h0 : Nat) (h_tape : Nat) (h_reader : Nat) (h_now : Nat) (h_trial : Nat) (h_images : Nat) (h_imageKept : Nat) (h_slots : Nat) (h_night : Nat) (h_otherNight : Nat) (h_circle : Nat) (h_words : Nat) (h_lawSearch : Nat) (h_placeSearch : Nat) (h_drawnNight : Nat) (v_now_tones : Int32) (v_now_a : Int32) (v_now_b : Int32) (v_now_c : Int32) (v_now_d : Int32) (v_now_odds : Int32) (v_now_lines : Int32) (h_now_signs : Nat) (v_now_signCount : Int32) (h_now_posts : Nat) (v_now_postCount : Int32) (h_now_acts : Nat) (h_reader_draft : Nat) (v_reader_kind : Int32) (v_reader_start : Int32) (v_reader_behind : Int32) (v_reader_number : Int32) (v_reader_fault : Int32) (v_reader_faultAt : Int32) (h_tape_bytes : Nat) (v_tape_length : Int32) (h_now_acts_over : Nat) (h_now_acts_steps : Nat) (h_now_acts_before : Nat) (v_now_acts_size : Int32) (f_now_posts : Nat → Int32) (f_now_signs : Nat → Int32) (v_reader_draft_tones : Int32) (v_reader_draft_a : Int32) (v_reader_draft_b : Int32) (v_reader_draft_c : Int32) (v_reader_draft_d : Int32) (v_reader_draft_odds : Int32) (v_reader_draft_lines : Int32) (h_reader_draft_signs : Nat) (v_reader_draft_signCount : Int32) (h_reader_draft_posts : Nat) (v_reader_draft_postCount : Int32) (h_reader_draft_acts : Nat) (f_tape_bytes : Nat → Int32) (f_now_acts_before : Nat → Int32) (f_now_acts_over : Nat → Int32) (f_now_acts_steps : Nat → Int32) (h_reader_draft_acts_over : Nat) (h_reader_draft_acts_steps : Nat) (h_reader_draft_acts_before : Nat) (v_reader_draft_acts_size : Int32) (f_reader_draft_posts : Nat → Int32) (f_reader_draft_signs : Nat → Int32) (f_reader_draft_acts_before : Nat → Int32) (f_reader_draft_acts_over : Nat → Int32) (f_reader_draft_acts_steps : Nat → Int32) (iv_now_signCount : 0 ≤ v_now_signCount.toInt ∧ v_now_signCount.toInt ≤ 8) (iv_now_postCount : 0 ≤ v_now_postCount.toInt ∧ v_now_postCount.toInt ≤ 5) (iv_tape_length : 0 ≤ v_tape_length.toInt ∧ v_tape_length.toInt ≤ 500) (iv_now_acts_size : 0 ≤ v_now_acts_size.toInt ∧ v_now_acts_size.toInt ≤ 30) (iv_reader_draft_signCount : 0 ≤ v_reader_draft_signCount.toInt ∧ v_reader_draft_signCount.toInt ≤ 8) (iv_reader_draft_postCount : 0 ≤ v_reader_draft_postCount.toInt ∧ v_reader_draft_postCount.toInt ≤ 5) (iv_reader_draft_acts_size : 0 ≤ v_reader_draft_acts_size.toInt ∧ v_reader_draft_acts_size.toInt ≤ 30) : Met l yX11_station (Cond.code yX11_station cX11_station 1 (some .int) :: wsL_law) ({ frames := 9, cells := 0, slots := 0, locals := 200 }) (wrP G D (tyL cB cI cJ cZ cS cT) [(h0, .inr (11, [.ref h_tape, .ref h_reader, .ref h_now, .ref h_trial, .ref h_images, .ref h_imageKept, .ref h_slots, .ref h_night, .ref h_otherNight, .ref h_circle, .ref h_words, .ref h_lawSearch, .ref h_placeSearch, .ref h_drawnNight])), (h_now, .inr (8, [.int v_now_tones, .int v_now_a, .int v_now_b, .int v_now_c, .int v_now_d, .int v_now_odds, .int v_now_lines, .ref h_now_signs, .int v_now_signCount, .ref h_now_posts, .int v_now_postCount, .ref h_now_acts])), (h_reader, .inr (6, [.ref h_reader_draft, .int v_reader_kind, .int v_reader_start, .int v_reader_behind, .int v_reader_number, .int v_reader_fault, .int v_reader_faultAt])), (h_tape, .inr (9, [.ref h_tape_bytes, .int v_tape_length])), (h_now_acts, .inr (0, [.ref h_now_acts_over, .ref h_now_acts_steps, .ref h_now_acts_before, .int v_now_acts_size])), (h_now_posts, .inl (cI, 5, .inl f_now_posts)), (h_now_signs, .inl (cI, 8, .inl f_now_signs)), (h_reader_draft, .inr (8, [.int v_reader_draft_tones, .int v_reader_draft_a, .int v_reader_draft_b, .int v_reader_draft_c, .int v_reader_draft_d, .int v_reader_draft_odds, .int v_reader_draft_lines, .ref h_reader_draft_signs, .int v_reader_draft_signCount, .ref h_reader_draft_posts, .int v_reader_draft_postCount, .ref h_reader_draft_acts])), (h_tape_bytes, .inl (cB, 500, .inl f_tape_bytes)), (h_now_acts_before, .inl (cI, 30, .inl f_now_acts_before)), (h_now_acts_over, .inl (cI, 61, .inl f_now_acts_over)), (h_now_acts_steps, .inl (cI, 30, .inl f_now_acts_steps)), (h_reader_draft_acts, .inr (0, [.ref h_reader_draft_acts_over, .ref h_reader_draft_acts_steps, .ref h_reader_draft_acts_before, .int v_reader_draft_acts_size])), (h_reader_draft_posts, .inl (cI, 5, .inl f_reader_draft_posts)), (h_reader_draft_signs, .inl (cI, 8, .inl f_reader_draft_signs)), (h_reader_draft_acts_before, .inl (cI, 30, .inl f_reader_draft_acts_before)), (h_reader_draft_acts_over, .inl (cI, 61, .inl f_reader_draft_acts_over)), (h_reader_draft_acts_steps, .inl (cI, 30, .inl f_reader_draft_acts_steps))] sz [.ref h0]) (va_Qi (fun (r : Int32) (x : Int32 × Int32 × Int32 × Int32 × Int32 × Int32 × Int32 × Int32 × Int32 × Int32 × Int32 × Int32 × Int32 × Int32 × Int32 × Int32 × Int32 × (Nat → Int32) × (Nat → Int32) × Int32 × Int32 × Int32 × Int32 × Int32 × Int32 × Int32 × Int32 × Int32 × (Nat → Int32) × (Nat → Int32) × (Nat → Int32) × Int32 × (Nat → Int32) × (Nat → Int32) × (Nat → Int32)) => (0 ≤ x.2.2.2.2.2.2.2.1.toInt ∧ x.2.2.2.2.2.2.2.1.toInt ≤ 8) ∧ (0 ≤ x.2.2.2.2.2.2.2.2.1.toInt ∧ x.2.2.2.2.2.2.2.2.1.toInt ≤ 5) ∧ (0 ≤ x.2.2.2.2.2.2.2.2.2.2.2.2.2.2.2.1.toInt ∧ x.2.2.2.2.2.2.2.2.2.2.2.2.2.2.2.1.toInt ≤ 500) ∧ (0 ≤ x.2.2.2.2.2.2.2.2.2.2.2.2.2.2.2.2.1.toInt ∧ x.2.2.2.2.2.2.2.2.2.2.2.2.2.2.2.2.1.toInt ≤ 30) ∧ (0 ≤ x.2.2.2.2.2.2.2.2.2.2.2.2.2.2.2.2.2.2.2.2.2.2.2.2.2.2.1.toInt ∧ x.2.2.2.2.2.2.2.2.2.2.2.2.2.2.2.2.2.2.2.2.2.2.2.2.2.2.1.toInt ≤ 8) ∧ (0 ≤ x.2.2.2.2.2.2.2.2.2.2.2.2.2.2.2.2.2.2.2.2.2.2.2.2.2.2.2.1.toInt ∧ x.2.2.2.2.2.2.2.2.2.2.2.2.2.2.2.2.2.2.2.2.2.2.2.2.2.2.2.1.toInt ≤ 5) ∧ (0 ≤ x.2.2.2.2.2.2.2.2.2.2.2.2.2.2.2.2.2.2.2.2.2.2.2.2.2.2.2.2.2.2.2.1.toInt ∧ x.2.2.2.2.2.2.2.2.2.2.2.2.2.2.2.2.2.2.2.2.2.2.2.2.2.2.2.2.2.2.2.1.toInt ≤ 30)) (atW D (tyL cB cI cJ cZ cS cT) (va_A [(h0, .inr (11, [.ref h_tape, .ref h_reader, .ref h_now, .ref h_trial, .ref h_images, .ref h_imageKept, .ref h_slots, .ref h_night, .ref h_otherNight, .ref h_circle, .ref h_words, .ref h_lawSearch, .ref h_placeSearch, .ref h_drawnNight])), (h_now, .inr (8, [.int v_now_tones, .int v_now_a, .int v_now_b, .int v_now_c, .int v_now_d, .int v_now_odds, .int v_now_lines, .ref h_now_signs, .int v_now_signCount, .ref h_now_posts, .int v_now_postCount, .ref h_now_acts])), (h_reader, .inr (6, [.ref h_reader_draft, .int v_reader_kind, .int v_reader_start, .int v_reader_behind, .int v_reader_number, .int v_reader_fault, .int v_reader_faultAt])), (h_tape, .inr (9, [.ref h_tape_bytes, .int v_tape_length])), (h_now_acts, .inr (0, [.ref h_now_acts_over, .ref h_now_acts_steps, .ref h_now_acts_before, .int v_now_acts_size])), (h_now_posts, .inl (cI, 5, .inl f_now_posts)), (h_now_signs, .inl (cI, 8, .inl f_now_signs)), (h_reader_draft, .inr (8, [.int v_reader_draft_tones, .int v_reader_draft_a, .int v_reader_draft_b, .int v_reader_draft_c, .int v_reader_draft_d, .int v_reader_draft_odds, .int v_reader_draft_lines, .ref h_reader_draft_signs, .int v_reader_draft_signCount, .ref h_reader_draft_posts, .int v_reader_draft_postCount, .ref h_reader_draft_acts])), (h_tape_bytes, .inl (cB, 500, .inl f_tape_bytes)), (h_now_acts_before, .inl (cI, 30, .inl f_now_acts_before)), (h_now_acts_over, .inl (cI, 61, .inl f_now_acts_over)), (h_now_acts_steps, .inl (cI, 30, .inl f_now_acts_steps)), (h_reader_draft_acts, .inr (0, [.ref h_reader_draft_acts_over, .ref h_reader_draft_acts_steps, .ref h_reader_draft_acts_before, .int v_reader_draft_acts_size])), (h_reader_draft_posts, .inl (cI, 5, .inl f_reader_draft_posts)), (h_reader_draft_signs, .inl (cI, 8, .inl f_reader_draft_signs)), (h_reader_draft_acts_before, .inl (cI, 30, .inl f_reader_draft_acts_before)), (h_reader_draft_acts_over, .inl (cI, 61, .inl f_reader_draft_acts_over)), (h_reader_draft_acts_steps, .inl (cI, 30, .inl f_reader_draft_acts_steps))] sz) (fun x : Int32 × Int32 × Int32 × Int32 × Int32 × Int32 × Int32 × Int32 × Int32 × Int32 × Int32 × Int32 × Int32 × Int32 × Int32 × Int32 × Int32 × (Nat → Int32) × (Nat → Int32) × Int32 × Int32 × Int32 × Int32 × Int32 × Int32 × Int32 × Int32 × Int32 × (Nat → Int32) × (Nat → Int32) × (Nat → Int32) × Int32 × (Nat → Int32) × (Nat → Int32) × (Nat → Int32) => [(h0, .inr (11, [.ref h_tape, .ref h_reader, .ref h_now, .ref h_trial, .ref h_images, .ref h_imageKept, .ref h_slots, .ref h_night, .ref h_otherNight, .ref h_circle, .ref h_words, .ref h_lawSearch, .ref h_placeSearch, .ref h_drawnNight])), (h_now, .inr (8, [.int x.1, .int x.2.1, .int x.2.2.1, .int x.2.2.2.1, .int x.2.2.2.2.1, .int x.2.2.2.2.2.1, .int x.2.2.2.2.2.2.1, .ref h_now_signs, .int x.2.2.2.2.2.2.2.1, .ref h_now_posts, .int x.2.2.2.2.2.2.2.2.1, .ref h_now_acts])), (h_reader, .inr (6, [.ref h_reader_draft, .int x.2.2.2.2.2.2.2.2.2.1, .int x.2.2.2.2.2.2.2.2.2.2.1, .int x.2.2.2.2.2.2.2.2.2.2.2.1, .int x.2.2.2.2.2.2.2.2.2.2.2.2.1, .int x.2.2.2.2.2.2.2.2.2.2.2.2.2.1, .int x.2.2.2.2.2.2.2.2.2.2.2.2.2.2.1])), (h_tape, .inr (9, [.ref h_tape_bytes, .int x.2.2.2.2.2.2.2.2.2.2.2.2.2.2.2.1])), (h_now_acts, .inr (0, [.ref h_now_acts_over, .ref h_now_acts_steps, .ref h_now_acts_before, .int x.2.2.2.2.2.2.2.2.2.2.2.2.2.2.2.2.1])), (h_now_posts, .inl (cI, 5, .inl x.2.2.2.2.2.2.2.2.2.2.2.2.2.2.2.2.2.1)), (h_now_signs, .inl (cI, 8, .inl x.2.2.2.2.2.2.2.2.2.2.2.2.2.2.2.2.2.2.1)), (h_reader_draft, .inr (8, [.int x.2.2.2.2.2.2.2.2.2.2.2.2.2.2.2.2.2.2.2.1, .int x.2.2.2.2.2.2.2.2.2.2.2.2.2.2.2.2.2.2.2.2.1, .int x.2.2.2.2.2.2.2.2.2.2.2.2.2.2.2.2.2.2.2.2.2.1, .int x.2.2.2.2.2.2.2.2.2.2.2.2.2.2.2.2.2.2.2.2.2.2.1, .int x.2.2.2.2.2.2.2.2.2.2.2.2.2.2.2.2.2.2.2.2.2.2.2.1, .int x.2.2.2.2.2.2.2.2.2.2.2.2.2.2.2.2.2.2.2.2.2.2.2.2.1, .int x.2.2.2.2.2.2.2.2.2.2.2.2.2.2.2.2.2.2.2.2.2.2.2.2.2.1, .ref h_reader_draft_signs, .int x.2.2.2.2.2.2.2.2.2.2.2.2.2.2.2.2.2.2.2.2.2.2.2.2.2.2.1, .ref h_reader_draft_posts, .int x.2.2.2.2.2.2.2.2.2.2.2.2.2.2.2.2.2.2.2.2.2.2.2.2.2.2.2.1, .ref h_reader_draft_acts])), (h_tape_bytes, .inl (cB, 500, .inl f_tape_bytes)), (h_now_acts_before, .inl (cI, 30, .inl x.2.2.2.2.2.2.2.2.2.2.2.2.2.2.2.2.2.2.2.2.2.2.2.2.2.2.2.2.1)), (h_now_acts_over, .inl (cI, 61, .inl x.2.2.2.2.2.2.2.2.2.2.2.2.2.2.2.2.2.2.2.2.2.2.2.2.2.2.2.2.2.1)), (h_now_acts_steps, .inl (cI, 30, .inl x.2.2.2.2.2.2.2.2.2.2.2.2.2.2.2.2.2.2.2.2.2.2.2.2.2.2.2.2.2.2.1)), (h_reader_draft_acts, .inr (0, [.ref h_reader_draft_acts_over, .ref h_reader_draft_acts_steps, .ref h_reader_draft_acts_before, .int x.2.2.2.2.2.2.2.2.2.2.2.2.2.2.2.2.2.2.2.2.2.2.2.2.2.2.2.2.2.2.2.1])), (h_reader_draft_posts, .inl (cI, 5, .inl x.2.2.2.2.2.2.2.2.2.2.2.2.2.2.2.2.2.2.2.2.2.2.2.2.2.2.2.2.2.2.2.2.1)), (h_reader_draft_signs, .inl (cI, 8, .inl x.2.2.2.2.2.2.2.2.2.2.2.2.2.2.2.2.2.2.2.2.2.2.2.2.2.2.2.2.2.2.2.2.2.1)), (h_reader_draft_acts_before, .inl (cI, 30, .inl f_reader_draft_acts_before)), (h_reader_draft_acts_over, .inl (cI, 61, .inl x.2.2.2.2.2.2.2.2.2.2.2.2.2.2.2.2.2.2.2.2.2.2.2.2.2.2.2.2.2.2.2.2.2.2)), (h_reader_draft_acts_steps, .inl (cI, 30, .inl f_reader_draft_acts_steps))])) (va_A [(h0, .inr (11, [.ref h_tape, .ref h_reader, .ref h_now, .ref h_trial, .ref h_images, .ref h_imageKept, .ref h_slots, .ref h_night, .ref h_otherNight, .ref h_circle, .ref h_words, .ref h_lawSearch, .ref h_placeSearch, .ref h_drawnNight])), (h_now, .inr (8, [.int v_now_tones, .int v_now_a, .int v_now_b, .int v_now_c, .int v_now_d, .int v_now_odds, .int v_now_lines, .ref h_now_signs, .int v_now_signCount, .ref h_now_posts, .int v_now_postCount, .ref h_now_acts])), (h_reader, .inr (6, [.ref h_reader_draft, .int v_reader_kind, .int v_reader_start, .int v_reader_behind, .int v_reader_number, .int v_reader_fault, .int v_reader_faultAt])), (h_tape, .inr (9, [.ref h_tape_bytes, .int v_tape_length])), (h_now_acts, .inr (0, [.ref h_now_acts_over, .ref h_now_acts_steps, .ref h_now_acts_before, .int v_now_acts_size])), (h_now_posts, .inl (cI, 5, .inl f_now_posts)), (h_now_signs, .inl (cI, 8, .inl f_now_signs)), (h_reader_draft, .inr (8, [.int v_reader_draft_tones, .int v_reader_draft_a, .int v_reader_draft_b, .int v_reader_draft_c, .int v_reader_draft_d, .int v_reader_draft_odds, .int v_reader_draft_lines, .ref h_reader_draft_signs, .int v_reader_draft_signCount, .ref h_reader_draft_posts, .int v_reader_draft_postCount, .ref h_reader_draft_acts])), (h_tape_bytes, .inl (cB, 500, .inl f_tape_bytes)), (h_now_acts_before, .inl (cI, 30, .inl f_now_acts_before)), (h_now_acts_over, .inl (cI, 61, .inl f_now_acts_over)), (h_now_acts_steps, .inl (cI, 30, .inl f_now_acts_steps)), (h_reader_draft_acts, .inr (0, [.ref h_reader_draft_acts_over, .ref h_reader_draft_acts_steps, .ref h_reader_draft_acts_before, .int v_reader_draft_acts_size])), (h_reader_draft_posts, .inl (cI, 5, .inl f_reader_draft_posts)), (h_reader_draft_signs, .inl (cI, 8, .inl f_reader_draft_signs)), (h_reader_draft_acts_before, .inl (cI, 30, .inl f_reader_draft_acts_before)), (h_reader_draft_acts_over, .inl (cI, 61, .inl f_reader_draft_acts_over)), (h_reader_draft_acts_steps, .inl (cI, 30, .inl f_reader_draft_acts_steps))] sz)) 0 0 (va_A [(h0, .inr (11, [.ref h_tape, .ref h_reader, .ref h_now, .ref h_trial, .ref h_images, .ref h_imageKept, .ref h_slots, .ref h_night, .ref h_otherNight, .ref h_circle, .ref h_words, .ref h_lawSearch, .ref h_placeSearch, .ref h_drawnNight])), (h_now, .inr (8, [.int v_now_tones, .int v_now_a, .int v_now_b, .int v_now_c, .int v_now_d, .int v_now_odds, .int v_now_lines, .ref h_now_signs, .int v_now_signCount, .ref h_now_posts, .int v_now_postCount, .ref h_now_acts])), (h_reader, .inr (6, [.ref h_reader_draft, .int v_reader_kind, .int v_reader_start, .int v_reader_behind, .int v_reader_number, .int v_reader_fault, .int v_reader_faultAt])), (h_tape, .inr (9, [.ref h_tape_bytes, .int v_tape_length])), (h_now_acts, .inr (0, [.ref h_now_acts_over, .ref h_now_acts_steps, .ref h_now_acts_before, .int v_now_acts_size])), (h_now_posts, .inl (cI, 5, .inl f_now_posts)), (h_now_signs, .inl (cI, 8, .inl f_now_signs)), (h_reader_draft, .inr (8, [.int v_reader_draft_tones, .int v_reader_draft_a, .int v_reader_draft_b, .int v_reader_draft_c, .int v_reader_draft_d, .int v_reader_draft_odds, .int v_reader_draft_lines, .ref h_reader_draft_signs, .int v_reader_draft_signCount, .ref h_reader_draft_posts, .int v_reader_draft_postCount, .ref h_reader_draft_acts])), (h_tape_bytes, .inl (cB, 500, .inl f_tape_bytes)), (h_now_acts_before, .inl (cI, 30, .inl f_now_acts_before)), (h_now_acts_over, .inl (cI, 61, .inl f_now_acts_over)), (h_now_acts_steps, .inl (cI, 30, .inl f_now_acts_steps)), (h_reader_draft_acts, .inr (0, [.ref h_reader_draft_acts_over, .ref h_reader_draft_acts_steps, .ref h_reader_draft_acts_before, .int v_reader_draft_acts_size])), (h_reader_draft_posts, .inl (cI, 5, .inl f_reader_draft_posts)), (h_reader_draft_signs, .inl (cI, 8, .inl f_reader_draft_signs)), (h_reader_draft_acts_before, .inl (cI, 30, .inl f_reader_draft_acts_before)), (h_reader_draft_acts_over, .inl (cI, 61, .inl f_reader_draft_acts_over)), (h_reader_draft_acts_steps, .inl (cI, 30, .inl f_reader_draft_acts_steps))] sz) := by
  refine metI (own := RX11) (by decide) rfl ?_
  intro p e s m below meth c Q hsz C hG hP hD hAB ret
  obtain ⟨hx, hb, hml, hown, hts, hK, hN, hT⟩ := id C
  subst hsz
  generalize hAe : va_A [(h0, .inr (11, [.ref h_tape, .ref h_reader, .ref h_now, .ref h_trial, .ref h_images, .ref h_imageKept, .ref h_slots, .ref h_night, .ref h_otherNight, .ref h_circle, .ref h_words, .ref h_lawSearch, .ref h_placeSearch, .ref h_drawnNight])), (h_now, .inr (8, [.int v_now_tones, .int v_now_a, .int v_now_b, .int v_now_c, .int v_now_d, .int v_now_odds, .int v_now_lines, .ref h_now_signs, .int v_now_signCount, .ref h_now_posts, .int v_now_postCount, .ref h_now_acts])), (h_reader, .inr (6, [.ref h_reader_draft, .int v_reader_kind, .int v_reader_start, .int v_reader_behind, .int v_reader_number, .int v_reader_fault, .int v_reader_faultAt])), (h_tape, .inr (9, [.ref h_tape_bytes, .int v_tape_length])), (h_now_acts, .inr (0, [.ref h_now_acts_over, .ref h_now_acts_steps, .ref h_now_acts_before, .int v_now_acts_size])), (h_now_posts, .inl (cI, 5, .inl f_now_posts)), (h_now_signs, .inl (cI, 8, .inl f_now_signs)), (h_reader_draft, .inr (8, [.int v_reader_draft_tones, .int v_reader_draft_a, .int v_reader_draft_b, .int v_reader_draft_c, .int v_reader_draft_d, .int v_reader_draft_odds, .int v_reader_draft_lines, .ref h_reader_draft_signs, .int v_reader_draft_signCount, .ref h_reader_draft_posts, .int v_reader_draft_postCount, .ref h_reader_draft_acts])), (h_tape_bytes, .inl (cB, 500, .inl f_tape_bytes)), (h_now_acts_before, .inl (cI, 30, .inl f_now_acts_before)), (h_now_acts_over, .inl (cI, 61, .inl f_now_acts_over)), (h_now_acts_steps, .inl (cI, 30, .inl f_now_acts_steps)), (h_reader_draft_acts, .inr (0, [.ref h_reader_draft_acts_over, .ref h_reader_draft_acts_steps, .ref h_reader_draft_acts_before, .int v_reader_draft_acts_size])), (h_reader_draft_posts, .inl (cI, 5, .inl f_reader_draft_posts)), (h_reader_draft_signs, .inl (cI, 8, .inl f_reader_draft_signs)), (h_reader_draft_acts_before, .inl (cI, 30, .inl f_reader_draft_acts_before)), (h_reader_draft_acts_over, .inl (cI, 61, .inl f_reader_draft_acts_over)), (h_reader_draft_acts_steps, .inl (cI, 30, .inl f_reader_draft_acts_steps))] s.heap.size = A at hD hAB ret ⊢
  have hA : ∀ q : Nat, s.heap.size ≤ q → A q := fun q h => by rw [← hAe]; exact Or.inr h
  have hS : va_S A s.heap s.heap [] := va_S.rf
  have hl := lv_entry ([.ref h0]) (n := 1) (Nat.le_of_ble_eq_true rfl)
  rw [lg_entry_eq]
  generalize (lg_sl ([.ref h0]) ++ List.replicate (1 - (lg_sl ([.ref h0])).length) Slot.unset).toArray = ls at hl ⊢
  have hl : lv_has ls 1 [(0, .ref h0)] := hl
  have hP : va_P D vwCl [(h0, .inr (11, [.ref h_tape, .ref h_reader, .ref h_now, .ref h_trial, .ref h_images, .ref h_imageKept, .ref h_slots, .ref h_night, .ref h_otherNight, .ref h_circle, .ref h_words, .ref h_lawSearch, .ref h_placeSearch, .ref h_drawnNight])), (h_now, .inr (8, [.int v_now_tones, .int v_now_a, .int v_now_b, .int v_now_c, .int v_now_d, .int v_now_odds, .int v_now_lines, .ref h_now_signs, .int v_now_signCount, .ref h_now_posts, .int v_now_postCount, .ref h_now_acts])), (h_reader, .inr (6, [.ref h_reader_draft, .int v_reader_kind, .int v_reader_start, .int v_reader_behind, .int v_reader_number, .int v_reader_fault, .int v_reader_faultAt])), (h_tape, .inr (9, [.ref h_tape_bytes, .int v_tape_length])), (h_now_acts, .inr (0, [.ref h_now_acts_over, .ref h_now_acts_steps, .ref h_now_acts_before, .int v_now_acts_size])), (h_now_posts, .inl (cI, 5, .inl f_now_posts)), (h_now_signs, .inl (cI, 8, .inl f_now_signs)), (h_reader_draft, .inr (8, [.int v_reader_draft_tones, .int v_reader_draft_a, .int v_reader_draft_b, .int v_reader_draft_c, .int v_reader_draft_d, .int v_reader_draft_odds, .int v_reader_draft_lines, .ref h_reader_draft_signs, .int v_reader_draft_signCount, .ref h_reader_draft_posts, .int v_reader_draft_postCount, .ref h_reader_draft_acts])), (h_tape_bytes, .inl (cB, 500, .inl f_tape_bytes)), (h_now_acts_before, .inl (cI, 30, .inl f_now_acts_before)), (h_now_acts_over, .inl (cI, 61, .inl f_now_acts_over)), (h_now_acts_steps, .inl (cI, 30, .inl f_now_acts_steps)), (h_reader_draft_acts, .inr (0, [.ref h_reader_draft_acts_over, .ref h_reader_draft_acts_steps, .ref h_reader_draft_acts_before, .int v_reader_draft_acts_size])), (h_reader_draft_posts, .inl (cI, 5, .inl f_reader_draft_posts)), (h_reader_draft_signs, .inl (cI, 8, .inl f_reader_draft_signs)), (h_reader_draft_acts_before, .inl (cI, 30, .inl f_reader_draft_acts_before)), (h_reader_draft_acts_over, .inl (cI, 61, .inl f_reader_draft_acts_over)), (h_reader_draft_acts_steps, .inl (cI, 30, .inl f_reader_draft_acts_steps))] s.heap := hP
  refine lv_aload_n hx hb dX11_station_0 rfl (lv_at hl 0 rfl) ?_
  refine va_get (D := D) (ci := 11) (v := .ref h_reader) (C := RX11) (T := TX11) (N := 14) hx hb hts inlX11 hown hK hP 0 rfl rfl 1 (by decide) (hts _ (inr1 _ (List.mem_of_getElem? (i := 20) rfl))) (fun _ h9 => h9) rfl dX11_station_1 ?_
  refine lv_aload_n hx hb dX11_station_4 rfl (lv_at hl 0 rfl) ?_
  refine va_get (D := D) (ci := 11) (v := .ref h_tape) (C := RX11) (T := TX11) (N := 14) hx hb hts inlX11 hown hK hP 0 rfl rfl 0 (by decide) (hts _ (inr1 _ (List.mem_of_getElem? (i := 16) rfl))) (fun _ h9 => h9) rfl dX11_station_5 ?_
  refine wrVv (As := [.ref h_tape]) (rest := []) (wr := [(h0, .inr (11, [.ref h_tape, .ref h_reader, .ref h_now, .ref h_trial, .ref h_images, .ref h_imageKept, .ref h_slots, .ref h_night, .ref h_otherNight, .ref h_circle, .ref h_words, .ref h_lawSearch, .ref h_placeSearch, .ref h_drawnNight])), (h_now, .inr (8, [.int v_now_tones, .int v_now_a, .int v_now_b, .int v_now_c, .int v_now_d, .int v_now_odds, .int v_now_lines, .ref h_now_signs, .int v_now_signCount, .ref h_now_posts, .int v_now_postCount, .ref h_now_acts])), (h_now_acts, .inr (0, [.ref h_now_acts_over, .ref h_now_acts_steps, .ref h_now_acts_before, .int v_now_acts_size])), (h_now_posts, .inl (cI, 5, .inl f_now_posts)), (h_now_signs, .inl (cI, 8, .inl f_now_signs)), (h_now_acts_before, .inl (cI, 30, .inl f_now_acts_before)), (h_now_acts_over, .inl (cI, 61, .inl f_now_acts_over)), (h_now_acts_steps, .inl (cI, 30, .inl f_now_acts_steps)), (h_reader_draft_acts_before, .inl (cI, 30, .inl f_reader_draft_acts_before)), (h_reader_draft_acts_steps, .inl (cI, 30, .inl f_reader_draft_acts_steps))]) ⟨hx, hb, hml, hown, hts⟩ (b_X6_read l G D cB cI cJ cZ cS cT s.heap.size h_reader h_reader_draft v_reader_kind v_reader_start v_reader_behind v_reader_number v_reader_fault v_reader_faultAt v_reader_draft_tones v_reader_draft_a v_reader_draft_b v_reader_draft_c v_reader_draft_d v_reader_draft_odds v_reader_draft_lines h_reader_draft_signs v_reader_draft_signCount h_reader_draft_posts v_reader_draft_postCount h_reader_draft_acts h_reader_draft_acts_over h_reader_draft_acts_steps h_reader_draft_acts_before v_reader_draft_acts_size f_reader_draft_posts f_reader_draft_signs f_reader_draft_acts_over h_tape h_tape_bytes v_tape_length f_tape_bytes (by first | assumption | omega | decide) (by first | assumption | omega | decide) (by first | assumption | omega | decide) (by first | assumption | omega | decide)) hP hD hS hA hK hN hT hAB hG [2, 7, 12, 13, 14, 16, 3, 8] [0, 1, 4, 5, 6, 9, 10, 11, 15, 17] rfl rfl (by decide) (by decide) (by decide) (cvB (n := 1) (inr9 _ (List.mem_of_getElem? (i := 10) rfl)) (inr9 _ (List.mem_of_getElem? (i := 11) rfl)) (inr9 _ (List.mem_of_getElem? (i := 12) rfl)) (inr1 _ (List.mem_of_getElem? (i := 19) rfl)) (inr9 _ (List.mem_of_getElem? (i := 13) rfl)) (by decide +kernel) hts rfl rfl ⟨Nat.le_of_ble_eq_true rfl, Nat.le_of_ble_eq_true rfl⟩) 0 6 rfl rfl rfl rfl hl.1 rfl (Nat.le_of_ble_eq_true rfl) ⟨Nat.le_of_ble_eq_true rfl, Nat.le_of_ble_eq_true rfl⟩ dX11_station_8 (fun x9 H locs h_2 hP hD hS => ?_)
  obtain ⟨t_3, t_4, t_5, t_6, t_7, t_8, t_9, t_10, t_11, t_12, t_13, t_14, t_15, t_16, t_17, t_18, g_19, g_20, g_21⟩ := x9
  have hP : va_P D vwCl [(h0, .inr (11, [.ref h_tape, .ref h_reader, .ref h_now, .ref h_trial, .ref h_images, .ref h_imageKept, .ref h_slots, .ref h_night, .ref h_otherNight, .ref h_circle, .ref h_words, .ref h_lawSearch, .ref h_placeSearch, .ref h_drawnNight])), (h_now, .inr (8, [.int v_now_tones, .int v_now_a, .int v_now_b, .int v_now_c, .int v_now_d, .int v_now_odds, .int v_now_lines, .ref h_now_signs, .int v_now_signCount, .ref h_now_posts, .int v_now_postCount, .ref h_now_acts])), (h_now_acts, .inr (0, [.ref h_now_acts_over, .ref h_now_acts_steps, .ref h_now_acts_before, .int v_now_acts_size])), (h_now_posts, .inl (cI, 5, .inl f_now_posts)), (h_now_signs, .inl (cI, 8, .inl f_now_signs)), (h_now_acts_before, .inl (cI, 30, .inl f_now_acts_before)), (h_now_acts_over, .inl (cI, 61, .inl f_now_acts_over)), (h_now_acts_steps, .inl (cI, 30, .inl f_now_acts_steps)), (h_reader_draft_acts_before, .inl (cI, 30, .inl f_reader_draft_acts_before)), (h_reader_draft_acts_steps, .inl (cI, 30, .inl f_reader_draft_acts_steps)), (h_reader, .inr (6, [.ref h_reader_draft, .int t_3, .int t_4, .int t_5, .int t_6, .int t_7, .int t_8])), (h_reader_draft, .inr (8, [.int t_9, .int t_10, .int t_11, .int t_12, .int t_13, .int t_14, .int t_15, .ref h_reader_draft_signs, .int t_16, .ref h_reader_draft_posts, .int t_17, .ref h_reader_draft_acts])), (h_reader_draft_acts, .inr (0, [.ref h_reader_draft_acts_over, .ref h_reader_draft_acts_steps, .ref h_reader_draft_acts_before, .int t_18])), (h_reader_draft_posts, .inl (cI, 5, .inl g_19)), (h_reader_draft_signs, .inl (cI, 8, .inl g_20)), (h_reader_draft_acts_over, .inl (cI, 61, .inl g_21)), (h_tape, .inr (9, [.ref h_tape_bytes, .int v_tape_length])), (h_tape_bytes, .inl (cB, 500, .inl f_tape_bytes))] H := hP
  have hD : va_D A [(h0, .inr (11, [.ref h_tape, .ref h_reader, .ref h_now, .ref h_trial, .ref h_images, .ref h_imageKept, .ref h_slots, .ref h_night, .ref h_otherNight, .ref h_circle, .ref h_words, .ref h_lawSearch, .ref h_placeSearch, .ref h_drawnNight])), (h_now, .inr (8, [.int v_now_tones, .int v_now_a, .int v_now_b, .int v_now_c, .int v_now_d, .int v_now_odds, .int v_now_lines, .ref h_now_signs, .int v_now_signCount, .ref h_now_posts, .int v_now_postCount, .ref h_now_acts])), (h_now_acts, .inr (0, [.ref h_now_acts_over, .ref h_now_acts_steps, .ref h_now_acts_before, .int v_now_acts_size])), (h_now_posts, .inl (cI, 5, .inl f_now_posts)), (h_now_signs, .inl (cI, 8, .inl f_now_signs)), (h_now_acts_before, .inl (cI, 30, .inl f_now_acts_before)), (h_now_acts_over, .inl (cI, 61, .inl f_now_acts_over)), (h_now_acts_steps, .inl (cI, 30, .inl f_now_acts_steps)), (h_reader_draft_acts_before, .inl (cI, 30, .inl f_reader_draft_acts_before)), (h_reader_draft_acts_steps, .inl (cI, 30, .inl f_reader_draft_acts_steps)), (h_reader, .inr (6, [.ref h_reader_draft, .int t_3, .int t_4, .int t_5, .int t_6, .int t_7, .int t_8])), (h_reader_draft, .inr (8, [.int t_9, .int t_10, .int t_11, .int t_12, .int t_13, .int t_14, .int t_15, .ref h_reader_draft_signs, .int t_16, .ref h_reader_draft_posts, .int t_17, .ref h_reader_draft_acts])), (h_reader_draft_acts, .inr (0, [.ref h_reader_draft_acts_over, .ref h_reader_draft_acts_steps, .ref h_reader_draft_acts_before, .int t_18])), (h_reader_draft_posts, .inl (cI, 5, .inl g_19)), (h_reader_draft_signs, .inl (cI, 8, .inl g_20)), (h_reader_draft_acts_over, .inl (cI, 61, .inl g_21)), (h_tape, .inr (9, [.ref h_tape_bytes, .int v_tape_length])), (h_tape_bytes, .inl (cB, 500, .inl f_tape_bytes))] := hD
  have h_2 : (0 ≤ t_16.toInt ∧ t_16.toInt ≤ 8) ∧ (0 ≤ t_17.toInt ∧ t_17.toInt ≤ 5) ∧ (0 ≤ t_18.toInt ∧ t_18.toInt ≤ 30) := h_2
  obtain ⟨i_22, i_23, i_24⟩ := h_2
  refine lv_aload_n hx hb dX11_station_11 rfl (lv_at hl 0 rfl) ?_
  refine va_get (D := D) (ci := 11) (v := .ref h_reader) (C := RX11) (T := TX11) (N := 14) hx hb hts inlX11 hown hK hP 0 rfl rfl 1 (by decide) (hts _ (inr1 _ (List.mem_of_getElem? (i := 20) rfl))) (fun _ h9 => h9) rfl dX11_station_12 ?_
  refine roi (As := []) (rest := []) ⟨hx, hb, hml, hown, hts⟩ (b_X6_faultKind l G D cB cI cJ cZ cS cT h_reader h_reader_draft t_3 t_4 t_5 t_6 t_7 t_8 ) (cvB (n := 0) (inr16 _ (List.mem_of_getElem? (i := 17) rfl)) (inr16 _ (List.mem_of_getElem? (i := 18) rfl)) (inr16 _ (List.mem_of_getElem? (i := 19) rfl)) (inr1 _ (List.mem_of_getElem? (i := 19) rfl)) (inr16 _ (List.mem_of_getElem? (i := 20) rfl)) (by decide +kernel) hts rfl rfl ⟨Nat.le_of_ble_eq_true rfl, Nat.le_of_ble_eq_true rfl⟩) 0 6 rfl rfl rfl (hP.sub [10] rfl) hK hN (kT.to hT hS hAB) rfl hl.1 rfl (Nat.le_of_ble_eq_true rfl) ⟨Nat.le_of_ble_eq_true rfl, Nat.le_of_ble_eq_true rfl⟩ dX11_station_15 (fun r_25 h_26 => ?_)
  have h_26 : (r_25 = t_7) := h_26
  have i_27 := h_26
  obtain rfl := i_27.symm
  refine lv_if_eq (tgt := 24) hx hb dX11_station_18 (by decide) (fun c_28 => ?_) (fun c_28 => ?_)
  · have c_28 : t_7.toInt = 0 := ci_eq_t c_28
    have b_t_7 := i32b t_7
    refine lv_aload_n hx hb dX11_station_24 rfl (lv_at hl 0 rfl) ?_
    refine va_get (D := D) (ci := 11) (v := .ref h_now) (C := RX11) (T := TX11) (N := 14) hx hb hts inlX11 hown hK hP 0 rfl rfl 2 (by decide) (hts _ (inr2 _ (List.mem_of_getElem? (i := 0) rfl))) (fun _ h9 => h9) rfl dX11_station_25 ?_
    refine lv_aload_n hx hb dX11_station_28 rfl (lv_at hl 0 rfl) ?_
    refine va_get (D := D) (ci := 11) (v := .ref h_reader) (C := RX11) (T := TX11) (N := 14) hx hb hts inlX11 hown hK hP 0 rfl rfl 1 (by decide) (hts _ (inr1 _ (List.mem_of_getElem? (i := 20) rfl))) (fun _ h9 => h9) rfl dX11_station_29 ?_
    refine roq (As := []) (rest := [.ref h_now]) ⟨hx, hb, hml, hown, hts⟩ (b_X6_draft l G D cB cI cJ cZ cS cT h_reader h_reader_draft t_3 t_4 t_5 t_6 t_7 t_8 ) (cvB (n := 0) (inr16 _ (List.mem_of_getElem? (i := 21) rfl)) (inr16 _ (List.mem_of_getElem? (i := 22) rfl)) (inr16 _ (List.mem_of_getElem? (i := 23) rfl)) (inr1 _ (List.mem_of_getElem? (i := 19) rfl)) (inr17 _ (List.mem_of_getElem? (i := 0) rfl)) (by decide +kernel) hts rfl rfl ⟨Nat.le_of_ble_eq_true rfl, Nat.le_of_ble_eq_true rfl⟩) 0 6 rfl rfl rfl (hP.sub [10] rfl) hK hN (kT.to hT hS hAB) rfl hl.1 rfl (Nat.le_of_ble_eq_true rfl) ⟨Nat.le_of_ble_eq_true rfl, Nat.le_of_ble_eq_true rfl⟩ dX11_station_32 (fun r_29 h_30 => ?_)
    have h_30 : (r_29 = some h_reader_draft) := h_30
    have i_31 := h_30
    obtain rfl := i_31
    refine W.eq (g2 := F0 m 35 ls [.ref h_reader_draft, .ref h_now]) rfl ?_
    refine wrVv (As := [.ref h_reader_draft]) (rest := []) (wr := [(h0, .inr (11, [.ref h_tape, .ref h_reader, .ref h_now, .ref h_trial, .ref h_images, .ref h_imageKept, .ref h_slots, .ref h_night, .ref h_otherNight, .ref h_circle, .ref h_words, .ref h_lawSearch, .ref h_placeSearch, .ref h_drawnNight])), (h_reader, .inr (6, [.ref h_reader_draft, .int t_3, .int t_4, .int t_5, .int t_6, .int t_7, .int t_8])), (h_tape, .inr (9, [.ref h_tape_bytes, .int v_tape_length])), (h_tape_bytes, .inl (cB, 500, .inl f_tape_bytes))]) ⟨hx, hb, hml, hown, hts⟩ (b_X8_copyFrom l G D cB cI cJ cZ cS cT H.size h_now v_now_tones v_now_a v_now_b v_now_c v_now_d v_now_odds v_now_lines h_now_signs v_now_signCount h_now_posts v_now_postCount h_now_acts h_now_acts_over h_now_acts_steps h_now_acts_before v_now_acts_size f_now_posts f_now_signs f_now_acts_before f_now_acts_over f_now_acts_steps h_reader_draft t_9 t_10 t_11 t_12 t_13 t_14 t_15 h_reader_draft_signs t_16 h_reader_draft_posts t_17 h_reader_draft_acts h_reader_draft_acts_over h_reader_draft_acts_steps h_reader_draft_acts_before t_18 g_19 g_20 f_reader_draft_acts_before g_21 f_reader_draft_acts_steps (by first | assumption | omega | decide) (by first | assumption | omega | decide) (by first | assumption | omega | decide) (by first | assumption | omega | decide) (by first | assumption | omega | decide) (by first | assumption | omega | decide)) hP hD hS hA hK hN hT hAB hG [1, 2, 3, 4, 5, 6, 7, 11, 12, 13, 14, 8, 15, 9] [0, 10, 16, 17] rfl rfl (by decide) (by decide) (by decide) (cvB (n := 1) (inr17 _ (List.mem_of_getElem? (i := 1) rfl)) (inr17 _ (List.mem_of_getElem? (i := 2) rfl)) (inr17 _ (List.mem_of_getElem? (i := 3) rfl)) (inr1 _ (List.mem_of_getElem? (i := 23) rfl)) (inr17 _ (List.mem_of_getElem? (i := 4) rfl)) (by decide +kernel) hts rfl rfl ⟨Nat.le_of_ble_eq_true rfl, Nat.le_of_ble_eq_true rfl⟩) 0 8 rfl rfl rfl rfl hl.1 rfl (Nat.le_of_ble_eq_true rfl) ⟨Nat.le_of_ble_eq_true rfl, Nat.le_of_ble_eq_true rfl⟩ dX11_station_35 (fun x9 H locs h_33 hP hD hS => ?_)
    obtain ⟨t_34, t_35, t_36, t_37, t_38, t_39, t_40, t_41, t_42, t_43, g_44, g_45, g_46, g_47, g_48⟩ := x9
    have hP : va_P D vwCl [(h0, .inr (11, [.ref h_tape, .ref h_reader, .ref h_now, .ref h_trial, .ref h_images, .ref h_imageKept, .ref h_slots, .ref h_night, .ref h_otherNight, .ref h_circle, .ref h_words, .ref h_lawSearch, .ref h_placeSearch, .ref h_drawnNight])), (h_reader, .inr (6, [.ref h_reader_draft, .int t_3, .int t_4, .int t_5, .int t_6, .int t_7, .int t_8])), (h_tape, .inr (9, [.ref h_tape_bytes, .int v_tape_length])), (h_tape_bytes, .inl (cB, 500, .inl f_tape_bytes)), (h_now, .inr (8, [.int t_34, .int t_35, .int t_36, .int t_37, .int t_38, .int t_39, .int t_40, .ref h_now_signs, .int t_41, .ref h_now_posts, .int t_42, .ref h_now_acts])), (h_now_acts, .inr (0, [.ref h_now_acts_over, .ref h_now_acts_steps, .ref h_now_acts_before, .int t_43])), (h_now_posts, .inl (cI, 5, .inl g_44)), (h_now_signs, .inl (cI, 8, .inl g_45)), (h_now_acts_before, .inl (cI, 30, .inl g_46)), (h_now_acts_over, .inl (cI, 61, .inl g_47)), (h_now_acts_steps, .inl (cI, 30, .inl g_48)), (h_reader_draft, .inr (8, [.int t_9, .int t_10, .int t_11, .int t_12, .int t_13, .int t_14, .int t_15, .ref h_reader_draft_signs, .int t_16, .ref h_reader_draft_posts, .int t_17, .ref h_reader_draft_acts])), (h_reader_draft_acts, .inr (0, [.ref h_reader_draft_acts_over, .ref h_reader_draft_acts_steps, .ref h_reader_draft_acts_before, .int t_18])), (h_reader_draft_posts, .inl (cI, 5, .inl g_19)), (h_reader_draft_signs, .inl (cI, 8, .inl g_20)), (h_reader_draft_acts_before, .inl (cI, 30, .inl f_reader_draft_acts_before)), (h_reader_draft_acts_over, .inl (cI, 61, .inl g_21)), (h_reader_draft_acts_steps, .inl (cI, 30, .inl f_reader_draft_acts_steps))] H := hP
    have hD : va_D A [(h0, .inr (11, [.ref h_tape, .ref h_reader, .ref h_now, .ref h_trial, .ref h_images, .ref h_imageKept, .ref h_slots, .ref h_night, .ref h_otherNight, .ref h_circle, .ref h_words, .ref h_lawSearch, .ref h_placeSearch, .ref h_drawnNight])), (h_reader, .inr (6, [.ref h_reader_draft, .int t_3, .int t_4, .int t_5, .int t_6, .int t_7, .int t_8])), (h_tape, .inr (9, [.ref h_tape_bytes, .int v_tape_length])), (h_tape_bytes, .inl (cB, 500, .inl f_tape_bytes)), (h_now, .inr (8, [.int t_34, .int t_35, .int t_36, .int t_37, .int t_38, .int t_39, .int t_40, .ref h_now_signs, .int t_41, .ref h_now_posts, .int t_42, .ref h_now_acts])), (h_now_acts, .inr (0, [.ref h_now_acts_over, .ref h_now_acts_steps, .ref h_now_acts_before, .int t_43])), (h_now_posts, .inl (cI, 5, .inl g_44)), (h_now_signs, .inl (cI, 8, .inl g_45)), (h_now_acts_before, .inl (cI, 30, .inl g_46)), (h_now_acts_over, .inl (cI, 61, .inl g_47)), (h_now_acts_steps, .inl (cI, 30, .inl g_48)), (h_reader_draft, .inr (8, [.int t_9, .int t_10, .int t_11, .int t_12, .int t_13, .int t_14, .int t_15, .ref h_reader_draft_signs, .int t_16, .ref h_reader_draft_posts, .int t_17, .ref h_reader_draft_acts])), (h_reader_draft_acts, .inr (0, [.ref h_reader_draft_acts_over, .ref h_reader_draft_acts_steps, .ref h_reader_draft_acts_before, .int t_18])), (h_reader_draft_posts, .inl (cI, 5, .inl g_19)), (h_reader_draft_signs, .inl (cI, 8, .inl g_20)), (h_reader_draft_acts_before, .inl (cI, 30, .inl f_reader_draft_acts_before)), (h_reader_draft_acts_over, .inl (cI, 61, .inl g_21)), (h_reader_draft_acts_steps, .inl (cI, 30, .inl f_reader_draft_acts_steps))] := hD
    have h_33 : (0 ≤ t_41.toInt ∧ t_41.toInt ≤ 8) ∧ (0 ≤ t_42.toInt ∧ t_42.toInt ≤ 5) ∧ (0 ≤ t_43.toInt ∧ t_43.toInt ≤ 30) := h_33
    obtain ⟨i_49, i_50, i_51⟩ := h_33
    refine lv_aload_n hx hb dX11_station_38 rfl (lv_at hl 0 rfl) ?_
    refine va_get (D := D) (ci := 11) (v := .ref h_tape) (C := RX11) (T := TX11) (N := 14) hx hb hts inlX11 hown hK hP 0 rfl rfl 0 (by decide) (hts _ (inr1 _ (List.mem_of_getElem? (i := 16) rfl))) (fun _ h9 => h9) rfl dX11_station_39 ?_
    refine lv_iconst (v := 0) hx hb dX11_station_42 (by decide) ?_
    refine wrVv (As := [.int 0]) (rest := []) (wr := [(h0, .inr (11, [.ref h_tape, .ref h_reader, .ref h_now, .ref h_trial, .ref h_images, .ref h_imageKept, .ref h_slots, .ref h_night, .ref h_otherNight, .ref h_circle, .ref h_words, .ref h_lawSearch, .ref h_placeSearch, .ref h_drawnNight])), (h_reader, .inr (6, [.ref h_reader_draft, .int t_3, .int t_4, .int t_5, .int t_6, .int t_7, .int t_8])), (h_tape_bytes, .inl (cB, 500, .inl f_tape_bytes)), (h_now, .inr (8, [.int t_34, .int t_35, .int t_36, .int t_37, .int t_38, .int t_39, .int t_40, .ref h_now_signs, .int t_41, .ref h_now_posts, .int t_42, .ref h_now_acts])), (h_now_acts, .inr (0, [.ref h_now_acts_over, .ref h_now_acts_steps, .ref h_now_acts_before, .int t_43])), (h_now_posts, .inl (cI, 5, .inl g_44)), (h_now_signs, .inl (cI, 8, .inl g_45)), (h_now_acts_before, .inl (cI, 30, .inl g_46)), (h_now_acts_over, .inl (cI, 61, .inl g_47)), (h_now_acts_steps, .inl (cI, 30, .inl g_48)), (h_reader_draft, .inr (8, [.int t_9, .int t_10, .int t_11, .int t_12, .int t_13, .int t_14, .int t_15, .ref h_reader_draft_signs, .int t_16, .ref h_reader_draft_posts, .int t_17, .ref h_reader_draft_acts])), (h_reader_draft_acts, .inr (0, [.ref h_reader_draft_acts_over, .ref h_reader_draft_acts_steps, .ref h_reader_draft_acts_before, .int t_18])), (h_reader_draft_posts, .inl (cI, 5, .inl g_19)), (h_reader_draft_signs, .inl (cI, 8, .inl g_20)), (h_reader_draft_acts_before, .inl (cI, 30, .inl f_reader_draft_acts_before)), (h_reader_draft_acts_over, .inl (cI, 61, .inl g_21)), (h_reader_draft_acts_steps, .inl (cI, 30, .inl f_reader_draft_acts_steps))]) ⟨hx, hb, hml, hown, hts⟩ (b_X9_cut l G D cB cI cJ cZ cS cT H.size h_tape h_tape_bytes v_tape_length 0 (by first | assumption | omega | decide)) hP hD hS hA hK hN hT hAB hG [2] [0, 1, 3, 4, 5, 6, 7, 8, 9, 10, 11, 12, 13, 14, 15, 16, 17] rfl rfl (by decide) (by decide) (by decide) (cvB (n := 1) (inr8 _ (List.mem_of_getElem? (i := 19) rfl)) (inr8 _ (List.mem_of_getElem? (i := 20) rfl)) (inr8 _ (List.mem_of_getElem? (i := 21) rfl)) (inr1 _ (List.mem_of_getElem? (i := 15) rfl)) (inr8 _ (List.mem_of_getElem? (i := 22) rfl)) (by decide +kernel) hts rfl rfl ⟨Nat.le_of_ble_eq_true rfl, Nat.le_of_ble_eq_true rfl⟩) 0 9 rfl rfl rfl rfl hl.1 rfl (Nat.le_of_ble_eq_true rfl) ⟨Nat.le_of_ble_eq_true rfl, Nat.le_of_ble_eq_true rfl⟩ dX11_station_43 (fun x9 H locs h_53 hP hD hS => ?_)
    obtain ⟨t_54, rfl⟩ : ∃ z, z = x9 := ⟨_, rfl⟩
    have hP : va_P D vwCl [(h0, .inr (11, [.ref h_tape, .ref h_reader, .ref h_now, .ref h_trial, .ref h_images, .ref h_imageKept, .ref h_slots, .ref h_night, .ref h_otherNight, .ref h_circle, .ref h_words, .ref h_lawSearch, .ref h_placeSearch, .ref h_drawnNight])), (h_reader, .inr (6, [.ref h_reader_draft, .int t_3, .int t_4, .int t_5, .int t_6, .int t_7, .int t_8])), (h_tape_bytes, .inl (cB, 500, .inl f_tape_bytes)), (h_now, .inr (8, [.int t_34, .int t_35, .int t_36, .int t_37, .int t_38, .int t_39, .int t_40, .ref h_now_signs, .int t_41, .ref h_now_posts, .int t_42, .ref h_now_acts])), (h_now_acts, .inr (0, [.ref h_now_acts_over, .ref h_now_acts_steps, .ref h_now_acts_before, .int t_43])), (h_now_posts, .inl (cI, 5, .inl g_44)), (h_now_signs, .inl (cI, 8, .inl g_45)), (h_now_acts_before, .inl (cI, 30, .inl g_46)), (h_now_acts_over, .inl (cI, 61, .inl g_47)), (h_now_acts_steps, .inl (cI, 30, .inl g_48)), (h_reader_draft, .inr (8, [.int t_9, .int t_10, .int t_11, .int t_12, .int t_13, .int t_14, .int t_15, .ref h_reader_draft_signs, .int t_16, .ref h_reader_draft_posts, .int t_17, .ref h_reader_draft_acts])), (h_reader_draft_acts, .inr (0, [.ref h_reader_draft_acts_over, .ref h_reader_draft_acts_steps, .ref h_reader_draft_acts_before, .int t_18])), (h_reader_draft_posts, .inl (cI, 5, .inl g_19)), (h_reader_draft_signs, .inl (cI, 8, .inl g_20)), (h_reader_draft_acts_before, .inl (cI, 30, .inl f_reader_draft_acts_before)), (h_reader_draft_acts_over, .inl (cI, 61, .inl g_21)), (h_reader_draft_acts_steps, .inl (cI, 30, .inl f_reader_draft_acts_steps)), (h_tape, .inr (9, [.ref h_tape_bytes, .int t_54]))] H := hP
    have hD : va_D A [(h0, .inr (11, [.ref h_tape, .ref h_reader, .ref h_now, .ref h_trial, .ref h_images, .ref h_imageKept, .ref h_slots, .ref h_night, .ref h_otherNight, .ref h_circle, .ref h_words, .ref h_lawSearch, .ref h_placeSearch, .ref h_drawnNight])), (h_reader, .inr (6, [.ref h_reader_draft, .int t_3, .int t_4, .int t_5, .int t_6, .int t_7, .int t_8])), (h_tape_bytes, .inl (cB, 500, .inl f_tape_bytes)), (h_now, .inr (8, [.int t_34, .int t_35, .int t_36, .int t_37, .int t_38, .int t_39, .int t_40, .ref h_now_signs, .int t_41, .ref h_now_posts, .int t_42, .ref h_now_acts])), (h_now_acts, .inr (0, [.ref h_now_acts_over, .ref h_now_acts_steps, .ref h_now_acts_before, .int t_43])), (h_now_posts, .inl (cI, 5, .inl g_44)), (h_now_signs, .inl (cI, 8, .inl g_45)), (h_now_acts_before, .inl (cI, 30, .inl g_46)), (h_now_acts_over, .inl (cI, 61, .inl g_47)), (h_now_acts_steps, .inl (cI, 30, .inl g_48)), (h_reader_draft, .inr (8, [.int t_9, .int t_10, .int t_11, .int t_12, .int t_13, .int t_14, .int t_15, .ref h_reader_draft_signs, .int t_16, .ref h_reader_draft_posts, .int t_17, .ref h_reader_draft_acts])), (h_reader_draft_acts, .inr (0, [.ref h_reader_draft_acts_over, .ref h_reader_draft_acts_steps, .ref h_reader_draft_acts_before, .int t_18])), (h_reader_draft_posts, .inl (cI, 5, .inl g_19)), (h_reader_draft_signs, .inl (cI, 8, .inl g_20)), (h_reader_draft_acts_before, .inl (cI, 30, .inl f_reader_draft_acts_before)), (h_reader_draft_acts_over, .inl (cI, 61, .inl g_21)), (h_reader_draft_acts_steps, .inl (cI, 30, .inl f_reader_draft_acts_steps)), (h_tape, .inr (9, [.ref h_tape_bytes, .int t_54]))] := hD
    have h_53 : (0 ≤ t_54.toInt ∧ t_54.toInt ≤ 500) := h_53
    have i_55 := h_53
    refine lv_aload_n hx hb dX11_station_46 rfl (lv_at hl 0 rfl) ?_
    refine va_get (D := D) (ci := 11) (v := .ref h_now) (C := RX11) (T := TX11) (N := 14) hx hb hts inlX11 hown hK hP 0 rfl rfl 2 (by decide) (hts _ (inr2 _ (List.mem_of_getElem? (i := 0) rfl))) (fun _ h9 => h9) rfl dX11_station_47 ?_
    refine roi (As := []) (rest := []) ⟨hx, hb, hml, hown, hts⟩ (b_X8_lines l G D cB cI cJ cZ cS cT h_now t_34 t_35 t_36 t_37 t_38 t_39 t_40 h_now_signs t_41 h_now_posts t_42 h_now_acts (by first | assumption | omega | decide) (by first | assumption | omega | decide)) (cvB (n := 0) (inr17 _ (List.mem_of_getElem? (i := 14) rfl)) (inr12 _ (List.mem_of_getElem? (i := 3) rfl)) (inr12 _ (List.mem_of_getElem? (i := 4) rfl)) (inr1 _ (List.mem_of_getElem? (i := 23) rfl)) (inr12 _ (List.mem_of_getElem? (i := 5) rfl)) (by decide +kernel) hts rfl rfl ⟨Nat.le_of_ble_eq_true rfl, Nat.le_of_ble_eq_true rfl⟩) 0 8 rfl rfl rfl (hP.sub [3] rfl) hK hN (kT.to hT hS hAB) rfl hl.1 rfl (Nat.le_of_ble_eq_true rfl) ⟨Nat.le_of_ble_eq_true rfl, Nat.le_of_ble_eq_true rfl⟩ dX11_station_50 (fun r_56 h_57 => ?_)
    have h_57 : (r_56 = t_40) := h_57
    have i_58 := h_57
    obtain rfl := i_58.symm
    exact ret _ _ _ _ _ (t_34, t_35, t_36, t_37, t_38, t_39, t_40, t_41, t_42, t_3, t_4, t_5, t_6, t_7, t_8, t_54, t_43, g_44, g_45, t_9, t_10, t_11, t_12, t_13, t_14, t_15, t_16, t_17, g_46, g_47, g_48, t_18, g_19, g_20, g_21) dX11_station_53 (show (0 ≤ t_41.toInt ∧ t_41.toInt ≤ 8) ∧ (0 ≤ t_42.toInt ∧ t_42.toInt ≤ 5) ∧ (0 ≤ t_54.toInt ∧ t_54.toInt ≤ 500) ∧ (0 ≤ t_43.toInt ∧ t_43.toInt ≤ 30) ∧ (0 ≤ t_16.toInt ∧ t_16.toInt ≤ 8) ∧ (0 ≤ t_17.toInt ∧ t_17.toInt ≤ 5) ∧ (0 ≤ t_18.toInt ∧ t_18.toInt ≤ 30) from ⟨(by first | assumption | omega | decide), (by first | assumption | omega | decide), (by first | assumption | omega | decide), (by first | assumption | omega | decide), (by first | assumption | omega | decide), (by first | assumption | omega | decide), (by first | assumption | omega | decide)⟩) (hP.sub [0, 3, 1, 17, 4, 5, 6, 10, 2, 7, 8, 9, 11, 12, 13, 14, 15, 16] rfl) (hD.sub [0, 3, 1, 17, 4, 5, 6, 10, 2, 7, 8, 9, 11, 12, 13, 14, 15, 16] (by decide) rfl) hS
  · have c_28 : ¬ t_7.toInt = 0 := ci_eq_f c_28
    have b_t_7 := i32b t_7
    refine lv_bipush (v := (-4)) hx hb dX11_station_21 (by decide) ?_
    exact ret _ _ _ _ _ (v_now_tones, v_now_a, v_now_b, v_now_c, v_now_d, v_now_odds, v_now_lines, v_now_signCount, v_now_postCount, t_3, t_4, t_5, t_6, t_7, t_8, v_tape_length, v_now_acts_size, f_now_posts, f_now_signs, t_9, t_10, t_11, t_12, t_13, t_14, t_15, t_16, t_17, f_now_acts_before, f_now_acts_over, f_now_acts_steps, t_18, g_19, g_20, g_21) dX11_station_23 (show (0 ≤ v_now_signCount.toInt ∧ v_now_signCount.toInt ≤ 8) ∧ (0 ≤ v_now_postCount.toInt ∧ v_now_postCount.toInt ≤ 5) ∧ (0 ≤ v_tape_length.toInt ∧ v_tape_length.toInt ≤ 500) ∧ (0 ≤ v_now_acts_size.toInt ∧ v_now_acts_size.toInt ≤ 30) ∧ (0 ≤ t_16.toInt ∧ t_16.toInt ≤ 8) ∧ (0 ≤ t_17.toInt ∧ t_17.toInt ≤ 5) ∧ (0 ≤ t_18.toInt ∧ t_18.toInt ≤ 30) from ⟨(by first | assumption | omega | decide), (by first | assumption | omega | decide), (by first | assumption | omega | decide), (by first | assumption | omega | decide), (by first | assumption | omega | decide), (by first | assumption | omega | decide), (by first | assumption | omega | decide)⟩) (hP.sub [0, 1, 10, 16, 2, 3, 4, 11, 17, 5, 6, 7, 12, 13, 14, 8, 15, 9] rfl) (hD.sub [0, 1, 10, 16, 2, 3, 4, 11, 17, 5, 6, 7, 12, 13, 14, 8, 15, 9] (by decide) rfl) hS

set_option maxHeartbeats 4000000 in
set_option maxRecDepth 100000 in
theorem b_X11_fault (l : Launch) (G : Gho) (D : va_G) (cB cI cJ cZ cS cT : ClassId) (h0 : Nat) (h_tape : Nat) (h_reader : Nat) (h_now : Nat) (h_trial : Nat) (h_images : Nat) (h_imageKept : Nat) (h_slots : Nat) (h_night : Nat) (h_otherNight : Nat) (h_circle : Nat) (h_words : Nat) (h_lawSearch : Nat) (h_placeSearch : Nat) (h_drawnNight : Nat) (h_reader_draft : Nat) (v_reader_kind : Int32) (v_reader_start : Int32) (v_reader_behind : Int32) (v_reader_number : Int32) (v_reader_fault : Int32) (v_reader_faultAt : Int32) (v1 : Int32)  : Met l yX11_fault (Cond.code yX11_fault cX11_fault 2 (some .int) :: wsL_law) ({ frames := 1, cells := 0, slots := 0, locals := 20 }) (roP G D (tyL cB cI cJ cZ cS cT) [(h0, .inr (11, [.ref h_tape, .ref h_reader, .ref h_now, .ref h_trial, .ref h_images, .ref h_imageKept, .ref h_slots, .ref h_night, .ref h_otherNight, .ref h_circle, .ref h_words, .ref h_lawSearch, .ref h_placeSearch, .ref h_drawnNight])), (h_reader, .inr (6, [.ref h_reader_draft, .int v_reader_kind, .int v_reader_start, .int v_reader_behind, .int v_reader_number, .int v_reader_fault, .int v_reader_faultAt]))] [.ref h0, .int v1]) (vp_Si (fun r : Int32 => True)) 0 0 (fun _ => False) := by
  refine metRO (own := RX11) (by decide) rfl ?_
  intro p e s m below meth c Q C hP ret
  obtain ⟨hx, hb, hml, hown, hts, hK, hN, hT⟩ := id C
  have hl := lv_entry ([.ref h0, .int v1]) (n := 2) (Nat.le_of_ble_eq_true rfl)
  rw [lg_entry_eq]
  generalize (lg_sl ([.ref h0, .int v1]) ++ List.replicate (2 - (lg_sl ([.ref h0, .int v1])).length) Slot.unset).toArray = ls at hl ⊢
  have hl : lv_has ls 2 [(0, .ref h0), (1, .int v1)] := hl
  have hP : va_P D vwCl [(h0, .inr (11, [.ref h_tape, .ref h_reader, .ref h_now, .ref h_trial, .ref h_images, .ref h_imageKept, .ref h_slots, .ref h_night, .ref h_otherNight, .ref h_circle, .ref h_words, .ref h_lawSearch, .ref h_placeSearch, .ref h_drawnNight])), (h_reader, .inr (6, [.ref h_reader_draft, .int v_reader_kind, .int v_reader_start, .int v_reader_behind, .int v_reader_number, .int v_reader_fault, .int v_reader_faultAt]))] s.heap := hP
  refine lv_iload_n hx hb dX11_fault_0 rfl (lv_at hl 1 rfl) ?_
  by_cases c_1 : v1 = 0
  · refine lv_lookup (off := 27) (tgt := 28) hx hb dX11_fault_1 (by decide) (by rw [c_1]; decide) (by decide) ?_
    refine lv_aload_n hx hb dX11_fault_28 rfl (lv_at hl 0 rfl) ?_
    refine va_get (D := D) (ci := 11) (v := .ref h_reader) (C := RX11) (T := TX11) (N := 14) hx hb hts inlX11 hown hK hP 0 rfl rfl 1 (by decide) (hts _ (inr1 _ (List.mem_of_getElem? (i := 20) rfl))) (fun _ h9 => h9) rfl dX11_fault_29 ?_
    refine roi (As := []) (rest := []) ⟨hx, hb, hml, hown, hts⟩ (b_X6_faultKind l G D cB cI cJ cZ cS cT h_reader h_reader_draft v_reader_kind v_reader_start v_reader_behind v_reader_number v_reader_fault v_reader_faultAt ) (cvB (n := 0) (inr16 _ (List.mem_of_getElem? (i := 17) rfl)) (inr16 _ (List.mem_of_getElem? (i := 18) rfl)) (inr16 _ (List.mem_of_getElem? (i := 19) rfl)) (inr1 _ (List.mem_of_getElem? (i := 19) rfl)) (inr16 _ (List.mem_of_getElem? (i := 20) rfl)) (by decide +kernel) hts rfl rfl ⟨Nat.le_of_ble_eq_true rfl, Nat.le_of_ble_eq_true rfl⟩) 0 6 rfl rfl rfl (hP.sub [1] rfl) hK hN hT rfl hl.1 rfl (Nat.le_of_ble_eq_true rfl) ⟨Nat.le_of_ble_eq_true rfl, Nat.le_of_ble_eq_true rfl⟩ dX11_fault_32 (fun r_2 h_3 => ?_)
    have h_3 : (r_2 = v_reader_fault) := h_3
    have i_4 := h_3
    obtain rfl := i_4.symm
    exact ret _ _ _ dX11_fault_35 trivial
  by_cases c_5 : v1 = 1
  · refine lv_lookup (off := 35) (tgt := 36) hx hb dX11_fault_1 (by decide) (by rw [c_5]; decide) (by decide) ?_
    refine lv_aload_n hx hb dX11_fault_36 rfl (lv_at hl 0 rfl) ?_
    refine va_get (D := D) (ci := 11) (v := .ref h_reader) (C := RX11) (T := TX11) (N := 14) hx hb hts inlX11 hown hK hP 0 rfl rfl 1 (by decide) (hts _ (inr1 _ (List.mem_of_getElem? (i := 20) rfl))) (fun _ h9 => h9) rfl dX11_fault_37 ?_
    refine roi (As := []) (rest := []) ⟨hx, hb, hml, hown, hts⟩ (b_X6_faultPlace l G D cB cI cJ cZ cS cT h_reader h_reader_draft v_reader_kind v_reader_start v_reader_behind v_reader_number v_reader_fault v_reader_faultAt ) (cvB (n := 0) (inr20 _ (List.mem_of_getElem? (i := 16) rfl)) (inr20 _ (List.mem_of_getElem? (i := 17) rfl)) (inr20 _ (List.mem_of_getElem? (i := 18) rfl)) (inr1 _ (List.mem_of_getElem? (i := 19) rfl)) (inr20 _ (List.mem_of_getElem? (i := 19) rfl)) (by decide +kernel) hts rfl rfl ⟨Nat.le_of_ble_eq_true rfl, Nat.le_of_ble_eq_true rfl⟩) 0 6 rfl rfl rfl (hP.sub [1] rfl) hK hN hT rfl hl.1 rfl (Nat.le_of_ble_eq_true rfl) ⟨Nat.le_of_ble_eq_true rfl, Nat.le_of_ble_eq_true rfl⟩ dX11_fault_40 (fun r_6 h_7 => ?_)
    have h_7 : (r_6 = v_reader_faultAt) := h_7
    have i_8 := h_7
    obtain rfl := i_8.symm
    exact ret _ _ _ dX11_fault_43 trivial
  refine lv_lookup (off := 43) (tgt := 44) hx hb dX11_fault_1 (by decide) (sw_look2 c_1 (by decide) c_5 (by decide)) (by decide) ?_
  refine lv_iconst (v := (-1)) hx hb dX11_fault_44 (by decide) ?_
  exact ret _ _ _ dX11_fault_45 trivial

set_option maxHeartbeats 4000000 in
set_option maxRecDepth 100000 in
theorem b_X11_sign (l : Launch) (G : Gho) (D : va_G) (cB cI cJ cZ cS cT : ClassId) (h0 : Nat) (h_tape : Nat) (h_reader : Nat) (h_now : Nat) (h_trial : Nat) (h_images : Nat) (h_imageKept : Nat) (h_slots : Nat) (h_night : Nat) (h_otherNight : Nat) (h_circle : Nat) (h_words : Nat) (h_lawSearch : Nat) (h_placeSearch : Nat) (h_drawnNight : Nat) (v_now_tones : Int32) (v_now_a : Int32) (v_now_b : Int32) (v_now_c : Int32) (v_now_d : Int32) (v_now_odds : Int32) (v_now_lines : Int32) (h_now_signs : Nat) (v_now_signCount : Int32) (h_now_posts : Nat) (v_now_postCount : Int32) (h_now_acts : Nat) (f_now_signs : Nat → Int32) (v1 : Int32) (iv_now_signCount : 0 ≤ v_now_signCount.toInt ∧ v_now_signCount.toInt ≤ 8) (iv_now_postCount : 0 ≤ v_now_postCount.toInt ∧ v_now_postCount.toInt ≤ 5) : Met l yX11_sign (Cond.code yX11_sign cX11_sign 2 (some .int) :: wsL_law) ({ frames := 1, cells := 0, slots := 0, locals := 25 }) (roP G D (tyL cB cI cJ cZ cS cT) [(h0, .inr (11, [.ref h_tape, .ref h_reader, .ref h_now, .ref h_trial, .ref h_images, .ref h_imageKept, .ref h_slots, .ref h_night, .ref h_otherNight, .ref h_circle, .ref h_words, .ref h_lawSearch, .ref h_placeSearch, .ref h_drawnNight])), (h_now, .inr (8, [.int v_now_tones, .int v_now_a, .int v_now_b, .int v_now_c, .int v_now_d, .int v_now_odds, .int v_now_lines, .ref h_now_signs, .int v_now_signCount, .ref h_now_posts, .int v_now_postCount, .ref h_now_acts])), (h_now_signs, .inl (cI, 8, .inl f_now_signs))] [.ref h0, .int v1]) (vp_Si (fun r : Int32 => True)) 0 0 (fun _ => False) := by
  refine metRO (own := RX11) (by decide) rfl ?_
  intro p e s m below meth c Q C hP ret
  obtain ⟨hx, hb, hml, hown, hts, hK, hN, hT⟩ := id C
  have hl := lv_entry ([.ref h0, .int v1]) (n := 2) (Nat.le_of_ble_eq_true rfl)
  rw [lg_entry_eq]
  generalize (lg_sl ([.ref h0, .int v1]) ++ List.replicate (2 - (lg_sl ([.ref h0, .int v1])).length) Slot.unset).toArray = ls at hl ⊢
  have hl : lv_has ls 2 [(0, .ref h0), (1, .int v1)] := hl
  have hP : va_P D vwCl [(h0, .inr (11, [.ref h_tape, .ref h_reader, .ref h_now, .ref h_trial, .ref h_images, .ref h_imageKept, .ref h_slots, .ref h_night, .ref h_otherNight, .ref h_circle, .ref h_words, .ref h_lawSearch, .ref h_placeSearch, .ref h_drawnNight])), (h_now, .inr (8, [.int v_now_tones, .int v_now_a, .int v_now_b, .int v_now_c, .int v_now_d, .int v_now_odds, .int v_now_lines, .ref h_now_signs, .int v_now_signCount, .ref h_now_posts, .int v_now_postCount, .ref h_now_acts])), (h_now_signs, .inl (cI, 8, .inl f_now_signs))] s.heap := hP
  refine lv_iload_n hx hb dX11_sign_0 rfl (lv_at hl 1 rfl) ?_
  have b_v1 := i32b v1
  obtain ⟨t_1, et_1⟩ : ∃ v9 : Int64, (v1 : Int32).toInt64 = v9 := ⟨_, rfl⟩
  refine lv_i2l (v := t_1) hx hb dX11_sign_1 et_1 ?_
  have ft_1 : t_1.toInt = v1.toInt := by rw [← et_1]; exact Int32.toInt_toInt64 _
  refine lv_lconst (v := 0) hx hb dX11_sign_2 (by decide) ?_
  refine lv_aload_n hx hb dX11_sign_3 rfl (lv_at hl 0 rfl) ?_
  refine va_get (D := D) (ci := 11) (v := .ref h_now) (C := RX11) (T := TX11) (N := 14) hx hb hts inlX11 hown hK hP 0 rfl rfl 2 (by decide) (hts _ (inr2 _ (List.mem_of_getElem? (i := 0) rfl))) (fun _ h9 => h9) rfl dX11_sign_4 ?_
  refine roi (As := []) (rest := [.long 0, .long t_1]) ⟨hx, hb, hml, hown, hts⟩ (b_X8_signCount l G D cB cI cJ cZ cS cT h_now v_now_tones v_now_a v_now_b v_now_c v_now_d v_now_odds v_now_lines h_now_signs v_now_signCount h_now_posts v_now_postCount h_now_acts (by first | assumption | omega | decide) (by first | assumption | omega | decide)) (cvB (n := 0) (inr21 _ (List.mem_of_getElem? (i := 4) rfl)) (inr15 _ (List.mem_of_getElem? (i := 10) rfl)) (inr15 _ (List.mem_of_getElem? (i := 11) rfl)) (inr1 _ (List.mem_of_getElem? (i := 23) rfl)) (inr15 _ (List.mem_of_getElem? (i := 12) rfl)) (by decide +kernel) hts rfl rfl ⟨Nat.le_of_ble_eq_true rfl, Nat.le_of_ble_eq_true rfl⟩) 0 8 rfl rfl rfl (hP.sub [1] rfl) hK hN hT rfl hl.1 rfl (Nat.le_of_ble_eq_true rfl) ⟨Nat.le_of_ble_eq_true rfl, Nat.le_of_ble_eq_true rfl⟩ dX11_sign_7 (fun r_2 h_3 => ?_)
  have h_3 : (r_2 = v_now_signCount) := h_3
  have i_4 := h_3
  obtain rfl := i_4.symm
  refine lv_iconst (v := 1) hx hb dX11_sign_10 (by decide) ?_
  obtain ⟨t_5, et_5⟩ : ∃ v9 : Int32, v_now_signCount - 1 = v9 := ⟨_, rfl⟩
  refine z_isub (v := t_5) hx hb dX11_sign_11 et_5 ?_
  have b_v_now_signCount := i32b v_now_signCount
  have ft_5 : t_5.toInt = v_now_signCount.toInt - 1 := subT (a := v_now_signCount.toInt) (b := 1) rfl (by decide) et_5 (by omega) (by omega)
  have b_t_5 := i32b t_5
  obtain ⟨t_6, et_6⟩ : ∃ v9 : Int64, (t_5 : Int32).toInt64 = v9 := ⟨_, rfl⟩
  refine lv_i2l (v := t_6) hx hb dX11_sign_12 et_6 ?_
  have ft_6 : t_6.toInt = t_5.toInt := by rw [← et_6]; exact Int32.toInt_toInt64 _
  refine rosi (As := [.long t_1, .long 0, .long t_6]) (rest := []) ⟨hx, hb, hml, hown, hts⟩ (b_X11_outside l G D cB cI cJ cZ cS cT t_1 0 t_6 ) (csB (n := 3) (inr8 _ (List.mem_of_getElem? (i := 16) rfl)) (inr8 _ (List.mem_of_getElem? (i := 17) rfl)) (inr1 _ (List.mem_of_getElem? (i := 2) rfl)) (inr8 _ (List.mem_of_getElem? (i := 18) rfl)) (by decide +kernel) hts rfl rfl ⟨Nat.le_of_ble_eq_true rfl, Nat.le_of_ble_eq_true rfl⟩) (hP.sub [] rfl) hK hN hT rfl hl.1 rfl (Nat.le_of_ble_eq_true rfl) ⟨Nat.le_of_ble_eq_true rfl, Nat.le_of_ble_eq_true rfl⟩ dX11_sign_13 (fun r_7 h_8 => ?_)
  have h_8 : ((r_7.toInt = 0 ∧ 0 ≤ t_1.toInt ∧ t_1.toInt ≤ t_6.toInt) ∨ (r_7.toInt = 1 ∧ (t_1.toInt < 0 ∨ t_6.toInt < t_1.toInt))) := h_8
  have i_9 := h_8
  refine lv_if_eq (tgt := 24) hx hb dX11_sign_16 (by decide) (fun c_10 => ?_) (fun c_10 => ?_)
  · have c_10 : r_7.toInt = 0 := ci_eq_t c_10
    have b_r_7 := i32b r_7
    refine lv_aload_n hx hb dX11_sign_24 rfl (lv_at hl 0 rfl) ?_
    refine va_get (D := D) (ci := 11) (v := .ref h_now) (C := RX11) (T := TX11) (N := 14) hx hb hts inlX11 hown hK hP 0 rfl rfl 2 (by decide) (hts _ (inr2 _ (List.mem_of_getElem? (i := 0) rfl))) (fun _ h9 => h9) rfl dX11_sign_25 ?_
    refine lv_iload_n hx hb dX11_sign_28 rfl (lv_at hl 1 rfl) ?_
    refine roi (As := [.int v1]) (rest := []) ⟨hx, hb, hml, hown, hts⟩ (b_X8_signTold l G D cB cI cJ cZ cS cT h_now v_now_tones v_now_a v_now_b v_now_c v_now_d v_now_odds v_now_lines h_now_signs v_now_signCount h_now_posts v_now_postCount h_now_acts f_now_signs v1 (by first | assumption | omega | decide) (by first | assumption | omega | decide)) (cvB (n := 1) (inr21 _ (List.mem_of_getElem? (i := 5) rfl)) (inr21 _ (List.mem_of_getElem? (i := 6) rfl)) (inr21 _ (List.mem_of_getElem? (i := 7) rfl)) (inr1 _ (List.mem_of_getElem? (i := 23) rfl)) (inr21 _ (List.mem_of_getElem? (i := 8) rfl)) (by decide +kernel) hts rfl rfl ⟨Nat.le_of_ble_eq_true rfl, Nat.le_of_ble_eq_true rfl⟩) 0 8 rfl rfl rfl (hP.sub [1, 2] rfl) hK hN hT rfl hl.1 rfl (Nat.le_of_ble_eq_true rfl) ⟨Nat.le_of_ble_eq_true rfl, Nat.le_of_ble_eq_true rfl⟩ dX11_sign_29 (fun r_11 h_12 => ?_)
    exact ret _ _ _ dX11_sign_32 trivial
  · have c_10 : ¬ r_7.toInt = 0 := ci_eq_f c_10
    have b_r_7 := i32b r_7
    refine lv_bipush (v := (-2)) hx hb dX11_sign_19 (by decide) ?_
    refine lv_goto (tgt := 32) hx hb dX11_sign_21 (by decide) ?_
    exact ret _ _ _ dX11_sign_32 trivial

set_option maxHeartbeats 4000000 in
set_option maxRecDepth 100000 in
theorem b_X11_post (l : Launch) (G : Gho) (D : va_G) (cB cI cJ cZ cS cT : ClassId) (h0 : Nat) (h_tape : Nat) (h_reader : Nat) (h_now : Nat) (h_trial : Nat) (h_images : Nat) (h_imageKept : Nat) (h_slots : Nat) (h_night : Nat) (h_otherNight : Nat) (h_circle : Nat) (h_words : Nat) (h_lawSearch : Nat) (h_placeSearch : Nat) (h_drawnNight : Nat) (v_now_tones : Int32) (v_now_a : Int32) (v_now_b : Int32) (v_now_c : Int32) (v_now_d : Int32) (v_now_odds : Int32) (v_now_lines : Int32) (h_now_signs : Nat) (v_now_signCount : Int32) (h_now_posts : Nat) (v_now_postCount : Int32) (h_now_acts : Nat) (f_now_posts : Nat → Int32) (v1 : Int32) (iv_now_signCount : 0 ≤ v_now_signCount.toInt ∧ v_now_signCount.toInt ≤ 8) (iv_now_postCount : 0 ≤ v_now_postCount.toInt ∧ v_now_postCount.toInt ≤ 5) : Met l yX11_post (Cond.code yX11_post cX11_post 2 (some .int) :: wsL_law) ({ frames := 1, cells := 0, slots := 0, locals := 25 }) (roP G D (tyL cB cI cJ cZ cS cT) [(h0, .inr (11, [.ref h_tape, .ref h_reader, .ref h_now, .ref h_trial, .ref h_images, .ref h_imageKept, .ref h_slots, .ref h_night, .ref h_otherNight, .ref h_circle, .ref h_words, .ref h_lawSearch, .ref h_placeSearch, .ref h_drawnNight])), (h_now, .inr (8, [.int v_now_tones, .int v_now_a, .int v_now_b, .int v_now_c, .int v_now_d, .int v_now_odds, .int v_now_lines, .ref h_now_signs, .int v_now_signCount, .ref h_now_posts, .int v_now_postCount, .ref h_now_acts])), (h_now_posts, .inl (cI, 5, .inl f_now_posts))] [.ref h0, .int v1]) (vp_Si (fun r : Int32 => True)) 0 0 (fun _ => False) := by
  refine metRO (own := RX11) (by decide) rfl ?_
  intro p e s m below meth c Q C hP ret
  obtain ⟨hx, hb, hml, hown, hts, hK, hN, hT⟩ := id C
  have hl := lv_entry ([.ref h0, .int v1]) (n := 2) (Nat.le_of_ble_eq_true rfl)
  rw [lg_entry_eq]
  generalize (lg_sl ([.ref h0, .int v1]) ++ List.replicate (2 - (lg_sl ([.ref h0, .int v1])).length) Slot.unset).toArray = ls at hl ⊢
  have hl : lv_has ls 2 [(0, .ref h0), (1, .int v1)] := hl
  have hP : va_P D vwCl [(h0, .inr (11, [.ref h_tape, .ref h_reader, .ref h_now, .ref h_trial, .ref h_images, .ref h_imageKept, .ref h_slots, .ref h_night, .ref h_otherNight, .ref h_circle, .ref h_words, .ref h_lawSearch, .ref h_placeSearch, .ref h_drawnNight])), (h_now, .inr (8, [.int v_now_tones, .int v_now_a, .int v_now_b, .int v_now_c, .int v_now_d, .int v_now_odds, .int v_now_lines, .ref h_now_signs, .int v_now_signCount, .ref h_now_posts, .int v_now_postCount, .ref h_now_acts])), (h_now_posts, .inl (cI, 5, .inl f_now_posts))] s.heap := hP
  refine lv_iload_n hx hb dX11_post_0 rfl (lv_at hl 1 rfl) ?_
  have b_v1 := i32b v1
  obtain ⟨t_1, et_1⟩ : ∃ v9 : Int64, (v1 : Int32).toInt64 = v9 := ⟨_, rfl⟩
  refine lv_i2l (v := t_1) hx hb dX11_post_1 et_1 ?_
  have ft_1 : t_1.toInt = v1.toInt := by rw [← et_1]; exact Int32.toInt_toInt64 _
  refine lv_lconst (v := 0) hx hb dX11_post_2 (by decide) ?_
  refine lv_aload_n hx hb dX11_post_3 rfl (lv_at hl 0 rfl) ?_
  refine va_get (D := D) (ci := 11) (v := .ref h_now) (C := RX11) (T := TX11) (N := 14) hx hb hts inlX11 hown hK hP 0 rfl rfl 2 (by decide) (hts _ (inr2 _ (List.mem_of_getElem? (i := 0) rfl))) (fun _ h9 => h9) rfl dX11_post_4 ?_
  refine roi (As := []) (rest := [.long 0, .long t_1]) ⟨hx, hb, hml, hown, hts⟩ (b_X8_postCount l G D cB cI cJ cZ cS cT h_now v_now_tones v_now_a v_now_b v_now_c v_now_d v_now_odds v_now_lines h_now_signs v_now_signCount h_now_posts v_now_postCount h_now_acts (by first | assumption | omega | decide) (by first | assumption | omega | decide)) (cvB (n := 0) (inr21 _ (List.mem_of_getElem? (i := 17) rfl)) (inr16 _ (List.mem_of_getElem? (i := 6) rfl)) (inr16 _ (List.mem_of_getElem? (i := 7) rfl)) (inr1 _ (List.mem_of_getElem? (i := 23) rfl)) (inr16 _ (List.mem_of_getElem? (i := 8) rfl)) (by decide +kernel) hts rfl rfl ⟨Nat.le_of_ble_eq_true rfl, Nat.le_of_ble_eq_true rfl⟩) 0 8 rfl rfl rfl (hP.sub [1] rfl) hK hN hT rfl hl.1 rfl (Nat.le_of_ble_eq_true rfl) ⟨Nat.le_of_ble_eq_true rfl, Nat.le_of_ble_eq_true rfl⟩ dX11_post_7 (fun r_2 h_3 => ?_)
  have h_3 : (r_2 = v_now_postCount) := h_3
  have i_4 := h_3
  obtain rfl := i_4.symm
  refine lv_iconst (v := 1) hx hb dX11_post_10 (by decide) ?_
  obtain ⟨t_5, et_5⟩ : ∃ v9 : Int32, v_now_postCount - 1 = v9 := ⟨_, rfl⟩
  refine z_isub (v := t_5) hx hb dX11_post_11 et_5 ?_
  have b_v_now_postCount := i32b v_now_postCount
  have ft_5 : t_5.toInt = v_now_postCount.toInt - 1 := subT (a := v_now_postCount.toInt) (b := 1) rfl (by decide) et_5 (by omega) (by omega)
  have b_t_5 := i32b t_5
  obtain ⟨t_6, et_6⟩ : ∃ v9 : Int64, (t_5 : Int32).toInt64 = v9 := ⟨_, rfl⟩
  refine lv_i2l (v := t_6) hx hb dX11_post_12 et_6 ?_
  have ft_6 : t_6.toInt = t_5.toInt := by rw [← et_6]; exact Int32.toInt_toInt64 _
  refine rosi (As := [.long t_1, .long 0, .long t_6]) (rest := []) ⟨hx, hb, hml, hown, hts⟩ (b_X11_outside l G D cB cI cJ cZ cS cT t_1 0 t_6 ) (csB (n := 3) (inr8 _ (List.mem_of_getElem? (i := 16) rfl)) (inr8 _ (List.mem_of_getElem? (i := 17) rfl)) (inr1 _ (List.mem_of_getElem? (i := 2) rfl)) (inr8 _ (List.mem_of_getElem? (i := 18) rfl)) (by decide +kernel) hts rfl rfl ⟨Nat.le_of_ble_eq_true rfl, Nat.le_of_ble_eq_true rfl⟩) (hP.sub [] rfl) hK hN hT rfl hl.1 rfl (Nat.le_of_ble_eq_true rfl) ⟨Nat.le_of_ble_eq_true rfl, Nat.le_of_ble_eq_true rfl⟩ dX11_post_13 (fun r_7 h_8 => ?_)
  have h_8 : ((r_7.toInt = 0 ∧ 0 ≤ t_1.toInt ∧ t_1.toInt ≤ t_6.toInt) ∨ (r_7.toInt = 1 ∧ (t_1.toInt < 0 ∨ t_6.toInt < t_1.toInt))) := h_8
  have i_9 := h_8
  refine lv_if_eq (tgt := 24) hx hb dX11_post_16 (by decide) (fun c_10 => ?_) (fun c_10 => ?_)
  · have c_10 : r_7.toInt = 0 := ci_eq_t c_10
    have b_r_7 := i32b r_7
    refine lv_aload_n hx hb dX11_post_24 rfl (lv_at hl 0 rfl) ?_
    refine va_get (D := D) (ci := 11) (v := .ref h_now) (C := RX11) (T := TX11) (N := 14) hx hb hts inlX11 hown hK hP 0 rfl rfl 2 (by decide) (hts _ (inr2 _ (List.mem_of_getElem? (i := 0) rfl))) (fun _ h9 => h9) rfl dX11_post_25 ?_
    refine lv_iload_n hx hb dX11_post_28 rfl (lv_at hl 1 rfl) ?_
    refine roi (As := [.int v1]) (rest := []) ⟨hx, hb, hml, hown, hts⟩ (b_X8_postPlace l G D cB cI cJ cZ cS cT h_now v_now_tones v_now_a v_now_b v_now_c v_now_d v_now_odds v_now_lines h_now_signs v_now_signCount h_now_posts v_now_postCount h_now_acts f_now_posts v1 (by first | assumption | omega | decide) (by first | assumption | omega | decide)) (cvB (n := 1) (inr21 _ (List.mem_of_getElem? (i := 18) rfl)) (inr21 _ (List.mem_of_getElem? (i := 19) rfl)) (inr21 _ (List.mem_of_getElem? (i := 20) rfl)) (inr1 _ (List.mem_of_getElem? (i := 23) rfl)) (inr21 _ (List.mem_of_getElem? (i := 21) rfl)) (by decide +kernel) hts rfl rfl ⟨Nat.le_of_ble_eq_true rfl, Nat.le_of_ble_eq_true rfl⟩) 0 8 rfl rfl rfl (hP.sub [1, 2] rfl) hK hN hT rfl hl.1 rfl (Nat.le_of_ble_eq_true rfl) ⟨Nat.le_of_ble_eq_true rfl, Nat.le_of_ble_eq_true rfl⟩ dX11_post_29 (fun r_11 h_12 => ?_)
    exact ret _ _ _ dX11_post_32 trivial
  · have c_10 : ¬ r_7.toInt = 0 := ci_eq_f c_10
    have b_r_7 := i32b r_7
    refine lv_bipush (v := (-2)) hx hb dX11_post_19 (by decide) ?_
    refine lv_goto (tgt := 32) hx hb dX11_post_21 (by decide) ?_
    exact ret _ _ _ dX11_post_32 trivial

set_option maxHeartbeats 4000000 in
set_option maxRecDepth 100000 in
theorem b_X11_noStation (l : Launch) (G : Gho) (D : va_G) (cB cI cJ cZ cS cT : ClassId) (h0 : Nat) (h_tape : Nat) (h_reader : Nat) (h_now : Nat) (h_trial : Nat) (h_images : Nat) (h_imageKept : Nat) (h_slots : Nat) (h_night : Nat) (h_otherNight : Nat) (h_circle : Nat) (h_words : Nat) (h_lawSearch : Nat) (h_placeSearch : Nat) (h_drawnNight : Nat) (v_now_tones : Int32) (v_now_a : Int32) (v_now_b : Int32) (v_now_c : Int32) (v_now_d : Int32) (v_now_odds : Int32) (v_now_lines : Int32) (h_now_signs : Nat) (v_now_signCount : Int32) (h_now_posts : Nat) (v_now_postCount : Int32) (h_now_acts : Nat) (iv_now_signCount : 0 ≤ v_now_signCount.toInt ∧ v_now_signCount.toInt ≤ 8) (iv_now_postCount : 0 ≤ v_now_postCount.toInt ∧ v_now_postCount.toInt ≤ 5) : Met l yX11_noStation (Cond.code yX11_noStation cX11_noStation 1 (some .boolean) :: wsL_law) ({ frames := 1, cells := 0, slots := 0, locals := 20 }) (roP G D (tyL cB cI cJ cZ cS cT) [(h0, .inr (11, [.ref h_tape, .ref h_reader, .ref h_now, .ref h_trial, .ref h_images, .ref h_imageKept, .ref h_slots, .ref h_night, .ref h_otherNight, .ref h_circle, .ref h_words, .ref h_lawSearch, .ref h_placeSearch, .ref h_drawnNight])), (h_now, .inr (8, [.int v_now_tones, .int v_now_a, .int v_now_b, .int v_now_c, .int v_now_d, .int v_now_odds, .int v_now_lines, .ref h_now_signs, .int v_now_signCount, .ref h_now_posts, .int v_now_postCount, .ref h_now_acts]))] [.ref h0]) (vp_Si (fun r : Int32 => (r = 0 ∨ r = 1))) 0 0 (fun _ => False) := by
  refine metROZ (own := RX11) (by decide) rfl (fun r h => h) ?_
  intro p e s m below meth c Q C hP ret
  obtain ⟨hx, hb, hml, hown, hts, hK, hN, hT⟩ := id C
  have hl := lv_entry ([.ref h0]) (n := 1) (Nat.le_of_ble_eq_true rfl)
  rw [lg_entry_eq]
  generalize (lg_sl ([.ref h0]) ++ List.replicate (1 - (lg_sl ([.ref h0])).length) Slot.unset).toArray = ls at hl ⊢
  have hl : lv_has ls 1 [(0, .ref h0)] := hl
  have hP : va_P D vwCl [(h0, .inr (11, [.ref h_tape, .ref h_reader, .ref h_now, .ref h_trial, .ref h_images, .ref h_imageKept, .ref h_slots, .ref h_night, .ref h_otherNight, .ref h_circle, .ref h_words, .ref h_lawSearch, .ref h_placeSearch, .ref h_drawnNight])), (h_now, .inr (8, [.int v_now_tones, .int v_now_a, .int v_now_b, .int v_now_c, .int v_now_d, .int v_now_odds, .int v_now_lines, .ref h_now_signs, .int v_now_signCount, .ref h_now_posts, .int v_now_postCount, .ref h_now_acts]))] s.heap := hP
  refine lv_aload_n hx hb dX11_noStation_0 rfl (lv_at hl 0 rfl) ?_
  refine va_get (D := D) (ci := 11) (v := .ref h_now) (C := RX11) (T := TX11) (N := 14) hx hb hts inlX11 hown hK hP 0 rfl rfl 2 (by decide) (hts _ (inr2 _ (List.mem_of_getElem? (i := 0) rfl))) (fun _ h9 => h9) rfl dX11_noStation_1 ?_
  refine roi (As := []) (rest := []) ⟨hx, hb, hml, hown, hts⟩ (b_X8_lines l G D cB cI cJ cZ cS cT h_now v_now_tones v_now_a v_now_b v_now_c v_now_d v_now_odds v_now_lines h_now_signs v_now_signCount h_now_posts v_now_postCount h_now_acts (by first | assumption | omega | decide) (by first | assumption | omega | decide)) (cvB (n := 0) (inr17 _ (List.mem_of_getElem? (i := 14) rfl)) (inr12 _ (List.mem_of_getElem? (i := 3) rfl)) (inr12 _ (List.mem_of_getElem? (i := 4) rfl)) (inr1 _ (List.mem_of_getElem? (i := 23) rfl)) (inr12 _ (List.mem_of_getElem? (i := 5) rfl)) (by decide +kernel) hts rfl rfl ⟨Nat.le_of_ble_eq_true rfl, Nat.le_of_ble_eq_true rfl⟩) 0 8 rfl rfl rfl (hP.sub [1] rfl) hK hN hT rfl hl.1 rfl (Nat.le_of_ble_eq_true rfl) ⟨Nat.le_of_ble_eq_true rfl, Nat.le_of_ble_eq_true rfl⟩ dX11_noStation_4 (fun r_1 h_2 => ?_)
  have h_2 : (r_1 = v_now_lines) := h_2
  have i_3 := h_2
  obtain rfl := i_3.symm
  refine lv_if_ne (tgt := 14) hx hb dX11_noStation_7 (by decide) (fun c_4 => ?_) (fun c_4 => ?_)
  · have c_4 : ¬ v_now_lines.toInt = 0 := ci_ne_t c_4
    have b_v_now_lines := i32b v_now_lines
    refine lv_iconst (v := 0) hx hb dX11_noStation_14 (by decide) ?_
    have hr9 : (0 : Int32).toInt = 0 := by decide
    exact ret _ _ _ dX11_noStation_15 (show ((0 : Int32) = 0 ∨ (0 : Int32) = 1) from (Or.inl rfl))
  · have c_4 : v_now_lines.toInt = 0 := ci_ne_f c_4
    have b_v_now_lines := i32b v_now_lines
    refine lv_iconst (v := 1) hx hb dX11_noStation_10 (by decide) ?_
    refine lv_goto (tgt := 15) hx hb dX11_noStation_11 (by decide) ?_
    have hr9 : (1 : Int32).toInt = 1 := by decide
    exact ret _ _ _ dX11_noStation_15 (show ((1 : Int32) = 0 ∨ (1 : Int32) = 1) from (Or.inr rfl))

set_option maxHeartbeats 4000000 in
set_option maxRecDepth 100000 in
theorem b_X11_noStep (l : Launch) (G : Gho) (D : va_G) (cB cI cJ cZ cS cT : ClassId) (h0 : Nat) (h_tape : Nat) (h_reader : Nat) (h_now : Nat) (h_trial : Nat) (h_images : Nat) (h_imageKept : Nat) (h_slots : Nat) (h_night : Nat) (h_otherNight : Nat) (h_circle : Nat) (h_words : Nat) (h_lawSearch : Nat) (h_placeSearch : Nat) (h_drawnNight : Nat) (v_now_tones : Int32) (v_now_a : Int32) (v_now_b : Int32) (v_now_c : Int32) (v_now_d : Int32) (v_now_odds : Int32) (v_now_lines : Int32) (h_now_signs : Nat) (v_now_signCount : Int32) (h_now_posts : Nat) (v_now_postCount : Int32) (h_now_acts : Nat) (v1 : Int32) (iv_now_signCount : 0 ≤ v_now_signCount.toInt ∧ v_now_signCount.toInt ≤ 8) (iv_now_postCount : 0 ≤ v_now_postCount.toInt ∧ v_now_postCount.toInt ≤ 5) : Met l yX11_noStep (Cond.code yX11_noStep cX11_noStep 2 (some .boolean) :: wsL_law) ({ frames := 2, cells := 0, slots := 0, locals := 40 }) (roP G D (tyL cB cI cJ cZ cS cT) [(h0, .inr (11, [.ref h_tape, .ref h_reader, .ref h_now, .ref h_trial, .ref h_images, .ref h_imageKept, .ref h_slots, .ref h_night, .ref h_otherNight, .ref h_circle, .ref h_words, .ref h_lawSearch, .ref h_placeSearch, .ref h_drawnNight])), (h_now, .inr (8, [.int v_now_tones, .int v_now_a, .int v_now_b, .int v_now_c, .int v_now_d, .int v_now_odds, .int v_now_lines, .ref h_now_signs, .int v_now_signCount, .ref h_now_posts, .int v_now_postCount, .ref h_now_acts]))] [.ref h0, .int v1]) (vp_Si (fun r : Int32 => (r = 0 ∨ r = 1))) 0 0 (fun _ => False) := by
  refine metROZ (own := RX11) (by decide) rfl (fun r h => h) ?_
  intro p e s m below meth c Q C hP ret
  obtain ⟨hx, hb, hml, hown, hts, hK, hN, hT⟩ := id C
  have hl := lv_entry ([.ref h0, .int v1]) (n := 2) (Nat.le_of_ble_eq_true rfl)
  rw [lg_entry_eq]
  generalize (lg_sl ([.ref h0, .int v1]) ++ List.replicate (2 - (lg_sl ([.ref h0, .int v1])).length) Slot.unset).toArray = ls at hl ⊢
  have hl : lv_has ls 2 [(0, .ref h0), (1, .int v1)] := hl
  have hP : va_P D vwCl [(h0, .inr (11, [.ref h_tape, .ref h_reader, .ref h_now, .ref h_trial, .ref h_images, .ref h_imageKept, .ref h_slots, .ref h_night, .ref h_otherNight, .ref h_circle, .ref h_words, .ref h_lawSearch, .ref h_placeSearch, .ref h_drawnNight])), (h_now, .inr (8, [.int v_now_tones, .int v_now_a, .int v_now_b, .int v_now_c, .int v_now_d, .int v_now_odds, .int v_now_lines, .ref h_now_signs, .int v_now_signCount, .ref h_now_posts, .int v_now_postCount, .ref h_now_acts]))] s.heap := hP
  refine lv_aload_n hx hb dX11_noStep_0 rfl (lv_at hl 0 rfl) ?_
  refine roi (As := []) (rest := []) ⟨hx, hb, hml, hown, hts⟩ (b_X11_noStation l G D cB cI cJ cZ cS cT h0 h_tape h_reader h_now h_trial h_images h_imageKept h_slots h_night h_otherNight h_circle h_words h_lawSearch h_placeSearch h_drawnNight v_now_tones v_now_a v_now_b v_now_c v_now_d v_now_odds v_now_lines h_now_signs v_now_signCount h_now_posts v_now_postCount h_now_acts (by first | assumption | omega | decide) (by first | assumption | omega | decide)) (cvB (n := 0) (inr22 _ (List.mem_of_getElem? (i := 11) rfl)) (inr22 _ (List.mem_of_getElem? (i := 12) rfl)) (inr22 _ (List.mem_of_getElem? (i := 13) rfl)) (inr1 _ (List.mem_of_getElem? (i := 2) rfl)) (inr22 _ (List.mem_of_getElem? (i := 14) rfl)) (by decide +kernel) hts rfl rfl ⟨Nat.le_of_ble_eq_true rfl, Nat.le_of_ble_eq_true rfl⟩) 0 11 rfl rfl rfl (hP.sub [0, 1] rfl) hK hN hT rfl hl.1 rfl (Nat.le_of_ble_eq_true rfl) ⟨Nat.le_of_ble_eq_true rfl, Nat.le_of_ble_eq_true rfl⟩ dX11_noStep_1 (fun r_1 h_2 => ?_)
  have h_2 : (r_1 = 0 ∨ r_1 = 1) := h_2
  have i_3 := h_2
  have ar_1 : 0 ≤ r_1.toInt ∧ r_1.toInt ≤ 1 := by rcases i_3 with h | h <;> rw [h] <;> decide
  refine lv_if_ne (tgt := 19) hx hb dX11_noStep_4 (by decide) (fun c_4 => ?_) (fun c_4 => ?_)
  · have c_4 : ¬ r_1.toInt = 0 := ci_ne_t c_4
    have b_r_1 := i32b r_1
    refine lv_iconst (v := 1) hx hb dX11_noStep_19 (by decide) ?_
    refine lv_goto (tgt := 24) hx hb dX11_noStep_20 (by decide) ?_
    have hr9 : (1 : Int32).toInt = 1 := by decide
    exact ret _ _ _ dX11_noStep_24 (show ((1 : Int32) = 0 ∨ (1 : Int32) = 1) from (Or.inr rfl))
  · have c_4 : r_1.toInt = 0 := ci_ne_f c_4
    have b_r_1 := i32b r_1
    refine lv_iload_n hx hb dX11_noStep_7 rfl (lv_at hl 1 rfl) ?_
    have b_v1 := i32b v1
    obtain ⟨t_5, et_5⟩ : ∃ v9 : Int64, (v1 : Int32).toInt64 = v9 := ⟨_, rfl⟩
    refine lv_i2l (v := t_5) hx hb dX11_noStep_8 et_5 ?_
    have ft_5 : t_5.toInt = v1.toInt := by rw [← et_5]; exact Int32.toInt_toInt64 _
    refine lv_lconst (v := 0) hx hb dX11_noStep_9 (by decide) ?_
    refine lv_ldc2 hx hb hown (hts _ (inr22 _ (List.mem_of_getElem? (i := 10) rfl))) dX11_noStep_10 ?_
    refine rosi (As := [.long t_5, .long 0, .long 60]) (rest := []) ⟨hx, hb, hml, hown, hts⟩ (b_X11_outside l G D cB cI cJ cZ cS cT t_5 0 60 ) (csB (n := 3) (inr8 _ (List.mem_of_getElem? (i := 16) rfl)) (inr8 _ (List.mem_of_getElem? (i := 17) rfl)) (inr1 _ (List.mem_of_getElem? (i := 2) rfl)) (inr8 _ (List.mem_of_getElem? (i := 18) rfl)) (by decide +kernel) hts rfl rfl ⟨Nat.le_of_ble_eq_true rfl, Nat.le_of_ble_eq_true rfl⟩) (hP.sub [] rfl) hK hN hT rfl hl.1 rfl (Nat.le_of_ble_eq_true rfl) ⟨Nat.le_of_ble_eq_true rfl, Nat.le_of_ble_eq_true rfl⟩ dX11_noStep_13 (fun r_6 h_7 => ?_)
    have h_7 : ((r_6.toInt = 0 ∧ 0 ≤ t_5.toInt ∧ t_5.toInt ≤ 60) ∨ (r_6.toInt = 1 ∧ (t_5.toInt < 0 ∨ 60 < t_5.toInt))) := h_7
    have i_8 := h_7
    refine lv_if_eq (tgt := 23) hx hb dX11_noStep_16 (by decide) (fun c_9 => ?_) (fun c_9 => ?_)
    · have c_9 : r_6.toInt = 0 := ci_eq_t c_9
      have b_r_6 := i32b r_6
      refine lv_iconst (v := 0) hx hb dX11_noStep_23 (by decide) ?_
      have hr9 : (0 : Int32).toInt = 0 := by decide
      exact ret _ _ _ dX11_noStep_24 (show ((0 : Int32) = 0 ∨ (0 : Int32) = 1) from (Or.inl rfl))
    · have c_9 : ¬ r_6.toInt = 0 := ci_eq_f c_9
      have b_r_6 := i32b r_6
      refine lv_iconst (v := 1) hx hb dX11_noStep_19 (by decide) ?_
      refine lv_goto (tgt := 24) hx hb dX11_noStep_20 (by decide) ?_
      have hr9 : (1 : Int32).toInt = 1 := by decide
      exact ret _ _ _ dX11_noStep_24 (show ((1 : Int32) = 0 ∨ (1 : Int32) = 1) from (Or.inr rfl))

set_option maxHeartbeats 4000000 in
set_option maxRecDepth 100000 in
theorem b_X11_tonight (l : Launch) (G : Gho) (D : va_G) (cB cI cJ cZ cS cT : ClassId) (sz : Nat) (h0 : Nat) (h_tape : Nat) (h_reader : Nat) (h_now : Nat) (h_trial : Nat) (h_images : Nat) (h_imageKept : Nat) (h_slots : Nat) (h_night : Nat) (h_otherNight : Nat) (h_circle : Nat) (h_words : Nat) (h_lawSearch : Nat) (h_placeSearch : Nat) (h_drawnNight : Nat) (h_night_tones : Nat) (h_night_lasts : Nat) (h_night_answers : Nat) (h_night_pip : Nat) (v_now_tones : Int32) (v_now_a : Int32) (v_now_b : Int32) (v_now_c : Int32) (v_now_d : Int32) (v_now_odds : Int32) (v_now_lines : Int32) (h_now_signs : Nat) (v_now_signCount : Int32) (h_now_posts : Nat) (v_now_postCount : Int32) (h_now_acts : Nat) (f_night_answers : Nat → Int32) (f_night_lasts : Nat → Int32) (f_night_pip : Nat → Int32) (f_night_tones : Nat → Int32) (h_now_acts_over : Nat) (h_now_acts_steps : Nat) (h_now_acts_before : Nat) (v_now_acts_size : Int32) (f_now_signs : Nat → Int32) (f_now_acts_over : Nat → Int32) (iv_now_signCount : 0 ≤ v_now_signCount.toInt ∧ v_now_signCount.toInt ≤ 8) (iv_now_postCount : 0 ≤ v_now_postCount.toInt ∧ v_now_postCount.toInt ≤ 5) (iv_now_acts_size : 0 ≤ v_now_acts_size.toInt ∧ v_now_acts_size.toInt ≤ 30) : Met l yX11_tonight (Cond.code yX11_tonight cX11_tonight 1 (some (.object "IntervalSignal$Night")) :: wsL_law) ({ frames := 3, cells := 0, slots := 0, locals := 76 }) (wrP G D (tyL cB cI cJ cZ cS cT) [(h0, .inr (11, [.ref h_tape, .ref h_reader, .ref h_now, .ref h_trial, .ref h_images, .ref h_imageKept, .ref h_slots, .ref h_night, .ref h_otherNight, .ref h_circle, .ref h_words, .ref h_lawSearch, .ref h_placeSearch, .ref h_drawnNight])), (h_night, .inr (4, [.ref h_night_tones, .ref h_night_lasts, .ref h_night_answers, .ref h_night_pip])), (h_now, .inr (8, [.int v_now_tones, .int v_now_a, .int v_now_b, .int v_now_c, .int v_now_d, .int v_now_odds, .int v_now_lines, .ref h_now_signs, .int v_now_signCount, .ref h_now_posts, .int v_now_postCount, .ref h_now_acts])), (h_night_answers, .inl (cI, 61, .inl f_night_answers)), (h_night_lasts, .inl (cI, 61, .inl f_night_lasts)), (h_night_pip, .inl (cZ, 61, .inl f_night_pip)), (h_night_tones, .inl (cI, 61, .inl f_night_tones)), (h_now_acts, .inr (0, [.ref h_now_acts_over, .ref h_now_acts_steps, .ref h_now_acts_before, .int v_now_acts_size])), (h_now_signs, .inl (cI, 8, .inl f_now_signs)), (h_now_acts_over, .inl (cI, 61, .inl f_now_acts_over))] sz [.ref h0]) (va_Qq (fun (r : Option Nat) (x : (Nat → Int32) × (Nat → Int32) × (Nat → Int32) × (Nat → Int32)) => (r = some h_night)) (atW D (tyL cB cI cJ cZ cS cT) (va_A [(h0, .inr (11, [.ref h_tape, .ref h_reader, .ref h_now, .ref h_trial, .ref h_images, .ref h_imageKept, .ref h_slots, .ref h_night, .ref h_otherNight, .ref h_circle, .ref h_words, .ref h_lawSearch, .ref h_placeSearch, .ref h_drawnNight])), (h_night, .inr (4, [.ref h_night_tones, .ref h_night_lasts, .ref h_night_answers, .ref h_night_pip])), (h_now, .inr (8, [.int v_now_tones, .int v_now_a, .int v_now_b, .int v_now_c, .int v_now_d, .int v_now_odds, .int v_now_lines, .ref h_now_signs, .int v_now_signCount, .ref h_now_posts, .int v_now_postCount, .ref h_now_acts])), (h_night_answers, .inl (cI, 61, .inl f_night_answers)), (h_night_lasts, .inl (cI, 61, .inl f_night_lasts)), (h_night_pip, .inl (cZ, 61, .inl f_night_pip)), (h_night_tones, .inl (cI, 61, .inl f_night_tones)), (h_now_acts, .inr (0, [.ref h_now_acts_over, .ref h_now_acts_steps, .ref h_now_acts_before, .int v_now_acts_size])), (h_now_signs, .inl (cI, 8, .inl f_now_signs)), (h_now_acts_over, .inl (cI, 61, .inl f_now_acts_over))] sz) (fun x : (Nat → Int32) × (Nat → Int32) × (Nat → Int32) × (Nat → Int32) => [(h0, .inr (11, [.ref h_tape, .ref h_reader, .ref h_now, .ref h_trial, .ref h_images, .ref h_imageKept, .ref h_slots, .ref h_night, .ref h_otherNight, .ref h_circle, .ref h_words, .ref h_lawSearch, .ref h_placeSearch, .ref h_drawnNight])), (h_night, .inr (4, [.ref h_night_tones, .ref h_night_lasts, .ref h_night_answers, .ref h_night_pip])), (h_now, .inr (8, [.int v_now_tones, .int v_now_a, .int v_now_b, .int v_now_c, .int v_now_d, .int v_now_odds, .int v_now_lines, .ref h_now_signs, .int v_now_signCount, .ref h_now_posts, .int v_now_postCount, .ref h_now_acts])), (h_night_answers, .inl (cI, 61, .inl x.1)), (h_night_lasts, .inl (cI, 61, .inl x.2.1)), (h_night_pip, .inl (cZ, 61, .inl x.2.2.1)), (h_night_tones, .inl (cI, 61, .inl x.2.2.2)), (h_now_acts, .inr (0, [.ref h_now_acts_over, .ref h_now_acts_steps, .ref h_now_acts_before, .int v_now_acts_size])), (h_now_signs, .inl (cI, 8, .inl f_now_signs)), (h_now_acts_over, .inl (cI, 61, .inl f_now_acts_over))])) (va_A [(h0, .inr (11, [.ref h_tape, .ref h_reader, .ref h_now, .ref h_trial, .ref h_images, .ref h_imageKept, .ref h_slots, .ref h_night, .ref h_otherNight, .ref h_circle, .ref h_words, .ref h_lawSearch, .ref h_placeSearch, .ref h_drawnNight])), (h_night, .inr (4, [.ref h_night_tones, .ref h_night_lasts, .ref h_night_answers, .ref h_night_pip])), (h_now, .inr (8, [.int v_now_tones, .int v_now_a, .int v_now_b, .int v_now_c, .int v_now_d, .int v_now_odds, .int v_now_lines, .ref h_now_signs, .int v_now_signCount, .ref h_now_posts, .int v_now_postCount, .ref h_now_acts])), (h_night_answers, .inl (cI, 61, .inl f_night_answers)), (h_night_lasts, .inl (cI, 61, .inl f_night_lasts)), (h_night_pip, .inl (cZ, 61, .inl f_night_pip)), (h_night_tones, .inl (cI, 61, .inl f_night_tones)), (h_now_acts, .inr (0, [.ref h_now_acts_over, .ref h_now_acts_steps, .ref h_now_acts_before, .int v_now_acts_size])), (h_now_signs, .inl (cI, 8, .inl f_now_signs)), (h_now_acts_over, .inl (cI, 61, .inl f_now_acts_over))] sz)) 0 0 (va_A [(h0, .inr (11, [.ref h_tape, .ref h_reader, .ref h_now, .ref h_trial, .ref h_images, .ref h_imageKept, .ref h_slots, .ref h_night, .ref h_otherNight, .ref h_circle, .ref h_words, .ref h_lawSearch, .ref h_placeSearch, .ref h_drawnNight])), (h_night, .inr (4, [.ref h_night_tones, .ref h_night_lasts, .ref h_night_answers, .ref h_night_pip])), (h_now, .inr (8, [.int v_now_tones, .int v_now_a, .int v_now_b, .int v_now_c, .int v_now_d, .int v_now_odds, .int v_now_lines, .ref h_now_signs, .int v_now_signCount, .ref h_now_posts, .int v_now_postCount, .ref h_now_acts])), (h_night_answers, .inl (cI, 61, .inl f_night_answers)), (h_night_lasts, .inl (cI, 61, .inl f_night_lasts)), (h_night_pip, .inl (cZ, 61, .inl f_night_pip)), (h_night_tones, .inl (cI, 61, .inl f_night_tones)), (h_now_acts, .inr (0, [.ref h_now_acts_over, .ref h_now_acts_steps, .ref h_now_acts_before, .int v_now_acts_size])), (h_now_signs, .inl (cI, 8, .inl f_now_signs)), (h_now_acts_over, .inl (cI, 61, .inl f_now_acts_over))] sz) := by
  refine metQ (own := RX11) (by decide) rfl ?_
  intro p e s m below meth c Q hsz C hG hP hD hAB ret
  obtain ⟨hx, hb, hml, hown, hts, hK, hN, hT⟩ := id C
  subst hsz
  generalize hAe : va_A [(h0, .inr (11, [.ref h_tape, .ref h_reader, .ref h_now, .ref h_trial, .ref h_images, .ref h_imageKept, .ref h_slots, .ref h_night, .ref h_otherNight, .ref h_circle, .ref h_words, .ref h_lawSearch, .ref h_placeSearch, .ref h_drawnNight])), (h_night, .inr (4, [.ref h_night_tones, .ref h_night_lasts, .ref h_night_answers, .ref h_night_pip])), (h_now, .inr (8, [.int v_now_tones, .int v_now_a, .int v_now_b, .int v_now_c, .int v_now_d, .int v_now_odds, .int v_now_lines, .ref h_now_signs, .int v_now_signCount, .ref h_now_posts, .int v_now_postCount, .ref h_now_acts])), (h_night_answers, .inl (cI, 61, .inl f_night_answers)), (h_night_lasts, .inl (cI, 61, .inl f_night_lasts)), (h_night_pip, .inl (cZ, 61, .inl f_night_pip)), (h_night_tones, .inl (cI, 61, .inl f_night_tones)), (h_now_acts, .inr (0, [.ref h_now_acts_over, .ref h_now_acts_steps, .ref h_now_acts_before, .int v_now_acts_size])), (h_now_signs, .inl (cI, 8, .inl f_now_signs)), (h_now_acts_over, .inl (cI, 61, .inl f_now_acts_over))] s.heap.size = A at hD hAB ret ⊢
  have hA : ∀ q : Nat, s.heap.size ≤ q → A q := fun q h => by rw [← hAe]; exact Or.inr h
  have hS : va_S A s.heap s.heap [] := va_S.rf
  have hl := lv_entry ([.ref h0]) (n := 1) (Nat.le_of_ble_eq_true rfl)
  rw [lg_entry_eq]
  generalize (lg_sl ([.ref h0]) ++ List.replicate (1 - (lg_sl ([.ref h0])).length) Slot.unset).toArray = ls at hl ⊢
  have hl : lv_has ls 1 [(0, .ref h0)] := hl
  have hP : va_P D vwCl [(h0, .inr (11, [.ref h_tape, .ref h_reader, .ref h_now, .ref h_trial, .ref h_images, .ref h_imageKept, .ref h_slots, .ref h_night, .ref h_otherNight, .ref h_circle, .ref h_words, .ref h_lawSearch, .ref h_placeSearch, .ref h_drawnNight])), (h_night, .inr (4, [.ref h_night_tones, .ref h_night_lasts, .ref h_night_answers, .ref h_night_pip])), (h_now, .inr (8, [.int v_now_tones, .int v_now_a, .int v_now_b, .int v_now_c, .int v_now_d, .int v_now_odds, .int v_now_lines, .ref h_now_signs, .int v_now_signCount, .ref h_now_posts, .int v_now_postCount, .ref h_now_acts])), (h_night_answers, .inl (cI, 61, .inl f_night_answers)), (h_night_lasts, .inl (cI, 61, .inl f_night_lasts)), (h_night_pip, .inl (cZ, 61, .inl f_night_pip)), (h_night_tones, .inl (cI, 61, .inl f_night_tones)), (h_now_acts, .inr (0, [.ref h_now_acts_over, .ref h_now_acts_steps, .ref h_now_acts_before, .int v_now_acts_size])), (h_now_signs, .inl (cI, 8, .inl f_now_signs)), (h_now_acts_over, .inl (cI, 61, .inl f_now_acts_over))] s.heap := hP
  refine lv_aload_n hx hb dX11_tonight_0 rfl (lv_at hl 0 rfl) ?_
  refine va_get (D := D) (ci := 11) (v := .ref h_night) (C := RX11) (T := TX11) (N := 14) hx hb hts inlX11 hown hK hP 0 rfl rfl 7 (by decide) (hts _ (inr2 _ (List.mem_of_getElem? (i := 12) rfl))) (fun _ h9 => h9) rfl dX11_tonight_1 ?_
  refine lv_aload_n hx hb dX11_tonight_4 rfl (lv_at hl 0 rfl) ?_
  refine va_get (D := D) (ci := 11) (v := .ref h_now) (C := RX11) (T := TX11) (N := 14) hx hb hts inlX11 hown hK hP 0 rfl rfl 2 (by decide) (hts _ (inr2 _ (List.mem_of_getElem? (i := 0) rfl))) (fun _ h9 => h9) rfl dX11_tonight_5 ?_
  refine lv_bipush (v := 60) hx hb dX11_tonight_8 (by decide) ?_
  refine wrVv (As := [.ref h_now, .int 60]) (rest := []) (wr := [(h0, .inr (11, [.ref h_tape, .ref h_reader, .ref h_now, .ref h_trial, .ref h_images, .ref h_imageKept, .ref h_slots, .ref h_night, .ref h_otherNight, .ref h_circle, .ref h_words, .ref h_lawSearch, .ref h_placeSearch, .ref h_drawnNight]))]) ⟨hx, hb, hml, hown, hts⟩ (b_X4_hear l G D cB cI cJ cZ cS cT s.heap.size h_night h_night_tones h_night_lasts h_night_answers h_night_pip f_night_answers f_night_lasts f_night_pip f_night_tones h_now v_now_tones v_now_a v_now_b v_now_c v_now_d v_now_odds v_now_lines h_now_signs v_now_signCount h_now_posts v_now_postCount h_now_acts h_now_acts_over h_now_acts_steps h_now_acts_before v_now_acts_size f_now_signs f_now_acts_over 60 (by first | assumption | omega | decide) (by first | assumption | omega | decide) (by first | assumption | omega | decide)) hP hD hS hA hK hN hT hAB hG [1, 3, 4, 5, 6, 2, 7, 8, 9] [0] rfl rfl (by decide) (by decide) (by decide) (cvB (n := 2) (inr22 _ (List.mem_of_getElem? (i := 19) rfl)) (inr22 _ (List.mem_of_getElem? (i := 20) rfl)) (inr22 _ (List.mem_of_getElem? (i := 21) rfl)) (inr2 _ (List.mem_of_getElem? (i := 11) rfl)) (inr22 _ (List.mem_of_getElem? (i := 22) rfl)) (by decide +kernel) hts rfl rfl ⟨Nat.le_of_ble_eq_true rfl, Nat.le_of_ble_eq_true rfl⟩) 0 4 rfl rfl rfl rfl hl.1 rfl (Nat.le_of_ble_eq_true rfl) ⟨Nat.le_of_ble_eq_true rfl, Nat.le_of_ble_eq_true rfl⟩ dX11_tonight_10 (fun x9 H locs h_2 hP hD hS => ?_)
  obtain ⟨g_3, g_4, g_5, g_6⟩ := x9
  have hP : va_P D vwCl [(h0, .inr (11, [.ref h_tape, .ref h_reader, .ref h_now, .ref h_trial, .ref h_images, .ref h_imageKept, .ref h_slots, .ref h_night, .ref h_otherNight, .ref h_circle, .ref h_words, .ref h_lawSearch, .ref h_placeSearch, .ref h_drawnNight])), (h_night, .inr (4, [.ref h_night_tones, .ref h_night_lasts, .ref h_night_answers, .ref h_night_pip])), (h_night_answers, .inl (cI, 61, .inl g_3)), (h_night_lasts, .inl (cI, 61, .inl g_4)), (h_night_pip, .inl (cZ, 61, .inl g_5)), (h_night_tones, .inl (cI, 61, .inl g_6)), (h_now, .inr (8, [.int v_now_tones, .int v_now_a, .int v_now_b, .int v_now_c, .int v_now_d, .int v_now_odds, .int v_now_lines, .ref h_now_signs, .int v_now_signCount, .ref h_now_posts, .int v_now_postCount, .ref h_now_acts])), (h_now_acts, .inr (0, [.ref h_now_acts_over, .ref h_now_acts_steps, .ref h_now_acts_before, .int v_now_acts_size])), (h_now_signs, .inl (cI, 8, .inl f_now_signs)), (h_now_acts_over, .inl (cI, 61, .inl f_now_acts_over))] H := hP
  have hD : va_D A [(h0, .inr (11, [.ref h_tape, .ref h_reader, .ref h_now, .ref h_trial, .ref h_images, .ref h_imageKept, .ref h_slots, .ref h_night, .ref h_otherNight, .ref h_circle, .ref h_words, .ref h_lawSearch, .ref h_placeSearch, .ref h_drawnNight])), (h_night, .inr (4, [.ref h_night_tones, .ref h_night_lasts, .ref h_night_answers, .ref h_night_pip])), (h_night_answers, .inl (cI, 61, .inl g_3)), (h_night_lasts, .inl (cI, 61, .inl g_4)), (h_night_pip, .inl (cZ, 61, .inl g_5)), (h_night_tones, .inl (cI, 61, .inl g_6)), (h_now, .inr (8, [.int v_now_tones, .int v_now_a, .int v_now_b, .int v_now_c, .int v_now_d, .int v_now_odds, .int v_now_lines, .ref h_now_signs, .int v_now_signCount, .ref h_now_posts, .int v_now_postCount, .ref h_now_acts])), (h_now_acts, .inr (0, [.ref h_now_acts_over, .ref h_now_acts_steps, .ref h_now_acts_before, .int v_now_acts_size])), (h_now_signs, .inl (cI, 8, .inl f_now_signs)), (h_now_acts_over, .inl (cI, 61, .inl f_now_acts_over))] := hD
  refine lv_aload_n hx hb dX11_tonight_13 rfl (lv_at hl 0 rfl) ?_
  refine va_get (D := D) (ci := 11) (v := .ref h_night) (C := RX11) (T := TX11) (N := 14) hx hb hts inlX11 hown hK hP 0 rfl rfl 7 (by decide) (hts _ (inr2 _ (List.mem_of_getElem? (i := 12) rfl))) (fun _ h9 => h9) rfl dX11_tonight_14 ?_
  exact ret _ _ _ _ _ (g_3, g_4, g_5, g_6) dX11_tonight_17 (show ((some h_night) = some h_night) from rfl) (hP.sub [0, 1, 6, 2, 3, 4, 5, 7, 8, 9] rfl) (hD.sub [0, 1, 6, 2, 3, 4, 5, 7, 8, 9] (by decide) rfl) hS

set_option maxHeartbeats 4000000 in
set_option maxRecDepth 100000 in
theorem b_X11_heard (l : Launch) (G : Gho) (D : va_G) (cB cI cJ cZ cS cT : ClassId) (sz : Nat) (h0 : Nat) (h_tape : Nat) (h_reader : Nat) (h_now : Nat) (h_trial : Nat) (h_images : Nat) (h_imageKept : Nat) (h_slots : Nat) (h_night : Nat) (h_otherNight : Nat) (h_circle : Nat) (h_words : Nat) (h_lawSearch : Nat) (h_placeSearch : Nat) (h_drawnNight : Nat) (h_night_tones : Nat) (h_night_lasts : Nat) (h_night_answers : Nat) (h_night_pip : Nat) (v_now_tones : Int32) (v_now_a : Int32) (v_now_b : Int32) (v_now_c : Int32) (v_now_d : Int32) (v_now_odds : Int32) (v_now_lines : Int32) (h_now_signs : Nat) (v_now_signCount : Int32) (h_now_posts : Nat) (v_now_postCount : Int32) (h_now_acts : Nat) (f_night_answers : Nat → Int32) (f_night_lasts : Nat → Int32) (f_night_pip : Nat → Int32) (f_night_tones : Nat → Int32) (h_now_acts_over : Nat) (h_now_acts_steps : Nat) (h_now_acts_before : Nat) (v_now_acts_size : Int32) (f_now_signs : Nat → Int32) (f_now_acts_over : Nat → Int32) (v1 : Int32) (iv_now_signCount : 0 ≤ v_now_signCount.toInt ∧ v_now_signCount.toInt ≤ 8) (iv_now_postCount : 0 ≤ v_now_postCount.toInt ∧ v_now_postCount.toInt ≤ 5) (iv_now_acts_size : 0 ≤ v_now_acts_size.toInt ∧ v_now_acts_size.toInt ≤ 30) : Met l yX11_heard (Cond.code yX11_heard cX11_heard 2 (some .int) :: wsL_law) ({ frames := 4, cells := 0, slots := 0, locals := 96 }) (wrP G D (tyL cB cI cJ cZ cS cT) [(h0, .inr (11, [.ref h_tape, .ref h_reader, .ref h_now, .ref h_trial, .ref h_images, .ref h_imageKept, .ref h_slots, .ref h_night, .ref h_otherNight, .ref h_circle, .ref h_words, .ref h_lawSearch, .ref h_placeSearch, .ref h_drawnNight])), (h_night, .inr (4, [.ref h_night_tones, .ref h_night_lasts, .ref h_night_answers, .ref h_night_pip])), (h_now, .inr (8, [.int v_now_tones, .int v_now_a, .int v_now_b, .int v_now_c, .int v_now_d, .int v_now_odds, .int v_now_lines, .ref h_now_signs, .int v_now_signCount, .ref h_now_posts, .int v_now_postCount, .ref h_now_acts])), (h_night_answers, .inl (cI, 61, .inl f_night_answers)), (h_night_lasts, .inl (cI, 61, .inl f_night_lasts)), (h_night_pip, .inl (cZ, 61, .inl f_night_pip)), (h_night_tones, .inl (cI, 61, .inl f_night_tones)), (h_now_acts, .inr (0, [.ref h_now_acts_over, .ref h_now_acts_steps, .ref h_now_acts_before, .int v_now_acts_size])), (h_now_signs, .inl (cI, 8, .inl f_now_signs)), (h_now_acts_over, .inl (cI, 61, .inl f_now_acts_over))] sz [.ref h0, .int v1]) (va_Qi (fun (r : Int32) (x : (Nat → Int32) × (Nat → Int32) × (Nat → Int32) × (Nat → Int32)) => True) (atW D (tyL cB cI cJ cZ cS cT) (va_A [(h0, .inr (11, [.ref h_tape, .ref h_reader, .ref h_now, .ref h_trial, .ref h_images, .ref h_imageKept, .ref h_slots, .ref h_night, .ref h_otherNight, .ref h_circle, .ref h_words, .ref h_lawSearch, .ref h_placeSearch, .ref h_drawnNight])), (h_night, .inr (4, [.ref h_night_tones, .ref h_night_lasts, .ref h_night_answers, .ref h_night_pip])), (h_now, .inr (8, [.int v_now_tones, .int v_now_a, .int v_now_b, .int v_now_c, .int v_now_d, .int v_now_odds, .int v_now_lines, .ref h_now_signs, .int v_now_signCount, .ref h_now_posts, .int v_now_postCount, .ref h_now_acts])), (h_night_answers, .inl (cI, 61, .inl f_night_answers)), (h_night_lasts, .inl (cI, 61, .inl f_night_lasts)), (h_night_pip, .inl (cZ, 61, .inl f_night_pip)), (h_night_tones, .inl (cI, 61, .inl f_night_tones)), (h_now_acts, .inr (0, [.ref h_now_acts_over, .ref h_now_acts_steps, .ref h_now_acts_before, .int v_now_acts_size])), (h_now_signs, .inl (cI, 8, .inl f_now_signs)), (h_now_acts_over, .inl (cI, 61, .inl f_now_acts_over))] sz) (fun x : (Nat → Int32) × (Nat → Int32) × (Nat → Int32) × (Nat → Int32) => [(h0, .inr (11, [.ref h_tape, .ref h_reader, .ref h_now, .ref h_trial, .ref h_images, .ref h_imageKept, .ref h_slots, .ref h_night, .ref h_otherNight, .ref h_circle, .ref h_words, .ref h_lawSearch, .ref h_placeSearch, .ref h_drawnNight])), (h_night, .inr (4, [.ref h_night_tones, .ref h_night_lasts, .ref h_night_answers, .ref h_night_pip])), (h_now, .inr (8, [.int v_now_tones, .int v_now_a, .int v_now_b, .int v_now_c, .int v_now_d, .int v_now_odds, .int v_now_lines, .ref h_now_signs, .int v_now_signCount, .ref h_now_posts, .int v_now_postCount, .ref h_now_acts])), (h_night_answers, .inl (cI, 61, .inl x.1)), (h_night_lasts, .inl (cI, 61, .inl x.2.1)), (h_night_pip, .inl (cZ, 61, .inl x.2.2.1)), (h_night_tones, .inl (cI, 61, .inl x.2.2.2)), (h_now_acts, .inr (0, [.ref h_now_acts_over, .ref h_now_acts_steps, .ref h_now_acts_before, .int v_now_acts_size])), (h_now_signs, .inl (cI, 8, .inl f_now_signs)), (h_now_acts_over, .inl (cI, 61, .inl f_now_acts_over))])) (va_A [(h0, .inr (11, [.ref h_tape, .ref h_reader, .ref h_now, .ref h_trial, .ref h_images, .ref h_imageKept, .ref h_slots, .ref h_night, .ref h_otherNight, .ref h_circle, .ref h_words, .ref h_lawSearch, .ref h_placeSearch, .ref h_drawnNight])), (h_night, .inr (4, [.ref h_night_tones, .ref h_night_lasts, .ref h_night_answers, .ref h_night_pip])), (h_now, .inr (8, [.int v_now_tones, .int v_now_a, .int v_now_b, .int v_now_c, .int v_now_d, .int v_now_odds, .int v_now_lines, .ref h_now_signs, .int v_now_signCount, .ref h_now_posts, .int v_now_postCount, .ref h_now_acts])), (h_night_answers, .inl (cI, 61, .inl f_night_answers)), (h_night_lasts, .inl (cI, 61, .inl f_night_lasts)), (h_night_pip, .inl (cZ, 61, .inl f_night_pip)), (h_night_tones, .inl (cI, 61, .inl f_night_tones)), (h_now_acts, .inr (0, [.ref h_now_acts_over, .ref h_now_acts_steps, .ref h_now_acts_before, .int v_now_acts_size])), (h_now_signs, .inl (cI, 8, .inl f_now_signs)), (h_now_acts_over, .inl (cI, 61, .inl f_now_acts_over))] sz)) 0 0 (va_A [(h0, .inr (11, [.ref h_tape, .ref h_reader, .ref h_now, .ref h_trial, .ref h_images, .ref h_imageKept, .ref h_slots, .ref h_night, .ref h_otherNight, .ref h_circle, .ref h_words, .ref h_lawSearch, .ref h_placeSearch, .ref h_drawnNight])), (h_night, .inr (4, [.ref h_night_tones, .ref h_night_lasts, .ref h_night_answers, .ref h_night_pip])), (h_now, .inr (8, [.int v_now_tones, .int v_now_a, .int v_now_b, .int v_now_c, .int v_now_d, .int v_now_odds, .int v_now_lines, .ref h_now_signs, .int v_now_signCount, .ref h_now_posts, .int v_now_postCount, .ref h_now_acts])), (h_night_answers, .inl (cI, 61, .inl f_night_answers)), (h_night_lasts, .inl (cI, 61, .inl f_night_lasts)), (h_night_pip, .inl (cZ, 61, .inl f_night_pip)), (h_night_tones, .inl (cI, 61, .inl f_night_tones)), (h_now_acts, .inr (0, [.ref h_now_acts_over, .ref h_now_acts_steps, .ref h_now_acts_before, .int v_now_acts_size])), (h_now_signs, .inl (cI, 8, .inl f_now_signs)), (h_now_acts_over, .inl (cI, 61, .inl f_now_acts_over))] sz) := by
  refine metI (own := RX11) (by decide) rfl ?_
  intro p e s m below meth c Q hsz C hG hP hD hAB ret
  obtain ⟨hx, hb, hml, hown, hts, hK, hN, hT⟩ := id C
  subst hsz
  generalize hAe : va_A [(h0, .inr (11, [.ref h_tape, .ref h_reader, .ref h_now, .ref h_trial, .ref h_images, .ref h_imageKept, .ref h_slots, .ref h_night, .ref h_otherNight, .ref h_circle, .ref h_words, .ref h_lawSearch, .ref h_placeSearch, .ref h_drawnNight])), (h_night, .inr (4, [.ref h_night_tones, .ref h_night_lasts, .ref h_night_answers, .ref h_night_pip])), (h_now, .inr (8, [.int v_now_tones, .int v_now_a, .int v_now_b, .int v_now_c, .int v_now_d, .int v_now_odds, .int v_now_lines, .ref h_now_signs, .int v_now_signCount, .ref h_now_posts, .int v_now_postCount, .ref h_now_acts])), (h_night_answers, .inl (cI, 61, .inl f_night_answers)), (h_night_lasts, .inl (cI, 61, .inl f_night_lasts)), (h_night_pip, .inl (cZ, 61, .inl f_night_pip)), (h_night_tones, .inl (cI, 61, .inl f_night_tones)), (h_now_acts, .inr (0, [.ref h_now_acts_over, .ref h_now_acts_steps, .ref h_now_acts_before, .int v_now_acts_size])), (h_now_signs, .inl (cI, 8, .inl f_now_signs)), (h_now_acts_over, .inl (cI, 61, .inl f_now_acts_over))] s.heap.size = A at hD hAB ret ⊢
  have hA : ∀ q : Nat, s.heap.size ≤ q → A q := fun q h => by rw [← hAe]; exact Or.inr h
  have hS : va_S A s.heap s.heap [] := va_S.rf
  have hl := lv_entry ([.ref h0, .int v1]) (n := 2) (Nat.le_of_ble_eq_true rfl)
  rw [lg_entry_eq]
  generalize (lg_sl ([.ref h0, .int v1]) ++ List.replicate (2 - (lg_sl ([.ref h0, .int v1])).length) Slot.unset).toArray = ls at hl ⊢
  have hl : lv_has ls 2 [(0, .ref h0), (1, .int v1)] := hl
  have hP : va_P D vwCl [(h0, .inr (11, [.ref h_tape, .ref h_reader, .ref h_now, .ref h_trial, .ref h_images, .ref h_imageKept, .ref h_slots, .ref h_night, .ref h_otherNight, .ref h_circle, .ref h_words, .ref h_lawSearch, .ref h_placeSearch, .ref h_drawnNight])), (h_night, .inr (4, [.ref h_night_tones, .ref h_night_lasts, .ref h_night_answers, .ref h_night_pip])), (h_now, .inr (8, [.int v_now_tones, .int v_now_a, .int v_now_b, .int v_now_c, .int v_now_d, .int v_now_odds, .int v_now_lines, .ref h_now_signs, .int v_now_signCount, .ref h_now_posts, .int v_now_postCount, .ref h_now_acts])), (h_night_answers, .inl (cI, 61, .inl f_night_answers)), (h_night_lasts, .inl (cI, 61, .inl f_night_lasts)), (h_night_pip, .inl (cZ, 61, .inl f_night_pip)), (h_night_tones, .inl (cI, 61, .inl f_night_tones)), (h_now_acts, .inr (0, [.ref h_now_acts_over, .ref h_now_acts_steps, .ref h_now_acts_before, .int v_now_acts_size])), (h_now_signs, .inl (cI, 8, .inl f_now_signs)), (h_now_acts_over, .inl (cI, 61, .inl f_now_acts_over))] s.heap := hP
  refine lv_aload_n hx hb dX11_heard_0 rfl (lv_at hl 0 rfl) ?_
  refine lv_iload_n hx hb dX11_heard_1 rfl (lv_at hl 1 rfl) ?_
  refine roi (As := [.int v1]) (rest := []) ⟨hx, hb, hml, hown, hts⟩ (b_X11_noStep l G D cB cI cJ cZ cS cT h0 h_tape h_reader h_now h_trial h_images h_imageKept h_slots h_night h_otherNight h_circle h_words h_lawSearch h_placeSearch h_drawnNight v_now_tones v_now_a v_now_b v_now_c v_now_d v_now_odds v_now_lines h_now_signs v_now_signCount h_now_posts v_now_postCount h_now_acts v1 (by first | assumption | omega | decide) (by first | assumption | omega | decide)) (cvB (n := 1) (inr22 _ (List.mem_of_getElem? (i := 6) rfl)) (inr22 _ (List.mem_of_getElem? (i := 7) rfl)) (inr22 _ (List.mem_of_getElem? (i := 8) rfl)) (inr1 _ (List.mem_of_getElem? (i := 2) rfl)) (inr22 _ (List.mem_of_getElem? (i := 9) rfl)) (by decide +kernel) hts rfl rfl ⟨Nat.le_of_ble_eq_true rfl, Nat.le_of_ble_eq_true rfl⟩) 0 11 rfl rfl rfl (hP.sub [0, 2] rfl) hK hN (kT.to hT hS hAB) rfl hl.1 rfl (Nat.le_of_ble_eq_true rfl) ⟨Nat.le_of_ble_eq_true rfl, Nat.le_of_ble_eq_true rfl⟩ dX11_heard_2 (fun r_1 h_2 => ?_)
  have h_2 : (r_1 = 0 ∨ r_1 = 1) := h_2
  have i_3 := h_2
  have ar_1 : 0 ≤ r_1.toInt ∧ r_1.toInt ≤ 1 := by rcases i_3 with h | h <;> rw [h] <;> decide
  refine lv_if_eq (tgt := 13) hx hb dX11_heard_5 (by decide) (fun c_4 => ?_) (fun c_4 => ?_)
  · have c_4 : r_1.toInt = 0 := ci_eq_t c_4
    have b_r_1 := i32b r_1
    refine lv_aload_n hx hb dX11_heard_13 rfl (lv_at hl 0 rfl) ?_
    refine wrVq (As := []) (rest := []) (wr := []) ⟨hx, hb, hml, hown, hts⟩ (b_X11_tonight l G D cB cI cJ cZ cS cT s.heap.size h0 h_tape h_reader h_now h_trial h_images h_imageKept h_slots h_night h_otherNight h_circle h_words h_lawSearch h_placeSearch h_drawnNight h_night_tones h_night_lasts h_night_answers h_night_pip v_now_tones v_now_a v_now_b v_now_c v_now_d v_now_odds v_now_lines h_now_signs v_now_signCount h_now_posts v_now_postCount h_now_acts f_night_answers f_night_lasts f_night_pip f_night_tones h_now_acts_over h_now_acts_steps h_now_acts_before v_now_acts_size f_now_signs f_now_acts_over (by first | assumption | omega | decide) (by first | assumption | omega | decide) (by first | assumption | omega | decide)) hP hD hS hA hK hN hT hAB hG [0, 1, 2, 3, 4, 5, 6, 7, 8, 9] [] rfl rfl (by decide) (by decide) (by decide) (cvB (n := 0) (inr22 _ (List.mem_of_getElem? (i := 15) rfl)) (inr22 _ (List.mem_of_getElem? (i := 16) rfl)) (inr22 _ (List.mem_of_getElem? (i := 17) rfl)) (inr1 _ (List.mem_of_getElem? (i := 2) rfl)) (inr22 _ (List.mem_of_getElem? (i := 18) rfl)) (by decide +kernel) hts rfl rfl ⟨Nat.le_of_ble_eq_true rfl, Nat.le_of_ble_eq_true rfl⟩) 0 11 rfl rfl rfl rfl hl.1 rfl (Nat.le_of_ble_eq_true rfl) ⟨Nat.le_of_ble_eq_true rfl, Nat.le_of_ble_eq_true rfl⟩ dX11_heard_14 (fun r_5 x9 H locs h_6 hP hD hS => ?_)
    obtain ⟨g_7, g_8, g_9, g_10⟩ := x9
    have hP : va_P D vwCl [(h0, .inr (11, [.ref h_tape, .ref h_reader, .ref h_now, .ref h_trial, .ref h_images, .ref h_imageKept, .ref h_slots, .ref h_night, .ref h_otherNight, .ref h_circle, .ref h_words, .ref h_lawSearch, .ref h_placeSearch, .ref h_drawnNight])), (h_night, .inr (4, [.ref h_night_tones, .ref h_night_lasts, .ref h_night_answers, .ref h_night_pip])), (h_now, .inr (8, [.int v_now_tones, .int v_now_a, .int v_now_b, .int v_now_c, .int v_now_d, .int v_now_odds, .int v_now_lines, .ref h_now_signs, .int v_now_signCount, .ref h_now_posts, .int v_now_postCount, .ref h_now_acts])), (h_night_answers, .inl (cI, 61, .inl g_7)), (h_night_lasts, .inl (cI, 61, .inl g_8)), (h_night_pip, .inl (cZ, 61, .inl g_9)), (h_night_tones, .inl (cI, 61, .inl g_10)), (h_now_acts, .inr (0, [.ref h_now_acts_over, .ref h_now_acts_steps, .ref h_now_acts_before, .int v_now_acts_size])), (h_now_signs, .inl (cI, 8, .inl f_now_signs)), (h_now_acts_over, .inl (cI, 61, .inl f_now_acts_over))] H := hP
    have hD : va_D A [(h0, .inr (11, [.ref h_tape, .ref h_reader, .ref h_now, .ref h_trial, .ref h_images, .ref h_imageKept, .ref h_slots, .ref h_night, .ref h_otherNight, .ref h_circle, .ref h_words, .ref h_lawSearch, .ref h_placeSearch, .ref h_drawnNight])), (h_night, .inr (4, [.ref h_night_tones, .ref h_night_lasts, .ref h_night_answers, .ref h_night_pip])), (h_now, .inr (8, [.int v_now_tones, .int v_now_a, .int v_now_b, .int v_now_c, .int v_now_d, .int v_now_odds, .int v_now_lines, .ref h_now_signs, .int v_now_signCount, .ref h_now_posts, .int v_now_postCount, .ref h_now_acts])), (h_night_answers, .inl (cI, 61, .inl g_7)), (h_night_lasts, .inl (cI, 61, .inl g_8)), (h_night_pip, .inl (cZ, 61, .inl g_9)), (h_night_tones, .inl (cI, 61, .inl g_10)), (h_now_acts, .inr (0, [.ref h_now_acts_over, .ref h_now_acts_steps, .ref h_now_acts_before, .int v_now_acts_size])), (h_now_signs, .inl (cI, 8, .inl f_now_signs)), (h_now_acts_over, .inl (cI, 61, .inl f_now_acts_over))] := hD
    have h_6 : (r_5 = some h_night) := h_6
    have i_11 := h_6
    obtain rfl := i_11
    refine W.eq (g2 := F0 m 17 ls [.ref h_night]) rfl ?_
    refine lv_iload_n hx hb dX11_heard_17 rfl (lv_at hl 1 rfl) ?_
    refine roi (As := [.int v1]) (rest := []) ⟨hx, hb, hml, hown, hts⟩ (b_X4_heardAt l G D cB cI cJ cZ cS cT h_night h_night_tones h_night_lasts h_night_answers h_night_pip g_10 v1 ) (cvB (n := 1) (inr23 _ (List.mem_of_getElem? (i := 15) rfl)) (inr23 _ (List.mem_of_getElem? (i := 16) rfl)) (inr23 _ (List.mem_of_getElem? (i := 17) rfl)) (inr2 _ (List.mem_of_getElem? (i := 11) rfl)) (inr23 _ (List.mem_of_getElem? (i := 18) rfl)) (by decide +kernel) hts rfl rfl ⟨Nat.le_of_ble_eq_true rfl, Nat.le_of_ble_eq_true rfl⟩) 0 4 rfl rfl rfl (hP.sub [1, 6] rfl) hK hN (kT.to hT hS hAB) rfl hl.1 rfl (Nat.le_of_ble_eq_true rfl) ⟨Nat.le_of_ble_eq_true rfl, Nat.le_of_ble_eq_true rfl⟩ dX11_heard_18 (fun r_12 h_13 => ?_)
    exact ret _ _ _ _ _ (g_7, g_8, g_9, g_10) dX11_heard_21 trivial (hP.sub [0, 1, 2, 3, 4, 5, 6, 7, 8, 9] rfl) (hD.sub [0, 1, 2, 3, 4, 5, 6, 7, 8, 9] (by decide) rfl) hS
  · have c_4 : ¬ r_1.toInt = 0 := ci_eq_f c_4
    have b_r_1 := i32b r_1
    refine lv_bipush (v := (-2)) hx hb dX11_heard_8 (by decide) ?_
    refine lv_goto (tgt := 21) hx hb dX11_heard_10 (by decide) ?_
    exact ret _ _ _ _ _ (f_night_answers, f_night_lasts, f_night_pip, f_night_tones) dX11_heard_21 trivial (hP.sub [0, 1, 2, 3, 4, 5, 6, 7, 8, 9] rfl) (hD.sub [0, 1, 2, 3, 4, 5, 6, 7, 8, 9] (by decide) rfl) hS

set_option maxHeartbeats 4000000 in
set_option maxRecDepth 100000 in
theorem b_X11_last (l : Launch) (G : Gho) (D : va_G) (cB cI cJ cZ cS cT : ClassId) (sz : Nat) (h0 : Nat) (h_tape : Nat) (h_reader : Nat) (h_now : Nat) (h_trial : Nat) (h_images : Nat) (h_imageKept : Nat) (h_slots : Nat) (h_night : Nat) (h_otherNight : Nat) (h_circle : Nat) (h_words : Nat) (h_lawSearch : Nat) (h_placeSearch : Nat) (h_drawnNight : Nat) (h_night_tones : Nat) (h_night_lasts : Nat) (h_night_answers : Nat) (h_night_pip : Nat) (v_now_tones : Int32) (v_now_a : Int32) (v_now_b : Int32) (v_now_c : Int32) (v_now_d : Int32) (v_now_odds : Int32) (v_now_lines : Int32) (h_now_signs : Nat) (v_now_signCount : Int32) (h_now_posts : Nat) (v_now_postCount : Int32) (h_now_acts : Nat) (f_night_answers : Nat → Int32) (f_night_lasts : Nat → Int32) (f_night_pip : Nat → Int32) (f_night_tones : Nat → Int32) (h_now_acts_over : Nat) (h_now_acts_steps : Nat) (h_now_acts_before : Nat) (v_now_acts_size : Int32) (f_now_signs : Nat → Int32) (f_now_acts_over : Nat → Int32) (v1 : Int32) (iv_now_signCount : 0 ≤ v_now_signCount.toInt ∧ v_now_signCount.toInt ≤ 8) (iv_now_postCount : 0 ≤ v_now_postCount.toInt ∧ v_now_postCount.toInt ≤ 5) (iv_now_acts_size : 0 ≤ v_now_acts_size.toInt ∧ v_now_acts_size.toInt ≤ 30) : Met l yX11_last (Cond.code yX11_last cX11_last 2 (some .int) :: wsL_law) ({ frames := 4, cells := 0, slots := 0, locals := 96 }) (wrP G D (tyL cB cI cJ cZ cS cT) [(h0, .inr (11, [.ref h_tape, .ref h_reader, .ref h_now, .ref h_trial, .ref h_images, .ref h_imageKept, .ref h_slots, .ref h_night, .ref h_otherNight, .ref h_circle, .ref h_words, .ref h_lawSearch, .ref h_placeSearch, .ref h_drawnNight])), (h_night, .inr (4, [.ref h_night_tones, .ref h_night_lasts, .ref h_night_answers, .ref h_night_pip])), (h_now, .inr (8, [.int v_now_tones, .int v_now_a, .int v_now_b, .int v_now_c, .int v_now_d, .int v_now_odds, .int v_now_lines, .ref h_now_signs, .int v_now_signCount, .ref h_now_posts, .int v_now_postCount, .ref h_now_acts])), (h_night_answers, .inl (cI, 61, .inl f_night_answers)), (h_night_lasts, .inl (cI, 61, .inl f_night_lasts)), (h_night_pip, .inl (cZ, 61, .inl f_night_pip)), (h_night_tones, .inl (cI, 61, .inl f_night_tones)), (h_now_acts, .inr (0, [.ref h_now_acts_over, .ref h_now_acts_steps, .ref h_now_acts_before, .int v_now_acts_size])), (h_now_signs, .inl (cI, 8, .inl f_now_signs)), (h_now_acts_over, .inl (cI, 61, .inl f_now_acts_over))] sz [.ref h0, .int v1]) (va_Qi (fun (r : Int32) (x : (Nat → Int32) × (Nat → Int32) × (Nat → Int32) × (Nat → Int32)) => True) (atW D (tyL cB cI cJ cZ cS cT) (va_A [(h0, .inr (11, [.ref h_tape, .ref h_reader, .ref h_now, .ref h_trial, .ref h_images, .ref h_imageKept, .ref h_slots, .ref h_night, .ref h_otherNight, .ref h_circle, .ref h_words, .ref h_lawSearch, .ref h_placeSearch, .ref h_drawnNight])), (h_night, .inr (4, [.ref h_night_tones, .ref h_night_lasts, .ref h_night_answers, .ref h_night_pip])), (h_now, .inr (8, [.int v_now_tones, .int v_now_a, .int v_now_b, .int v_now_c, .int v_now_d, .int v_now_odds, .int v_now_lines, .ref h_now_signs, .int v_now_signCount, .ref h_now_posts, .int v_now_postCount, .ref h_now_acts])), (h_night_answers, .inl (cI, 61, .inl f_night_answers)), (h_night_lasts, .inl (cI, 61, .inl f_night_lasts)), (h_night_pip, .inl (cZ, 61, .inl f_night_pip)), (h_night_tones, .inl (cI, 61, .inl f_night_tones)), (h_now_acts, .inr (0, [.ref h_now_acts_over, .ref h_now_acts_steps, .ref h_now_acts_before, .int v_now_acts_size])), (h_now_signs, .inl (cI, 8, .inl f_now_signs)), (h_now_acts_over, .inl (cI, 61, .inl f_now_acts_over))] sz) (fun x : (Nat → Int32) × (Nat → Int32) × (Nat → Int32) × (Nat → Int32) => [(h0, .inr (11, [.ref h_tape, .ref h_reader, .ref h_now, .ref h_trial, .ref h_images, .ref h_imageKept, .ref h_slots, .ref h_night, .ref h_otherNight, .ref h_circle, .ref h_words, .ref h_lawSearch, .ref h_placeSearch, .ref h_drawnNight])), (h_night, .inr (4, [.ref h_night_tones, .ref h_night_lasts, .ref h_night_answers, .ref h_night_pip])), (h_now, .inr (8, [.int v_now_tones, .int v_now_a, .int v_now_b, .int v_now_c, .int v_now_d, .int v_now_odds, .int v_now_lines, .ref h_now_signs, .int v_now_signCount, .ref h_now_posts, .int v_now_postCount, .ref h_now_acts])), (h_night_answers, .inl (cI, 61, .inl x.1)), (h_night_lasts, .inl (cI, 61, .inl x.2.1)), (h_night_pip, .inl (cZ, 61, .inl x.2.2.1)), (h_night_tones, .inl (cI, 61, .inl x.2.2.2)), (h_now_acts, .inr (0, [.ref h_now_acts_over, .ref h_now_acts_steps, .ref h_now_acts_before, .int v_now_acts_size])), (h_now_signs, .inl (cI, 8, .inl f_now_signs)), (h_now_acts_over, .inl (cI, 61, .inl f_now_acts_over))])) (va_A [(h0, .inr (11, [.ref h_tape, .ref h_reader, .ref h_now, .ref h_trial, .ref h_images, .ref h_imageKept, .ref h_slots, .ref h_night, .ref h_otherNight, .ref h_circle, .ref h_words, .ref h_lawSearch, .ref h_placeSearch, .ref h_drawnNight])), (h_night, .inr (4, [.ref h_night_tones, .ref h_night_lasts, .ref h_night_answers, .ref h_night_pip])), (h_now, .inr (8, [.int v_now_tones, .int v_now_a, .int v_now_b, .int v_now_c, .int v_now_d, .int v_now_odds, .int v_now_lines, .ref h_now_signs, .int v_now_signCount, .ref h_now_posts, .int v_now_postCount, .ref h_now_acts])), (h_night_answers, .inl (cI, 61, .inl f_night_answers)), (h_night_lasts, .inl (cI, 61, .inl f_night_lasts)), (h_night_pip, .inl (cZ, 61, .inl f_night_pip)), (h_night_tones, .inl (cI, 61, .inl f_night_tones)), (h_now_acts, .inr (0, [.ref h_now_acts_over, .ref h_now_acts_steps, .ref h_now_acts_before, .int v_now_acts_size])), (h_now_signs, .inl (cI, 8, .inl f_now_signs)), (h_now_acts_over, .inl (cI, 61, .inl f_now_acts_over))] sz)) 0 0 (va_A [(h0, .inr (11, [.ref h_tape, .ref h_reader, .ref h_now, .ref h_trial, .ref h_images, .ref h_imageKept, .ref h_slots, .ref h_night, .ref h_otherNight, .ref h_circle, .ref h_words, .ref h_lawSearch, .ref h_placeSearch, .ref h_drawnNight])), (h_night, .inr (4, [.ref h_night_tones, .ref h_night_lasts, .ref h_night_answers, .ref h_night_pip])), (h_now, .inr (8, [.int v_now_tones, .int v_now_a, .int v_now_b, .int v_now_c, .int v_now_d, .int v_now_odds, .int v_now_lines, .ref h_now_signs, .int v_now_signCount, .ref h_now_posts, .int v_now_postCount, .ref h_now_acts])), (h_night_answers, .inl (cI, 61, .inl f_night_answers)), (h_night_lasts, .inl (cI, 61, .inl f_night_lasts)), (h_night_pip, .inl (cZ, 61, .inl f_night_pip)), (h_night_tones, .inl (cI, 61, .inl f_night_tones)), (h_now_acts, .inr (0, [.ref h_now_acts_over, .ref h_now_acts_steps, .ref h_now_acts_before, .int v_now_acts_size])), (h_now_signs, .inl (cI, 8, .inl f_now_signs)), (h_now_acts_over, .inl (cI, 61, .inl f_now_acts_over))] sz) := by
  refine metI (own := RX11) (by decide) rfl ?_
  intro p e s m below meth c Q hsz C hG hP hD hAB ret
  obtain ⟨hx, hb, hml, hown, hts, hK, hN, hT⟩ := id C
  subst hsz
  generalize hAe : va_A [(h0, .inr (11, [.ref h_tape, .ref h_reader, .ref h_now, .ref h_trial, .ref h_images, .ref h_imageKept, .ref h_slots, .ref h_night, .ref h_otherNight, .ref h_circle, .ref h_words, .ref h_lawSearch, .ref h_placeSearch, .ref h_drawnNight])), (h_night, .inr (4, [.ref h_night_tones, .ref h_night_lasts, .ref h_night_answers, .ref h_night_pip])), (h_now, .inr (8, [.int v_now_tones, .int v_now_a, .int v_now_b, .int v_now_c, .int v_now_d, .int v_now_odds, .int v_now_lines, .ref h_now_signs, .int v_now_signCount, .ref h_now_posts, .int v_now_postCount, .ref h_now_acts])), (h_night_answers, .inl (cI, 61, .inl f_night_answers)), (h_night_lasts, .inl (cI, 61, .inl f_night_lasts)), (h_night_pip, .inl (cZ, 61, .inl f_night_pip)), (h_night_tones, .inl (cI, 61, .inl f_night_tones)), (h_now_acts, .inr (0, [.ref h_now_acts_over, .ref h_now_acts_steps, .ref h_now_acts_before, .int v_now_acts_size])), (h_now_signs, .inl (cI, 8, .inl f_now_signs)), (h_now_acts_over, .inl (cI, 61, .inl f_now_acts_over))] s.heap.size = A at hD hAB ret ⊢
  have hA : ∀ q : Nat, s.heap.size ≤ q → A q := fun q h => by rw [← hAe]; exact Or.inr h
  have hS : va_S A s.heap s.heap [] := va_S.rf
  have hl := lv_entry ([.ref h0, .int v1]) (n := 2) (Nat.le_of_ble_eq_true rfl)
  rw [lg_entry_eq]
  generalize (lg_sl ([.ref h0, .int v1]) ++ List.replicate (2 - (lg_sl ([.ref h0, .int v1])).length) Slot.unset).toArray = ls at hl ⊢
  have hl : lv_has ls 2 [(0, .ref h0), (1, .int v1)] := hl
  have hP : va_P D vwCl [(h0, .inr (11, [.ref h_tape, .ref h_reader, .ref h_now, .ref h_trial, .ref h_images, .ref h_imageKept, .ref h_slots, .ref h_night, .ref h_otherNight, .ref h_circle, .ref h_words, .ref h_lawSearch, .ref h_placeSearch, .ref h_drawnNight])), (h_night, .inr (4, [.ref h_night_tones, .ref h_night_lasts, .ref h_night_answers, .ref h_night_pip])), (h_now, .inr (8, [.int v_now_tones, .int v_now_a, .int v_now_b, .int v_now_c, .int v_now_d, .int v_now_odds, .int v_now_lines, .ref h_now_signs, .int v_now_signCount, .ref h_now_posts, .int v_now_postCount, .ref h_now_acts])), (h_night_answers, .inl (cI, 61, .inl f_night_answers)), (h_night_lasts, .inl (cI, 61, .inl f_night_lasts)), (h_night_pip, .inl (cZ, 61, .inl f_night_pip)), (h_night_tones, .inl (cI, 61, .inl f_night_tones)), (h_now_acts, .inr (0, [.ref h_now_acts_over, .ref h_now_acts_steps, .ref h_now_acts_before, .int v_now_acts_size])), (h_now_signs, .inl (cI, 8, .inl f_now_signs)), (h_now_acts_over, .inl (cI, 61, .inl f_now_acts_over))] s.heap := hP
  refine lv_aload_n hx hb dX11_last_0 rfl (lv_at hl 0 rfl) ?_
  refine lv_iload_n hx hb dX11_last_1 rfl (lv_at hl 1 rfl) ?_
  refine roi (As := [.int v1]) (rest := []) ⟨hx, hb, hml, hown, hts⟩ (b_X11_noStep l G D cB cI cJ cZ cS cT h0 h_tape h_reader h_now h_trial h_images h_imageKept h_slots h_night h_otherNight h_circle h_words h_lawSearch h_placeSearch h_drawnNight v_now_tones v_now_a v_now_b v_now_c v_now_d v_now_odds v_now_lines h_now_signs v_now_signCount h_now_posts v_now_postCount h_now_acts v1 (by first | assumption | omega | decide) (by first | assumption | omega | decide)) (cvB (n := 1) (inr22 _ (List.mem_of_getElem? (i := 6) rfl)) (inr22 _ (List.mem_of_getElem? (i := 7) rfl)) (inr22 _ (List.mem_of_getElem? (i := 8) rfl)) (inr1 _ (List.mem_of_getElem? (i := 2) rfl)) (inr22 _ (List.mem_of_getElem? (i := 9) rfl)) (by decide +kernel) hts rfl rfl ⟨Nat.le_of_ble_eq_true rfl, Nat.le_of_ble_eq_true rfl⟩) 0 11 rfl rfl rfl (hP.sub [0, 2] rfl) hK hN (kT.to hT hS hAB) rfl hl.1 rfl (Nat.le_of_ble_eq_true rfl) ⟨Nat.le_of_ble_eq_true rfl, Nat.le_of_ble_eq_true rfl⟩ dX11_last_2 (fun r_1 h_2 => ?_)
  have h_2 : (r_1 = 0 ∨ r_1 = 1) := h_2
  have i_3 := h_2
  have ar_1 : 0 ≤ r_1.toInt ∧ r_1.toInt ≤ 1 := by rcases i_3 with h | h <;> rw [h] <;> decide
  refine lv_if_eq (tgt := 13) hx hb dX11_last_5 (by decide) (fun c_4 => ?_) (fun c_4 => ?_)
  · have c_4 : r_1.toInt = 0 := ci_eq_t c_4
    have b_r_1 := i32b r_1
    refine lv_aload_n hx hb dX11_last_13 rfl (lv_at hl 0 rfl) ?_
    refine wrVq (As := []) (rest := []) (wr := []) ⟨hx, hb, hml, hown, hts⟩ (b_X11_tonight l G D cB cI cJ cZ cS cT s.heap.size h0 h_tape h_reader h_now h_trial h_images h_imageKept h_slots h_night h_otherNight h_circle h_words h_lawSearch h_placeSearch h_drawnNight h_night_tones h_night_lasts h_night_answers h_night_pip v_now_tones v_now_a v_now_b v_now_c v_now_d v_now_odds v_now_lines h_now_signs v_now_signCount h_now_posts v_now_postCount h_now_acts f_night_answers f_night_lasts f_night_pip f_night_tones h_now_acts_over h_now_acts_steps h_now_acts_before v_now_acts_size f_now_signs f_now_acts_over (by first | assumption | omega | decide) (by first | assumption | omega | decide) (by first | assumption | omega | decide)) hP hD hS hA hK hN hT hAB hG [0, 1, 2, 3, 4, 5, 6, 7, 8, 9] [] rfl rfl (by decide) (by decide) (by decide) (cvB (n := 0) (inr22 _ (List.mem_of_getElem? (i := 15) rfl)) (inr22 _ (List.mem_of_getElem? (i := 16) rfl)) (inr22 _ (List.mem_of_getElem? (i := 17) rfl)) (inr1 _ (List.mem_of_getElem? (i := 2) rfl)) (inr22 _ (List.mem_of_getElem? (i := 18) rfl)) (by decide +kernel) hts rfl rfl ⟨Nat.le_of_ble_eq_true rfl, Nat.le_of_ble_eq_true rfl⟩) 0 11 rfl rfl rfl rfl hl.1 rfl (Nat.le_of_ble_eq_true rfl) ⟨Nat.le_of_ble_eq_true rfl, Nat.le_of_ble_eq_true rfl⟩ dX11_last_14 (fun r_5 x9 H locs h_6 hP hD hS => ?_)
    obtain ⟨g_7, g_8, g_9, g_10⟩ := x9
    have hP : va_P D vwCl [(h0, .inr (11, [.ref h_tape, .ref h_reader, .ref h_now, .ref h_trial, .ref h_images, .ref h_imageKept, .ref h_slots, .ref h_night, .ref h_otherNight, .ref h_circle, .ref h_words, .ref h_lawSearch, .ref h_placeSearch, .ref h_drawnNight])), (h_night, .inr (4, [.ref h_night_tones, .ref h_night_lasts, .ref h_night_answers, .ref h_night_pip])), (h_now, .inr (8, [.int v_now_tones, .int v_now_a, .int v_now_b, .int v_now_c, .int v_now_d, .int v_now_odds, .int v_now_lines, .ref h_now_signs, .int v_now_signCount, .ref h_now_posts, .int v_now_postCount, .ref h_now_acts])), (h_night_answers, .inl (cI, 61, .inl g_7)), (h_night_lasts, .inl (cI, 61, .inl g_8)), (h_night_pip, .inl (cZ, 61, .inl g_9)), (h_night_tones, .inl (cI, 61, .inl g_10)), (h_now_acts, .inr (0, [.ref h_now_acts_over, .ref h_now_acts_steps, .ref h_now_acts_before, .int v_now_acts_size])), (h_now_signs, .inl (cI, 8, .inl f_now_signs)), (h_now_acts_over, .inl (cI, 61, .inl f_now_acts_over))] H := hP
    have hD : va_D A [(h0, .inr (11, [.ref h_tape, .ref h_reader, .ref h_now, .ref h_trial, .ref h_images, .ref h_imageKept, .ref h_slots, .ref h_night, .ref h_otherNight, .ref h_circle, .ref h_words, .ref h_lawSearch, .ref h_placeSearch, .ref h_drawnNight])), (h_night, .inr (4, [.ref h_night_tones, .ref h_night_lasts, .ref h_night_answers, .ref h_night_pip])), (h_now, .inr (8, [.int v_now_tones, .int v_now_a, .int v_now_b, .int v_now_c, .int v_now_d, .int v_now_odds, .int v_now_lines, .ref h_now_signs, .int v_now_signCount, .ref h_now_posts, .int v_now_postCount, .ref h_now_acts])), (h_night_answers, .inl (cI, 61, .inl g_7)), (h_night_lasts, .inl (cI, 61, .inl g_8)), (h_night_pip, .inl (cZ, 61, .inl g_9)), (h_night_tones, .inl (cI, 61, .inl g_10)), (h_now_acts, .inr (0, [.ref h_now_acts_over, .ref h_now_acts_steps, .ref h_now_acts_before, .int v_now_acts_size])), (h_now_signs, .inl (cI, 8, .inl f_now_signs)), (h_now_acts_over, .inl (cI, 61, .inl f_now_acts_over))] := hD
    have h_6 : (r_5 = some h_night) := h_6
    have i_11 := h_6
    obtain rfl := i_11
    refine W.eq (g2 := F0 m 17 ls [.ref h_night]) rfl ?_
    refine lv_iload_n hx hb dX11_last_17 rfl (lv_at hl 1 rfl) ?_
    refine roi (As := [.int v1]) (rest := []) ⟨hx, hb, hml, hown, hts⟩ (b_X4_lastAhead l G D cB cI cJ cZ cS cT h_night h_night_tones h_night_lasts h_night_answers h_night_pip g_8 v1 ) (cvB (n := 1) (inr26 _ (List.mem_of_getElem? (i := 14) rfl)) (inr26 _ (List.mem_of_getElem? (i := 15) rfl)) (inr26 _ (List.mem_of_getElem? (i := 16) rfl)) (inr2 _ (List.mem_of_getElem? (i := 11) rfl)) (inr26 _ (List.mem_of_getElem? (i := 17) rfl)) (by decide +kernel) hts rfl rfl ⟨Nat.le_of_ble_eq_true rfl, Nat.le_of_ble_eq_true rfl⟩) 0 4 rfl rfl rfl (hP.sub [1, 4] rfl) hK hN (kT.to hT hS hAB) rfl hl.1 rfl (Nat.le_of_ble_eq_true rfl) ⟨Nat.le_of_ble_eq_true rfl, Nat.le_of_ble_eq_true rfl⟩ dX11_last_18 (fun r_12 h_13 => ?_)
    exact ret _ _ _ _ _ (g_7, g_8, g_9, g_10) dX11_last_21 trivial (hP.sub [0, 1, 2, 3, 4, 5, 6, 7, 8, 9] rfl) (hD.sub [0, 1, 2, 3, 4, 5, 6, 7, 8, 9] (by decide) rfl) hS
  · have c_4 : ¬ r_1.toInt = 0 := ci_eq_f c_4
    have b_r_1 := i32b r_1
    refine lv_bipush (v := (-2)) hx hb dX11_last_8 (by decide) ?_
    refine lv_goto (tgt := 21) hx hb dX11_last_10 (by decide) ?_
    exact ret _ _ _ _ _ (f_night_answers, f_night_lasts, f_night_pip, f_night_tones) dX11_last_21 trivial (hP.sub [0, 1, 2, 3, 4, 5, 6, 7, 8, 9] rfl) (hD.sub [0, 1, 2, 3, 4, 5, 6, 7, 8, 9] (by decide) rfl) hS

set_option maxHeartbeats 4000000 in
set_option maxRecDepth 100000 in
theorem b_X11_answer (l : Launch) (G : Gho) (D : va_G) (cB cI cJ cZ cS cT : ClassId) (sz : Nat) (h0 : Nat) (h_tape : Nat) (h_reader : Nat) (h_now : Nat) (h_trial : Nat) (h_images : Nat) (h_imageKept : Nat) (h_slots : Nat) (h_night : Nat) (h_otherNight : Nat) (h_circle : Nat) (h_words : Nat) (h_lawSearch : Nat) (h_placeSearch : Nat) (h_drawnNight : Nat) (h_night_tones : Nat) (h_night_lasts : Nat) (h_night_answers : Nat) (h_night_pip : Nat) (v_now_tones : Int32) (v_now_a : Int32) (v_now_b : Int32) (v_now_c : Int32) (v_now_d : Int32) (v_now_odds : Int32) (v_now_lines : Int32) (h_now_signs : Nat) (v_now_signCount : Int32) (h_now_posts : Nat) (v_now_postCount : Int32) (h_now_acts : Nat) (f_night_answers : Nat → Int32) (f_night_lasts : Nat → Int32) (f_night_pip : Nat → Int32) (f_night_tones : Nat → Int32) (h_now_acts_over : Nat) (h_now_acts_steps : Nat) (h_now_acts_before : Nat) (v_now_acts_size : Int32) (f_now_signs : Nat → Int32) (f_now_acts_over : Nat → Int32) (v1 : Int32) (iv_now_signCount : 0 ≤ v_now_signCount.toInt ∧ v_now_signCount.toInt ≤ 8) (iv_now_postCount : 0 ≤ v_now_postCount.toInt ∧ v_now_postCount.toInt ≤ 5) (iv_now_acts_size : 0 ≤ v_now_acts_size.toInt ∧ v_now_acts_size.toInt ≤ 30) : Met l yX11_answer (Cond.code yX11_answer cX11_answer 2 (some .int) :: wsL_law) ({ frames := 4, cells := 0, slots := 0, locals := 96 }) (wrP G D (tyL cB cI cJ cZ cS cT) [(h0, .inr (11, [.ref h_tape, .ref h_reader, .ref h_now, .ref h_trial, .ref h_images, .ref h_imageKept, .ref h_slots, .ref h_night, .ref h_otherNight, .ref h_circle, .ref h_words, .ref h_lawSearch, .ref h_placeSearch, .ref h_drawnNight])), (h_night, .inr (4, [.ref h_night_tones, .ref h_night_lasts, .ref h_night_answers, .ref h_night_pip])), (h_now, .inr (8, [.int v_now_tones, .int v_now_a, .int v_now_b, .int v_now_c, .int v_now_d, .int v_now_odds, .int v_now_lines, .ref h_now_signs, .int v_now_signCount, .ref h_now_posts, .int v_now_postCount, .ref h_now_acts])), (h_night_answers, .inl (cI, 61, .inl f_night_answers)), (h_night_lasts, .inl (cI, 61, .inl f_night_lasts)), (h_night_pip, .inl (cZ, 61, .inl f_night_pip)), (h_night_tones, .inl (cI, 61, .inl f_night_tones)), (h_now_acts, .inr (0, [.ref h_now_acts_over, .ref h_now_acts_steps, .ref h_now_acts_before, .int v_now_acts_size])), (h_now_signs, .inl (cI, 8, .inl f_now_signs)), (h_now_acts_over, .inl (cI, 61, .inl f_now_acts_over))] sz [.ref h0, .int v1]) (va_Qi (fun (r : Int32) (x : (Nat → Int32) × (Nat → Int32) × (Nat → Int32) × (Nat → Int32)) => True) (atW D (tyL cB cI cJ cZ cS cT) (va_A [(h0, .inr (11, [.ref h_tape, .ref h_reader, .ref h_now, .ref h_trial, .ref h_images, .ref h_imageKept, .ref h_slots, .ref h_night, .ref h_otherNight, .ref h_circle, .ref h_words, .ref h_lawSearch, .ref h_placeSearch, .ref h_drawnNight])), (h_night, .inr (4, [.ref h_night_tones, .ref h_night_lasts, .ref h_night_answers, .ref h_night_pip])), (h_now, .inr (8, [.int v_now_tones, .int v_now_a, .int v_now_b, .int v_now_c, .int v_now_d, .int v_now_odds, .int v_now_lines, .ref h_now_signs, .int v_now_signCount, .ref h_now_posts, .int v_now_postCount, .ref h_now_acts])), (h_night_answers, .inl (cI, 61, .inl f_night_answers)), (h_night_lasts, .inl (cI, 61, .inl f_night_lasts)), (h_night_pip, .inl (cZ, 61, .inl f_night_pip)), (h_night_tones, .inl (cI, 61, .inl f_night_tones)), (h_now_acts, .inr (0, [.ref h_now_acts_over, .ref h_now_acts_steps, .ref h_now_acts_before, .int v_now_acts_size])), (h_now_signs, .inl (cI, 8, .inl f_now_signs)), (h_now_acts_over, .inl (cI, 61, .inl f_now_acts_over))] sz) (fun x : (Nat → Int32) × (Nat → Int32) × (Nat → Int32) × (Nat → Int32) => [(h0, .inr (11, [.ref h_tape, .ref h_reader, .ref h_now, .ref h_trial, .ref h_images, .ref h_imageKept, .ref h_slots, .ref h_night, .ref h_otherNight, .ref h_circle, .ref h_words, .ref h_lawSearch, .ref h_placeSearch, .ref h_drawnNight])), (h_night, .inr (4, [.ref h_night_tones, .ref h_night_lasts, .ref h_night_answers, .ref h_night_pip])), (h_now, .inr (8, [.int v_now_tones, .int v_now_a, .int v_now_b, .int v_now_c, .int v_now_d, .int v_now_odds, .int v_now_lines, .ref h_now_signs, .int v_now_signCount, .ref h_now_posts, .int v_now_postCount, .ref h_now_acts])), (h_night_answers, .inl (cI, 61, .inl x.1)), (h_night_lasts, .inl (cI, 61, .inl x.2.1)), (h_night_pip, .inl (cZ, 61, .inl x.2.2.1)), (h_night_tones, .inl (cI, 61, .inl x.2.2.2)), (h_now_acts, .inr (0, [.ref h_now_acts_over, .ref h_now_acts_steps, .ref h_now_acts_before, .int v_now_acts_size])), (h_now_signs, .inl (cI, 8, .inl f_now_signs)), (h_now_acts_over, .inl (cI, 61, .inl f_now_acts_over))])) (va_A [(h0, .inr (11, [.ref h_tape, .ref h_reader, .ref h_now, .ref h_trial, .ref h_images, .ref h_imageKept, .ref h_slots, .ref h_night, .ref h_otherNight, .ref h_circle, .ref h_words, .ref h_lawSearch, .ref h_placeSearch, .ref h_drawnNight])), (h_night, .inr (4, [.ref h_night_tones, .ref h_night_lasts, .ref h_night_answers, .ref h_night_pip])), (h_now, .inr (8, [.int v_now_tones, .int v_now_a, .int v_now_b, .int v_now_c, .int v_now_d, .int v_now_odds, .int v_now_lines, .ref h_now_signs, .int v_now_signCount, .ref h_now_posts, .int v_now_postCount, .ref h_now_acts])), (h_night_answers, .inl (cI, 61, .inl f_night_answers)), (h_night_lasts, .inl (cI, 61, .inl f_night_lasts)), (h_night_pip, .inl (cZ, 61, .inl f_night_pip)), (h_night_tones, .inl (cI, 61, .inl f_night_tones)), (h_now_acts, .inr (0, [.ref h_now_acts_over, .ref h_now_acts_steps, .ref h_now_acts_before, .int v_now_acts_size])), (h_now_signs, .inl (cI, 8, .inl f_now_signs)), (h_now_acts_over, .inl (cI, 61, .inl f_now_acts_over))] sz)) 0 0 (va_A [(h0, .inr (11, [.ref h_tape, .ref h_reader, .ref h_now, .ref h_trial, .ref h_images, .ref h_imageKept, .ref h_slots, .ref h_night, .ref h_otherNight, .ref h_circle, .ref h_words, .ref h_lawSearch, .ref h_placeSearch, .ref h_drawnNight])), (h_night, .inr (4, [.ref h_night_tones, .ref h_night_lasts, .ref h_night_answers, .ref h_night_pip])), (h_now, .inr (8, [.int v_now_tones, .int v_now_a, .int v_now_b, .int v_now_c, .int v_now_d, .int v_now_odds, .int v_now_lines, .ref h_now_signs, .int v_now_signCount, .ref h_now_posts, .int v_now_postCount, .ref h_now_acts])), (h_night_answers, .inl (cI, 61, .inl f_night_answers)), (h_night_lasts, .inl (cI, 61, .inl f_night_lasts)), (h_night_pip, .inl (cZ, 61, .inl f_night_pip)), (h_night_tones, .inl (cI, 61, .inl f_night_tones)), (h_now_acts, .inr (0, [.ref h_now_acts_over, .ref h_now_acts_steps, .ref h_now_acts_before, .int v_now_acts_size])), (h_now_signs, .inl (cI, 8, .inl f_now_signs)), (h_now_acts_over, .inl (cI, 61, .inl f_now_acts_over))] sz) := by
  refine metI (own := RX11) (by decide) rfl ?_
  intro p e s m below meth c Q hsz C hG hP hD hAB ret
  obtain ⟨hx, hb, hml, hown, hts, hK, hN, hT⟩ := id C
  subst hsz
  generalize hAe : va_A [(h0, .inr (11, [.ref h_tape, .ref h_reader, .ref h_now, .ref h_trial, .ref h_images, .ref h_imageKept, .ref h_slots, .ref h_night, .ref h_otherNight, .ref h_circle, .ref h_words, .ref h_lawSearch, .ref h_placeSearch, .ref h_drawnNight])), (h_night, .inr (4, [.ref h_night_tones, .ref h_night_lasts, .ref h_night_answers, .ref h_night_pip])), (h_now, .inr (8, [.int v_now_tones, .int v_now_a, .int v_now_b, .int v_now_c, .int v_now_d, .int v_now_odds, .int v_now_lines, .ref h_now_signs, .int v_now_signCount, .ref h_now_posts, .int v_now_postCount, .ref h_now_acts])), (h_night_answers, .inl (cI, 61, .inl f_night_answers)), (h_night_lasts, .inl (cI, 61, .inl f_night_lasts)), (h_night_pip, .inl (cZ, 61, .inl f_night_pip)), (h_night_tones, .inl (cI, 61, .inl f_night_tones)), (h_now_acts, .inr (0, [.ref h_now_acts_over, .ref h_now_acts_steps, .ref h_now_acts_before, .int v_now_acts_size])), (h_now_signs, .inl (cI, 8, .inl f_now_signs)), (h_now_acts_over, .inl (cI, 61, .inl f_now_acts_over))] s.heap.size = A at hD hAB ret ⊢
  have hA : ∀ q : Nat, s.heap.size ≤ q → A q := fun q h => by rw [← hAe]; exact Or.inr h
  have hS : va_S A s.heap s.heap [] := va_S.rf
  have hl := lv_entry ([.ref h0, .int v1]) (n := 2) (Nat.le_of_ble_eq_true rfl)
  rw [lg_entry_eq]
  generalize (lg_sl ([.ref h0, .int v1]) ++ List.replicate (2 - (lg_sl ([.ref h0, .int v1])).length) Slot.unset).toArray = ls at hl ⊢
  have hl : lv_has ls 2 [(0, .ref h0), (1, .int v1)] := hl
  have hP : va_P D vwCl [(h0, .inr (11, [.ref h_tape, .ref h_reader, .ref h_now, .ref h_trial, .ref h_images, .ref h_imageKept, .ref h_slots, .ref h_night, .ref h_otherNight, .ref h_circle, .ref h_words, .ref h_lawSearch, .ref h_placeSearch, .ref h_drawnNight])), (h_night, .inr (4, [.ref h_night_tones, .ref h_night_lasts, .ref h_night_answers, .ref h_night_pip])), (h_now, .inr (8, [.int v_now_tones, .int v_now_a, .int v_now_b, .int v_now_c, .int v_now_d, .int v_now_odds, .int v_now_lines, .ref h_now_signs, .int v_now_signCount, .ref h_now_posts, .int v_now_postCount, .ref h_now_acts])), (h_night_answers, .inl (cI, 61, .inl f_night_answers)), (h_night_lasts, .inl (cI, 61, .inl f_night_lasts)), (h_night_pip, .inl (cZ, 61, .inl f_night_pip)), (h_night_tones, .inl (cI, 61, .inl f_night_tones)), (h_now_acts, .inr (0, [.ref h_now_acts_over, .ref h_now_acts_steps, .ref h_now_acts_before, .int v_now_acts_size])), (h_now_signs, .inl (cI, 8, .inl f_now_signs)), (h_now_acts_over, .inl (cI, 61, .inl f_now_acts_over))] s.heap := hP
  refine lv_aload_n hx hb dX11_answer_0 rfl (lv_at hl 0 rfl) ?_
  refine lv_iload_n hx hb dX11_answer_1 rfl (lv_at hl 1 rfl) ?_
  refine roi (As := [.int v1]) (rest := []) ⟨hx, hb, hml, hown, hts⟩ (b_X11_noStep l G D cB cI cJ cZ cS cT h0 h_tape h_reader h_now h_trial h_images h_imageKept h_slots h_night h_otherNight h_circle h_words h_lawSearch h_placeSearch h_drawnNight v_now_tones v_now_a v_now_b v_now_c v_now_d v_now_odds v_now_lines h_now_signs v_now_signCount h_now_posts v_now_postCount h_now_acts v1 (by first | assumption | omega | decide) (by first | assumption | omega | decide)) (cvB (n := 1) (inr22 _ (List.mem_of_getElem? (i := 6) rfl)) (inr22 _ (List.mem_of_getElem? (i := 7) rfl)) (inr22 _ (List.mem_of_getElem? (i := 8) rfl)) (inr1 _ (List.mem_of_getElem? (i := 2) rfl)) (inr22 _ (List.mem_of_getElem? (i := 9) rfl)) (by decide +kernel) hts rfl rfl ⟨Nat.le_of_ble_eq_true rfl, Nat.le_of_ble_eq_true rfl⟩) 0 11 rfl rfl rfl (hP.sub [0, 2] rfl) hK hN (kT.to hT hS hAB) rfl hl.1 rfl (Nat.le_of_ble_eq_true rfl) ⟨Nat.le_of_ble_eq_true rfl, Nat.le_of_ble_eq_true rfl⟩ dX11_answer_2 (fun r_1 h_2 => ?_)
  have h_2 : (r_1 = 0 ∨ r_1 = 1) := h_2
  have i_3 := h_2
  have ar_1 : 0 ≤ r_1.toInt ∧ r_1.toInt ≤ 1 := by rcases i_3 with h | h <;> rw [h] <;> decide
  refine lv_if_eq (tgt := 13) hx hb dX11_answer_5 (by decide) (fun c_4 => ?_) (fun c_4 => ?_)
  · have c_4 : r_1.toInt = 0 := ci_eq_t c_4
    have b_r_1 := i32b r_1
    refine lv_aload_n hx hb dX11_answer_13 rfl (lv_at hl 0 rfl) ?_
    refine wrVq (As := []) (rest := []) (wr := []) ⟨hx, hb, hml, hown, hts⟩ (b_X11_tonight l G D cB cI cJ cZ cS cT s.heap.size h0 h_tape h_reader h_now h_trial h_images h_imageKept h_slots h_night h_otherNight h_circle h_words h_lawSearch h_placeSearch h_drawnNight h_night_tones h_night_lasts h_night_answers h_night_pip v_now_tones v_now_a v_now_b v_now_c v_now_d v_now_odds v_now_lines h_now_signs v_now_signCount h_now_posts v_now_postCount h_now_acts f_night_answers f_night_lasts f_night_pip f_night_tones h_now_acts_over h_now_acts_steps h_now_acts_before v_now_acts_size f_now_signs f_now_acts_over (by first | assumption | omega | decide) (by first | assumption | omega | decide) (by first | assumption | omega | decide)) hP hD hS hA hK hN hT hAB hG [0, 1, 2, 3, 4, 5, 6, 7, 8, 9] [] rfl rfl (by decide) (by decide) (by decide) (cvB (n := 0) (inr22 _ (List.mem_of_getElem? (i := 15) rfl)) (inr22 _ (List.mem_of_getElem? (i := 16) rfl)) (inr22 _ (List.mem_of_getElem? (i := 17) rfl)) (inr1 _ (List.mem_of_getElem? (i := 2) rfl)) (inr22 _ (List.mem_of_getElem? (i := 18) rfl)) (by decide +kernel) hts rfl rfl ⟨Nat.le_of_ble_eq_true rfl, Nat.le_of_ble_eq_true rfl⟩) 0 11 rfl rfl rfl rfl hl.1 rfl (Nat.le_of_ble_eq_true rfl) ⟨Nat.le_of_ble_eq_true rfl, Nat.le_of_ble_eq_true rfl⟩ dX11_answer_14 (fun r_5 x9 H locs h_6 hP hD hS => ?_)
    obtain ⟨g_7, g_8, g_9, g_10⟩ := x9
    have hP : va_P D vwCl [(h0, .inr (11, [.ref h_tape, .ref h_reader, .ref h_now, .ref h_trial, .ref h_images, .ref h_imageKept, .ref h_slots, .ref h_night, .ref h_otherNight, .ref h_circle, .ref h_words, .ref h_lawSearch, .ref h_placeSearch, .ref h_drawnNight])), (h_night, .inr (4, [.ref h_night_tones, .ref h_night_lasts, .ref h_night_answers, .ref h_night_pip])), (h_now, .inr (8, [.int v_now_tones, .int v_now_a, .int v_now_b, .int v_now_c, .int v_now_d, .int v_now_odds, .int v_now_lines, .ref h_now_signs, .int v_now_signCount, .ref h_now_posts, .int v_now_postCount, .ref h_now_acts])), (h_night_answers, .inl (cI, 61, .inl g_7)), (h_night_lasts, .inl (cI, 61, .inl g_8)), (h_night_pip, .inl (cZ, 61, .inl g_9)), (h_night_tones, .inl (cI, 61, .inl g_10)), (h_now_acts, .inr (0, [.ref h_now_acts_over, .ref h_now_acts_steps, .ref h_now_acts_before, .int v_now_acts_size])), (h_now_signs, .inl (cI, 8, .inl f_now_signs)), (h_now_acts_over, .inl (cI, 61, .inl f_now_acts_over))] H := hP
    have hD : va_D A [(h0, .inr (11, [.ref h_tape, .ref h_reader, .ref h_now, .ref h_trial, .ref h_images, .ref h_imageKept, .ref h_slots, .ref h_night, .ref h_otherNight, .ref h_circle, .ref h_words, .ref h_lawSearch, .ref h_placeSearch, .ref h_drawnNight])), (h_night, .inr (4, [.ref h_night_tones, .ref h_night_lasts, .ref h_night_answers, .ref h_night_pip])), (h_now, .inr (8, [.int v_now_tones, .int v_now_a, .int v_now_b, .int v_now_c, .int v_now_d, .int v_now_odds, .int v_now_lines, .ref h_now_signs, .int v_now_signCount, .ref h_now_posts, .int v_now_postCount, .ref h_now_acts])), (h_night_answers, .inl (cI, 61, .inl g_7)), (h_night_lasts, .inl (cI, 61, .inl g_8)), (h_night_pip, .inl (cZ, 61, .inl g_9)), (h_night_tones, .inl (cI, 61, .inl g_10)), (h_now_acts, .inr (0, [.ref h_now_acts_over, .ref h_now_acts_steps, .ref h_now_acts_before, .int v_now_acts_size])), (h_now_signs, .inl (cI, 8, .inl f_now_signs)), (h_now_acts_over, .inl (cI, 61, .inl f_now_acts_over))] := hD
    have h_6 : (r_5 = some h_night) := h_6
    have i_11 := h_6
    obtain rfl := i_11
    refine W.eq (g2 := F0 m 17 ls [.ref h_night]) rfl ?_
    refine lv_iload_n hx hb dX11_answer_17 rfl (lv_at hl 1 rfl) ?_
    refine roi (As := [.int v1]) (rest := []) ⟨hx, hb, hml, hown, hts⟩ (b_X4_answerAhead l G D cB cI cJ cZ cS cT h_night h_night_tones h_night_lasts h_night_answers h_night_pip g_7 v1 ) (cvB (n := 1) (inr27 _ (List.mem_of_getElem? (i := 2) rfl)) (inr27 _ (List.mem_of_getElem? (i := 3) rfl)) (inr27 _ (List.mem_of_getElem? (i := 4) rfl)) (inr2 _ (List.mem_of_getElem? (i := 11) rfl)) (inr27 _ (List.mem_of_getElem? (i := 5) rfl)) (by decide +kernel) hts rfl rfl ⟨Nat.le_of_ble_eq_true rfl, Nat.le_of_ble_eq_true rfl⟩) 0 4 rfl rfl rfl (hP.sub [1, 3] rfl) hK hN (kT.to hT hS hAB) rfl hl.1 rfl (Nat.le_of_ble_eq_true rfl) ⟨Nat.le_of_ble_eq_true rfl, Nat.le_of_ble_eq_true rfl⟩ dX11_answer_18 (fun r_12 h_13 => ?_)
    exact ret _ _ _ _ _ (g_7, g_8, g_9, g_10) dX11_answer_21 trivial (hP.sub [0, 1, 2, 3, 4, 5, 6, 7, 8, 9] rfl) (hD.sub [0, 1, 2, 3, 4, 5, 6, 7, 8, 9] (by decide) rfl) hS
  · have c_4 : ¬ r_1.toInt = 0 := ci_eq_f c_4
    have b_r_1 := i32b r_1
    refine lv_bipush (v := (-2)) hx hb dX11_answer_8 (by decide) ?_
    refine lv_goto (tgt := 21) hx hb dX11_answer_10 (by decide) ?_
    exact ret _ _ _ _ _ (f_night_answers, f_night_lasts, f_night_pip, f_night_tones) dX11_answer_21 trivial (hP.sub [0, 1, 2, 3, 4, 5, 6, 7, 8, 9] rfl) (hD.sub [0, 1, 2, 3, 4, 5, 6, 7, 8, 9] (by decide) rfl) hS

set_option maxHeartbeats 4000000 in
set_option maxRecDepth 100000 in
theorem b_X11_gaps_l15 {p : Program} {l : Launch} {e : Env} {s : State} {m : MethodId} {args : Array Value} {below : List Frame} {meth : Method} {c : Code} {Q : State → Prop} {G : Gho} {D : va_G} {cB cI cJ cZ cS cT : ClassId} (h0 : Nat) (h_tape : Nat) (h_reader : Nat) (h_now : Nat) (h_trial : Nat) (h_images : Nat) (h_imageKept : Nat) (h_slots : Nat) (h_night : Nat) (h_otherNight : Nat) (h_circle : Nat) (h_words : Nat) (h_lawSearch : Nat) (h_placeSearch : Nat) (h_drawnNight : Nat) (v_now_tones : Int32) (v_now_a : Int32) (v_now_b : Int32) (v_now_c : Int32) (v_now_d : Int32) (v_now_odds : Int32) (v_now_lines : Int32) (h_now_signs : Nat) (v_now_signCount : Int32) (h_now_posts : Nat) (v_now_postCount : Int32) (h_now_acts : Nat) (f_now_signs : Nat → Int32) (v1 : Int32) (iv_now_signCount : 0 ≤ v_now_signCount.toInt ∧ v_now_signCount.toInt ≤ 8) (iv_now_postCount : 0 ≤ v_now_postCount.toInt ∧ v_now_postCount.toInt ≤ 5) (C : Cx p s m args c RX11 cX11_gaps 4 G D (tyL cB cI cJ cZ cS cT)) (hP : va_P D vwCl [(h0, .inr (11, [.ref h_tape, .ref h_reader, .ref h_now, .ref h_trial, .ref h_images, .ref h_imageKept, .ref h_slots, .ref h_night, .ref h_otherNight, .ref h_circle, .ref h_words, .ref h_lawSearch, .ref h_placeSearch, .ref h_drawnNight])), (h_now, .inr (8, [.int v_now_tones, .int v_now_a, .int v_now_b, .int v_now_c, .int v_now_d, .int v_now_odds, .int v_now_lines, .ref h_now_signs, .int v_now_signCount, .ref h_now_posts, .int v_now_postCount, .ref h_now_acts])), (h_now_signs, .inl (cI, 8, .inl f_now_signs))] s.heap) (ret : RroI p l e ({ frames := 3, cells := 0, slots := 0, locals := 61 }) s m args below meth c cX11_gaps (fun r : Int32 => True) Q) :
    ∀ (N : Nat) (l15_3 : Int32) (l15_2 : Int32) (ls : Array Slot), 0 ≤ l15_3.toInt → (v1.toInt - l15_3.toInt + 1).toNat < N → lv_has ls 4 [(3, .int l15_3), (2, .int l15_2), (0, .ref h0), (1, .int v1)] → W p l e ({ frames := 3, cells := 0, slots := 0, locals := 61 }) s m args below meth c s.heap [] 0 0 Q (F0 m 15 ls []) := by
  obtain ⟨hx, hb, hml, hown, hts, hK, hN, hT⟩ := id C
  intro N
  induction N with
  | zero =>
    intro l15_3 l15_2 ls kl15_3 hM_15 hl
    omega
  | succ N_15 ih_15 =>
    intro l15_3 l15_2 ls kl15_3 hM_15 hl
    have b_l15_3 := i32b l15_3
    refine lv_iload_n hx hb dX11_gaps_15 rfl (lv_at hl 0 rfl) ?_
    refine lv_iload_n hx hb dX11_gaps_16 rfl (lv_at hl 3 rfl) ?_
    refine lv_icmp_gt (tgt := 46) hx hb dX11_gaps_17 (by decide) (fun c_5 => ?_) (fun c_5 => ?_)
    · have c_5 : v1.toInt < l15_3.toInt := ci_gt_t c_5
      have b_v1 := i32b v1
      refine lv_iload_n hx hb dX11_gaps_46 rfl (lv_at hl 1 rfl) ?_
      exact ret _ _ _ dX11_gaps_47 trivial
    · have c_5 : l15_3.toInt ≤ v1.toInt := ci_gt_f c_5
      have b_v1 := i32b v1
      refine lv_iload_n hx hb dX11_gaps_20 rfl (lv_at hl 0 rfl) ?_
      refine lv_bipush (v := 61) hx hb dX11_gaps_21 (by decide) ?_
      refine lv_icmp_ge (tgt := 46) hx hb dX11_gaps_23 (by decide) (fun c_6 => ?_) (fun c_6 => ?_)
      · have c_6 : 61 ≤ l15_3.toInt := ci_ge_t c_6
        refine lv_iload_n hx hb dX11_gaps_46 rfl (lv_at hl 1 rfl) ?_
        exact ret _ _ _ dX11_gaps_47 trivial
      · have c_6 : l15_3.toInt < 61 := ci_ge_f c_6
        refine lv_aload_n hx hb dX11_gaps_26 rfl (lv_at hl 2 rfl) ?_
        refine va_get (D := D) (ci := 11) (v := .ref h_now) (C := RX11) (T := TX11) (N := 14) hx hb hts inlX11 hown hK hP 0 rfl rfl 2 (by decide) (hts _ (inr2 _ (List.mem_of_getElem? (i := 0) rfl))) (fun _ h9 => h9) rfl dX11_gaps_27 ?_
        refine lv_iload_n hx hb dX11_gaps_30 rfl (lv_at hl 0 rfl) ?_
        refine roi (As := [.int l15_3]) (rest := []) ⟨hx, hb, hml, hown, hts⟩ (b_X8_isGap l G D cB cI cJ cZ cS cT h_now v_now_tones v_now_a v_now_b v_now_c v_now_d v_now_odds v_now_lines h_now_signs v_now_signCount h_now_posts v_now_postCount h_now_acts f_now_signs l15_3 (by first | assumption | omega | decide) (by first | assumption | omega | decide)) (cvB (n := 1) (inr27 _ (List.mem_of_getElem? (i := 14) rfl)) (inr23 _ (List.mem_of_getElem? (i := 12) rfl)) (inr23 _ (List.mem_of_getElem? (i := 13) rfl)) (inr1 _ (List.mem_of_getElem? (i := 23) rfl)) (inr23 _ (List.mem_of_getElem? (i := 14) rfl)) (by decide +kernel) hts rfl rfl ⟨Nat.le_of_ble_eq_true rfl, Nat.le_of_ble_eq_true rfl⟩) 0 8 rfl rfl rfl (hP.sub [1, 2] rfl) hK hN hT rfl hl.1 rfl (Nat.le_of_ble_eq_true rfl) ⟨Nat.le_of_ble_eq_true rfl, Nat.le_of_ble_eq_true rfl⟩ dX11_gaps_31 (fun r_7 h_8 => ?_)
        have h_8 : (r_7 = 0 ∨ r_7 = 1) := h_8
        have i_9 := h_8
        have ar_7 : 0 ≤ r_7.toInt ∧ r_7.toInt ≤ 1 := by rcases i_9 with h | h <;> rw [h] <;> decide
        refine lv_if_eq (tgt := 40) hx hb dX11_gaps_34 (by decide) (fun c_10 => ?_) (fun c_10 => ?_)
        · have c_10 : r_7.toInt = 0 := ci_eq_t c_10
          have b_r_7 := i32b r_7
          obtain ⟨t_11, et_11⟩ : ∃ v9 : Int32, l15_3 + 1 = v9 := ⟨_, rfl⟩
          have ft_11 : t_11.toInt = l15_3.toInt + 1 := addT (a := l15_3.toInt) (b := 1) rfl (by decide) et_11 (by omega) (by omega)
          refine lv_iinc (v := t_11) (lv' := [(3, .int t_11), (2, .int l15_2), (0, .ref h0), (1, .int v1)]) hx hb dX11_gaps_40 hl (k := 0) rfl (by rw [← et_11]; rfl) (by decide) rfl (fun ls hl => ?_)
          refine lv_goto (tgt := 15) hx hb dX11_gaps_43 (by decide) ?_
          exact ih_15 (t_11) (l15_2) _ (by first | assumption | omega | decide) (by omega) (lv_sub hl [0, 1, 2, 3] rfl)
        · have c_10 : ¬ r_7.toInt = 0 := ci_eq_f c_10
          have b_r_7 := i32b r_7
          obtain ⟨t_12, et_12⟩ : ∃ v9 : Int32, l15_2 + 1 = v9 := ⟨_, rfl⟩
          refine lv_iinc (v := t_12) (lv' := [(2, .int t_12), (3, .int l15_3), (0, .ref h0), (1, .int v1)]) hx hb dX11_gaps_37 hl (k := 1) rfl (by rw [← et_12]; rfl) (by decide) rfl (fun ls hl => ?_)
          obtain ⟨t_13, et_13⟩ : ∃ v9 : Int32, l15_3 + 1 = v9 := ⟨_, rfl⟩
          have ft_13 : t_13.toInt = l15_3.toInt + 1 := addT (a := l15_3.toInt) (b := 1) rfl (by decide) et_13 (by omega) (by omega)
          refine lv_iinc (v := t_13) (lv' := [(3, .int t_13), (2, .int t_12), (0, .ref h0), (1, .int v1)]) hx hb dX11_gaps_40 hl (k := 1) rfl (by rw [← et_13]; rfl) (by decide) rfl (fun ls hl => ?_)
          refine lv_goto (tgt := 15) hx hb dX11_gaps_43 (by decide) ?_
          exact ih_15 (t_13) (t_12) _ (by first | assumption | omega | decide) (by omega) (lv_sub hl [0, 1, 2, 3] rfl)

set_option maxHeartbeats 4000000 in
set_option maxRecDepth 100000 in
theorem b_X11_gaps (l : Launch) (G : Gho) (D : va_G) (cB cI cJ cZ cS cT : ClassId) (h0 : Nat) (h_tape : Nat) (h_reader : Nat) (h_now : Nat) (h_trial : Nat) (h_images : Nat) (h_imageKept : Nat) (h_slots : Nat) (h_night : Nat) (h_otherNight : Nat) (h_circle : Nat) (h_words : Nat) (h_lawSearch : Nat) (h_placeSearch : Nat) (h_drawnNight : Nat) (v_now_tones : Int32) (v_now_a : Int32) (v_now_b : Int32) (v_now_c : Int32) (v_now_d : Int32) (v_now_odds : Int32) (v_now_lines : Int32) (h_now_signs : Nat) (v_now_signCount : Int32) (h_now_posts : Nat) (v_now_postCount : Int32) (h_now_acts : Nat) (f_now_signs : Nat → Int32) (v1 : Int32) (iv_now_signCount : 0 ≤ v_now_signCount.toInt ∧ v_now_signCount.toInt ≤ 8) (iv_now_postCount : 0 ≤ v_now_postCount.toInt ∧ v_now_postCount.toInt ≤ 5) : Met l yX11_gaps (Cond.code yX11_gaps cX11_gaps 4 (some .int) :: wsL_law) ({ frames := 3, cells := 0, slots := 0, locals := 61 }) (roP G D (tyL cB cI cJ cZ cS cT) [(h0, .inr (11, [.ref h_tape, .ref h_reader, .ref h_now, .ref h_trial, .ref h_images, .ref h_imageKept, .ref h_slots, .ref h_night, .ref h_otherNight, .ref h_circle, .ref h_words, .ref h_lawSearch, .ref h_placeSearch, .ref h_drawnNight])), (h_now, .inr (8, [.int v_now_tones, .int v_now_a, .int v_now_b, .int v_now_c, .int v_now_d, .int v_now_odds, .int v_now_lines, .ref h_now_signs, .int v_now_signCount, .ref h_now_posts, .int v_now_postCount, .ref h_now_acts])), (h_now_signs, .inl (cI, 8, .inl f_now_signs))] [.ref h0, .int v1]) (vp_Si (fun r : Int32 => True)) 0 0 (fun _ => False) := by
  refine metRO (own := RX11) (by decide) rfl ?_
  intro p e s m below meth c Q C hP ret
  obtain ⟨hx, hb, hml, hown, hts, hK, hN, hT⟩ := id C
  have hl := lv_entry ([.ref h0, .int v1]) (n := 4) (Nat.le_of_ble_eq_true rfl)
  rw [lg_entry_eq]
  generalize (lg_sl ([.ref h0, .int v1]) ++ List.replicate (4 - (lg_sl ([.ref h0, .int v1])).length) Slot.unset).toArray = ls at hl ⊢
  have hl : lv_has ls 4 [(0, .ref h0), (1, .int v1)] := hl
  have hP : va_P D vwCl [(h0, .inr (11, [.ref h_tape, .ref h_reader, .ref h_now, .ref h_trial, .ref h_images, .ref h_imageKept, .ref h_slots, .ref h_night, .ref h_otherNight, .ref h_circle, .ref h_words, .ref h_lawSearch, .ref h_placeSearch, .ref h_drawnNight])), (h_now, .inr (8, [.int v_now_tones, .int v_now_a, .int v_now_b, .int v_now_c, .int v_now_d, .int v_now_odds, .int v_now_lines, .ref h_now_signs, .int v_now_signCount, .ref h_now_posts, .int v_now_postCount, .ref h_now_acts])), (h_now_signs, .inl (cI, 8, .inl f_now_signs))] s.heap := hP
  refine lv_aload_n hx hb dX11_gaps_0 rfl (lv_at hl 0 rfl) ?_
  refine lv_iload_n hx hb dX11_gaps_1 rfl (lv_at hl 1 rfl) ?_
  refine roi (As := [.int v1]) (rest := []) ⟨hx, hb, hml, hown, hts⟩ (b_X11_noStep l G D cB cI cJ cZ cS cT h0 h_tape h_reader h_now h_trial h_images h_imageKept h_slots h_night h_otherNight h_circle h_words h_lawSearch h_placeSearch h_drawnNight v_now_tones v_now_a v_now_b v_now_c v_now_d v_now_odds v_now_lines h_now_signs v_now_signCount h_now_posts v_now_postCount h_now_acts v1 (by first | assumption | omega | decide) (by first | assumption | omega | decide)) (cvB (n := 1) (inr22 _ (List.mem_of_getElem? (i := 6) rfl)) (inr22 _ (List.mem_of_getElem? (i := 7) rfl)) (inr22 _ (List.mem_of_getElem? (i := 8) rfl)) (inr1 _ (List.mem_of_getElem? (i := 2) rfl)) (inr22 _ (List.mem_of_getElem? (i := 9) rfl)) (by decide +kernel) hts rfl rfl ⟨Nat.le_of_ble_eq_true rfl, Nat.le_of_ble_eq_true rfl⟩) 0 11 rfl rfl rfl (hP.sub [0, 1] rfl) hK hN hT rfl hl.1 rfl (Nat.le_of_ble_eq_true rfl) ⟨Nat.le_of_ble_eq_true rfl, Nat.le_of_ble_eq_true rfl⟩ dX11_gaps_2 (fun r_1 h_2 => ?_)
  have h_2 : (r_1 = 0 ∨ r_1 = 1) := h_2
  have i_3 := h_2
  have ar_1 : 0 ≤ r_1.toInt ∧ r_1.toInt ≤ 1 := by rcases i_3 with h | h <;> rw [h] <;> decide
  refine lv_if_eq (tgt := 11) hx hb dX11_gaps_5 (by decide) (fun c_4 => ?_) (fun c_4 => ?_)
  · have c_4 : r_1.toInt = 0 := ci_eq_t c_4
    have b_r_1 := i32b r_1
    refine lv_iconst (v := 0) hx hb dX11_gaps_11 (by decide) ?_
    refine lv_istore_n (lv' := [(2, .int 0), (0, .ref h0), (1, .int v1)]) hx hb dX11_gaps_12 rfl hl (by decide) rfl (fun ls hl => ?_)
    refine lv_iconst (v := 0) hx hb dX11_gaps_13 (by decide) ?_
    refine lv_istore_n (lv' := [(3, .int 0), (2, .int 0), (0, .ref h0), (1, .int v1)]) hx hb dX11_gaps_14 rfl hl (by decide) rfl (fun ls hl => ?_)
    exact b_X11_gaps_l15 h0 h_tape h_reader h_now h_trial h_images h_imageKept h_slots h_night h_otherNight h_circle h_words h_lawSearch h_placeSearch h_drawnNight v_now_tones v_now_a v_now_b v_now_c v_now_d v_now_odds v_now_lines h_now_signs v_now_signCount h_now_posts v_now_postCount h_now_acts f_now_signs v1 (by first | assumption | omega | decide) (by first | assumption | omega | decide) C (hP.sub [0, 1, 2] rfl) ret _ (0) (0) _ (by first | assumption | omega | decide) (Nat.lt_succ_self _) (lv_sub hl [0, 1, 2, 3] rfl)
  · have c_4 : ¬ r_1.toInt = 0 := ci_eq_f c_4
    have b_r_1 := i32b r_1
    refine lv_bipush (v := (-2)) hx hb dX11_gaps_8 (by decide) ?_
    exact ret _ _ _ dX11_gaps_10 trivial

set_option maxHeartbeats 4000000 in
set_option maxRecDepth 100000 in
theorem b_X11_pips (l : Launch) (G : Gho) (D : va_G) (cB cI cJ cZ cS cT : ClassId) (sz : Nat) (h0 : Nat) (h_tape : Nat) (h_reader : Nat) (h_now : Nat) (h_trial : Nat) (h_images : Nat) (h_imageKept : Nat) (h_slots : Nat) (h_night : Nat) (h_otherNight : Nat) (h_circle : Nat) (h_words : Nat) (h_lawSearch : Nat) (h_placeSearch : Nat) (h_drawnNight : Nat) (h_night_tones : Nat) (h_night_lasts : Nat) (h_night_answers : Nat) (h_night_pip : Nat) (v_now_tones : Int32) (v_now_a : Int32) (v_now_b : Int32) (v_now_c : Int32) (v_now_d : Int32) (v_now_odds : Int32) (v_now_lines : Int32) (h_now_signs : Nat) (v_now_signCount : Int32) (h_now_posts : Nat) (v_now_postCount : Int32) (h_now_acts : Nat) (f_night_answers : Nat → Int32) (f_night_lasts : Nat → Int32) (f_night_pip : Nat → Int32) (f_night_tones : Nat → Int32) (h_now_acts_over : Nat) (h_now_acts_steps : Nat) (h_now_acts_before : Nat) (v_now_acts_size : Int32) (f_now_signs : Nat → Int32) (f_now_acts_over : Nat → Int32) (v1 : Int32) (iv_now_signCount : 0 ≤ v_now_signCount.toInt ∧ v_now_signCount.toInt ≤ 8) (iv_now_postCount : 0 ≤ v_now_postCount.toInt ∧ v_now_postCount.toInt ≤ 5) (iv_now_acts_size : 0 ≤ v_now_acts_size.toInt ∧ v_now_acts_size.toInt ≤ 30) : Met l yX11_pips (Cond.code yX11_pips cX11_pips 2 (some .int) :: wsL_law) ({ frames := 4, cells := 0, slots := 0, locals := 96 }) (wrP G D (tyL cB cI cJ cZ cS cT) [(h0, .inr (11, [.ref h_tape, .ref h_reader, .ref h_now, .ref h_trial, .ref h_images, .ref h_imageKept, .ref h_slots, .ref h_night, .ref h_otherNight, .ref h_circle, .ref h_words, .ref h_lawSearch, .ref h_placeSearch, .ref h_drawnNight])), (h_night, .inr (4, [.ref h_night_tones, .ref h_night_lasts, .ref h_night_answers, .ref h_night_pip])), (h_now, .inr (8, [.int v_now_tones, .int v_now_a, .int v_now_b, .int v_now_c, .int v_now_d, .int v_now_odds, .int v_now_lines, .ref h_now_signs, .int v_now_signCount, .ref h_now_posts, .int v_now_postCount, .ref h_now_acts])), (h_night_answers, .inl (cI, 61, .inl f_night_answers)), (h_night_lasts, .inl (cI, 61, .inl f_night_lasts)), (h_night_pip, .inl (cZ, 61, .inl f_night_pip)), (h_night_tones, .inl (cI, 61, .inl f_night_tones)), (h_now_acts, .inr (0, [.ref h_now_acts_over, .ref h_now_acts_steps, .ref h_now_acts_before, .int v_now_acts_size])), (h_now_signs, .inl (cI, 8, .inl f_now_signs)), (h_now_acts_over, .inl (cI, 61, .inl f_now_acts_over))] sz [.ref h0, .int v1]) (va_Qi (fun (r : Int32) (x : (Nat → Int32) × (Nat → Int32) × (Nat → Int32) × (Nat → Int32)) => True) (atW D (tyL cB cI cJ cZ cS cT) (va_A [(h0, .inr (11, [.ref h_tape, .ref h_reader, .ref h_now, .ref h_trial, .ref h_images, .ref h_imageKept, .ref h_slots, .ref h_night, .ref h_otherNight, .ref h_circle, .ref h_words, .ref h_lawSearch, .ref h_placeSearch, .ref h_drawnNight])), (h_night, .inr (4, [.ref h_night_tones, .ref h_night_lasts, .ref h_night_answers, .ref h_night_pip])), (h_now, .inr (8, [.int v_now_tones, .int v_now_a, .int v_now_b, .int v_now_c, .int v_now_d, .int v_now_odds, .int v_now_lines, .ref h_now_signs, .int v_now_signCount, .ref h_now_posts, .int v_now_postCount, .ref h_now_acts])), (h_night_answers, .inl (cI, 61, .inl f_night_answers)), (h_night_lasts, .inl (cI, 61, .inl f_night_lasts)), (h_night_pip, .inl (cZ, 61, .inl f_night_pip)), (h_night_tones, .inl (cI, 61, .inl f_night_tones)), (h_now_acts, .inr (0, [.ref h_now_acts_over, .ref h_now_acts_steps, .ref h_now_acts_before, .int v_now_acts_size])), (h_now_signs, .inl (cI, 8, .inl f_now_signs)), (h_now_acts_over, .inl (cI, 61, .inl f_now_acts_over))] sz) (fun x : (Nat → Int32) × (Nat → Int32) × (Nat → Int32) × (Nat → Int32) => [(h0, .inr (11, [.ref h_tape, .ref h_reader, .ref h_now, .ref h_trial, .ref h_images, .ref h_imageKept, .ref h_slots, .ref h_night, .ref h_otherNight, .ref h_circle, .ref h_words, .ref h_lawSearch, .ref h_placeSearch, .ref h_drawnNight])), (h_night, .inr (4, [.ref h_night_tones, .ref h_night_lasts, .ref h_night_answers, .ref h_night_pip])), (h_now, .inr (8, [.int v_now_tones, .int v_now_a, .int v_now_b, .int v_now_c, .int v_now_d, .int v_now_odds, .int v_now_lines, .ref h_now_signs, .int v_now_signCount, .ref h_now_posts, .int v_now_postCount, .ref h_now_acts])), (h_night_answers, .inl (cI, 61, .inl x.1)), (h_night_lasts, .inl (cI, 61, .inl x.2.1)), (h_night_pip, .inl (cZ, 61, .inl x.2.2.1)), (h_night_tones, .inl (cI, 61, .inl x.2.2.2)), (h_now_acts, .inr (0, [.ref h_now_acts_over, .ref h_now_acts_steps, .ref h_now_acts_before, .int v_now_acts_size])), (h_now_signs, .inl (cI, 8, .inl f_now_signs)), (h_now_acts_over, .inl (cI, 61, .inl f_now_acts_over))])) (va_A [(h0, .inr (11, [.ref h_tape, .ref h_reader, .ref h_now, .ref h_trial, .ref h_images, .ref h_imageKept, .ref h_slots, .ref h_night, .ref h_otherNight, .ref h_circle, .ref h_words, .ref h_lawSearch, .ref h_placeSearch, .ref h_drawnNight])), (h_night, .inr (4, [.ref h_night_tones, .ref h_night_lasts, .ref h_night_answers, .ref h_night_pip])), (h_now, .inr (8, [.int v_now_tones, .int v_now_a, .int v_now_b, .int v_now_c, .int v_now_d, .int v_now_odds, .int v_now_lines, .ref h_now_signs, .int v_now_signCount, .ref h_now_posts, .int v_now_postCount, .ref h_now_acts])), (h_night_answers, .inl (cI, 61, .inl f_night_answers)), (h_night_lasts, .inl (cI, 61, .inl f_night_lasts)), (h_night_pip, .inl (cZ, 61, .inl f_night_pip)), (h_night_tones, .inl (cI, 61, .inl f_night_tones)), (h_now_acts, .inr (0, [.ref h_now_acts_over, .ref h_now_acts_steps, .ref h_now_acts_before, .int v_now_acts_size])), (h_now_signs, .inl (cI, 8, .inl f_now_signs)), (h_now_acts_over, .inl (cI, 61, .inl f_now_acts_over))] sz)) 0 0 (va_A [(h0, .inr (11, [.ref h_tape, .ref h_reader, .ref h_now, .ref h_trial, .ref h_images, .ref h_imageKept, .ref h_slots, .ref h_night, .ref h_otherNight, .ref h_circle, .ref h_words, .ref h_lawSearch, .ref h_placeSearch, .ref h_drawnNight])), (h_night, .inr (4, [.ref h_night_tones, .ref h_night_lasts, .ref h_night_answers, .ref h_night_pip])), (h_now, .inr (8, [.int v_now_tones, .int v_now_a, .int v_now_b, .int v_now_c, .int v_now_d, .int v_now_odds, .int v_now_lines, .ref h_now_signs, .int v_now_signCount, .ref h_now_posts, .int v_now_postCount, .ref h_now_acts])), (h_night_answers, .inl (cI, 61, .inl f_night_answers)), (h_night_lasts, .inl (cI, 61, .inl f_night_lasts)), (h_night_pip, .inl (cZ, 61, .inl f_night_pip)), (h_night_tones, .inl (cI, 61, .inl f_night_tones)), (h_now_acts, .inr (0, [.ref h_now_acts_over, .ref h_now_acts_steps, .ref h_now_acts_before, .int v_now_acts_size])), (h_now_signs, .inl (cI, 8, .inl f_now_signs)), (h_now_acts_over, .inl (cI, 61, .inl f_now_acts_over))] sz) := by
  refine metI (own := RX11) (by decide) rfl ?_
  intro p e s m below meth c Q hsz C hG hP hD hAB ret
  obtain ⟨hx, hb, hml, hown, hts, hK, hN, hT⟩ := id C
  subst hsz
  generalize hAe : va_A [(h0, .inr (11, [.ref h_tape, .ref h_reader, .ref h_now, .ref h_trial, .ref h_images, .ref h_imageKept, .ref h_slots, .ref h_night, .ref h_otherNight, .ref h_circle, .ref h_words, .ref h_lawSearch, .ref h_placeSearch, .ref h_drawnNight])), (h_night, .inr (4, [.ref h_night_tones, .ref h_night_lasts, .ref h_night_answers, .ref h_night_pip])), (h_now, .inr (8, [.int v_now_tones, .int v_now_a, .int v_now_b, .int v_now_c, .int v_now_d, .int v_now_odds, .int v_now_lines, .ref h_now_signs, .int v_now_signCount, .ref h_now_posts, .int v_now_postCount, .ref h_now_acts])), (h_night_answers, .inl (cI, 61, .inl f_night_answers)), (h_night_lasts, .inl (cI, 61, .inl f_night_lasts)), (h_night_pip, .inl (cZ, 61, .inl f_night_pip)), (h_night_tones, .inl (cI, 61, .inl f_night_tones)), (h_now_acts, .inr (0, [.ref h_now_acts_over, .ref h_now_acts_steps, .ref h_now_acts_before, .int v_now_acts_size])), (h_now_signs, .inl (cI, 8, .inl f_now_signs)), (h_now_acts_over, .inl (cI, 61, .inl f_now_acts_over))] s.heap.size = A at hD hAB ret ⊢
  have hA : ∀ q : Nat, s.heap.size ≤ q → A q := fun q h => by rw [← hAe]; exact Or.inr h
  have hS : va_S A s.heap s.heap [] := va_S.rf
  have hl := lv_entry ([.ref h0, .int v1]) (n := 2) (Nat.le_of_ble_eq_true rfl)
  rw [lg_entry_eq]
  generalize (lg_sl ([.ref h0, .int v1]) ++ List.replicate (2 - (lg_sl ([.ref h0, .int v1])).length) Slot.unset).toArray = ls at hl ⊢
  have hl : lv_has ls 2 [(0, .ref h0), (1, .int v1)] := hl
  have hP : va_P D vwCl [(h0, .inr (11, [.ref h_tape, .ref h_reader, .ref h_now, .ref h_trial, .ref h_images, .ref h_imageKept, .ref h_slots, .ref h_night, .ref h_otherNight, .ref h_circle, .ref h_words, .ref h_lawSearch, .ref h_placeSearch, .ref h_drawnNight])), (h_night, .inr (4, [.ref h_night_tones, .ref h_night_lasts, .ref h_night_answers, .ref h_night_pip])), (h_now, .inr (8, [.int v_now_tones, .int v_now_a, .int v_now_b, .int v_now_c, .int v_now_d, .int v_now_odds, .int v_now_lines, .ref h_now_signs, .int v_now_signCount, .ref h_now_posts, .int v_now_postCount, .ref h_now_acts])), (h_night_answers, .inl (cI, 61, .inl f_night_answers)), (h_night_lasts, .inl (cI, 61, .inl f_night_lasts)), (h_night_pip, .inl (cZ, 61, .inl f_night_pip)), (h_night_tones, .inl (cI, 61, .inl f_night_tones)), (h_now_acts, .inr (0, [.ref h_now_acts_over, .ref h_now_acts_steps, .ref h_now_acts_before, .int v_now_acts_size])), (h_now_signs, .inl (cI, 8, .inl f_now_signs)), (h_now_acts_over, .inl (cI, 61, .inl f_now_acts_over))] s.heap := hP
  refine lv_aload_n hx hb dX11_pips_0 rfl (lv_at hl 0 rfl) ?_
  refine lv_iload_n hx hb dX11_pips_1 rfl (lv_at hl 1 rfl) ?_
  refine roi (As := [.int v1]) (rest := []) ⟨hx, hb, hml, hown, hts⟩ (b_X11_noStep l G D cB cI cJ cZ cS cT h0 h_tape h_reader h_now h_trial h_images h_imageKept h_slots h_night h_otherNight h_circle h_words h_lawSearch h_placeSearch h_drawnNight v_now_tones v_now_a v_now_b v_now_c v_now_d v_now_odds v_now_lines h_now_signs v_now_signCount h_now_posts v_now_postCount h_now_acts v1 (by first | assumption | omega | decide) (by first | assumption | omega | decide)) (cvB (n := 1) (inr22 _ (List.mem_of_getElem? (i := 6) rfl)) (inr22 _ (List.mem_of_getElem? (i := 7) rfl)) (inr22 _ (List.mem_of_getElem? (i := 8) rfl)) (inr1 _ (List.mem_of_getElem? (i := 2) rfl)) (inr22 _ (List.mem_of_getElem? (i := 9) rfl)) (by decide +kernel) hts rfl rfl ⟨Nat.le_of_ble_eq_true rfl, Nat.le_of_ble_eq_true rfl⟩) 0 11 rfl rfl rfl (hP.sub [0, 2] rfl) hK hN (kT.to hT hS hAB) rfl hl.1 rfl (Nat.le_of_ble_eq_true rfl) ⟨Nat.le_of_ble_eq_true rfl, Nat.le_of_ble_eq_true rfl⟩ dX11_pips_2 (fun r_1 h_2 => ?_)
  have h_2 : (r_1 = 0 ∨ r_1 = 1) := h_2
  have i_3 := h_2
  have ar_1 : 0 ≤ r_1.toInt ∧ r_1.toInt ≤ 1 := by rcases i_3 with h | h <;> rw [h] <;> decide
  refine lv_if_eq (tgt := 13) hx hb dX11_pips_5 (by decide) (fun c_4 => ?_) (fun c_4 => ?_)
  · have c_4 : r_1.toInt = 0 := ci_eq_t c_4
    have b_r_1 := i32b r_1
    refine lv_aload_n hx hb dX11_pips_13 rfl (lv_at hl 0 rfl) ?_
    refine wrVq (As := []) (rest := []) (wr := []) ⟨hx, hb, hml, hown, hts⟩ (b_X11_tonight l G D cB cI cJ cZ cS cT s.heap.size h0 h_tape h_reader h_now h_trial h_images h_imageKept h_slots h_night h_otherNight h_circle h_words h_lawSearch h_placeSearch h_drawnNight h_night_tones h_night_lasts h_night_answers h_night_pip v_now_tones v_now_a v_now_b v_now_c v_now_d v_now_odds v_now_lines h_now_signs v_now_signCount h_now_posts v_now_postCount h_now_acts f_night_answers f_night_lasts f_night_pip f_night_tones h_now_acts_over h_now_acts_steps h_now_acts_before v_now_acts_size f_now_signs f_now_acts_over (by first | assumption | omega | decide) (by first | assumption | omega | decide) (by first | assumption | omega | decide)) hP hD hS hA hK hN hT hAB hG [0, 1, 2, 3, 4, 5, 6, 7, 8, 9] [] rfl rfl (by decide) (by decide) (by decide) (cvB (n := 0) (inr22 _ (List.mem_of_getElem? (i := 15) rfl)) (inr22 _ (List.mem_of_getElem? (i := 16) rfl)) (inr22 _ (List.mem_of_getElem? (i := 17) rfl)) (inr1 _ (List.mem_of_getElem? (i := 2) rfl)) (inr22 _ (List.mem_of_getElem? (i := 18) rfl)) (by decide +kernel) hts rfl rfl ⟨Nat.le_of_ble_eq_true rfl, Nat.le_of_ble_eq_true rfl⟩) 0 11 rfl rfl rfl rfl hl.1 rfl (Nat.le_of_ble_eq_true rfl) ⟨Nat.le_of_ble_eq_true rfl, Nat.le_of_ble_eq_true rfl⟩ dX11_pips_14 (fun r_5 x9 H locs h_6 hP hD hS => ?_)
    obtain ⟨g_7, g_8, g_9, g_10⟩ := x9
    have hP : va_P D vwCl [(h0, .inr (11, [.ref h_tape, .ref h_reader, .ref h_now, .ref h_trial, .ref h_images, .ref h_imageKept, .ref h_slots, .ref h_night, .ref h_otherNight, .ref h_circle, .ref h_words, .ref h_lawSearch, .ref h_placeSearch, .ref h_drawnNight])), (h_night, .inr (4, [.ref h_night_tones, .ref h_night_lasts, .ref h_night_answers, .ref h_night_pip])), (h_now, .inr (8, [.int v_now_tones, .int v_now_a, .int v_now_b, .int v_now_c, .int v_now_d, .int v_now_odds, .int v_now_lines, .ref h_now_signs, .int v_now_signCount, .ref h_now_posts, .int v_now_postCount, .ref h_now_acts])), (h_night_answers, .inl (cI, 61, .inl g_7)), (h_night_lasts, .inl (cI, 61, .inl g_8)), (h_night_pip, .inl (cZ, 61, .inl g_9)), (h_night_tones, .inl (cI, 61, .inl g_10)), (h_now_acts, .inr (0, [.ref h_now_acts_over, .ref h_now_acts_steps, .ref h_now_acts_before, .int v_now_acts_size])), (h_now_signs, .inl (cI, 8, .inl f_now_signs)), (h_now_acts_over, .inl (cI, 61, .inl f_now_acts_over))] H := hP
    have hD : va_D A [(h0, .inr (11, [.ref h_tape, .ref h_reader, .ref h_now, .ref h_trial, .ref h_images, .ref h_imageKept, .ref h_slots, .ref h_night, .ref h_otherNight, .ref h_circle, .ref h_words, .ref h_lawSearch, .ref h_placeSearch, .ref h_drawnNight])), (h_night, .inr (4, [.ref h_night_tones, .ref h_night_lasts, .ref h_night_answers, .ref h_night_pip])), (h_now, .inr (8, [.int v_now_tones, .int v_now_a, .int v_now_b, .int v_now_c, .int v_now_d, .int v_now_odds, .int v_now_lines, .ref h_now_signs, .int v_now_signCount, .ref h_now_posts, .int v_now_postCount, .ref h_now_acts])), (h_night_answers, .inl (cI, 61, .inl g_7)), (h_night_lasts, .inl (cI, 61, .inl g_8)), (h_night_pip, .inl (cZ, 61, .inl g_9)), (h_night_tones, .inl (cI, 61, .inl g_10)), (h_now_acts, .inr (0, [.ref h_now_acts_over, .ref h_now_acts_steps, .ref h_now_acts_before, .int v_now_acts_size])), (h_now_signs, .inl (cI, 8, .inl f_now_signs)), (h_now_acts_over, .inl (cI, 61, .inl f_now_acts_over))] := hD
    have h_6 : (r_5 = some h_night) := h_6
    have i_11 := h_6
    obtain rfl := i_11
    refine W.eq (g2 := F0 m 17 ls [.ref h_night]) rfl ?_
    refine lv_iload_n hx hb dX11_pips_17 rfl (lv_at hl 1 rfl) ?_
    refine roi (As := [.int v1]) (rest := []) ⟨hx, hb, hml, hown, hts⟩ (b_X4_pipsTo l G D cB cI cJ cZ cS cT h_night h_night_tones h_night_lasts h_night_answers h_night_pip g_9 v1 ) (cvB (n := 1) (inr27 _ (List.mem_of_getElem? (i := 23) rfl)) (inr28 _ (List.mem_of_getElem? (i := 0) rfl)) (inr28 _ (List.mem_of_getElem? (i := 1) rfl)) (inr2 _ (List.mem_of_getElem? (i := 11) rfl)) (inr28 _ (List.mem_of_getElem? (i := 2) rfl)) (by decide +kernel) hts rfl rfl ⟨Nat.le_of_ble_eq_true rfl, Nat.le_of_ble_eq_true rfl⟩) 0 4 rfl rfl rfl (hP.sub [1, 5] rfl) hK hN (kT.to hT hS hAB) rfl hl.1 rfl (Nat.le_of_ble_eq_true rfl) ⟨Nat.le_of_ble_eq_true rfl, Nat.le_of_ble_eq_true rfl⟩ dX11_pips_18 (fun r_12 h_13 => ?_)
    exact ret _ _ _ _ _ (g_7, g_8, g_9, g_10) dX11_pips_21 trivial (hP.sub [0, 1, 2, 3, 4, 5, 6, 7, 8, 9] rfl) (hD.sub [0, 1, 2, 3, 4, 5, 6, 7, 8, 9] (by decide) rfl) hS
  · have c_4 : ¬ r_1.toInt = 0 := ci_eq_f c_4
    have b_r_1 := i32b r_1
    refine lv_bipush (v := (-2)) hx hb dX11_pips_8 (by decide) ?_
    refine lv_goto (tgt := 21) hx hb dX11_pips_10 (by decide) ?_
    exact ret _ _ _ _ _ (f_night_answers, f_night_lasts, f_night_pip, f_night_tones) dX11_pips_21 trivial (hP.sub [0, 1, 2, 3, 4, 5, 6, 7, 8, 9] rfl) (hD.sub [0, 1, 2, 3, 4, 5, 6, 7, 8, 9] (by decide) rfl) hS
