theorem dX10_cheapest_0 : decode cX10_cheapest 0 = .ok (.sipush 1000, 3) := by decide +kernel
theorem dX10_cheapest_10 : decode cX10_cheapest 10 = .ok (.iload_n 2, 1) := by decide +kernel
theorem dX10_cheapest_11 : decode cX10_cheapest 11 = .ok (.if_icmp .ge 28, 3) := by decide +kernel
theorem dX10_cheapest_14 : decode cX10_cheapest 14 = .ok (.iload 5, 2) := by decide +kernel
theorem dX10_cheapest_16 : decode cX10_cheapest 16 = .ok (.aload_n 0, 1) := by decide +kernel
theorem dX10_cheapest_17 : decode cX10_cheapest 17 = .ok (.iload_n 1, 1) := by decide +kernel
theorem dX10_cheapest_18 : decode cX10_cheapest 18 = .ok (.iload_n 3, 1) := by decide +kernel
theorem dX10_cheapest_19 : decode cX10_cheapest 19 = .ok (.iload 4, 2) := by decide +kernel
theorem dX10_cheapest_21 : decode cX10_cheapest 21 = .ok (.iload 6, 2) := by decide +kernel
theorem dX10_cheapest_23 : decode cX10_cheapest 23 = .ok (.invokestatic 85, 3) := by decide +kernel
theorem dX10_cheapest_26 : decode cX10_cheapest 26 = .ok (.iadd, 1) := by decide +kernel
theorem dX10_cheapest_27 : decode cX10_cheapest 27 = .ok (.iaload, 1) := by decide +kernel
theorem dX10_cheapest_28 : decode cX10_cheapest 28 = .ok (.invokestatic 42, 3) := by decide +kernel
theorem dX10_cheapest_3 : decode cX10_cheapest 3 = .ok (.istore 5, 2) := by decide +kernel
theorem dX10_cheapest_31 : decode cX10_cheapest 31 = .ok (.istore 5, 2) := by decide +kernel
theorem dX10_cheapest_33 : decode cX10_cheapest 33 = .ok (.iinc 6 1, 3) := by decide +kernel
theorem dX10_cheapest_36 : decode cX10_cheapest 36 = .ok (.goto (-28), 3) := by decide +kernel
theorem dX10_cheapest_39 : decode cX10_cheapest 39 = .ok (.iload 5, 2) := by decide +kernel
theorem dX10_cheapest_41 : decode cX10_cheapest 41 = .ok (.ireturn, 1) := by decide +kernel
theorem dX10_cheapest_5 : decode cX10_cheapest 5 = .ok (.iconst 0, 1) := by decide +kernel
theorem dX10_cheapest_6 : decode cX10_cheapest 6 = .ok (.istore 6, 2) := by decide +kernel
theorem dX10_cheapest_8 : decode cX10_cheapest 8 = .ok (.iload 6, 2) := by decide +kernel
theorem dX10_fewestToMend_0 : decode cX10_fewestToMend 0 = .ok (.aload_n 1, 1) := by decide +kernel
theorem dX10_fewestToMend_1 : decode cX10_fewestToMend 1 = .ok (.invokevirtual 21, 3) := by decide +kernel
theorem dX10_fewestToMend_10 : decode cX10_fewestToMend 10 = .ok (.iload_n 3, 1) := by decide +kernel
theorem dX10_fewestToMend_100 : decode cX10_fewestToMend 100 = .ok (.iaload, 1) := by decide +kernel
theorem dX10_fewestToMend_101 : decode cX10_fewestToMend 101 = .ok (.invokestatic 42, 3) := by decide +kernel
theorem dX10_fewestToMend_104 : decode cX10_fewestToMend 104 = .ok (.istore 8, 2) := by decide +kernel
theorem dX10_fewestToMend_106 : decode cX10_fewestToMend 106 = .ok (.aload_n 0, 1) := by decide +kernel
theorem dX10_fewestToMend_107 : decode cX10_fewestToMend 107 = .ok (.aload_n 1, 1) := by decide +kernel
theorem dX10_fewestToMend_108 : decode cX10_fewestToMend 108 = .ok (.iload 9, 2) := by decide +kernel
theorem dX10_fewestToMend_11 : decode cX10_fewestToMend 11 = .ok (.invokevirtual 47, 3) := by decide +kernel
theorem dX10_fewestToMend_110 : decode cX10_fewestToMend 110 = .ok (.iconst 0, 1) := by decide +kernel
theorem dX10_fewestToMend_111 : decode cX10_fewestToMend 111 = .ok (.invokevirtual 64, 3) := by decide +kernel
theorem dX10_fewestToMend_114 : decode cX10_fewestToMend 114 = .ok (.iinc 9 1, 3) := by decide +kernel
theorem dX10_fewestToMend_117 : decode cX10_fewestToMend 117 = .ok (.goto (-49), 3) := by decide +kernel
theorem dX10_fewestToMend_120 : decode cX10_fewestToMend 120 = .ok (.iload 8, 2) := by decide +kernel
theorem dX10_fewestToMend_122 : decode cX10_fewestToMend 122 = .ok (.sipush 1000, 3) := by decide +kernel
theorem dX10_fewestToMend_125 : decode cX10_fewestToMend 125 = .ok (.if_icmp .ge 8, 3) := by decide +kernel
theorem dX10_fewestToMend_128 : decode cX10_fewestToMend 128 = .ok (.iload 8, 2) := by decide +kernel
theorem dX10_fewestToMend_130 : decode cX10_fewestToMend 130 = .ok (.goto 4, 3) := by decide +kernel
theorem dX10_fewestToMend_133 : decode cX10_fewestToMend 133 = .ok (.iconst (-1), 1) := by decide +kernel
theorem dX10_fewestToMend_134 : decode cX10_fewestToMend 134 = .ok (.ireturn, 1) := by decide +kernel
theorem dX10_fewestToMend_14 : decode cX10_fewestToMend 14 = .ok (.istore 5, 2) := by decide +kernel
theorem dX10_fewestToMend_16 : decode cX10_fewestToMend 16 = .ok (.iload 5, 2) := by decide +kernel
theorem dX10_fewestToMend_18 : decode cX10_fewestToMend 18 = .ok (.ifCond .eq 11, 3) := by decide +kernel
theorem dX10_fewestToMend_21 : decode cX10_fewestToMend 21 = .ok (.aload_n 2, 1) := by decide +kernel
theorem dX10_fewestToMend_22 : decode cX10_fewestToMend 22 = .ok (.iload_n 3, 1) := by decide +kernel
theorem dX10_fewestToMend_23 : decode cX10_fewestToMend 23 = .ok (.invokevirtual 51, 3) := by decide +kernel
theorem dX10_fewestToMend_26 : decode cX10_fewestToMend 26 = .ok (.goto 5, 3) := by decide +kernel
theorem dX10_fewestToMend_29 : decode cX10_fewestToMend 29 = .ok (.iload 4, 2) := by decide +kernel
theorem dX10_fewestToMend_31 : decode cX10_fewestToMend 31 = .ok (.istore 6, 2) := by decide +kernel
theorem dX10_fewestToMend_33 : decode cX10_fewestToMend 33 = .ok (.iload 5, 2) := by decide +kernel
theorem dX10_fewestToMend_35 : decode cX10_fewestToMend 35 = .ok (.ifCond .eq 8, 3) := by decide +kernel
theorem dX10_fewestToMend_38 : decode cX10_fewestToMend 38 = .ok (.iload 4, 2) := by decide +kernel
theorem dX10_fewestToMend_4 : decode cX10_fewestToMend 4 = .ok (.ifCond .ne 5, 3) := by decide +kernel
theorem dX10_fewestToMend_40 : decode cX10_fewestToMend 40 = .ok (.goto 8, 3) := by decide +kernel
theorem dX10_fewestToMend_43 : decode cX10_fewestToMend 43 = .ok (.aload_n 2, 1) := by decide +kernel
theorem dX10_fewestToMend_44 : decode cX10_fewestToMend 44 = .ok (.iload_n 3, 1) := by decide +kernel
theorem dX10_fewestToMend_45 : decode cX10_fewestToMend 45 = .ok (.invokevirtual 57, 3) := by decide +kernel
theorem dX10_fewestToMend_48 : decode cX10_fewestToMend 48 = .ok (.istore 7, 2) := by decide +kernel
theorem dX10_fewestToMend_50 : decode cX10_fewestToMend 50 = .ok (.aload_n 0, 1) := by decide +kernel
theorem dX10_fewestToMend_51 : decode cX10_fewestToMend 51 = .ok (.iload 6, 2) := by decide +kernel
theorem dX10_fewestToMend_53 : decode cX10_fewestToMend 53 = .ok (.iload 7, 2) := by decide +kernel
theorem dX10_fewestToMend_55 : decode cX10_fewestToMend 55 = .ok (.invokevirtual 60, 3) := by decide +kernel
theorem dX10_fewestToMend_58 : decode cX10_fewestToMend 58 = .ok (.sipush 1000, 3) := by decide +kernel
theorem dX10_fewestToMend_61 : decode cX10_fewestToMend 61 = .ok (.istore 8, 2) := by decide +kernel
theorem dX10_fewestToMend_63 : decode cX10_fewestToMend 63 = .ok (.iload_n 3, 1) := by decide +kernel
theorem dX10_fewestToMend_64 : decode cX10_fewestToMend 64 = .ok (.iconst 1, 1) := by decide +kernel
theorem dX10_fewestToMend_65 : decode cX10_fewestToMend 65 = .ok (.iadd, 1) := by decide +kernel
theorem dX10_fewestToMend_66 : decode cX10_fewestToMend 66 = .ok (.istore 9, 2) := by decide +kernel
theorem dX10_fewestToMend_68 : decode cX10_fewestToMend 68 = .ok (.iload 9, 2) := by decide +kernel
theorem dX10_fewestToMend_7 : decode cX10_fewestToMend 7 = .ok (.iconst 0, 1) := by decide +kernel
theorem dX10_fewestToMend_70 : decode cX10_fewestToMend 70 = .ok (.bipush 61, 2) := by decide +kernel
theorem dX10_fewestToMend_72 : decode cX10_fewestToMend 72 = .ok (.if_icmp .ge 48, 3) := by decide +kernel
theorem dX10_fewestToMend_75 : decode cX10_fewestToMend 75 = .ok (.aload_n 2, 1) := by decide +kernel
theorem dX10_fewestToMend_76 : decode cX10_fewestToMend 76 = .ok (.iload 9, 2) := by decide +kernel
theorem dX10_fewestToMend_78 : decode cX10_fewestToMend 78 = .ok (.invokevirtual 51, 3) := by decide +kernel
theorem dX10_fewestToMend_8 : decode cX10_fewestToMend 8 = .ok (.ireturn, 1) := by decide +kernel
theorem dX10_fewestToMend_81 : decode cX10_fewestToMend 81 = .ok (.aload_n 2, 1) := by decide +kernel
theorem dX10_fewestToMend_82 : decode cX10_fewestToMend 82 = .ok (.iload 9, 2) := by decide +kernel
theorem dX10_fewestToMend_84 : decode cX10_fewestToMend 84 = .ok (.invokevirtual 57, 3) := by decide +kernel
theorem dX10_fewestToMend_87 : decode cX10_fewestToMend 87 = .ok (.invokestatic 38, 3) := by decide +kernel
theorem dX10_fewestToMend_9 : decode cX10_fewestToMend 9 = .ok (.aload_n 1, 1) := by decide +kernel
theorem dX10_fewestToMend_90 : decode cX10_fewestToMend 90 = .ok (.istore 10, 2) := by decide +kernel
theorem dX10_fewestToMend_92 : decode cX10_fewestToMend 92 = .ok (.iload 8, 2) := by decide +kernel
theorem dX10_fewestToMend_94 : decode cX10_fewestToMend 94 = .ok (.aload_n 0, 1) := by decide +kernel
theorem dX10_fewestToMend_95 : decode cX10_fewestToMend 95 = .ok (.getfield 11, 3) := by decide +kernel
theorem dX10_fewestToMend_98 : decode cX10_fewestToMend 98 = .ok (.iload 10, 2) := by decide +kernel
theorem dX10_fewestTo_0 : decode cX10_fewestTo 0 = .ok (.aload_n 1, 1) := by decide +kernel
theorem dX10_fewestTo_1 : decode cX10_fewestTo 1 = .ok (.invokevirtual 21, 3) := by decide +kernel
theorem dX10_fewestTo_10 : decode cX10_fewestTo 10 = .ok (.aload_n 1, 1) := by decide +kernel
theorem dX10_fewestTo_100 : decode cX10_fewestTo 100 = .ok (.goto 4, 3) := by decide +kernel
theorem dX10_fewestTo_103 : decode cX10_fewestTo 103 = .ok (.iconst (-1), 1) := by decide +kernel
theorem dX10_fewestTo_104 : decode cX10_fewestTo 104 = .ok (.ireturn, 1) := by decide +kernel
theorem dX10_fewestTo_11 : decode cX10_fewestTo 11 = .ok (.iload_n 2, 1) := by decide +kernel
theorem dX10_fewestTo_12 : decode cX10_fewestTo 12 = .ok (.iload 4, 2) := by decide +kernel
theorem dX10_fewestTo_14 : decode cX10_fewestTo 14 = .ok (.invokevirtual 27, 3) := by decide +kernel
theorem dX10_fewestTo_17 : decode cX10_fewestTo 17 = .ok (.sipush 1000, 3) := by decide +kernel
theorem dX10_fewestTo_20 : decode cX10_fewestTo 20 = .ok (.istore 5, 2) := by decide +kernel
theorem dX10_fewestTo_22 : decode cX10_fewestTo 22 = .ok (.iconst 0, 1) := by decide +kernel
theorem dX10_fewestTo_23 : decode cX10_fewestTo 23 = .ok (.istore 6, 2) := by decide +kernel
theorem dX10_fewestTo_25 : decode cX10_fewestTo 25 = .ok (.iload 6, 2) := by decide +kernel
theorem dX10_fewestTo_27 : decode cX10_fewestTo 27 = .ok (.aload_n 1, 1) := by decide +kernel
theorem dX10_fewestTo_28 : decode cX10_fewestTo 28 = .ok (.invokevirtual 31, 3) := by decide +kernel
theorem dX10_fewestTo_31 : decode cX10_fewestTo 31 = .ok (.if_icmp .ge 59, 3) := by decide +kernel
theorem dX10_fewestTo_34 : decode cX10_fewestTo 34 = .ok (.iconst 0, 1) := by decide +kernel
theorem dX10_fewestTo_35 : decode cX10_fewestTo 35 = .ok (.istore 7, 2) := by decide +kernel
theorem dX10_fewestTo_37 : decode cX10_fewestTo 37 = .ok (.iload 7, 2) := by decide +kernel
theorem dX10_fewestTo_39 : decode cX10_fewestTo 39 = .ok (.aload_n 1, 1) := by decide +kernel
theorem dX10_fewestTo_4 : decode cX10_fewestTo 4 = .ok (.ifCond .ne 5, 3) := by decide +kernel
theorem dX10_fewestTo_40 : decode cX10_fewestTo 40 = .ok (.invokevirtual 31, 3) := by decide +kernel
theorem dX10_fewestTo_43 : decode cX10_fewestTo 43 = .ok (.if_icmp .ge 41, 3) := by decide +kernel
theorem dX10_fewestTo_46 : decode cX10_fewestTo 46 = .ok (.aload_n 1, 1) := by decide +kernel
theorem dX10_fewestTo_47 : decode cX10_fewestTo 47 = .ok (.iload_n 2, 1) := by decide +kernel
theorem dX10_fewestTo_48 : decode cX10_fewestTo 48 = .ok (.iload 6, 2) := by decide +kernel
theorem dX10_fewestTo_50 : decode cX10_fewestTo 50 = .ok (.iload 7, 2) := by decide +kernel
theorem dX10_fewestTo_52 : decode cX10_fewestTo 52 = .ok (.invokevirtual 34, 3) := by decide +kernel
theorem dX10_fewestTo_55 : decode cX10_fewestTo 55 = .ok (.iload_n 3, 1) := by decide +kernel
theorem dX10_fewestTo_56 : decode cX10_fewestTo 56 = .ok (.if_icmp .ne 22, 3) := by decide +kernel
theorem dX10_fewestTo_59 : decode cX10_fewestTo 59 = .ok (.iload 5, 2) := by decide +kernel
theorem dX10_fewestTo_61 : decode cX10_fewestTo 61 = .ok (.aload_n 0, 1) := by decide +kernel
theorem dX10_fewestTo_62 : decode cX10_fewestTo 62 = .ok (.getfield 11, 3) := by decide +kernel
theorem dX10_fewestTo_65 : decode cX10_fewestTo 65 = .ok (.iload 6, 2) := by decide +kernel
theorem dX10_fewestTo_67 : decode cX10_fewestTo 67 = .ok (.iload 7, 2) := by decide +kernel
theorem dX10_fewestTo_69 : decode cX10_fewestTo 69 = .ok (.invokestatic 38, 3) := by decide +kernel
theorem dX10_fewestTo_7 : decode cX10_fewestTo 7 = .ok (.iconst (-1), 1) := by decide +kernel
theorem dX10_fewestTo_72 : decode cX10_fewestTo 72 = .ok (.iaload, 1) := by decide +kernel
theorem dX10_fewestTo_73 : decode cX10_fewestTo 73 = .ok (.invokestatic 42, 3) := by decide +kernel
theorem dX10_fewestTo_76 : decode cX10_fewestTo 76 = .ok (.istore 5, 2) := by decide +kernel
theorem dX10_fewestTo_78 : decode cX10_fewestTo 78 = .ok (.iinc 7 1, 3) := by decide +kernel
theorem dX10_fewestTo_8 : decode cX10_fewestTo 8 = .ok (.ireturn, 1) := by decide +kernel
theorem dX10_fewestTo_81 : decode cX10_fewestTo 81 = .ok (.goto (-44), 3) := by decide +kernel
theorem dX10_fewestTo_84 : decode cX10_fewestTo 84 = .ok (.iinc 6 1, 3) := by decide +kernel
theorem dX10_fewestTo_87 : decode cX10_fewestTo 87 = .ok (.goto (-62), 3) := by decide +kernel
theorem dX10_fewestTo_9 : decode cX10_fewestTo 9 = .ok (.aload_n 0, 1) := by decide +kernel
theorem dX10_fewestTo_90 : decode cX10_fewestTo 90 = .ok (.iload 5, 2) := by decide +kernel
theorem dX10_fewestTo_92 : decode cX10_fewestTo 92 = .ok (.sipush 1000, 3) := by decide +kernel
theorem dX10_fewestTo_95 : decode cX10_fewestTo 95 = .ok (.if_icmp .ge 8, 3) := by decide +kernel
theorem dX10_fewestTo_98 : decode cX10_fewestTo 98 = .ok (.iload 5, 2) := by decide +kernel
theorem dX10_ownTone_0 : decode cX10_ownTone 0 = .ok (.iload_n 2, 1) := by decide +kernel
theorem dX10_ownTone_1 : decode cX10_ownTone 1 = .ok (.ifCond .eq 14, 3) := by decide +kernel
theorem dX10_ownTone_12 : decode cX10_ownTone 12 = .ok (.goto 11, 3) := by decide +kernel
theorem dX10_ownTone_15 : decode cX10_ownTone 15 = .ok (.aload_n 0, 1) := by decide +kernel
theorem dX10_ownTone_16 : decode cX10_ownTone 16 = .ok (.iload_n 1, 1) := by decide +kernel
theorem dX10_ownTone_17 : decode cX10_ownTone 17 = .ok (.iload 4, 2) := by decide +kernel
theorem dX10_ownTone_19 : decode cX10_ownTone 19 = .ok (.iload_n 3, 1) := by decide +kernel
theorem dX10_ownTone_20 : decode cX10_ownTone 20 = .ok (.invokevirtual 34, 3) := by decide +kernel
theorem dX10_ownTone_23 : decode cX10_ownTone 23 = .ok (.ireturn, 1) := by decide +kernel
theorem dX10_ownTone_4 : decode cX10_ownTone 4 = .ok (.aload_n 0, 1) := by decide +kernel
theorem dX10_ownTone_5 : decode cX10_ownTone 5 = .ok (.iload_n 1, 1) := by decide +kernel
theorem dX10_ownTone_6 : decode cX10_ownTone 6 = .ok (.iload_n 3, 1) := by decide +kernel
theorem dX10_ownTone_7 : decode cX10_ownTone 7 = .ok (.iload 4, 2) := by decide +kernel
theorem dX10_ownTone_9 : decode cX10_ownTone 9 = .ok (.invokevirtual 34, 3) := by decide +kernel
theorem dX10_start_0 : decode cX10_start 0 = .ok (.aload_n 0, 1) := by decide +kernel
theorem dX10_start_1 : decode cX10_start 1 = .ok (.getfield 11, 3) := by decide +kernel
theorem dX10_start_10 : decode cX10_start 10 = .ok (.aload_n 0, 1) := by decide +kernel
theorem dX10_start_11 : decode cX10_start 11 = .ok (.getfield 11, 3) := by decide +kernel
theorem dX10_start_14 : decode cX10_start 14 = .ok (.iload_n 1, 1) := by decide +kernel
theorem dX10_start_15 : decode cX10_start 15 = .ok (.iload_n 2, 1) := by decide +kernel
theorem dX10_start_16 : decode cX10_start 16 = .ok (.invokestatic 38, 3) := by decide +kernel
theorem dX10_start_19 : decode cX10_start 19 = .ok (.iconst 0, 1) := by decide +kernel
theorem dX10_start_20 : decode cX10_start 20 = .ok (.iastore, 1) := by decide +kernel
theorem dX10_start_21 : decode cX10_start 21 = .ok (.return_, 1) := by decide +kernel
theorem dX10_start_4 : decode cX10_start 4 = .ok (.sipush 1000, 3) := by decide +kernel
theorem dX10_start_7 : decode cX10_start 7 = .ok (.invokestatic 75, 3) := by decide +kernel
theorem dX10_stateOf_0 : decode cX10_stateOf 0 = .ok (.iload_n 0, 1) := by decide +kernel
theorem dX10_stateOf_1 : decode cX10_stateOf 1 = .ok (.ifCond .eq 11, 3) := by decide +kernel
theorem dX10_stateOf_12 : decode cX10_stateOf 12 = .ok (.iload_n 2, 1) := by decide +kernel
theorem dX10_stateOf_13 : decode cX10_stateOf 13 = .ok (.iload_n 1, 1) := by decide +kernel
theorem dX10_stateOf_14 : decode cX10_stateOf 14 = .ok (.invokestatic 38, 3) := by decide +kernel
theorem dX10_stateOf_17 : decode cX10_stateOf 17 = .ok (.ireturn, 1) := by decide +kernel
theorem dX10_stateOf_4 : decode cX10_stateOf 4 = .ok (.iload_n 1, 1) := by decide +kernel
theorem dX10_stateOf_5 : decode cX10_stateOf 5 = .ok (.iload_n 2, 1) := by decide +kernel
theorem dX10_stateOf_6 : decode cX10_stateOf 6 = .ok (.invokestatic 38, 3) := by decide +kernel
theorem dX10_stateOf_9 : decode cX10_stateOf 9 = .ok (.goto 8, 3) := by decide +kernel
theorem dX10_state_0 : decode cX10_state 0 = .ok (.iload_n 0, 1) := by decide +kernel
theorem dX10_state_1 : decode cX10_state 1 = .ok (.bipush 9, 2) := by decide +kernel
theorem dX10_state_11 : decode cX10_state 11 = .ok (.iload_n 2, 1) := by decide +kernel
theorem dX10_state_12 : decode cX10_state 12 = .ok (.bipush 81, 2) := by decide +kernel
theorem dX10_state_14 : decode cX10_state 14 = .ok (.if_icmp .ge 7, 3) := by decide +kernel
theorem dX10_state_17 : decode cX10_state 17 = .ok (.iload_n 2, 1) := by decide +kernel
theorem dX10_state_18 : decode cX10_state 18 = .ok (.goto 4, 3) := by decide +kernel
theorem dX10_state_21 : decode cX10_state 21 = .ok (.iconst 0, 1) := by decide +kernel
theorem dX10_state_22 : decode cX10_state 22 = .ok (.ireturn, 1) := by decide +kernel
theorem dX10_state_3 : decode cX10_state 3 = .ok (.imul, 1) := by decide +kernel
theorem dX10_state_4 : decode cX10_state 4 = .ok (.iload_n 1, 1) := by decide +kernel
theorem dX10_state_5 : decode cX10_state 5 = .ok (.iadd, 1) := by decide +kernel
theorem dX10_state_6 : decode cX10_state 6 = .ok (.istore_n 2, 1) := by decide +kernel
theorem dX10_state_7 : decode cX10_state 7 = .ok (.iload_n 2, 1) := by decide +kernel
theorem dX10_state_8 : decode cX10_state 8 = .ok (.ifCond .lt 13, 3) := by decide +kernel
theorem dX10_tonesReached_0 : decode cX10_tonesReached 0 = .ok (.aload_n 1, 1) := by decide +kernel
theorem dX10_tonesReached_1 : decode cX10_tonesReached 1 = .ok (.invokevirtual 21, 3) := by decide +kernel
theorem dX10_tonesReached_10 : decode cX10_tonesReached 10 = .ok (.aload_n 1, 1) := by decide +kernel
theorem dX10_tonesReached_11 : decode cX10_tonesReached 11 = .ok (.iload_n 2, 1) := by decide +kernel
theorem dX10_tonesReached_12 : decode cX10_tonesReached 12 = .ok (.iconst 0, 1) := by decide +kernel
theorem dX10_tonesReached_13 : decode cX10_tonesReached 13 = .ok (.invokevirtual 27, 3) := by decide +kernel
theorem dX10_tonesReached_16 : decode cX10_tonesReached 16 = .ok (.iconst 0, 1) := by decide +kernel
theorem dX10_tonesReached_17 : decode cX10_tonesReached 17 = .ok (.istore_n 3, 1) := by decide +kernel
theorem dX10_tonesReached_18 : decode cX10_tonesReached 18 = .ok (.iconst 0, 1) := by decide +kernel
theorem dX10_tonesReached_19 : decode cX10_tonesReached 19 = .ok (.istore 4, 2) := by decide +kernel
theorem dX10_tonesReached_21 : decode cX10_tonesReached 21 = .ok (.iload 4, 2) := by decide +kernel
theorem dX10_tonesReached_23 : decode cX10_tonesReached 23 = .ok (.aload_n 1, 1) := by decide +kernel
theorem dX10_tonesReached_24 : decode cX10_tonesReached 24 = .ok (.invokevirtual 31, 3) := by decide +kernel
theorem dX10_tonesReached_27 : decode cX10_tonesReached 27 = .ok (.if_icmp .ge 59, 3) := by decide +kernel
theorem dX10_tonesReached_30 : decode cX10_tonesReached 30 = .ok (.iconst 0, 1) := by decide +kernel
theorem dX10_tonesReached_31 : decode cX10_tonesReached 31 = .ok (.istore 5, 2) := by decide +kernel
theorem dX10_tonesReached_33 : decode cX10_tonesReached 33 = .ok (.iload 5, 2) := by decide +kernel
theorem dX10_tonesReached_35 : decode cX10_tonesReached 35 = .ok (.aload_n 1, 1) := by decide +kernel
theorem dX10_tonesReached_36 : decode cX10_tonesReached 36 = .ok (.invokevirtual 31, 3) := by decide +kernel
theorem dX10_tonesReached_39 : decode cX10_tonesReached 39 = .ok (.if_icmp .ge 41, 3) := by decide +kernel
theorem dX10_tonesReached_4 : decode cX10_tonesReached 4 = .ok (.ifCond .ne 5, 3) := by decide +kernel
theorem dX10_tonesReached_42 : decode cX10_tonesReached 42 = .ok (.aload_n 0, 1) := by decide +kernel
theorem dX10_tonesReached_43 : decode cX10_tonesReached 43 = .ok (.getfield 11, 3) := by decide +kernel
theorem dX10_tonesReached_46 : decode cX10_tonesReached 46 = .ok (.iload 4, 2) := by decide +kernel
theorem dX10_tonesReached_48 : decode cX10_tonesReached 48 = .ok (.iload 5, 2) := by decide +kernel
theorem dX10_tonesReached_50 : decode cX10_tonesReached 50 = .ok (.invokestatic 38, 3) := by decide +kernel
theorem dX10_tonesReached_53 : decode cX10_tonesReached 53 = .ok (.iaload, 1) := by decide +kernel
theorem dX10_tonesReached_54 : decode cX10_tonesReached 54 = .ok (.sipush 1000, 3) := by decide +kernel
theorem dX10_tonesReached_57 : decode cX10_tonesReached 57 = .ok (.if_icmp .ge 17, 3) := by decide +kernel
theorem dX10_tonesReached_60 : decode cX10_tonesReached 60 = .ok (.iload_n 3, 1) := by decide +kernel
theorem dX10_tonesReached_61 : decode cX10_tonesReached 61 = .ok (.iconst 1, 1) := by decide +kernel
theorem dX10_tonesReached_62 : decode cX10_tonesReached 62 = .ok (.aload_n 1, 1) := by decide +kernel
theorem dX10_tonesReached_63 : decode cX10_tonesReached 63 = .ok (.iload_n 2, 1) := by decide +kernel
theorem dX10_tonesReached_64 : decode cX10_tonesReached 64 = .ok (.iload 4, 2) := by decide +kernel
theorem dX10_tonesReached_66 : decode cX10_tonesReached 66 = .ok (.iload 5, 2) := by decide +kernel
theorem dX10_tonesReached_68 : decode cX10_tonesReached 68 = .ok (.invokevirtual 34, 3) := by decide +kernel
theorem dX10_tonesReached_7 : decode cX10_tonesReached 7 = .ok (.iconst 0, 1) := by decide +kernel
theorem dX10_tonesReached_71 : decode cX10_tonesReached 71 = .ok (.ishl, 1) := by decide +kernel
theorem dX10_tonesReached_72 : decode cX10_tonesReached 72 = .ok (.ior, 1) := by decide +kernel
theorem dX10_tonesReached_73 : decode cX10_tonesReached 73 = .ok (.istore_n 3, 1) := by decide +kernel
theorem dX10_tonesReached_74 : decode cX10_tonesReached 74 = .ok (.iinc 5 1, 3) := by decide +kernel
theorem dX10_tonesReached_77 : decode cX10_tonesReached 77 = .ok (.goto (-44), 3) := by decide +kernel
theorem dX10_tonesReached_8 : decode cX10_tonesReached 8 = .ok (.ireturn, 1) := by decide +kernel
theorem dX10_tonesReached_80 : decode cX10_tonesReached 80 = .ok (.iinc 4 1, 3) := by decide +kernel
theorem dX10_tonesReached_83 : decode cX10_tonesReached 83 = .ok (.goto (-62), 3) := by decide +kernel
theorem dX10_tonesReached_86 : decode cX10_tonesReached 86 = .ok (.iload_n 3, 1) := by decide +kernel
theorem dX10_tonesReached_87 : decode cX10_tonesReached 87 = .ok (.ireturn, 1) := by decide +kernel
theorem dX10_tonesReached_9 : decode cX10_tonesReached 9 = .ok (.aload_n 0, 1) := by decide +kernel
theorem dX10_walkOver_0 : decode cX10_walkOver 0 = .ok (.aload_n 1, 1) := by decide +kernel
theorem dX10_walkOver_1 : decode cX10_walkOver 1 = .ok (.iload_n 2, 1) := by decide +kernel
theorem dX10_walkOver_101 : decode cX10_walkOver 101 = .ok (.iload 7, 2) := by decide +kernel
theorem dX10_walkOver_103 : decode cX10_walkOver 103 = .ok (.sipush 1000, 3) := by decide +kernel
theorem dX10_walkOver_106 : decode cX10_walkOver 106 = .ok (.invokestatic 42, 3) := by decide +kernel
theorem dX10_walkOver_109 : decode cX10_walkOver 109 = .ok (.iastore, 1) := by decide +kernel
theorem dX10_walkOver_110 : decode cX10_walkOver 110 = .ok (.iinc 8 1, 3) := by decide +kernel
theorem dX10_walkOver_113 : decode cX10_walkOver 113 = .ok (.goto (-34), 3) := by decide +kernel
theorem dX10_walkOver_116 : decode cX10_walkOver 116 = .ok (.iconst 0, 1) := by decide +kernel
theorem dX10_walkOver_117 : decode cX10_walkOver 117 = .ok (.istore 8, 2) := by decide +kernel
theorem dX10_walkOver_119 : decode cX10_walkOver 119 = .ok (.iload 8, 2) := by decide +kernel
theorem dX10_walkOver_12 : decode cX10_walkOver 12 = .ok (.iload_n 3, 1) := by decide +kernel
theorem dX10_walkOver_121 : decode cX10_walkOver 121 = .ok (.aload_n 1, 1) := by decide +kernel
theorem dX10_walkOver_122 : decode cX10_walkOver 122 = .ok (.invokevirtual 31, 3) := by decide +kernel
theorem dX10_walkOver_125 : decode cX10_walkOver 125 = .ok (.if_icmp .ge 60, 3) := by decide +kernel
theorem dX10_walkOver_128 : decode cX10_walkOver 128 = .ok (.iload 4, 2) := by decide +kernel
theorem dX10_walkOver_13 : decode cX10_walkOver 13 = .ok (.ifCond .ne 7, 3) := by decide +kernel
theorem dX10_walkOver_130 : decode cX10_walkOver 130 = .ok (.iload 6, 2) := by decide +kernel
theorem dX10_walkOver_132 : decode cX10_walkOver 132 = .ok (.aload_n 1, 1) := by decide +kernel
theorem dX10_walkOver_133 : decode cX10_walkOver 133 = .ok (.iload_n 2, 1) := by decide +kernel
theorem dX10_walkOver_134 : decode cX10_walkOver 134 = .ok (.iload 4, 2) := by decide +kernel
theorem dX10_walkOver_136 : decode cX10_walkOver 136 = .ok (.iload 6, 2) := by decide +kernel
theorem dX10_walkOver_138 : decode cX10_walkOver 138 = .ok (.iload 8, 2) := by decide +kernel
theorem dX10_walkOver_140 : decode cX10_walkOver 140 = .ok (.invokestatic 89, 3) := by decide +kernel
theorem dX10_walkOver_143 : decode cX10_walkOver 143 = .ok (.invokestatic 85, 3) := by decide +kernel
theorem dX10_walkOver_146 : decode cX10_walkOver 146 = .ok (.istore 9, 2) := by decide +kernel
theorem dX10_walkOver_148 : decode cX10_walkOver 148 = .ok (.aload_n 0, 1) := by decide +kernel
theorem dX10_walkOver_149 : decode cX10_walkOver 149 = .ok (.getfield 15, 3) := by decide +kernel
theorem dX10_walkOver_152 : decode cX10_walkOver 152 = .ok (.iload 9, 2) := by decide +kernel
theorem dX10_walkOver_154 : decode cX10_walkOver 154 = .ok (.aload_n 0, 1) := by decide +kernel
theorem dX10_walkOver_155 : decode cX10_walkOver 155 = .ok (.getfield 15, 3) := by decide +kernel
theorem dX10_walkOver_158 : decode cX10_walkOver 158 = .ok (.iload 9, 2) := by decide +kernel
theorem dX10_walkOver_16 : decode cX10_walkOver 16 = .ok (.iconst 1, 1) := by decide +kernel
theorem dX10_walkOver_160 : decode cX10_walkOver 160 = .ok (.iaload, 1) := by decide +kernel
theorem dX10_walkOver_161 : decode cX10_walkOver 161 = .ok (.aload_n 0, 1) := by decide +kernel
theorem dX10_walkOver_162 : decode cX10_walkOver 162 = .ok (.getfield 11, 3) := by decide +kernel
theorem dX10_walkOver_165 : decode cX10_walkOver 165 = .ok (.iload 4, 2) := by decide +kernel
theorem dX10_walkOver_167 : decode cX10_walkOver 167 = .ok (.iload 6, 2) := by decide +kernel
theorem dX10_walkOver_169 : decode cX10_walkOver 169 = .ok (.iload 8, 2) := by decide +kernel
theorem dX10_walkOver_17 : decode cX10_walkOver 17 = .ok (.goto 4, 3) := by decide +kernel
theorem dX10_walkOver_171 : decode cX10_walkOver 171 = .ok (.invokestatic 85, 3) := by decide +kernel
theorem dX10_walkOver_174 : decode cX10_walkOver 174 = .ok (.iaload, 1) := by decide +kernel
theorem dX10_walkOver_175 : decode cX10_walkOver 175 = .ok (.invokestatic 42, 3) := by decide +kernel
theorem dX10_walkOver_178 : decode cX10_walkOver 178 = .ok (.iastore, 1) := by decide +kernel
theorem dX10_walkOver_179 : decode cX10_walkOver 179 = .ok (.iinc 8 1, 3) := by decide +kernel
theorem dX10_walkOver_182 : decode cX10_walkOver 182 = .ok (.goto (-63), 3) := by decide +kernel
theorem dX10_walkOver_185 : decode cX10_walkOver 185 = .ok (.iinc 6 1, 3) := by decide +kernel
theorem dX10_walkOver_188 : decode cX10_walkOver 188 = .ok (.goto (-152), 3) := by decide +kernel
theorem dX10_walkOver_191 : decode cX10_walkOver 191 = .ok (.aload_n 0, 1) := by decide +kernel
theorem dX10_walkOver_192 : decode cX10_walkOver 192 = .ok (.getfield 11, 3) := by decide +kernel
theorem dX10_walkOver_195 : decode cX10_walkOver 195 = .ok (.astore 6, 2) := by decide +kernel
theorem dX10_walkOver_197 : decode cX10_walkOver 197 = .ok (.aload_n 0, 1) := by decide +kernel
theorem dX10_walkOver_198 : decode cX10_walkOver 198 = .ok (.aload_n 0, 1) := by decide +kernel
theorem dX10_walkOver_199 : decode cX10_walkOver 199 = .ok (.getfield 15, 3) := by decide +kernel
theorem dX10_walkOver_2 : decode cX10_walkOver 2 = .ok (.invokevirtual 47, 3) := by decide +kernel
theorem dX10_walkOver_20 : decode cX10_walkOver 20 = .ok (.iconst 0, 1) := by decide +kernel
theorem dX10_walkOver_202 : decode cX10_walkOver 202 = .ok (.putfield 11, 3) := by decide +kernel
theorem dX10_walkOver_205 : decode cX10_walkOver 205 = .ok (.aload_n 0, 1) := by decide +kernel
theorem dX10_walkOver_206 : decode cX10_walkOver 206 = .ok (.aload 6, 2) := by decide +kernel
theorem dX10_walkOver_208 : decode cX10_walkOver 208 = .ok (.putfield 15, 3) := by decide +kernel
theorem dX10_walkOver_21 : decode cX10_walkOver 21 = .ok (.istore 5, 2) := by decide +kernel
theorem dX10_walkOver_211 : decode cX10_walkOver 211 = .ok (.return_, 1) := by decide +kernel
theorem dX10_walkOver_23 : decode cX10_walkOver 23 = .ok (.aload_n 0, 1) := by decide +kernel
theorem dX10_walkOver_24 : decode cX10_walkOver 24 = .ok (.getfield 15, 3) := by decide +kernel
theorem dX10_walkOver_27 : decode cX10_walkOver 27 = .ok (.sipush 1000, 3) := by decide +kernel
theorem dX10_walkOver_30 : decode cX10_walkOver 30 = .ok (.invokestatic 75, 3) := by decide +kernel
theorem dX10_walkOver_33 : decode cX10_walkOver 33 = .ok (.iconst 0, 1) := by decide +kernel
theorem dX10_walkOver_34 : decode cX10_walkOver 34 = .ok (.istore 6, 2) := by decide +kernel
theorem dX10_walkOver_36 : decode cX10_walkOver 36 = .ok (.iload 6, 2) := by decide +kernel
theorem dX10_walkOver_38 : decode cX10_walkOver 38 = .ok (.aload_n 1, 1) := by decide +kernel
theorem dX10_walkOver_39 : decode cX10_walkOver 39 = .ok (.invokevirtual 31, 3) := by decide +kernel
theorem dX10_walkOver_42 : decode cX10_walkOver 42 = .ok (.if_icmp .ge 149, 3) := by decide +kernel
theorem dX10_walkOver_45 : decode cX10_walkOver 45 = .ok (.iload 5, 2) := by decide +kernel
theorem dX10_walkOver_47 : decode cX10_walkOver 47 = .ok (.ifCond .eq 24, 3) := by decide +kernel
theorem dX10_walkOver_5 : decode cX10_walkOver 5 = .ok (.istore 4, 2) := by decide +kernel
theorem dX10_walkOver_50 : decode cX10_walkOver 50 = .ok (.aload_n 0, 1) := by decide +kernel
theorem dX10_walkOver_51 : decode cX10_walkOver 51 = .ok (.getfield 11, 3) := by decide +kernel
theorem dX10_walkOver_54 : decode cX10_walkOver 54 = .ok (.iconst 0, 1) := by decide +kernel
theorem dX10_walkOver_55 : decode cX10_walkOver 55 = .ok (.aload_n 1, 1) := by decide +kernel
theorem dX10_walkOver_56 : decode cX10_walkOver 56 = .ok (.invokevirtual 31, 3) := by decide +kernel
theorem dX10_walkOver_59 : decode cX10_walkOver 59 = .ok (.iload 4, 2) := by decide +kernel
theorem dX10_walkOver_61 : decode cX10_walkOver 61 = .ok (.iload 6, 2) := by decide +kernel
theorem dX10_walkOver_63 : decode cX10_walkOver 63 = .ok (.invokestatic 81, 3) := by decide +kernel
theorem dX10_walkOver_66 : decode cX10_walkOver 66 = .ok (.iconst 1, 1) := by decide +kernel
theorem dX10_walkOver_67 : decode cX10_walkOver 67 = .ok (.iadd, 1) := by decide +kernel
theorem dX10_walkOver_68 : decode cX10_walkOver 68 = .ok (.goto 6, 3) := by decide +kernel
theorem dX10_walkOver_7 : decode cX10_walkOver 7 = .ok (.iload 4, 2) := by decide +kernel
theorem dX10_walkOver_71 : decode cX10_walkOver 71 = .ok (.sipush 1000, 3) := by decide +kernel
theorem dX10_walkOver_74 : decode cX10_walkOver 74 = .ok (.istore 7, 2) := by decide +kernel
theorem dX10_walkOver_76 : decode cX10_walkOver 76 = .ok (.iconst 0, 1) := by decide +kernel
theorem dX10_walkOver_77 : decode cX10_walkOver 77 = .ok (.istore 8, 2) := by decide +kernel
theorem dX10_walkOver_79 : decode cX10_walkOver 79 = .ok (.iload 8, 2) := by decide +kernel
theorem dX10_walkOver_81 : decode cX10_walkOver 81 = .ok (.aload_n 1, 1) := by decide +kernel
theorem dX10_walkOver_82 : decode cX10_walkOver 82 = .ok (.invokevirtual 31, 3) := by decide +kernel
theorem dX10_walkOver_85 : decode cX10_walkOver 85 = .ok (.if_icmp .ge 31, 3) := by decide +kernel
theorem dX10_walkOver_88 : decode cX10_walkOver 88 = .ok (.aload_n 0, 1) := by decide +kernel
theorem dX10_walkOver_89 : decode cX10_walkOver 89 = .ok (.getfield 15, 3) := by decide +kernel
theorem dX10_walkOver_9 : decode cX10_walkOver 9 = .ok (.ifCond .ne 7, 3) := by decide +kernel
theorem dX10_walkOver_92 : decode cX10_walkOver 92 = .ok (.iload 4, 2) := by decide +kernel
theorem dX10_walkOver_94 : decode cX10_walkOver 94 = .ok (.iload 6, 2) := by decide +kernel
theorem dX10_walkOver_96 : decode cX10_walkOver 96 = .ok (.iload 8, 2) := by decide +kernel
theorem dX10_walkOver_98 : decode cX10_walkOver 98 = .ok (.invokestatic 85, 3) := by decide +kernel
theorem dX10_walkTo_0 : decode cX10_walkTo 0 = .ok (.aload_n 0, 1) := by decide +kernel
theorem dX10_walkTo_1 : decode cX10_walkTo 1 = .ok (.iconst 0, 1) := by decide +kernel
theorem dX10_walkTo_11 : decode cX10_walkTo 11 = .ok (.iload_n 2, 1) := by decide +kernel
theorem dX10_walkTo_12 : decode cX10_walkTo 12 = .ok (.if_icmp .ge 24, 3) := by decide +kernel
theorem dX10_walkTo_15 : decode cX10_walkTo 15 = .ok (.iload 4, 2) := by decide +kernel
theorem dX10_walkTo_17 : decode cX10_walkTo 17 = .ok (.bipush 61, 2) := by decide +kernel
theorem dX10_walkTo_19 : decode cX10_walkTo 19 = .ok (.if_icmp .ge 17, 3) := by decide +kernel
theorem dX10_walkTo_2 : decode cX10_walkTo 2 = .ok (.iconst 0, 1) := by decide +kernel
theorem dX10_walkTo_22 : decode cX10_walkTo 22 = .ok (.aload_n 0, 1) := by decide +kernel
theorem dX10_walkTo_23 : decode cX10_walkTo 23 = .ok (.aload_n 1, 1) := by decide +kernel
theorem dX10_walkTo_24 : decode cX10_walkTo 24 = .ok (.iload 4, 2) := by decide +kernel
theorem dX10_walkTo_26 : decode cX10_walkTo 26 = .ok (.iload_n 3, 1) := by decide +kernel
theorem dX10_walkTo_27 : decode cX10_walkTo 27 = .ok (.invokevirtual 64, 3) := by decide +kernel
theorem dX10_walkTo_3 : decode cX10_walkTo 3 = .ok (.invokevirtual 60, 3) := by decide +kernel
theorem dX10_walkTo_30 : decode cX10_walkTo 30 = .ok (.iinc 4 1, 3) := by decide +kernel
theorem dX10_walkTo_33 : decode cX10_walkTo 33 = .ok (.goto (-24), 3) := by decide +kernel
theorem dX10_walkTo_36 : decode cX10_walkTo 36 = .ok (.return_, 1) := by decide +kernel
theorem dX10_walkTo_6 : decode cX10_walkTo 6 = .ok (.iconst 0, 1) := by decide +kernel
theorem dX10_walkTo_7 : decode cX10_walkTo 7 = .ok (.istore 4, 2) := by decide +kernel
theorem dX10_walkTo_9 : decode cX10_walkTo 9 = .ok (.iload 4, 2) := by decide +kernel
theorem dX7_copyFrom_0 : decode cX7_copyFrom 0 = .ok (.aload_n 1, 1) := by decide +kernel
theorem dX7_copyFrom_1 : decode cX7_copyFrom 1 = .ok (.iload_n 2, 1) := by decide +kernel
theorem dX7_copyFrom_10 : decode cX7_copyFrom 10 = .ok (.aload_n 0, 1) := by decide +kernel
theorem dX7_copyFrom_11 : decode cX7_copyFrom 11 = .ok (.iload_n 3, 1) := by decide +kernel
theorem dX7_copyFrom_12 : decode cX7_copyFrom 12 = .ok (.iload 4, 2) := by decide +kernel
theorem dX7_copyFrom_14 : decode cX7_copyFrom 14 = .ok (.invokevirtual 45, 3) := by decide +kernel
theorem dX7_copyFrom_17 : decode cX7_copyFrom 17 = .ok (.ifCond .eq 18, 3) := by decide +kernel
theorem dX7_copyFrom_2 : decode cX7_copyFrom 2 = .ok (.iload 4, 2) := by decide +kernel
theorem dX7_copyFrom_20 : decode cX7_copyFrom 20 = .ok (.aload_n 1, 1) := by decide +kernel
theorem dX7_copyFrom_21 : decode cX7_copyFrom 21 = .ok (.getfield 9, 3) := by decide +kernel
theorem dX7_copyFrom_24 : decode cX7_copyFrom 24 = .ok (.iload_n 2, 1) := by decide +kernel
theorem dX7_copyFrom_25 : decode cX7_copyFrom 25 = .ok (.aload_n 0, 1) := by decide +kernel
theorem dX7_copyFrom_26 : decode cX7_copyFrom 26 = .ok (.getfield 9, 3) := by decide +kernel
theorem dX7_copyFrom_29 : decode cX7_copyFrom 29 = .ok (.iload_n 3, 1) := by decide +kernel
theorem dX7_copyFrom_30 : decode cX7_copyFrom 30 = .ok (.iload 4, 2) := by decide +kernel
theorem dX7_copyFrom_32 : decode cX7_copyFrom 32 = .ok (.invokestatic 49, 3) := by decide +kernel
theorem dX7_copyFrom_35 : decode cX7_copyFrom 35 = .ok (.return_, 1) := by decide +kernel
theorem dX7_copyFrom_4 : decode cX7_copyFrom 4 = .ok (.invokevirtual 45, 3) := by decide +kernel
theorem dX7_copyFrom_7 : decode cX7_copyFrom 7 = .ok (.ifCond .eq 28, 3) := by decide +kernel
theorem dX8_a_0 : decode cX8_a 0 = .ok (.aload_n 0, 1) := by decide +kernel
theorem dX8_a_1 : decode cX8_a 1 = .ok (.getfield 29, 3) := by decide +kernel
theorem dX8_a_4 : decode cX8_a 4 = .ok (.ireturn, 1) := by decide +kernel
theorem dX8_areParents_0 : decode cX8_areParents 0 = .ok (.aload_n 0, 1) := by decide +kernel
theorem dX8_areParents_1 : decode cX8_areParents 1 = .ok (.iload_n 1, 1) := by decide +kernel
theorem dX8_areParents_12 : decode cX8_areParents 12 = .ok (.istore 5, 2) := by decide +kernel
theorem dX8_areParents_14 : decode cX8_areParents 14 = .ok (.iload 4, 2) := by decide +kernel
theorem dX8_areParents_16 : decode cX8_areParents 16 = .ok (.iconst (-1), 1) := by decide +kernel
theorem dX8_areParents_17 : decode cX8_areParents 17 = .ok (.if_icmp .eq 23, 3) := by decide +kernel
theorem dX8_areParents_2 : decode cX8_areParents 2 = .ok (.invokevirtual 86, 3) := by decide +kernel
theorem dX8_areParents_20 : decode cX8_areParents 20 = .ok (.iload 5, 2) := by decide +kernel
theorem dX8_areParents_22 : decode cX8_areParents 22 = .ok (.iconst (-1), 1) := by decide +kernel
theorem dX8_areParents_23 : decode cX8_areParents 23 = .ok (.if_icmp .eq 17, 3) := by decide +kernel
theorem dX8_areParents_26 : decode cX8_areParents 26 = .ok (.iload 4, 2) := by decide +kernel
theorem dX8_areParents_28 : decode cX8_areParents 28 = .ok (.iload 5, 2) := by decide +kernel
theorem dX8_areParents_30 : decode cX8_areParents 30 = .ok (.if_icmp .eq 10, 3) := by decide +kernel
theorem dX8_areParents_33 : decode cX8_areParents 33 = .ok (.aload_n 0, 1) := by decide +kernel
theorem dX8_areParents_34 : decode cX8_areParents 34 = .ok (.getfield 25, 3) := by decide +kernel
theorem dX8_areParents_37 : decode cX8_areParents 37 = .ok (.ifCond .gt 5, 3) := by decide +kernel
theorem dX8_areParents_40 : decode cX8_areParents 40 = .ok (.iconst 0, 1) := by decide +kernel
theorem dX8_areParents_41 : decode cX8_areParents 41 = .ok (.ireturn, 1) := by decide +kernel
theorem dX8_areParents_42 : decode cX8_areParents 42 = .ok (.iload 4, 2) := by decide +kernel
theorem dX8_areParents_44 : decode cX8_areParents 44 = .ok (.iload 5, 2) := by decide +kernel
theorem dX8_areParents_46 : decode cX8_areParents 46 = .ok (.iadd, 1) := by decide +kernel
theorem dX8_areParents_47 : decode cX8_areParents 47 = .ok (.aload_n 0, 1) := by decide +kernel
theorem dX8_areParents_48 : decode cX8_areParents 48 = .ok (.getfield 25, 3) := by decide +kernel
theorem dX8_areParents_5 : decode cX8_areParents 5 = .ok (.istore 4, 2) := by decide +kernel
theorem dX8_areParents_51 : decode cX8_areParents 51 = .ok (.irem, 1) := by decide +kernel
theorem dX8_areParents_52 : decode cX8_areParents 52 = .ok (.iload_n 3, 1) := by decide +kernel
theorem dX8_areParents_53 : decode cX8_areParents 53 = .ok (.if_icmp .ne 7, 3) := by decide +kernel
theorem dX8_areParents_56 : decode cX8_areParents 56 = .ok (.iconst 1, 1) := by decide +kernel
theorem dX8_areParents_57 : decode cX8_areParents 57 = .ok (.goto 4, 3) := by decide +kernel
theorem dX8_areParents_60 : decode cX8_areParents 60 = .ok (.iconst 0, 1) := by decide +kernel
theorem dX8_areParents_61 : decode cX8_areParents 61 = .ok (.ireturn, 1) := by decide +kernel
theorem dX8_areParents_7 : decode cX8_areParents 7 = .ok (.aload_n 0, 1) := by decide +kernel
theorem dX8_areParents_8 : decode cX8_areParents 8 = .ok (.iload_n 2, 1) := by decide +kernel
theorem dX8_areParents_9 : decode cX8_areParents 9 = .ok (.invokevirtual 86, 3) := by decide +kernel
theorem dX8_b_0 : decode cX8_b 0 = .ok (.aload_n 0, 1) := by decide +kernel
theorem dX8_b_1 : decode cX8_b 1 = .ok (.getfield 32, 3) := by decide +kernel
theorem dX8_b_4 : decode cX8_b 4 = .ok (.ireturn, 1) := by decide +kernel
theorem dX8_c_0 : decode cX8_c 0 = .ok (.aload_n 0, 1) := by decide +kernel
theorem dX8_c_1 : decode cX8_c 1 = .ok (.getfield 35, 3) := by decide +kernel
theorem dX8_c_4 : decode cX8_c 4 = .ok (.ireturn, 1) := by decide +kernel
theorem dX8_d_0 : decode cX8_d 0 = .ok (.aload_n 0, 1) := by decide +kernel
theorem dX8_d_1 : decode cX8_d 1 = .ok (.getfield 38, 3) := by decide +kernel
theorem dX8_d_4 : decode cX8_d 4 = .ok (.ireturn, 1) := by decide +kernel
theorem dX8_gapsAtRisk_0 : decode cX8_gapsAtRisk 0 = .ok (.iconst 0, 1) := by decide +kernel
theorem dX8_gapsAtRisk_1 : decode cX8_gapsAtRisk 1 = .ok (.istore_n 2, 1) := by decide +kernel
theorem dX8_gapsAtRisk_10 : decode cX8_gapsAtRisk 10 = .ok (.bipush 61, 2) := by decide +kernel
theorem dX8_gapsAtRisk_12 : decode cX8_gapsAtRisk 12 = .ok (.if_icmp .ge 32, 3) := by decide +kernel
theorem dX8_gapsAtRisk_15 : decode cX8_gapsAtRisk 15 = .ok (.aload_n 0, 1) := by decide +kernel
theorem dX8_gapsAtRisk_16 : decode cX8_gapsAtRisk 16 = .ok (.iload_n 3, 1) := by decide +kernel
theorem dX8_gapsAtRisk_17 : decode cX8_gapsAtRisk 17 = .ok (.invokevirtual 96, 3) := by decide +kernel
theorem dX8_gapsAtRisk_2 : decode cX8_gapsAtRisk 2 = .ok (.iconst 0, 1) := by decide +kernel
theorem dX8_gapsAtRisk_20 : decode cX8_gapsAtRisk 20 = .ok (.ifCond .eq 18, 3) := by decide +kernel
theorem dX8_gapsAtRisk_23 : decode cX8_gapsAtRisk 23 = .ok (.aload_n 0, 1) := by decide +kernel
theorem dX8_gapsAtRisk_24 : decode cX8_gapsAtRisk 24 = .ok (.getfield 21, 3) := by decide +kernel
theorem dX8_gapsAtRisk_27 : decode cX8_gapsAtRisk 27 = .ok (.iload_n 3, 1) := by decide +kernel
theorem dX8_gapsAtRisk_28 : decode cX8_gapsAtRisk 28 = .ok (.invokevirtual 89, 3) := by decide +kernel
theorem dX8_gapsAtRisk_3 : decode cX8_gapsAtRisk 3 = .ok (.istore_n 3, 1) := by decide +kernel
theorem dX8_gapsAtRisk_31 : decode cX8_gapsAtRisk 31 = .ok (.iconst (-1), 1) := by decide +kernel
theorem dX8_gapsAtRisk_32 : decode cX8_gapsAtRisk 32 = .ok (.if_icmp .ne 6, 3) := by decide +kernel
theorem dX8_gapsAtRisk_35 : decode cX8_gapsAtRisk 35 = .ok (.iinc 2 1, 3) := by decide +kernel
theorem dX8_gapsAtRisk_38 : decode cX8_gapsAtRisk 38 = .ok (.iinc 3 1, 3) := by decide +kernel
theorem dX8_gapsAtRisk_4 : decode cX8_gapsAtRisk 4 = .ok (.iload_n 3, 1) := by decide +kernel
theorem dX8_gapsAtRisk_41 : decode cX8_gapsAtRisk 41 = .ok (.goto (-37), 3) := by decide +kernel
theorem dX8_gapsAtRisk_44 : decode cX8_gapsAtRisk 44 = .ok (.iload_n 2, 1) := by decide +kernel
theorem dX8_gapsAtRisk_45 : decode cX8_gapsAtRisk 45 = .ok (.ireturn, 1) := by decide +kernel
theorem dX8_gapsAtRisk_5 : decode cX8_gapsAtRisk 5 = .ok (.iload_n 1, 1) := by decide +kernel
theorem dX8_gapsAtRisk_6 : decode cX8_gapsAtRisk 6 = .ok (.if_icmp .gt 38, 3) := by decide +kernel
theorem dX8_gapsAtRisk_9 : decode cX8_gapsAtRisk 9 = .ok (.iload_n 3, 1) := by decide +kernel
theorem dX8_setC_0 : decode cX8_setC 0 = .ok (.aload_n 0, 1) := by decide +kernel
theorem dX8_setC_1 : decode cX8_setC 1 = .ok (.iload_n 1, 1) := by decide +kernel
theorem dX8_setC_2 : decode cX8_setC 2 = .ok (.putfield 35, 3) := by decide +kernel
theorem dX8_setC_5 : decode cX8_setC 5 = .ok (.return_, 1) := by decide +kernel
theorem dX8_signTold_0 : decode cX8_signTold 0 = .ok (.iload_n 1, 1) := by decide +kernel
theorem dX8_signTold_1 : decode cX8_signTold 1 = .ok (.ifCond .lt 20, 3) := by decide +kernel
theorem dX8_signTold_12 : decode cX8_signTold 12 = .ok (.aload_n 0, 1) := by decide +kernel
theorem dX8_signTold_13 : decode cX8_signTold 13 = .ok (.getfield 9, 3) := by decide +kernel
theorem dX8_signTold_16 : decode cX8_signTold 16 = .ok (.iload_n 1, 1) := by decide +kernel
theorem dX8_signTold_17 : decode cX8_signTold 17 = .ok (.iaload, 1) := by decide +kernel
theorem dX8_signTold_18 : decode cX8_signTold 18 = .ok (.goto 4, 3) := by decide +kernel
theorem dX8_signTold_21 : decode cX8_signTold 21 = .ok (.iconst (-1), 1) := by decide +kernel
theorem dX8_signTold_22 : decode cX8_signTold 22 = .ok (.ireturn, 1) := by decide +kernel
theorem dX8_signTold_4 : decode cX8_signTold 4 = .ok (.iload_n 1, 1) := by decide +kernel
theorem dX8_signTold_5 : decode cX8_signTold 5 = .ok (.aload_n 0, 1) := by decide +kernel
theorem dX8_signTold_6 : decode cX8_signTold 6 = .ok (.getfield 47, 3) := by decide +kernel
theorem dX8_signTold_9 : decode cX8_signTold 9 = .ok (.if_icmp .ge 12, 3) := by decide +kernel
theorem dX8_soundsAlikeFrom_0 : decode cX8_soundsAlikeFrom 0 = .ok (.iconst 1, 1) := by decide +kernel
theorem dX8_soundsAlikeFrom_1 : decode cX8_soundsAlikeFrom 1 = .ok (.istore_n 3, 1) := by decide +kernel
theorem dX8_soundsAlikeFrom_10 : decode cX8_soundsAlikeFrom 10 = .ok (.aload_n 0, 1) := by decide +kernel
theorem dX8_soundsAlikeFrom_11 : decode cX8_soundsAlikeFrom 11 = .ok (.iload_n 1, 1) := by decide +kernel
theorem dX8_soundsAlikeFrom_12 : decode cX8_soundsAlikeFrom 12 = .ok (.iload_n 3, 1) := by decide +kernel
theorem dX8_soundsAlikeFrom_13 : decode cX8_soundsAlikeFrom 13 = .ok (.invokevirtual 82, 3) := by decide +kernel
theorem dX8_soundsAlikeFrom_16 : decode cX8_soundsAlikeFrom 16 = .ok (.aload_n 0, 1) := by decide +kernel
theorem dX8_soundsAlikeFrom_17 : decode cX8_soundsAlikeFrom 17 = .ok (.iload_n 1, 1) := by decide +kernel
theorem dX8_soundsAlikeFrom_18 : decode cX8_soundsAlikeFrom 18 = .ok (.iconst 0, 1) := by decide +kernel
theorem dX8_soundsAlikeFrom_19 : decode cX8_soundsAlikeFrom 19 = .ok (.invokevirtual 82, 3) := by decide +kernel
theorem dX8_soundsAlikeFrom_2 : decode cX8_soundsAlikeFrom 2 = .ok (.iload_n 3, 1) := by decide +kernel
theorem dX8_soundsAlikeFrom_22 : decode cX8_soundsAlikeFrom 22 = .ok (.isub, 1) := by decide +kernel
theorem dX8_soundsAlikeFrom_23 : decode cX8_soundsAlikeFrom 23 = .ok (.istore 4, 2) := by decide +kernel
theorem dX8_soundsAlikeFrom_25 : decode cX8_soundsAlikeFrom 25 = .ok (.aload_n 0, 1) := by decide +kernel
theorem dX8_soundsAlikeFrom_26 : decode cX8_soundsAlikeFrom 26 = .ok (.iload_n 2, 1) := by decide +kernel
theorem dX8_soundsAlikeFrom_27 : decode cX8_soundsAlikeFrom 27 = .ok (.iload_n 3, 1) := by decide +kernel
theorem dX8_soundsAlikeFrom_28 : decode cX8_soundsAlikeFrom 28 = .ok (.invokevirtual 82, 3) := by decide +kernel
theorem dX8_soundsAlikeFrom_3 : decode cX8_soundsAlikeFrom 3 = .ok (.aload_n 0, 1) := by decide +kernel
theorem dX8_soundsAlikeFrom_31 : decode cX8_soundsAlikeFrom 31 = .ok (.aload_n 0, 1) := by decide +kernel
theorem dX8_soundsAlikeFrom_32 : decode cX8_soundsAlikeFrom 32 = .ok (.iload_n 2, 1) := by decide +kernel
theorem dX8_soundsAlikeFrom_33 : decode cX8_soundsAlikeFrom 33 = .ok (.iconst 0, 1) := by decide +kernel
theorem dX8_soundsAlikeFrom_34 : decode cX8_soundsAlikeFrom 34 = .ok (.invokevirtual 82, 3) := by decide +kernel
theorem dX8_soundsAlikeFrom_37 : decode cX8_soundsAlikeFrom 37 = .ok (.isub, 1) := by decide +kernel
theorem dX8_soundsAlikeFrom_38 : decode cX8_soundsAlikeFrom 38 = .ok (.istore 5, 2) := by decide +kernel
theorem dX8_soundsAlikeFrom_4 : decode cX8_soundsAlikeFrom 4 = .ok (.getfield 50, 3) := by decide +kernel
theorem dX8_soundsAlikeFrom_40 : decode cX8_soundsAlikeFrom 40 = .ok (.iload 4, 2) := by decide +kernel
theorem dX8_soundsAlikeFrom_42 : decode cX8_soundsAlikeFrom 42 = .ok (.iload 5, 2) := by decide +kernel
theorem dX8_soundsAlikeFrom_44 : decode cX8_soundsAlikeFrom 44 = .ok (.if_icmp .eq 5, 3) := by decide +kernel
theorem dX8_soundsAlikeFrom_47 : decode cX8_soundsAlikeFrom 47 = .ok (.iconst 0, 1) := by decide +kernel
theorem dX8_soundsAlikeFrom_48 : decode cX8_soundsAlikeFrom 48 = .ok (.ireturn, 1) := by decide +kernel
theorem dX8_soundsAlikeFrom_49 : decode cX8_soundsAlikeFrom 49 = .ok (.iinc 3 1, 3) := by decide +kernel
theorem dX8_soundsAlikeFrom_52 : decode cX8_soundsAlikeFrom 52 = .ok (.goto (-50), 3) := by decide +kernel
theorem dX8_soundsAlikeFrom_55 : decode cX8_soundsAlikeFrom 55 = .ok (.iconst 1, 1) := by decide +kernel
theorem dX8_soundsAlikeFrom_56 : decode cX8_soundsAlikeFrom 56 = .ok (.ireturn, 1) := by decide +kernel
theorem dX8_soundsAlikeFrom_7 : decode cX8_soundsAlikeFrom 7 = .ok (.if_icmp .ge 48, 3) := by decide +kernel
theorem dX9_add_0 : decode cX9_add 0 = .ok (.bipush 24, 2) := by decide +kernel
theorem dX9_add_11 : decode cX9_add 11 = .ok (.aload_n 0, 1) := by decide +kernel
theorem dX9_add_12 : decode cX9_add 12 = .ok (.getfield 9, 3) := by decide +kernel
theorem dX9_add_15 : decode cX9_add 15 = .ok (.arraylength, 1) := by decide +kernel
theorem dX9_add_16 : decode cX9_add 16 = .ok (.if_icmp .ge 26, 3) := by decide +kernel
theorem dX9_add_19 : decode cX9_add 19 = .ok (.aload_n 0, 1) := by decide +kernel
theorem dX9_add_2 : decode cX9_add 2 = .ok (.istore_n 2, 1) := by decide +kernel
theorem dX9_add_20 : decode cX9_add 20 = .ok (.getfield 9, 3) := by decide +kernel
theorem dX9_add_23 : decode cX9_add 23 = .ok (.aload_n 0, 1) := by decide +kernel
theorem dX9_add_24 : decode cX9_add 24 = .ok (.getfield 15, 3) := by decide +kernel
theorem dX9_add_27 : decode cX9_add 27 = .ok (.iload_n 1, 1) := by decide +kernel
theorem dX9_add_28 : decode cX9_add 28 = .ok (.iload_n 2, 1) := by decide +kernel
theorem dX9_add_29 : decode cX9_add 29 = .ok (.ishr, 1) := by decide +kernel
theorem dX9_add_3 : decode cX9_add 3 = .ok (.iload_n 2, 1) := by decide +kernel
theorem dX9_add_30 : decode cX9_add 30 = .ok (.i2b, 1) := by decide +kernel
theorem dX9_add_31 : decode cX9_add 31 = .ok (.bastore, 1) := by decide +kernel
theorem dX9_add_32 : decode cX9_add 32 = .ok (.aload_n 0, 1) := by decide +kernel
theorem dX9_add_33 : decode cX9_add 33 = .ok (.dup, 1) := by decide +kernel
theorem dX9_add_34 : decode cX9_add 34 = .ok (.getfield 15, 3) := by decide +kernel
theorem dX9_add_37 : decode cX9_add 37 = .ok (.iconst 1, 1) := by decide +kernel
theorem dX9_add_38 : decode cX9_add 38 = .ok (.iadd, 1) := by decide +kernel
theorem dX9_add_39 : decode cX9_add 39 = .ok (.putfield 15, 3) := by decide +kernel
theorem dX9_add_4 : decode cX9_add 4 = .ok (.ifCond .lt 44, 3) := by decide +kernel
theorem dX9_add_42 : decode cX9_add 42 = .ok (.iinc 2 (-8), 3) := by decide +kernel
theorem dX9_add_45 : decode cX9_add 45 = .ok (.goto (-42), 3) := by decide +kernel
theorem dX9_add_48 : decode cX9_add 48 = .ok (.return_, 1) := by decide +kernel
theorem dX9_add_7 : decode cX9_add 7 = .ok (.aload_n 0, 1) := by decide +kernel
theorem dX9_add_8 : decode cX9_add 8 = .ok (.getfield 15, 3) := by decide +kernel
theorem dX9_cut_0 : decode cX9_cut 0 = .ok (.iload_n 1, 1) := by decide +kernel
theorem dX9_cut_1 : decode cX9_cut 1 = .ok (.ifCond .lt 16, 3) := by decide +kernel
theorem dX9_cut_12 : decode cX9_cut 12 = .ok (.aload_n 0, 1) := by decide +kernel
theorem dX9_cut_13 : decode cX9_cut 13 = .ok (.iload_n 1, 1) := by decide +kernel
theorem dX9_cut_14 : decode cX9_cut 14 = .ok (.putfield 15, 3) := by decide +kernel
theorem dX9_cut_17 : decode cX9_cut 17 = .ok (.return_, 1) := by decide +kernel
theorem dX9_cut_4 : decode cX9_cut 4 = .ok (.iload_n 1, 1) := by decide +kernel
theorem dX9_cut_5 : decode cX9_cut 5 = .ok (.aload_n 0, 1) := by decide +kernel
theorem dX9_cut_6 : decode cX9_cut 6 = .ok (.getfield 15, 3) := by decide +kernel
theorem dX9_cut_9 : decode cX9_cut 9 = .ok (.if_icmp .gt 8, 3) := by decide +kernel
theorem dX9_size_0 : decode cX9_size 0 = .ok (.aload_n 0, 1) := by decide +kernel
theorem dX9_size_1 : decode cX9_size 1 = .ok (.getfield 15, 3) := by decide +kernel
theorem dX9_size_4 : decode cX9_size 4 = .ok (.ireturn, 1) := by decide +kernel
set_option maxHeartbeats 4000000 in
set_option maxRecDepth 100000 in
theorem b_X7_copyFrom (l : Launch) (G : Gho) (D : va_G) (cB cI cJ cZ cS cT : ClassId) (sz : Nat) (h0 : Nat) (h_numbers : Nat) (v0_width : Int32) (v0_size : Int32) (v0_made : Int32) (f_numbers : Nat → Int64) (h_a1 : Nat) (h_a1_numbers : Nat) (v_a1_width : Int32) (v_a1_size : Int32) (v_a1_made : Int32) (f_a1_numbers : Nat → Int64) (v2 : Int32) (v3 : Int32) (v4 : Int32) (iv0_size : 0 ≤ v0_size.toInt ∧ v0_size.toInt ≤ 60) (iv0_made : 0 ≤ v0_made.toInt ∧ v0_made.toInt ≤ 1) (iv_a1_size : 0 ≤ v_a1_size.toInt ∧ v_a1_size.toInt ≤ 60) (iv_a1_made : 0 ≤ v_a1_made.toInt ∧ v_a1_made.toInt ≤ 1) : Met l yX7_copyFrom (Cond.code yX7_copyFrom cX7_copyFrom 5 none :: wsL_law) ({ frames := 1, cells := 0, slots := 0, locals := 40 }) (wrP G D (tyL cB cI cJ cZ cS cT) [(h0, .inr (7, [.ref h_numbers, .int v0_width, .int v0_size, .int v0_made])), (h_numbers, .inl (cJ, 60, .inr (.inl f_numbers))), (h_a1, .inr (7, [.ref h_a1_numbers, .int v_a1_width, .int v_a1_size, .int v_a1_made])), (h_a1_numbers, .inl (cJ, 60, .inr (.inl f_a1_numbers)))] sz [.ref h0, .ref h_a1, .int v2, .int v3, .int v4]) (va_Qv (fun x : (Nat → Int64) => True) (atW D (tyL cB cI cJ cZ cS cT) (va_A [(h0, .inr (7, [.ref h_numbers, .int v0_width, .int v0_size, .int v0_made])), (h_numbers, .inl (cJ, 60, .inr (.inl f_numbers))), (h_a1, .inr (7, [.ref h_a1_numbers, .int v_a1_width, .int v_a1_size, .int v_a1_made])), (h_a1_numbers, .inl (cJ, 60, .inr (.inl f_a1_numbers)))] sz) (fun x : (Nat → Int64) => [(h0, .inr (7, [.ref h_numbers, .int v0_width, .int v0_size, .int v0_made])), (h_numbers, .inl (cJ, 60, .inr (.inl x))), (h_a1, .inr (7, [.ref h_a1_numbers, .int v_a1_width, .int v_a1_size, .int v_a1_made])), (h_a1_numbers, .inl (cJ, 60, .inr (.inl f_a1_numbers)))])) (va_A [(h0, .inr (7, [.ref h_numbers, .int v0_width, .int v0_size, .int v0_made])), (h_numbers, .inl (cJ, 60, .inr (.inl f_numbers))), (h_a1, .inr (7, [.ref h_a1_numbers, .int v_a1_width, .int v_a1_size, .int v_a1_made])), (h_a1_numbers, .inl (cJ, 60, .inr (.inl f_a1_numbers)))] sz)) 0 0 (va_A [(h0, .inr (7, [.ref h_numbers, .int v0_width, .int v0_size, .int v0_made])), (h_numbers, .inl (cJ, 60, .inr (.inl f_numbers))), (h_a1, .inr (7, [.ref h_a1_numbers, .int v_a1_width, .int v_a1_size, .int v_a1_made])), (h_a1_numbers, .inl (cJ, 60, .inr (.inl f_a1_numbers)))] sz) := by
  refine metV (own := RX7) (by decide) rfl ?_
  intro p e s m below meth c Q hsz C hG hP hD hAB ret
  obtain ⟨hx, hb, hml, hown, hts, hK, hN, hT⟩ := id C
  subst hsz
  generalize hAe : va_A [(h0, .inr (7, [.ref h_numbers, .int v0_width, .int v0_size, .int v0_made])), (h_numbers, .inl (cJ, 60, .inr (.inl f_numbers))), (h_a1, .inr (7, [.ref h_a1_numbers, .int v_a1_width, .int v_a1_size, .int v_a1_made])), (h_a1_numbers, .inl (cJ, 60, .inr (.inl f_a1_numbers)))] s.heap.size = A at hD hAB ret ⊢
  have hA : ∀ q : Nat, s.heap.size ≤ q → A q := fun q h => by rw [← hAe]; exact Or.inr h
  have hS : va_S A s.heap s.heap [] := va_S.rf
  have hl := lv_entry ([.ref h0, .ref h_a1, .int v2, .int v3, .int v4]) (n := 5) (Nat.le_of_ble_eq_true rfl)
  rw [lg_entry_eq]
  generalize (lg_sl ([.ref h0, .ref h_a1, .int v2, .int v3, .int v4]) ++ List.replicate (5 - (lg_sl ([.ref h0, .ref h_a1, .int v2, .int v3, .int v4])).length) Slot.unset).toArray = ls at hl ⊢
  have hl : lv_has ls 5 [(0, .ref h0), (1, .ref h_a1), (2, .int v2), (3, .int v3), (4, .int v4)] := hl
  have hP : va_P D vwCl [(h0, .inr (7, [.ref h_numbers, .int v0_width, .int v0_size, .int v0_made])), (h_numbers, .inl (cJ, 60, .inr (.inl f_numbers))), (h_a1, .inr (7, [.ref h_a1_numbers, .int v_a1_width, .int v_a1_size, .int v_a1_made])), (h_a1_numbers, .inl (cJ, 60, .inr (.inl f_a1_numbers)))] s.heap := hP
  refine lv_aload_n hx hb dX7_copyFrom_0 rfl (lv_at hl 1 rfl) ?_
  refine lv_iload_n hx hb dX7_copyFrom_1 rfl (lv_at hl 2 rfl) ?_
  refine lv_iload hx hb dX7_copyFrom_2 (lv_at hl 4 rfl) ?_
  refine roi (As := [.int v2, .int v4]) (rest := []) ⟨hx, hb, hml, hown, hts⟩ (b_X7_holds l G D cB cI cJ cZ cS cT h_a1 h_a1_numbers v_a1_width v_a1_size v_a1_made v2 v4 (by first | assumption | omega | decide) (by first | assumption | omega | decide)) (cvB (n := 2) (inr75 _ (List.mem_of_getElem? (i := 7) rfl)) (inr74 _ (List.mem_of_getElem? (i := 23) rfl)) (inr75 _ (List.mem_of_getElem? (i := 0) rfl)) (inr2 _ (List.mem_of_getElem? (i := 8) rfl)) (inr75 _ (List.mem_of_getElem? (i := 1) rfl)) (by decide +kernel) hts rfl rfl ⟨Nat.le_of_ble_eq_true rfl, Nat.le_of_ble_eq_true rfl⟩) 0 7 rfl rfl rfl (hP.sub [2] rfl) hK hN (kT.to hT hS hAB) rfl hl.1 rfl (Nat.le_of_ble_eq_true rfl) ⟨Nat.le_of_ble_eq_true rfl, Nat.le_of_ble_eq_true rfl⟩ dX7_copyFrom_4 (fun r_1 h_2 => ?_)
  have h_2 : ((r_1.toInt = 1 ∧ 0 ≤ v2.toInt ∧ 0 ≤ v4.toInt ∧ v2.toInt + v4.toInt ≤ v_a1_size.toInt) ∨ r_1.toInt = 0) ∧ (r_1 = 0 ∨ r_1 = 1) := h_2
  obtain ⟨i_3, i_4⟩ := h_2
  have ar_1 : 0 ≤ r_1.toInt ∧ r_1.toInt ≤ 1 := by rcases i_4 with h | h <;> rw [h] <;> decide
  refine lv_if_eq (tgt := 35) hx hb dX7_copyFrom_7 (by decide) (fun c_5 => ?_) (fun c_5 => ?_)
  · have c_5 : r_1.toInt = 0 := ci_eq_t c_5
    have b_r_1 := i32b r_1
    exact ret _ _ _ _ f_numbers dX7_copyFrom_35 trivial (hP.sub [0, 1, 2, 3] rfl) (hD.sub [0, 1, 2, 3] (by decide) rfl) hS
  · have c_5 : ¬ r_1.toInt = 0 := ci_eq_f c_5
    have b_r_1 := i32b r_1
    refine lv_aload_n hx hb dX7_copyFrom_10 rfl (lv_at hl 0 rfl) ?_
    refine lv_iload_n hx hb dX7_copyFrom_11 rfl (lv_at hl 3 rfl) ?_
    refine lv_iload hx hb dX7_copyFrom_12 (lv_at hl 4 rfl) ?_
    refine roi (As := [.int v3, .int v4]) (rest := []) ⟨hx, hb, hml, hown, hts⟩ (b_X7_holds l G D cB cI cJ cZ cS cT h0 h_numbers v0_width v0_size v0_made v3 v4 (by first | assumption | omega | decide) (by first | assumption | omega | decide)) (cvB (n := 2) (inr75 _ (List.mem_of_getElem? (i := 7) rfl)) (inr74 _ (List.mem_of_getElem? (i := 23) rfl)) (inr75 _ (List.mem_of_getElem? (i := 0) rfl)) (inr2 _ (List.mem_of_getElem? (i := 8) rfl)) (inr75 _ (List.mem_of_getElem? (i := 1) rfl)) (by decide +kernel) hts rfl rfl ⟨Nat.le_of_ble_eq_true rfl, Nat.le_of_ble_eq_true rfl⟩) 0 7 rfl rfl rfl (hP.sub [0] rfl) hK hN (kT.to hT hS hAB) rfl hl.1 rfl (Nat.le_of_ble_eq_true rfl) ⟨Nat.le_of_ble_eq_true rfl, Nat.le_of_ble_eq_true rfl⟩ dX7_copyFrom_14 (fun r_6 h_7 => ?_)
    have h_7 : ((r_6.toInt = 1 ∧ 0 ≤ v3.toInt ∧ 0 ≤ v4.toInt ∧ v3.toInt + v4.toInt ≤ v0_size.toInt) ∨ r_6.toInt = 0) ∧ (r_6 = 0 ∨ r_6 = 1) := h_7
    obtain ⟨i_8, i_9⟩ := h_7
    have ar_6 : 0 ≤ r_6.toInt ∧ r_6.toInt ≤ 1 := by rcases i_9 with h | h <;> rw [h] <;> decide
    refine lv_if_eq (tgt := 35) hx hb dX7_copyFrom_17 (by decide) (fun c_10 => ?_) (fun c_10 => ?_)
    · have c_10 : r_6.toInt = 0 := ci_eq_t c_10
      have b_r_6 := i32b r_6
      exact ret _ _ _ _ f_numbers dX7_copyFrom_35 trivial (hP.sub [0, 1, 2, 3] rfl) (hD.sub [0, 1, 2, 3] (by decide) rfl) hS
    · have c_10 : ¬ r_6.toInt = 0 := ci_eq_f c_10
      have b_r_6 := i32b r_6
      refine lv_aload_n hx hb dX7_copyFrom_20 rfl (lv_at hl 1 rfl) ?_
      refine va_get (D := D) (ci := 7) (v := .ref h_a1_numbers) (C := RX7) (T := TX7) (N := 4) hx hb hts inlX7 hown hK hP 2 rfl rfl 0 (by decide) (hts _ (inr4 _ (List.mem_of_getElem? (i := 22) rfl))) (fun _ h9 => h9) rfl dX7_copyFrom_21 ?_
      refine lv_iload_n hx hb dX7_copyFrom_24 rfl (lv_at hl 2 rfl) ?_
      refine lv_aload_n hx hb dX7_copyFrom_25 rfl (lv_at hl 0 rfl) ?_
      refine va_get (D := D) (ci := 7) (v := .ref h_numbers) (C := RX7) (T := TX7) (N := 4) hx hb hts inlX7 hown hK hP 0 rfl rfl 0 (by decide) (hts _ (inr4 _ (List.mem_of_getElem? (i := 22) rfl))) (fun _ h9 => h9) rfl dX7_copyFrom_26 ?_
      refine lv_iload_n hx hb dX7_copyFrom_29 rfl (lv_at hl 3 rfl) ?_
      refine lv_iload hx hb dX7_copyFrom_30 (lv_at hl 4 rfl) ?_
      refine va_copyl (rest := []) hx hb (by rw [hml]; exact hl.1.symm) hown (hts _ (inr75 _ (List.mem_of_getElem? (i := 6) rfl))) (hts _ (inr17 _ (List.mem_of_getElem? (i := 6) rfl))) (hts _ (inr17 _ (List.mem_of_getElem? (i := 7) rfl))) (hts _ (inr17 _ (List.mem_of_getElem? (i := 8) rfl))) hK hP hD hS 3 1 2 2 rfl rfl rfl rfl rfl (nltT (by omega)) (nltT (by omega)) (nltT (by omega)) (by have := clT (x := v2) (by omega); have := clT (x := v4) (by omega); omega) (by have := clT (x := v3) (by omega); have := clT (x := v4) (by omega); omega) (fun _ _ => rfl) (Nat.le_of_ble_eq_true rfl) (Nat.le_of_ble_eq_true rfl) dX7_copyFrom_32 (fun H locs hP hD hS => ?_)
      have hP : va_P D vwCl [(h0, .inr (7, [.ref h_numbers, .int v0_width, .int v0_size, .int v0_made])), (h_numbers, .inl (cJ, 60, .inr (.inl (va_cpy f_a1_numbers f_numbers (v2 : Int32).toNatClampNeg (v3 : Int32).toNatClampNeg (v4 : Int32).toNatClampNeg)))), (h_a1, .inr (7, [.ref h_a1_numbers, .int v_a1_width, .int v_a1_size, .int v_a1_made])), (h_a1_numbers, .inl (cJ, 60, .inr (.inl f_a1_numbers)))] H := hP
      have hD : va_D A [(h0, .inr (7, [.ref h_numbers, .int v0_width, .int v0_size, .int v0_made])), (h_numbers, .inl (cJ, 60, .inr (.inl (va_cpy f_a1_numbers f_numbers (v2 : Int32).toNatClampNeg (v3 : Int32).toNatClampNeg (v4 : Int32).toNatClampNeg)))), (h_a1, .inr (7, [.ref h_a1_numbers, .int v_a1_width, .int v_a1_size, .int v_a1_made])), (h_a1_numbers, .inl (cJ, 60, .inr (.inl f_a1_numbers)))] := hD
      obtain ⟨g_11, eg_11⟩ : ∃ v9 : Nat → Int64, (va_cpy f_a1_numbers f_numbers (v2 : Int32).toNatClampNeg (v3 : Int32).toNatClampNeg (v4 : Int32).toNatClampNeg) = v9 := ⟨_, rfl⟩
      rw [eg_11] at hP hD
      have hP : va_P D vwCl [(h0, .inr (7, [.ref h_numbers, .int v0_width, .int v0_size, .int v0_made])), (h_numbers, .inl (cJ, 60, .inr (.inl g_11))), (h_a1, .inr (7, [.ref h_a1_numbers, .int v_a1_width, .int v_a1_size, .int v_a1_made])), (h_a1_numbers, .inl (cJ, 60, .inr (.inl f_a1_numbers)))] H := hP
      have hD : va_D A [(h0, .inr (7, [.ref h_numbers, .int v0_width, .int v0_size, .int v0_made])), (h_numbers, .inl (cJ, 60, .inr (.inl g_11))), (h_a1, .inr (7, [.ref h_a1_numbers, .int v_a1_width, .int v_a1_size, .int v_a1_made])), (h_a1_numbers, .inl (cJ, 60, .inr (.inl f_a1_numbers)))] := hD
      exact ret _ _ _ _ g_11 dX7_copyFrom_35 trivial (hP.sub [0, 1, 2, 3] rfl) (hD.sub [0, 1, 2, 3] (by decide) rfl) hS

set_option maxHeartbeats 4000000 in
set_option maxRecDepth 100000 in
theorem b_X8_a (l : Launch) (G : Gho) (D : va_G) (cB cI cJ cZ cS cT : ClassId) (h0 : Nat) (v0_tones : Int32) (v0_a : Int32) (v0_b : Int32) (v0_c : Int32) (v0_d : Int32) (v0_odds : Int32) (v0_lines : Int32) (h_signs : Nat) (v0_signCount : Int32) (h_posts : Nat) (v0_postCount : Int32) (h_acts : Nat) (iv0_signCount : 0 ≤ v0_signCount.toInt ∧ v0_signCount.toInt ≤ 8) (iv0_postCount : 0 ≤ v0_postCount.toInt ∧ v0_postCount.toInt ≤ 5) : Met l yX8_a (Cond.code yX8_a cX8_a 1 (some .int) :: wsL_law) ({ frames := 0, cells := 0, slots := 0, locals := 0 }) (roP G D (tyL cB cI cJ cZ cS cT) [(h0, .inr (8, [.int v0_tones, .int v0_a, .int v0_b, .int v0_c, .int v0_d, .int v0_odds, .int v0_lines, .ref h_signs, .int v0_signCount, .ref h_posts, .int v0_postCount, .ref h_acts]))] [.ref h0]) (vp_Si (fun r : Int32 => (r = v0_a))) 0 0 (fun _ => False) := by
  refine metRO (own := RX8) (by decide) rfl ?_
  intro p e s m below meth c Q C hP ret
  obtain ⟨hx, hb, hml, hown, hts, hK, hN, hT⟩ := id C
  have hl := lv_entry ([.ref h0]) (n := 1) (Nat.le_of_ble_eq_true rfl)
  rw [lg_entry_eq]
  generalize (lg_sl ([.ref h0]) ++ List.replicate (1 - (lg_sl ([.ref h0])).length) Slot.unset).toArray = ls at hl ⊢
  have hl : lv_has ls 1 [(0, .ref h0)] := hl
  have hP : va_P D vwCl [(h0, .inr (8, [.int v0_tones, .int v0_a, .int v0_b, .int v0_c, .int v0_d, .int v0_odds, .int v0_lines, .ref h_signs, .int v0_signCount, .ref h_posts, .int v0_postCount, .ref h_acts]))] s.heap := hP
  refine lv_aload_n hx hb dX8_a_0 rfl (lv_at hl 0 rfl) ?_
  refine va_get (D := D) (ci := 8) (v := .int v0_a) (C := RX8) (T := TX8) (N := 12) hx hb hts inlX8 hown hK hP 0 rfl rfl 1 (by decide) (hts _ (inr10 _ (List.mem_of_getElem? (i := 11) rfl))) (fun _ h9 => h9) rfl dX8_a_1 ?_
  exact ret _ _ _ dX8_a_4 (show (v0_a = v0_a) from rfl)

set_option maxHeartbeats 4000000 in
set_option maxRecDepth 100000 in
theorem b_X8_b (l : Launch) (G : Gho) (D : va_G) (cB cI cJ cZ cS cT : ClassId) (h0 : Nat) (v0_tones : Int32) (v0_a : Int32) (v0_b : Int32) (v0_c : Int32) (v0_d : Int32) (v0_odds : Int32) (v0_lines : Int32) (h_signs : Nat) (v0_signCount : Int32) (h_posts : Nat) (v0_postCount : Int32) (h_acts : Nat) (iv0_signCount : 0 ≤ v0_signCount.toInt ∧ v0_signCount.toInt ≤ 8) (iv0_postCount : 0 ≤ v0_postCount.toInt ∧ v0_postCount.toInt ≤ 5) : Met l yX8_b (Cond.code yX8_b cX8_b 1 (some .int) :: wsL_law) ({ frames := 0, cells := 0, slots := 0, locals := 0 }) (roP G D (tyL cB cI cJ cZ cS cT) [(h0, .inr (8, [.int v0_tones, .int v0_a, .int v0_b, .int v0_c, .int v0_d, .int v0_odds, .int v0_lines, .ref h_signs, .int v0_signCount, .ref h_posts, .int v0_postCount, .ref h_acts]))] [.ref h0]) (vp_Si (fun r : Int32 => (r = v0_b))) 0 0 (fun _ => False) := by
  refine metRO (own := RX8) (by decide) rfl ?_
  intro p e s m below meth c Q C hP ret
  obtain ⟨hx, hb, hml, hown, hts, hK, hN, hT⟩ := id C
  have hl := lv_entry ([.ref h0]) (n := 1) (Nat.le_of_ble_eq_true rfl)
  rw [lg_entry_eq]
  generalize (lg_sl ([.ref h0]) ++ List.replicate (1 - (lg_sl ([.ref h0])).length) Slot.unset).toArray = ls at hl ⊢
  have hl : lv_has ls 1 [(0, .ref h0)] := hl
  have hP : va_P D vwCl [(h0, .inr (8, [.int v0_tones, .int v0_a, .int v0_b, .int v0_c, .int v0_d, .int v0_odds, .int v0_lines, .ref h_signs, .int v0_signCount, .ref h_posts, .int v0_postCount, .ref h_acts]))] s.heap := hP
  refine lv_aload_n hx hb dX8_b_0 rfl (lv_at hl 0 rfl) ?_
  refine va_get (D := D) (ci := 8) (v := .int v0_b) (C := RX8) (T := TX8) (N := 12) hx hb hts inlX8 hown hK hP 0 rfl rfl 2 (by decide) (hts _ (inr10 _ (List.mem_of_getElem? (i := 12) rfl))) (fun _ h9 => h9) rfl dX8_b_1 ?_
  exact ret _ _ _ dX8_b_4 (show (v0_b = v0_b) from rfl)

set_option maxHeartbeats 4000000 in
set_option maxRecDepth 100000 in
theorem b_X8_c (l : Launch) (G : Gho) (D : va_G) (cB cI cJ cZ cS cT : ClassId) (h0 : Nat) (v0_tones : Int32) (v0_a : Int32) (v0_b : Int32) (v0_c : Int32) (v0_d : Int32) (v0_odds : Int32) (v0_lines : Int32) (h_signs : Nat) (v0_signCount : Int32) (h_posts : Nat) (v0_postCount : Int32) (h_acts : Nat) (iv0_signCount : 0 ≤ v0_signCount.toInt ∧ v0_signCount.toInt ≤ 8) (iv0_postCount : 0 ≤ v0_postCount.toInt ∧ v0_postCount.toInt ≤ 5) : Met l yX8_c (Cond.code yX8_c cX8_c 1 (some .int) :: wsL_law) ({ frames := 0, cells := 0, slots := 0, locals := 0 }) (roP G D (tyL cB cI cJ cZ cS cT) [(h0, .inr (8, [.int v0_tones, .int v0_a, .int v0_b, .int v0_c, .int v0_d, .int v0_odds, .int v0_lines, .ref h_signs, .int v0_signCount, .ref h_posts, .int v0_postCount, .ref h_acts]))] [.ref h0]) (vp_Si (fun r : Int32 => (r = v0_c))) 0 0 (fun _ => False) := by
  refine metRO (own := RX8) (by decide) rfl ?_
  intro p e s m below meth c Q C hP ret
  obtain ⟨hx, hb, hml, hown, hts, hK, hN, hT⟩ := id C
  have hl := lv_entry ([.ref h0]) (n := 1) (Nat.le_of_ble_eq_true rfl)
  rw [lg_entry_eq]
  generalize (lg_sl ([.ref h0]) ++ List.replicate (1 - (lg_sl ([.ref h0])).length) Slot.unset).toArray = ls at hl ⊢
  have hl : lv_has ls 1 [(0, .ref h0)] := hl
  have hP : va_P D vwCl [(h0, .inr (8, [.int v0_tones, .int v0_a, .int v0_b, .int v0_c, .int v0_d, .int v0_odds, .int v0_lines, .ref h_signs, .int v0_signCount, .ref h_posts, .int v0_postCount, .ref h_acts]))] s.heap := hP
  refine lv_aload_n hx hb dX8_c_0 rfl (lv_at hl 0 rfl) ?_
  refine va_get (D := D) (ci := 8) (v := .int v0_c) (C := RX8) (T := TX8) (N := 12) hx hb hts inlX8 hown hK hP 0 rfl rfl 3 (by decide) (hts _ (inr10 _ (List.mem_of_getElem? (i := 13) rfl))) (fun _ h9 => h9) rfl dX8_c_1 ?_
  exact ret _ _ _ dX8_c_4 (show (v0_c = v0_c) from rfl)

set_option maxHeartbeats 4000000 in
set_option maxRecDepth 100000 in
theorem b_X8_d (l : Launch) (G : Gho) (D : va_G) (cB cI cJ cZ cS cT : ClassId) (h0 : Nat) (v0_tones : Int32) (v0_a : Int32) (v0_b : Int32) (v0_c : Int32) (v0_d : Int32) (v0_odds : Int32) (v0_lines : Int32) (h_signs : Nat) (v0_signCount : Int32) (h_posts : Nat) (v0_postCount : Int32) (h_acts : Nat) (iv0_signCount : 0 ≤ v0_signCount.toInt ∧ v0_signCount.toInt ≤ 8) (iv0_postCount : 0 ≤ v0_postCount.toInt ∧ v0_postCount.toInt ≤ 5) : Met l yX8_d (Cond.code yX8_d cX8_d 1 (some .int) :: wsL_law) ({ frames := 0, cells := 0, slots := 0, locals := 0 }) (roP G D (tyL cB cI cJ cZ cS cT) [(h0, .inr (8, [.int v0_tones, .int v0_a, .int v0_b, .int v0_c, .int v0_d, .int v0_odds, .int v0_lines, .ref h_signs, .int v0_signCount, .ref h_posts, .int v0_postCount, .ref h_acts]))] [.ref h0]) (vp_Si (fun r : Int32 => (r = v0_d))) 0 0 (fun _ => False) := by
  refine metRO (own := RX8) (by decide) rfl ?_
  intro p e s m below meth c Q C hP ret
  obtain ⟨hx, hb, hml, hown, hts, hK, hN, hT⟩ := id C
  have hl := lv_entry ([.ref h0]) (n := 1) (Nat.le_of_ble_eq_true rfl)
  rw [lg_entry_eq]
  generalize (lg_sl ([.ref h0]) ++ List.replicate (1 - (lg_sl ([.ref h0])).length) Slot.unset).toArray = ls at hl ⊢
  have hl : lv_has ls 1 [(0, .ref h0)] := hl
  have hP : va_P D vwCl [(h0, .inr (8, [.int v0_tones, .int v0_a, .int v0_b, .int v0_c, .int v0_d, .int v0_odds, .int v0_lines, .ref h_signs, .int v0_signCount, .ref h_posts, .int v0_postCount, .ref h_acts]))] s.heap := hP
  refine lv_aload_n hx hb dX8_d_0 rfl (lv_at hl 0 rfl) ?_
  refine va_get (D := D) (ci := 8) (v := .int v0_d) (C := RX8) (T := TX8) (N := 12) hx hb hts inlX8 hown hK hP 0 rfl rfl 4 (by decide) (hts _ (inr10 _ (List.mem_of_getElem? (i := 5) rfl))) (fun _ h9 => h9) rfl dX8_d_1 ?_
  exact ret _ _ _ dX8_d_4 (show (v0_d = v0_d) from rfl)

set_option maxHeartbeats 4000000 in
set_option maxRecDepth 100000 in
theorem b_X8_setC (l : Launch) (G : Gho) (D : va_G) (cB cI cJ cZ cS cT : ClassId) (sz : Nat) (h0 : Nat) (v0_tones : Int32) (v0_a : Int32) (v0_b : Int32) (v0_c : Int32) (v0_d : Int32) (v0_odds : Int32) (v0_lines : Int32) (h_signs : Nat) (v0_signCount : Int32) (h_posts : Nat) (v0_postCount : Int32) (h_acts : Nat) (v1 : Int32) (iv0_signCount : 0 ≤ v0_signCount.toInt ∧ v0_signCount.toInt ≤ 8) (iv0_postCount : 0 ≤ v0_postCount.toInt ∧ v0_postCount.toInt ≤ 5) : Met l yX8_setC (Cond.code yX8_setC cX8_setC 2 none :: wsL_law) ({ frames := 0, cells := 0, slots := 0, locals := 0 }) (wrP G D (tyL cB cI cJ cZ cS cT) [(h0, .inr (8, [.int v0_tones, .int v0_a, .int v0_b, .int v0_c, .int v0_d, .int v0_odds, .int v0_lines, .ref h_signs, .int v0_signCount, .ref h_posts, .int v0_postCount, .ref h_acts]))] sz [.ref h0, .int v1]) (va_Qv (fun x : Int32 => True) (atW D (tyL cB cI cJ cZ cS cT) (va_A [(h0, .inr (8, [.int v0_tones, .int v0_a, .int v0_b, .int v0_c, .int v0_d, .int v0_odds, .int v0_lines, .ref h_signs, .int v0_signCount, .ref h_posts, .int v0_postCount, .ref h_acts]))] sz) (fun x : Int32 => [(h0, .inr (8, [.int v0_tones, .int v0_a, .int v0_b, .int x, .int v0_d, .int v0_odds, .int v0_lines, .ref h_signs, .int v0_signCount, .ref h_posts, .int v0_postCount, .ref h_acts]))])) (va_A [(h0, .inr (8, [.int v0_tones, .int v0_a, .int v0_b, .int v0_c, .int v0_d, .int v0_odds, .int v0_lines, .ref h_signs, .int v0_signCount, .ref h_posts, .int v0_postCount, .ref h_acts]))] sz)) 0 0 (va_A [(h0, .inr (8, [.int v0_tones, .int v0_a, .int v0_b, .int v0_c, .int v0_d, .int v0_odds, .int v0_lines, .ref h_signs, .int v0_signCount, .ref h_posts, .int v0_postCount, .ref h_acts]))] sz) := by
  refine metV (own := RX8) (by decide) rfl ?_
  intro p e s m below meth c Q hsz C hG hP hD hAB ret
  obtain ⟨hx, hb, hml, hown, hts, hK, hN, hT⟩ := id C
  subst hsz
  generalize hAe : va_A [(h0, .inr (8, [.int v0_tones, .int v0_a, .int v0_b, .int v0_c, .int v0_d, .int v0_odds, .int v0_lines, .ref h_signs, .int v0_signCount, .ref h_posts, .int v0_postCount, .ref h_acts]))] s.heap.size = A at hD hAB ret ⊢
  have hA : ∀ q : Nat, s.heap.size ≤ q → A q := fun q h => by rw [← hAe]; exact Or.inr h
  have hS : va_S A s.heap s.heap [] := va_S.rf
  have hl := lv_entry ([.ref h0, .int v1]) (n := 2) (Nat.le_of_ble_eq_true rfl)
  rw [lg_entry_eq]
  generalize (lg_sl ([.ref h0, .int v1]) ++ List.replicate (2 - (lg_sl ([.ref h0, .int v1])).length) Slot.unset).toArray = ls at hl ⊢
  have hl : lv_has ls 2 [(0, .ref h0), (1, .int v1)] := hl
  have hP : va_P D vwCl [(h0, .inr (8, [.int v0_tones, .int v0_a, .int v0_b, .int v0_c, .int v0_d, .int v0_odds, .int v0_lines, .ref h_signs, .int v0_signCount, .ref h_posts, .int v0_postCount, .ref h_acts]))] s.heap := hP
  refine lv_aload_n hx hb dX8_setC_0 rfl (lv_at hl 0 rfl) ?_
  refine lv_iload_n hx hb dX8_setC_1 rfl (lv_at hl 1 rfl) ?_
  refine va_put (D := D) (ci := 8) (v := .int v1) (ty := .int) (C := RX8) (T := TX8) (N := 12) hx hb hts inlX8 tyX8 tyX8_ok nmX8 hown hK hP hD hS 0 rfl rfl 3 (by decide) (hts _ (inr10 _ (List.mem_of_getElem? (i := 13) rfl))) (fun _ h9 => h9) rfl (by decide +kernel) rfl rfl (Nat.le_of_ble_eq_true rfl) dX8_setC_2 (fun H locs hP hD hS => ?_)
  have hP : va_P D vwCl [(h0, .inr (8, [.int v0_tones, .int v0_a, .int v0_b, .int v1, .int v0_d, .int v0_odds, .int v0_lines, .ref h_signs, .int v0_signCount, .ref h_posts, .int v0_postCount, .ref h_acts]))] H := hP
  have hD : va_D A [(h0, .inr (8, [.int v0_tones, .int v0_a, .int v0_b, .int v1, .int v0_d, .int v0_odds, .int v0_lines, .ref h_signs, .int v0_signCount, .ref h_posts, .int v0_postCount, .ref h_acts]))] := hD
  exact ret _ _ _ _ v1 dX8_setC_5 trivial (hP.sub [0] rfl) (hD.sub [0] (by decide) rfl) hS

set_option maxHeartbeats 4000000 in
set_option maxRecDepth 100000 in
theorem b_X8_signTold (l : Launch) (G : Gho) (D : va_G) (cB cI cJ cZ cS cT : ClassId) (h0 : Nat) (v0_tones : Int32) (v0_a : Int32) (v0_b : Int32) (v0_c : Int32) (v0_d : Int32) (v0_odds : Int32) (v0_lines : Int32) (h_signs : Nat) (v0_signCount : Int32) (h_posts : Nat) (v0_postCount : Int32) (h_acts : Nat) (f_signs : Nat → Int32) (v1 : Int32) (iv0_signCount : 0 ≤ v0_signCount.toInt ∧ v0_signCount.toInt ≤ 8) (iv0_postCount : 0 ≤ v0_postCount.toInt ∧ v0_postCount.toInt ≤ 5) : Met l yX8_signTold (Cond.code yX8_signTold cX8_signTold 2 (some .int) :: wsL_law) ({ frames := 0, cells := 0, slots := 0, locals := 0 }) (roP G D (tyL cB cI cJ cZ cS cT) [(h0, .inr (8, [.int v0_tones, .int v0_a, .int v0_b, .int v0_c, .int v0_d, .int v0_odds, .int v0_lines, .ref h_signs, .int v0_signCount, .ref h_posts, .int v0_postCount, .ref h_acts])), (h_signs, .inl (cI, 8, .inl f_signs))] [.ref h0, .int v1]) (vp_Si (fun r : Int32 => True)) 0 0 (fun _ => False) := by
  refine metRO (own := RX8) (by decide) rfl ?_
  intro p e s m below meth c Q C hP ret
  obtain ⟨hx, hb, hml, hown, hts, hK, hN, hT⟩ := id C
  have hl := lv_entry ([.ref h0, .int v1]) (n := 2) (Nat.le_of_ble_eq_true rfl)
  rw [lg_entry_eq]
  generalize (lg_sl ([.ref h0, .int v1]) ++ List.replicate (2 - (lg_sl ([.ref h0, .int v1])).length) Slot.unset).toArray = ls at hl ⊢
  have hl : lv_has ls 2 [(0, .ref h0), (1, .int v1)] := hl
  have hP : va_P D vwCl [(h0, .inr (8, [.int v0_tones, .int v0_a, .int v0_b, .int v0_c, .int v0_d, .int v0_odds, .int v0_lines, .ref h_signs, .int v0_signCount, .ref h_posts, .int v0_postCount, .ref h_acts])), (h_signs, .inl (cI, 8, .inl f_signs))] s.heap := hP
  refine lv_iload_n hx hb dX8_signTold_0 rfl (lv_at hl 1 rfl) ?_
  refine lv_if_lt (tgt := 21) hx hb dX8_signTold_1 (by decide) (fun c_1 => ?_) (fun c_1 => ?_)
  · have c_1 : v1.toInt < 0 := ci_lt_t c_1
    have b_v1 := i32b v1
    refine lv_iconst (v := (-1)) hx hb dX8_signTold_21 (by decide) ?_
    exact ret _ _ _ dX8_signTold_22 trivial
  · have c_1 : 0 ≤ v1.toInt := ci_lt_f c_1
    have b_v1 := i32b v1
    refine lv_iload_n hx hb dX8_signTold_4 rfl (lv_at hl 1 rfl) ?_
    refine lv_aload_n hx hb dX8_signTold_5 rfl (lv_at hl 0 rfl) ?_
    refine va_get (D := D) (ci := 8) (v := .int v0_signCount) (C := RX8) (T := TX8) (N := 12) hx hb hts inlX8 hown hK hP 0 rfl rfl 8 (by decide) (hts _ (inr9 _ (List.mem_of_getElem? (i := 22) rfl))) (fun _ h9 => h9) rfl dX8_signTold_6 ?_
    refine lv_icmp_ge (tgt := 21) hx hb dX8_signTold_9 (by decide) (fun c_2 => ?_) (fun c_2 => ?_)
    · have c_2 : v0_signCount.toInt ≤ v1.toInt := ci_ge_t c_2
      have b_v0_signCount := i32b v0_signCount
      refine lv_iconst (v := (-1)) hx hb dX8_signTold_21 (by decide) ?_
      exact ret _ _ _ dX8_signTold_22 trivial
    · have c_2 : v1.toInt < v0_signCount.toInt := ci_ge_f c_2
      have b_v0_signCount := i32b v0_signCount
      refine lv_aload_n hx hb dX8_signTold_12 rfl (lv_at hl 0 rfl) ?_
      refine va_get (D := D) (ci := 8) (v := .ref h_signs) (C := RX8) (T := TX8) (N := 12) hx hb hts inlX8 hown hK hP 0 rfl rfl 7 (by decide) (hts _ (inr4 _ (List.mem_of_getElem? (i := 1) rfl))) (fun _ h9 => h9) rfl dX8_signTold_13 ?_
      refine lv_iload_n hx hb dX8_signTold_16 rfl (lv_at hl 1 rfl) ?_
      obtain ⟨t_3, et_3⟩ : ∃ v9 : Int32, f_signs (v1 : Int32).toNatClampNeg = v9 := ⟨_, rfl⟩
      refine z_iald (v := t_3) hx hb hK hP 1 1 rfl rfl (vin_nat (by omega) (by omega)) et_3 dX8_signTold_17 ?_
      refine lv_goto (tgt := 22) hx hb dX8_signTold_18 (by decide) ?_
      exact ret _ _ _ dX8_signTold_22 trivial

set_option maxHeartbeats 4000000 in
set_option maxRecDepth 100000 in
theorem b_X8_soundsAlikeFrom_l2 {p : Program} {l : Launch} {e : Env} {s : State} {m : MethodId} {args : Array Value} {below : List Frame} {meth : Method} {c : Code} {Q : State → Prop} {G : Gho} {D : va_G} {cB cI cJ cZ cS cT : ClassId} (h0 : Nat) (v0_tones : Int32) (v0_a : Int32) (v0_b : Int32) (v0_c : Int32) (v0_d : Int32) (v0_odds : Int32) (v0_lines : Int32) (h_signs : Nat) (v0_signCount : Int32) (h_posts : Nat) (v0_postCount : Int32) (h_acts : Nat) (f_posts : Nat → Int32) (v1 : Int32) (v2 : Int32) (iv0_signCount : 0 ≤ v0_signCount.toInt ∧ v0_signCount.toInt ≤ 8) (iv0_postCount : 0 ≤ v0_postCount.toInt ∧ v0_postCount.toInt ≤ 5) (C : Cx p s m args c RX8 cX8_soundsAlikeFrom 6 G D (tyL cB cI cJ cZ cS cT)) (hP : va_P D vwCl [(h0, .inr (8, [.int v0_tones, .int v0_a, .int v0_b, .int v0_c, .int v0_d, .int v0_odds, .int v0_lines, .ref h_signs, .int v0_signCount, .ref h_posts, .int v0_postCount, .ref h_acts])), (h_posts, .inl (cI, 5, .inl f_posts))] s.heap) (ret : RroI p l e ({ frames := 2, cells := 0, slots := 0, locals := 43 }) s m args below meth c cX8_soundsAlikeFrom (fun r : Int32 => (r = 0 ∨ r = 1)) Q) :
    ∀ (N : Nat) (l2_3 : Int32) (ls : Array Slot), 1 ≤ l2_3.toInt → (v0_postCount.toInt - l2_3.toInt).toNat < N → lv_has ls 6 [(3, .int l2_3), (0, .ref h0), (1, .int v1), (2, .int v2)] → W p l e ({ frames := 2, cells := 0, slots := 0, locals := 43 }) s m args below meth c s.heap [] 0 0 Q (F0 m 2 ls []) := by
  obtain ⟨hx, hb, hml, hown, hts, hK, hN, hT⟩ := id C
  intro N
  induction N with
  | zero =>
    intro l2_3 ls kl2_3 hM_2 hl
    omega
  | succ N_2 ih_2 =>
    intro l2_3 ls kl2_3 hM_2 hl
    have b_l2_3 := i32b l2_3
    refine lv_iload_n hx hb dX8_soundsAlikeFrom_2 rfl (lv_at hl 0 rfl) ?_
    refine lv_aload_n hx hb dX8_soundsAlikeFrom_3 rfl (lv_at hl 1 rfl) ?_
    refine va_get (D := D) (ci := 8) (v := .int v0_postCount) (C := RX8) (T := TX8) (N := 12) hx hb hts inlX8 hown hK hP 0 rfl rfl 10 (by decide) (hts _ (inr9 _ (List.mem_of_getElem? (i := 23) rfl))) (fun _ h9 => h9) rfl dX8_soundsAlikeFrom_4 ?_
    refine lv_icmp_ge (tgt := 55) hx hb dX8_soundsAlikeFrom_7 (by decide) (fun c_1 => ?_) (fun c_1 => ?_)
    · have c_1 : v0_postCount.toInt ≤ l2_3.toInt := ci_ge_t c_1
      have b_v0_postCount := i32b v0_postCount
      refine lv_iconst (v := 1) hx hb dX8_soundsAlikeFrom_55 (by decide) ?_
      have hr9 : (1 : Int32).toInt = 1 := by decide
      exact ret _ _ _ dX8_soundsAlikeFrom_56 (show ((1 : Int32) = 0 ∨ (1 : Int32) = 1) from (Or.inr rfl))
    · have c_1 : l2_3.toInt < v0_postCount.toInt := ci_ge_f c_1
      have b_v0_postCount := i32b v0_postCount
      refine lv_aload_n hx hb dX8_soundsAlikeFrom_10 rfl (lv_at hl 1 rfl) ?_
      refine lv_iload_n hx hb dX8_soundsAlikeFrom_11 rfl (lv_at hl 2 rfl) ?_
      refine lv_iload_n hx hb dX8_soundsAlikeFrom_12 rfl (lv_at hl 0 rfl) ?_
      refine roi (As := [.int v1, .int l2_3]) (rest := []) ⟨hx, hb, hml, hown, hts⟩ (b_X8_wayToPost l G D cB cI cJ cZ cS cT h0 v0_tones v0_a v0_b v0_c v0_d v0_odds v0_lines h_signs v0_signCount h_posts v0_postCount h_acts f_posts v1 l2_3 (by first | assumption | omega | decide) (by first | assumption | omega | decide)) (cvB (n := 2) (inr44 _ (List.mem_of_getElem? (i := 11) rfl)) (inr43 _ (List.mem_of_getElem? (i := 13) rfl)) (inr43 _ (List.mem_of_getElem? (i := 14) rfl)) (inr1 _ (List.mem_of_getElem? (i := 23) rfl)) (inr43 _ (List.mem_of_getElem? (i := 15) rfl)) (by decide +kernel) hts rfl rfl ⟨Nat.le_of_ble_eq_true rfl, Nat.le_of_ble_eq_true rfl⟩) 0 8 rfl rfl rfl (hP.sub [0, 1] rfl) hK hN hT rfl hl.1 rfl (Nat.le_of_ble_eq_true rfl) ⟨Nat.le_of_ble_eq_true rfl, Nat.le_of_ble_eq_true rfl⟩ dX8_soundsAlikeFrom_13 (fun r_2 h_3 => ?_)
      refine lv_aload_n hx hb dX8_soundsAlikeFrom_16 rfl (lv_at hl 1 rfl) ?_
      refine lv_iload_n hx hb dX8_soundsAlikeFrom_17 rfl (lv_at hl 2 rfl) ?_
      refine lv_iconst (v := 0) hx hb dX8_soundsAlikeFrom_18 (by decide) ?_
      refine roi (As := [.int v1, .int 0]) (rest := [.int r_2]) ⟨hx, hb, hml, hown, hts⟩ (b_X8_wayToPost l G D cB cI cJ cZ cS cT h0 v0_tones v0_a v0_b v0_c v0_d v0_odds v0_lines h_signs v0_signCount h_posts v0_postCount h_acts f_posts v1 0 (by first | assumption | omega | decide) (by first | assumption | omega | decide)) (cvB (n := 2) (inr44 _ (List.mem_of_getElem? (i := 11) rfl)) (inr43 _ (List.mem_of_getElem? (i := 13) rfl)) (inr43 _ (List.mem_of_getElem? (i := 14) rfl)) (inr1 _ (List.mem_of_getElem? (i := 23) rfl)) (inr43 _ (List.mem_of_getElem? (i := 15) rfl)) (by decide +kernel) hts rfl rfl ⟨Nat.le_of_ble_eq_true rfl, Nat.le_of_ble_eq_true rfl⟩) 0 8 rfl rfl rfl (hP.sub [0, 1] rfl) hK hN hT rfl hl.1 rfl (Nat.le_of_ble_eq_true rfl) ⟨Nat.le_of_ble_eq_true rfl, Nat.le_of_ble_eq_true rfl⟩ dX8_soundsAlikeFrom_19 (fun r_4 h_5 => ?_)
      obtain ⟨t_6, et_6⟩ : ∃ v9 : Int32, r_2 - r_4 = v9 := ⟨_, rfl⟩
      refine z_isub (v := t_6) hx hb dX8_soundsAlikeFrom_22 et_6 ?_
      refine lv_istore (lv' := [(4, .int t_6), (3, .int l2_3), (0, .ref h0), (1, .int v1), (2, .int v2)]) hx hb dX8_soundsAlikeFrom_23 hl (by decide) rfl (fun ls hl => ?_)
      refine lv_aload_n hx hb dX8_soundsAlikeFrom_25 rfl (lv_at hl 2 rfl) ?_
      refine lv_iload_n hx hb dX8_soundsAlikeFrom_26 rfl (lv_at hl 4 rfl) ?_
      refine lv_iload_n hx hb dX8_soundsAlikeFrom_27 rfl (lv_at hl 1 rfl) ?_
      refine roi (As := [.int v2, .int l2_3]) (rest := []) ⟨hx, hb, hml, hown, hts⟩ (b_X8_wayToPost l G D cB cI cJ cZ cS cT h0 v0_tones v0_a v0_b v0_c v0_d v0_odds v0_lines h_signs v0_signCount h_posts v0_postCount h_acts f_posts v2 l2_3 (by first | assumption | omega | decide) (by first | assumption | omega | decide)) (cvB (n := 2) (inr44 _ (List.mem_of_getElem? (i := 11) rfl)) (inr43 _ (List.mem_of_getElem? (i := 13) rfl)) (inr43 _ (List.mem_of_getElem? (i := 14) rfl)) (inr1 _ (List.mem_of_getElem? (i := 23) rfl)) (inr43 _ (List.mem_of_getElem? (i := 15) rfl)) (by decide +kernel) hts rfl rfl ⟨Nat.le_of_ble_eq_true rfl, Nat.le_of_ble_eq_true rfl⟩) 0 8 rfl rfl rfl (hP.sub [0, 1] rfl) hK hN hT rfl hl.1 rfl (Nat.le_of_ble_eq_true rfl) ⟨Nat.le_of_ble_eq_true rfl, Nat.le_of_ble_eq_true rfl⟩ dX8_soundsAlikeFrom_28 (fun r_7 h_8 => ?_)
      refine lv_aload_n hx hb dX8_soundsAlikeFrom_31 rfl (lv_at hl 2 rfl) ?_
      refine lv_iload_n hx hb dX8_soundsAlikeFrom_32 rfl (lv_at hl 4 rfl) ?_
      refine lv_iconst (v := 0) hx hb dX8_soundsAlikeFrom_33 (by decide) ?_
      refine roi (As := [.int v2, .int 0]) (rest := [.int r_7]) ⟨hx, hb, hml, hown, hts⟩ (b_X8_wayToPost l G D cB cI cJ cZ cS cT h0 v0_tones v0_a v0_b v0_c v0_d v0_odds v0_lines h_signs v0_signCount h_posts v0_postCount h_acts f_posts v2 0 (by first | assumption | omega | decide) (by first | assumption | omega | decide)) (cvB (n := 2) (inr44 _ (List.mem_of_getElem? (i := 11) rfl)) (inr43 _ (List.mem_of_getElem? (i := 13) rfl)) (inr43 _ (List.mem_of_getElem? (i := 14) rfl)) (inr1 _ (List.mem_of_getElem? (i := 23) rfl)) (inr43 _ (List.mem_of_getElem? (i := 15) rfl)) (by decide +kernel) hts rfl rfl ⟨Nat.le_of_ble_eq_true rfl, Nat.le_of_ble_eq_true rfl⟩) 0 8 rfl rfl rfl (hP.sub [0, 1] rfl) hK hN hT rfl hl.1 rfl (Nat.le_of_ble_eq_true rfl) ⟨Nat.le_of_ble_eq_true rfl, Nat.le_of_ble_eq_true rfl⟩ dX8_soundsAlikeFrom_34 (fun r_9 h_10 => ?_)
      obtain ⟨t_11, et_11⟩ : ∃ v9 : Int32, r_7 - r_9 = v9 := ⟨_, rfl⟩
      refine z_isub (v := t_11) hx hb dX8_soundsAlikeFrom_37 et_11 ?_
      refine lv_istore (lv' := [(5, .int t_11), (4, .int t_6), (3, .int l2_3), (0, .ref h0), (1, .int v1), (2, .int v2)]) hx hb dX8_soundsAlikeFrom_38 hl (by decide) rfl (fun ls hl => ?_)
      refine lv_iload hx hb dX8_soundsAlikeFrom_40 (lv_at hl 1 rfl) ?_
      refine lv_iload hx hb dX8_soundsAlikeFrom_42 (lv_at hl 0 rfl) ?_
      refine lv_icmp_eq (tgt := 49) hx hb dX8_soundsAlikeFrom_44 (by decide) (fun c_12 => ?_) (fun c_12 => ?_)
      · have c_12 : t_6.toInt = t_11.toInt := ci_eq_t c_12
        have b_t_6 := i32b t_6
        have b_t_11 := i32b t_11
        obtain ⟨t_13, et_13⟩ : ∃ v9 : Int32, l2_3 + 1 = v9 := ⟨_, rfl⟩
        have ft_13 : t_13.toInt = l2_3.toInt + 1 := addT (a := l2_3.toInt) (b := 1) rfl (by decide) et_13 (by omega) (by omega)
        refine lv_iinc (v := t_13) (lv' := [(3, .int t_13), (5, .int t_11), (4, .int t_6), (0, .ref h0), (1, .int v1), (2, .int v2)]) hx hb dX8_soundsAlikeFrom_49 hl (k := 2) rfl (by rw [← et_13]; rfl) (by decide) rfl (fun ls hl => ?_)
        refine lv_goto (tgt := 2) hx hb dX8_soundsAlikeFrom_52 (by decide) ?_
        exact ih_2 (t_13) _ (by first | assumption | omega | decide) (by omega) (lv_sub hl [0, 3, 4, 5] rfl)
      · have c_12 : ¬ t_6.toInt = t_11.toInt := ci_eq_f c_12
        have b_t_6 := i32b t_6
        have b_t_11 := i32b t_11
        refine lv_iconst (v := 0) hx hb dX8_soundsAlikeFrom_47 (by decide) ?_
        have hr9 : (0 : Int32).toInt = 0 := by decide
        exact ret _ _ _ dX8_soundsAlikeFrom_48 (show ((0 : Int32) = 0 ∨ (0 : Int32) = 1) from (Or.inl rfl))

set_option maxHeartbeats 4000000 in
set_option maxRecDepth 100000 in
theorem b_X8_soundsAlikeFrom (l : Launch) (G : Gho) (D : va_G) (cB cI cJ cZ cS cT : ClassId) (h0 : Nat) (v0_tones : Int32) (v0_a : Int32) (v0_b : Int32) (v0_c : Int32) (v0_d : Int32) (v0_odds : Int32) (v0_lines : Int32) (h_signs : Nat) (v0_signCount : Int32) (h_posts : Nat) (v0_postCount : Int32) (h_acts : Nat) (f_posts : Nat → Int32) (v1 : Int32) (v2 : Int32) (iv0_signCount : 0 ≤ v0_signCount.toInt ∧ v0_signCount.toInt ≤ 8) (iv0_postCount : 0 ≤ v0_postCount.toInt ∧ v0_postCount.toInt ≤ 5) : Met l yX8_soundsAlikeFrom (Cond.code yX8_soundsAlikeFrom cX8_soundsAlikeFrom 6 (some .boolean) :: wsL_law) ({ frames := 2, cells := 0, slots := 0, locals := 43 }) (roP G D (tyL cB cI cJ cZ cS cT) [(h0, .inr (8, [.int v0_tones, .int v0_a, .int v0_b, .int v0_c, .int v0_d, .int v0_odds, .int v0_lines, .ref h_signs, .int v0_signCount, .ref h_posts, .int v0_postCount, .ref h_acts])), (h_posts, .inl (cI, 5, .inl f_posts))] [.ref h0, .int v1, .int v2]) (vp_Si (fun r : Int32 => (r = 0 ∨ r = 1))) 0 0 (fun _ => False) := by
  refine metROZ (own := RX8) (by decide) rfl (fun r h => h) ?_
  intro p e s m below meth c Q C hP ret
  obtain ⟨hx, hb, hml, hown, hts, hK, hN, hT⟩ := id C
  have hl := lv_entry ([.ref h0, .int v1, .int v2]) (n := 6) (Nat.le_of_ble_eq_true rfl)
  rw [lg_entry_eq]
  generalize (lg_sl ([.ref h0, .int v1, .int v2]) ++ List.replicate (6 - (lg_sl ([.ref h0, .int v1, .int v2])).length) Slot.unset).toArray = ls at hl ⊢
  have hl : lv_has ls 6 [(0, .ref h0), (1, .int v1), (2, .int v2)] := hl
  have hP : va_P D vwCl [(h0, .inr (8, [.int v0_tones, .int v0_a, .int v0_b, .int v0_c, .int v0_d, .int v0_odds, .int v0_lines, .ref h_signs, .int v0_signCount, .ref h_posts, .int v0_postCount, .ref h_acts])), (h_posts, .inl (cI, 5, .inl f_posts))] s.heap := hP
  refine lv_iconst (v := 1) hx hb dX8_soundsAlikeFrom_0 (by decide) ?_
  refine lv_istore_n (lv' := [(3, .int 1), (0, .ref h0), (1, .int v1), (2, .int v2)]) hx hb dX8_soundsAlikeFrom_1 rfl hl (by decide) rfl (fun ls hl => ?_)
  exact b_X8_soundsAlikeFrom_l2 h0 v0_tones v0_a v0_b v0_c v0_d v0_odds v0_lines h_signs v0_signCount h_posts v0_postCount h_acts f_posts v1 v2 (by first | assumption | omega | decide) (by first | assumption | omega | decide) C (hP.sub [0, 1] rfl) ret _ (1) _ (by first | assumption | omega | decide) (Nat.lt_succ_self _) (lv_sub hl [0, 1, 2, 3] rfl)

set_option maxHeartbeats 4000000 in
set_option maxRecDepth 100000 in
theorem b_X8_areParents (l : Launch) (G : Gho) (D : va_G) (cB cI cJ cZ cS cT : ClassId) (h0 : Nat) (v0_tones : Int32) (v0_a : Int32) (v0_b : Int32) (v0_c : Int32) (v0_d : Int32) (v0_odds : Int32) (v0_lines : Int32) (h_signs : Nat) (v0_signCount : Int32) (h_posts : Nat) (v0_postCount : Int32) (h_acts : Nat) (f_signs : Nat → Int32) (v1 : Int32) (v2 : Int32) (v3 : Int32) (iv0_signCount : 0 ≤ v0_signCount.toInt ∧ v0_signCount.toInt ≤ 8) (iv0_postCount : 0 ≤ v0_postCount.toInt ∧ v0_postCount.toInt ≤ 5) : Met l yX8_areParents (Cond.code yX8_areParents cX8_areParents 6 (some .boolean) :: wsL_law) ({ frames := 1, cells := 0, slots := 0, locals := 21 }) (roP G D (tyL cB cI cJ cZ cS cT) [(h0, .inr (8, [.int v0_tones, .int v0_a, .int v0_b, .int v0_c, .int v0_d, .int v0_odds, .int v0_lines, .ref h_signs, .int v0_signCount, .ref h_posts, .int v0_postCount, .ref h_acts])), (h_signs, .inl (cI, 8, .inl f_signs))] [.ref h0, .int v1, .int v2, .int v3]) (vp_Si (fun r : Int32 => (r = 0 ∨ r = 1))) 0 0 (fun _ => False) := by
  refine metROZ (own := RX8) (by decide) rfl (fun r h => h) ?_
  intro p e s m below meth c Q C hP ret
  obtain ⟨hx, hb, hml, hown, hts, hK, hN, hT⟩ := id C
  have hl := lv_entry ([.ref h0, .int v1, .int v2, .int v3]) (n := 6) (Nat.le_of_ble_eq_true rfl)
  rw [lg_entry_eq]
  generalize (lg_sl ([.ref h0, .int v1, .int v2, .int v3]) ++ List.replicate (6 - (lg_sl ([.ref h0, .int v1, .int v2, .int v3])).length) Slot.unset).toArray = ls at hl ⊢
  have hl : lv_has ls 6 [(0, .ref h0), (1, .int v1), (2, .int v2), (3, .int v3)] := hl
  have hP : va_P D vwCl [(h0, .inr (8, [.int v0_tones, .int v0_a, .int v0_b, .int v0_c, .int v0_d, .int v0_odds, .int v0_lines, .ref h_signs, .int v0_signCount, .ref h_posts, .int v0_postCount, .ref h_acts])), (h_signs, .inl (cI, 8, .inl f_signs))] s.heap := hP
  refine lv_aload_n hx hb dX8_areParents_0 rfl (lv_at hl 0 rfl) ?_
  refine lv_iload_n hx hb dX8_areParents_1 rfl (lv_at hl 1 rfl) ?_
  refine roi (As := [.int v1]) (rest := []) ⟨hx, hb, hml, hown, hts⟩ (b_X8_signTold l G D cB cI cJ cZ cS cT h0 v0_tones v0_a v0_b v0_c v0_d v0_odds v0_lines h_signs v0_signCount h_posts v0_postCount h_acts f_signs v1 (by first | assumption | omega | decide) (by first | assumption | omega | decide)) (cvB (n := 1) (inr60 _ (List.mem_of_getElem? (i := 8) rfl)) (inr21 _ (List.mem_of_getElem? (i := 6) rfl)) (inr21 _ (List.mem_of_getElem? (i := 7) rfl)) (inr1 _ (List.mem_of_getElem? (i := 23) rfl)) (inr21 _ (List.mem_of_getElem? (i := 8) rfl)) (by decide +kernel) hts rfl rfl ⟨Nat.le_of_ble_eq_true rfl, Nat.le_of_ble_eq_true rfl⟩) 0 8 rfl rfl rfl (hP.sub [0, 1] rfl) hK hN hT rfl hl.1 rfl (Nat.le_of_ble_eq_true rfl) ⟨Nat.le_of_ble_eq_true rfl, Nat.le_of_ble_eq_true rfl⟩ dX8_areParents_2 (fun r_1 h_2 => ?_)
  refine lv_istore (lv' := [(4, .int r_1), (0, .ref h0), (1, .int v1), (2, .int v2), (3, .int v3)]) hx hb dX8_areParents_5 hl (by decide) rfl (fun ls hl => ?_)
  refine lv_aload_n hx hb dX8_areParents_7 rfl (lv_at hl 1 rfl) ?_
  refine lv_iload_n hx hb dX8_areParents_8 rfl (lv_at hl 3 rfl) ?_
  refine roi (As := [.int v2]) (rest := []) ⟨hx, hb, hml, hown, hts⟩ (b_X8_signTold l G D cB cI cJ cZ cS cT h0 v0_tones v0_a v0_b v0_c v0_d v0_odds v0_lines h_signs v0_signCount h_posts v0_postCount h_acts f_signs v2 (by first | assumption | omega | decide) (by first | assumption | omega | decide)) (cvB (n := 1) (inr60 _ (List.mem_of_getElem? (i := 8) rfl)) (inr21 _ (List.mem_of_getElem? (i := 6) rfl)) (inr21 _ (List.mem_of_getElem? (i := 7) rfl)) (inr1 _ (List.mem_of_getElem? (i := 23) rfl)) (inr21 _ (List.mem_of_getElem? (i := 8) rfl)) (by decide +kernel) hts rfl rfl ⟨Nat.le_of_ble_eq_true rfl, Nat.le_of_ble_eq_true rfl⟩) 0 8 rfl rfl rfl (hP.sub [0, 1] rfl) hK hN hT rfl hl.1 rfl (Nat.le_of_ble_eq_true rfl) ⟨Nat.le_of_ble_eq_true rfl, Nat.le_of_ble_eq_true rfl⟩ dX8_areParents_9 (fun r_3 h_4 => ?_)
  refine lv_istore (lv' := [(5, .int r_3), (4, .int r_1), (0, .ref h0), (1, .int v1), (2, .int v2), (3, .int v3)]) hx hb dX8_areParents_12 hl (by decide) rfl (fun ls hl => ?_)
  refine lv_iload hx hb dX8_areParents_14 (lv_at hl 1 rfl) ?_
  refine lv_iconst (v := (-1)) hx hb dX8_areParents_16 (by decide) ?_
  refine lv_icmp_eq (tgt := 40) hx hb dX8_areParents_17 (by decide) (fun c_5 => ?_) (fun c_5 => ?_)
  · have c_5 : r_1.toInt = (-1) := ci_eq_t c_5
    have b_r_1 := i32b r_1
    refine lv_iconst (v := 0) hx hb dX8_areParents_40 (by decide) ?_
    have hr9 : (0 : Int32).toInt = 0 := by decide
    exact ret _ _ _ dX8_areParents_41 (show ((0 : Int32) = 0 ∨ (0 : Int32) = 1) from (Or.inl rfl))
  · have c_5 : ¬ r_1.toInt = (-1) := ci_eq_f c_5
    have b_r_1 := i32b r_1
    refine lv_iload hx hb dX8_areParents_20 (lv_at hl 0 rfl) ?_
    refine lv_iconst (v := (-1)) hx hb dX8_areParents_22 (by decide) ?_
    refine lv_icmp_eq (tgt := 40) hx hb dX8_areParents_23 (by decide) (fun c_6 => ?_) (fun c_6 => ?_)
    · have c_6 : r_3.toInt = (-1) := ci_eq_t c_6
      have b_r_3 := i32b r_3
      refine lv_iconst (v := 0) hx hb dX8_areParents_40 (by decide) ?_
      have hr9 : (0 : Int32).toInt = 0 := by decide
      exact ret _ _ _ dX8_areParents_41 (show ((0 : Int32) = 0 ∨ (0 : Int32) = 1) from (Or.inl rfl))
    · have c_6 : ¬ r_3.toInt = (-1) := ci_eq_f c_6
      have b_r_3 := i32b r_3
      refine lv_iload hx hb dX8_areParents_26 (lv_at hl 1 rfl) ?_
      refine lv_iload hx hb dX8_areParents_28 (lv_at hl 0 rfl) ?_
      refine lv_icmp_eq (tgt := 40) hx hb dX8_areParents_30 (by decide) (fun c_7 => ?_) (fun c_7 => ?_)
      · have c_7 : r_1.toInt = r_3.toInt := ci_eq_t c_7
        refine lv_iconst (v := 0) hx hb dX8_areParents_40 (by decide) ?_
        have hr9 : (0 : Int32).toInt = 0 := by decide
        exact ret _ _ _ dX8_areParents_41 (show ((0 : Int32) = 0 ∨ (0 : Int32) = 1) from (Or.inl rfl))
      · have c_7 : ¬ r_1.toInt = r_3.toInt := ci_eq_f c_7
        refine lv_aload_n hx hb dX8_areParents_33 rfl (lv_at hl 2 rfl) ?_
        refine va_get (D := D) (ci := 8) (v := .int v0_tones) (C := RX8) (T := TX8) (N := 12) hx hb hts inlX8 hown hK hP 0 rfl rfl 0 (by decide) (hts _ (inr10 _ (List.mem_of_getElem? (i := 4) rfl))) (fun _ h9 => h9) rfl dX8_areParents_34 ?_
        refine lv_if_gt (tgt := 42) hx hb dX8_areParents_37 (by decide) (fun c_8 => ?_) (fun c_8 => ?_)
        · have c_8 : 0 < v0_tones.toInt := ci_gt_t c_8
          have b_v0_tones := i32b v0_tones
          refine lv_iload hx hb dX8_areParents_42 (lv_at hl 1 rfl) ?_
          refine lv_iload hx hb dX8_areParents_44 (lv_at hl 0 rfl) ?_
          obtain ⟨t_9, et_9⟩ : ∃ v9 : Int32, r_1 + r_3 = v9 := ⟨_, rfl⟩
          refine z_iadd (v := t_9) hx hb dX8_areParents_46 et_9 ?_
          refine lv_aload_n hx hb dX8_areParents_47 rfl (lv_at hl 2 rfl) ?_
          refine va_get (D := D) (ci := 8) (v := .int v0_tones) (C := RX8) (T := TX8) (N := 12) hx hb hts inlX8 hown hK hP 0 rfl rfl 0 (by decide) (hts _ (inr10 _ (List.mem_of_getElem? (i := 4) rfl))) (fun _ h9 => h9) rfl dX8_areParents_48 ?_
          obtain ⟨t_10, et_10⟩ : ∃ v9 : Int32, t_9 - t_9 / v0_tones * v0_tones = v9 := ⟨_, rfl⟩
          refine z_irem (v := t_10) hx hb dX8_areParents_51 (ne0T (by omega)) et_10 ?_
          refine lv_iload_n hx hb dX8_areParents_52 rfl (lv_at hl 5 rfl) ?_
          refine lv_icmp_ne (tgt := 60) hx hb dX8_areParents_53 (by decide) (fun c_11 => ?_) (fun c_11 => ?_)
          · have c_11 : ¬ t_10.toInt = v3.toInt := ci_ne_t c_11
            have b_t_10 := i32b t_10
            have b_v3 := i32b v3
            refine lv_iconst (v := 0) hx hb dX8_areParents_60 (by decide) ?_
            have hr9 : (0 : Int32).toInt = 0 := by decide
            exact ret _ _ _ dX8_areParents_61 (show ((0 : Int32) = 0 ∨ (0 : Int32) = 1) from (Or.inl rfl))
          · have c_11 : t_10.toInt = v3.toInt := ci_ne_f c_11
            have b_t_10 := i32b t_10
            have b_v3 := i32b v3
            refine lv_iconst (v := 1) hx hb dX8_areParents_56 (by decide) ?_
            refine lv_goto (tgt := 61) hx hb dX8_areParents_57 (by decide) ?_
            have hr9 : (1 : Int32).toInt = 1 := by decide
            exact ret _ _ _ dX8_areParents_61 (show ((1 : Int32) = 0 ∨ (1 : Int32) = 1) from (Or.inr rfl))
        · have c_8 : v0_tones.toInt ≤ 0 := ci_gt_f c_8
          have b_v0_tones := i32b v0_tones
          refine lv_iconst (v := 0) hx hb dX8_areParents_40 (by decide) ?_
          have hr9 : (0 : Int32).toInt = 0 := by decide
          exact ret _ _ _ dX8_areParents_41 (show ((0 : Int32) = 0 ∨ (0 : Int32) = 1) from (Or.inl rfl))

set_option maxHeartbeats 4000000 in
set_option maxRecDepth 100000 in
theorem b_X8_gapsAtRisk_l4 {p : Program} {l : Launch} {e : Env} {s : State} {m : MethodId} {args : Array Value} {below : List Frame} {meth : Method} {c : Code} {Q : State → Prop} {G : Gho} {D : va_G} {cB cI cJ cZ cS cT : ClassId} (h0 : Nat) (v0_tones : Int32) (v0_a : Int32) (v0_b : Int32) (v0_c : Int32) (v0_d : Int32) (v0_odds : Int32) (v0_lines : Int32) (h_signs : Nat) (v0_signCount : Int32) (h_posts : Nat) (v0_postCount : Int32) (h_acts : Nat) (h_acts_over : Nat) (h_acts_steps : Nat) (h_acts_before : Nat) (v_acts_size : Int32) (f_signs : Nat → Int32) (f_acts_over : Nat → Int32) (v1 : Int32) (iv0_signCount : 0 ≤ v0_signCount.toInt ∧ v0_signCount.toInt ≤ 8) (iv0_postCount : 0 ≤ v0_postCount.toInt ∧ v0_postCount.toInt ≤ 5) (iv_acts_size : 0 ≤ v_acts_size.toInt ∧ v_acts_size.toInt ≤ 30) (C : Cx p s m args c RX8 cX8_gapsAtRisk 4 G D (tyL cB cI cJ cZ cS cT)) (hP : va_P D vwCl [(h0, .inr (8, [.int v0_tones, .int v0_a, .int v0_b, .int v0_c, .int v0_d, .int v0_odds, .int v0_lines, .ref h_signs, .int v0_signCount, .ref h_posts, .int v0_postCount, .ref h_acts])), (h_acts, .inr (0, [.ref h_acts_over, .ref h_acts_steps, .ref h_acts_before, .int v_acts_size])), (h_signs, .inl (cI, 8, .inl f_signs)), (h_acts_over, .inl (cI, 61, .inl f_acts_over))] s.heap) (ret : RroI p l e ({ frames := 1, cells := 0, slots := 0, locals := 21 }) s m args below meth c cX8_gapsAtRisk (fun r : Int32 => True) Q) :
    ∀ (N : Nat) (l4_3 : Int32) (l4_2 : Int32) (ls : Array Slot), 0 ≤ l4_3.toInt → (v1.toInt - l4_3.toInt + 1).toNat < N → lv_has ls 4 [(3, .int l4_3), (2, .int l4_2), (0, .ref h0), (1, .int v1)] → W p l e ({ frames := 1, cells := 0, slots := 0, locals := 21 }) s m args below meth c s.heap [] 0 0 Q (F0 m 4 ls []) := by
  obtain ⟨hx, hb, hml, hown, hts, hK, hN, hT⟩ := id C
  intro N
  induction N with
  | zero =>
    intro l4_3 l4_2 ls kl4_3 hM_4 hl
    omega
  | succ N_4 ih_4 =>
    intro l4_3 l4_2 ls kl4_3 hM_4 hl
    have b_l4_3 := i32b l4_3
    refine lv_iload_n hx hb dX8_gapsAtRisk_4 rfl (lv_at hl 0 rfl) ?_
    refine lv_iload_n hx hb dX8_gapsAtRisk_5 rfl (lv_at hl 3 rfl) ?_
    refine lv_icmp_gt (tgt := 44) hx hb dX8_gapsAtRisk_6 (by decide) (fun c_1 => ?_) (fun c_1 => ?_)
    · have c_1 : v1.toInt < l4_3.toInt := ci_gt_t c_1
      have b_v1 := i32b v1
      refine lv_iload_n hx hb dX8_gapsAtRisk_44 rfl (lv_at hl 1 rfl) ?_
      exact ret _ _ _ dX8_gapsAtRisk_45 trivial
    · have c_1 : l4_3.toInt ≤ v1.toInt := ci_gt_f c_1
      have b_v1 := i32b v1
      refine lv_iload_n hx hb dX8_gapsAtRisk_9 rfl (lv_at hl 0 rfl) ?_
      refine lv_bipush (v := 61) hx hb dX8_gapsAtRisk_10 (by decide) ?_
      refine lv_icmp_ge (tgt := 44) hx hb dX8_gapsAtRisk_12 (by decide) (fun c_2 => ?_) (fun c_2 => ?_)
      · have c_2 : 61 ≤ l4_3.toInt := ci_ge_t c_2
        refine lv_iload_n hx hb dX8_gapsAtRisk_44 rfl (lv_at hl 1 rfl) ?_
        exact ret _ _ _ dX8_gapsAtRisk_45 trivial
      · have c_2 : l4_3.toInt < 61 := ci_ge_f c_2
        refine lv_aload_n hx hb dX8_gapsAtRisk_15 rfl (lv_at hl 2 rfl) ?_
        refine lv_iload_n hx hb dX8_gapsAtRisk_16 rfl (lv_at hl 0 rfl) ?_
        refine roi (As := [.int l4_3]) (rest := []) ⟨hx, hb, hml, hown, hts⟩ (b_X8_isGap l G D cB cI cJ cZ cS cT h0 v0_tones v0_a v0_b v0_c v0_d v0_odds v0_lines h_signs v0_signCount h_posts v0_postCount h_acts f_signs l4_3 (by first | assumption | omega | decide) (by first | assumption | omega | decide)) (cvB (n := 1) (inr64 _ (List.mem_of_getElem? (i := 14) rfl)) (inr23 _ (List.mem_of_getElem? (i := 12) rfl)) (inr23 _ (List.mem_of_getElem? (i := 13) rfl)) (inr1 _ (List.mem_of_getElem? (i := 23) rfl)) (inr23 _ (List.mem_of_getElem? (i := 14) rfl)) (by decide +kernel) hts rfl rfl ⟨Nat.le_of_ble_eq_true rfl, Nat.le_of_ble_eq_true rfl⟩) 0 8 rfl rfl rfl (hP.sub [0, 2] rfl) hK hN hT rfl hl.1 rfl (Nat.le_of_ble_eq_true rfl) ⟨Nat.le_of_ble_eq_true rfl, Nat.le_of_ble_eq_true rfl⟩ dX8_gapsAtRisk_17 (fun r_3 h_4 => ?_)
        have h_4 : (r_3 = 0 ∨ r_3 = 1) := h_4
        have i_5 := h_4
        have ar_3 : 0 ≤ r_3.toInt ∧ r_3.toInt ≤ 1 := by rcases i_5 with h | h <;> rw [h] <;> decide
        refine lv_if_eq (tgt := 38) hx hb dX8_gapsAtRisk_20 (by decide) (fun c_6 => ?_) (fun c_6 => ?_)
        · have c_6 : r_3.toInt = 0 := ci_eq_t c_6
          have b_r_3 := i32b r_3
          obtain ⟨t_7, et_7⟩ : ∃ v9 : Int32, l4_3 + 1 = v9 := ⟨_, rfl⟩
          have ft_7 : t_7.toInt = l4_3.toInt + 1 := addT (a := l4_3.toInt) (b := 1) rfl (by decide) et_7 (by omega) (by omega)
          refine lv_iinc (v := t_7) (lv' := [(3, .int t_7), (2, .int l4_2), (0, .ref h0), (1, .int v1)]) hx hb dX8_gapsAtRisk_38 hl (k := 0) rfl (by rw [← et_7]; rfl) (by decide) rfl (fun ls hl => ?_)
          refine lv_goto (tgt := 4) hx hb dX8_gapsAtRisk_41 (by decide) ?_
          exact ih_4 (t_7) (l4_2) _ (by first | assumption | omega | decide) (by omega) (lv_sub hl [0, 1, 2, 3] rfl)
        · have c_6 : ¬ r_3.toInt = 0 := ci_eq_f c_6
          have b_r_3 := i32b r_3
          refine lv_aload_n hx hb dX8_gapsAtRisk_23 rfl (lv_at hl 2 rfl) ?_
          refine va_get (D := D) (ci := 8) (v := .ref h_acts) (C := RX8) (T := TX8) (N := 12) hx hb hts inlX8 hown hK hP 0 rfl rfl 11 (by decide) (hts _ (inr4 _ (List.mem_of_getElem? (i := 6) rfl))) (fun _ h9 => h9) rfl dX8_gapsAtRisk_24 ?_
          refine lv_iload_n hx hb dX8_gapsAtRisk_27 rfl (lv_at hl 0 rfl) ?_
          refine roi (As := [.int l4_3]) (rest := []) ⟨hx, hb, hml, hown, hts⟩ (b_X0_overStep l G D cB cI cJ cZ cS cT h_acts h_acts_over h_acts_steps h_acts_before v_acts_size f_acts_over l4_3 (by first | assumption | omega | decide)) (cvB (n := 1) (inr23 _ (List.mem_of_getElem? (i := 3) rfl)) (inr23 _ (List.mem_of_getElem? (i := 4) rfl)) (inr23 _ (List.mem_of_getElem? (i := 5) rfl)) (inr4 _ (List.mem_of_getElem? (i := 5) rfl)) (inr23 _ (List.mem_of_getElem? (i := 6) rfl)) (by decide +kernel) hts rfl rfl ⟨Nat.le_of_ble_eq_true rfl, Nat.le_of_ble_eq_true rfl⟩) 0 0 rfl rfl rfl (hP.sub [1, 3] rfl) hK hN hT rfl hl.1 rfl (Nat.le_of_ble_eq_true rfl) ⟨Nat.le_of_ble_eq_true rfl, Nat.le_of_ble_eq_true rfl⟩ dX8_gapsAtRisk_28 (fun r_8 h_9 => ?_)
          refine lv_iconst (v := (-1)) hx hb dX8_gapsAtRisk_31 (by decide) ?_
          refine lv_icmp_ne (tgt := 38) hx hb dX8_gapsAtRisk_32 (by decide) (fun c_10 => ?_) (fun c_10 => ?_)
          · have c_10 : ¬ r_8.toInt = (-1) := ci_ne_t c_10
            have b_r_8 := i32b r_8
            obtain ⟨t_11, et_11⟩ : ∃ v9 : Int32, l4_3 + 1 = v9 := ⟨_, rfl⟩
            have ft_11 : t_11.toInt = l4_3.toInt + 1 := addT (a := l4_3.toInt) (b := 1) rfl (by decide) et_11 (by omega) (by omega)
            refine lv_iinc (v := t_11) (lv' := [(3, .int t_11), (2, .int l4_2), (0, .ref h0), (1, .int v1)]) hx hb dX8_gapsAtRisk_38 hl (k := 0) rfl (by rw [← et_11]; rfl) (by decide) rfl (fun ls hl => ?_)
            refine lv_goto (tgt := 4) hx hb dX8_gapsAtRisk_41 (by decide) ?_
            exact ih_4 (t_11) (l4_2) _ (by first | assumption | omega | decide) (by omega) (lv_sub hl [0, 1, 2, 3] rfl)
          · have c_10 : r_8.toInt = (-1) := ci_ne_f c_10
            have b_r_8 := i32b r_8
            obtain ⟨t_12, et_12⟩ : ∃ v9 : Int32, l4_2 + 1 = v9 := ⟨_, rfl⟩
            refine lv_iinc (v := t_12) (lv' := [(2, .int t_12), (3, .int l4_3), (0, .ref h0), (1, .int v1)]) hx hb dX8_gapsAtRisk_35 hl (k := 1) rfl (by rw [← et_12]; rfl) (by decide) rfl (fun ls hl => ?_)
            obtain ⟨t_13, et_13⟩ : ∃ v9 : Int32, l4_3 + 1 = v9 := ⟨_, rfl⟩
            have ft_13 : t_13.toInt = l4_3.toInt + 1 := addT (a := l4_3.toInt) (b := 1) rfl (by decide) et_13 (by omega) (by omega)
            refine lv_iinc (v := t_13) (lv' := [(3, .int t_13), (2, .int t_12), (0, .ref h0), (1, .int v1)]) hx hb dX8_gapsAtRisk_38 hl (k := 1) rfl (by rw [← et_13]; rfl) (by decide) rfl (fun ls hl => ?_)
            refine lv_goto (tgt := 4) hx hb dX8_gapsAtRisk_41 (by decide) ?_
            exact ih_4 (t_13) (t_12) _ (by first | assumption | omega | decide) (by omega) (lv_sub hl [0, 1, 2, 3] rfl)

set_option maxHeartbeats 4000000 in
set_option maxRecDepth 100000 in
theorem b_X8_gapsAtRisk (l : Launch) (G : Gho) (D : va_G) (cB cI cJ cZ cS cT : ClassId) (h0 : Nat) (v0_tones : Int32) (v0_a : Int32) (v0_b : Int32) (v0_c : Int32) (v0_d : Int32) (v0_odds : Int32) (v0_lines : Int32) (h_signs : Nat) (v0_signCount : Int32) (h_posts : Nat) (v0_postCount : Int32) (h_acts : Nat) (h_acts_over : Nat) (h_acts_steps : Nat) (h_acts_before : Nat) (v_acts_size : Int32) (f_signs : Nat → Int32) (f_acts_over : Nat → Int32) (v1 : Int32) (iv0_signCount : 0 ≤ v0_signCount.toInt ∧ v0_signCount.toInt ≤ 8) (iv0_postCount : 0 ≤ v0_postCount.toInt ∧ v0_postCount.toInt ≤ 5) (iv_acts_size : 0 ≤ v_acts_size.toInt ∧ v_acts_size.toInt ≤ 30) : Met l yX8_gapsAtRisk (Cond.code yX8_gapsAtRisk cX8_gapsAtRisk 4 (some .int) :: wsL_law) ({ frames := 1, cells := 0, slots := 0, locals := 21 }) (roP G D (tyL cB cI cJ cZ cS cT) [(h0, .inr (8, [.int v0_tones, .int v0_a, .int v0_b, .int v0_c, .int v0_d, .int v0_odds, .int v0_lines, .ref h_signs, .int v0_signCount, .ref h_posts, .int v0_postCount, .ref h_acts])), (h_acts, .inr (0, [.ref h_acts_over, .ref h_acts_steps, .ref h_acts_before, .int v_acts_size])), (h_signs, .inl (cI, 8, .inl f_signs)), (h_acts_over, .inl (cI, 61, .inl f_acts_over))] [.ref h0, .int v1]) (vp_Si (fun r : Int32 => True)) 0 0 (fun _ => False) := by
  refine metRO (own := RX8) (by decide) rfl ?_
  intro p e s m below meth c Q C hP ret
  obtain ⟨hx, hb, hml, hown, hts, hK, hN, hT⟩ := id C
  have hl := lv_entry ([.ref h0, .int v1]) (n := 4) (Nat.le_of_ble_eq_true rfl)
  rw [lg_entry_eq]
  generalize (lg_sl ([.ref h0, .int v1]) ++ List.replicate (4 - (lg_sl ([.ref h0, .int v1])).length) Slot.unset).toArray = ls at hl ⊢
  have hl : lv_has ls 4 [(0, .ref h0), (1, .int v1)] := hl
  have hP : va_P D vwCl [(h0, .inr (8, [.int v0_tones, .int v0_a, .int v0_b, .int v0_c, .int v0_d, .int v0_odds, .int v0_lines, .ref h_signs, .int v0_signCount, .ref h_posts, .int v0_postCount, .ref h_acts])), (h_acts, .inr (0, [.ref h_acts_over, .ref h_acts_steps, .ref h_acts_before, .int v_acts_size])), (h_signs, .inl (cI, 8, .inl f_signs)), (h_acts_over, .inl (cI, 61, .inl f_acts_over))] s.heap := hP
  refine lv_iconst (v := 0) hx hb dX8_gapsAtRisk_0 (by decide) ?_
  refine lv_istore_n (lv' := [(2, .int 0), (0, .ref h0), (1, .int v1)]) hx hb dX8_gapsAtRisk_1 rfl hl (by decide) rfl (fun ls hl => ?_)
  refine lv_iconst (v := 0) hx hb dX8_gapsAtRisk_2 (by decide) ?_
  refine lv_istore_n (lv' := [(3, .int 0), (2, .int 0), (0, .ref h0), (1, .int v1)]) hx hb dX8_gapsAtRisk_3 rfl hl (by decide) rfl (fun ls hl => ?_)
  exact b_X8_gapsAtRisk_l4 h0 v0_tones v0_a v0_b v0_c v0_d v0_odds v0_lines h_signs v0_signCount h_posts v0_postCount h_acts h_acts_over h_acts_steps h_acts_before v_acts_size f_signs f_acts_over v1 (by first | assumption | omega | decide) (by first | assumption | omega | decide) (by first | assumption | omega | decide) C (hP.sub [0, 1, 2, 3] rfl) ret _ (0) (0) _ (by first | assumption | omega | decide) (Nat.lt_succ_self _) (lv_sub hl [0, 1, 2, 3] rfl)

set_option maxHeartbeats 4000000 in
set_option maxRecDepth 100000 in
theorem b_X9_size (l : Launch) (G : Gho) (D : va_G) (cB cI cJ cZ cS cT : ClassId) (h0 : Nat) (h_bytes : Nat) (v0_length : Int32) (iv0_length : 0 ≤ v0_length.toInt ∧ v0_length.toInt ≤ 500) : Met l yX9_size (Cond.code yX9_size cX9_size 1 (some .int) :: wsL_law) ({ frames := 0, cells := 0, slots := 0, locals := 0 }) (roP G D (tyL cB cI cJ cZ cS cT) [(h0, .inr (9, [.ref h_bytes, .int v0_length]))] [.ref h0]) (vp_Si (fun r : Int32 => (r = v0_length))) 0 0 (fun _ => False) := by
  refine metRO (own := RX9) (by decide) rfl ?_
  intro p e s m below meth c Q C hP ret
  obtain ⟨hx, hb, hml, hown, hts, hK, hN, hT⟩ := id C
  have hl := lv_entry ([.ref h0]) (n := 1) (Nat.le_of_ble_eq_true rfl)
  rw [lg_entry_eq]
  generalize (lg_sl ([.ref h0]) ++ List.replicate (1 - (lg_sl ([.ref h0])).length) Slot.unset).toArray = ls at hl ⊢
  have hl : lv_has ls 1 [(0, .ref h0)] := hl
  have hP : va_P D vwCl [(h0, .inr (9, [.ref h_bytes, .int v0_length]))] s.heap := hP
  refine lv_aload_n hx hb dX9_size_0 rfl (lv_at hl 0 rfl) ?_
  refine va_get (D := D) (ci := 9) (v := .int v0_length) (C := RX9) (T := TX9) (N := 2) hx hb hts inlX9 hown hK hP 0 rfl rfl 1 (by decide) (hts _ (inr8 _ (List.mem_of_getElem? (i := 2) rfl))) (fun _ h9 => h9) rfl dX9_size_1 ?_
  exact ret _ _ _ dX9_size_4 (show (v0_length = v0_length) from rfl)

set_option maxHeartbeats 4000000 in
set_option maxRecDepth 100000 in
theorem b_X9_add_l3 {p : Program} {l : Launch} {e : Env} {s : State} {m : MethodId} {args : Array Value} {below : List Frame} {meth : Method} {c : Code} {Q : State → Prop} {G : Gho} {D : va_G} {cB cI cJ cZ cS cT : ClassId} {A : Nat → Prop} (h0 : Nat) (h_bytes : Nat) (v0_length : Int32) (v1 : Int32) (iv0_length : 0 ≤ v0_length.toInt ∧ v0_length.toInt ≤ 500) (C : Cx p s m args c RX9 cX9_add 3 G D (tyL cB cI cJ cZ cS cT)) (hG : G.1 ≤ s.heap.size) (hAB : ∀ q, A q → G.1 ≤ q) (hA : ∀ q : Nat, s.heap.size ≤ q → A q) (ret : RetV p l e ({ frames := 0, cells := 0, slots := 0, locals := 0 }) s m args below meth c cX9_add D A (fun x : Int32 × (Nat → Int32) => [(h0, .inr (9, [.ref h_bytes, .int x.1])), (h_bytes, .inl (cB, 500, .inl x.2))]) (fun x : Int32 × (Nat → Int32) => (0 ≤ x.1.toInt ∧ x.1.toInt ≤ 500)) Q) :
    ∀ (N : Nat) (u3_0_length : Int32) (g3_bytes : Nat → Int32) (l3_2 : Int32) (H : Heap) (locs : List Loc) (ls : Array Slot), (-8) ≤ l3_2.toInt ∧ l3_2.toInt ≤ 24 → 0 ≤ u3_0_length.toInt ∧ u3_0_length.toInt ≤ 500 → (l3_2.toInt - 0 + 1).toNat < N → va_P D vwCl [(h0, .inr (9, [.ref h_bytes, .int u3_0_length])), (h_bytes, .inl (cB, 500, .inl g3_bytes))] H → va_D A [(h0, .inr (9, [.ref h_bytes, .int u3_0_length])), (h_bytes, .inl (cB, 500, .inl g3_bytes))] → va_S A s.heap H locs → lv_has ls 3 [(2, .int l3_2), (0, .ref h0), (1, .int v1)] → W p l e ({ frames := 0, cells := 0, slots := 0, locals := 0 }) s m args below meth c H locs 0 0 Q (F0 m 3 ls []) := by
  obtain ⟨hx, hb, hml, hown, hts, hK, hN, hT⟩ := id C
  intro N
  induction N with
  | zero =>
    intro u3_0_length g3_bytes l3_2 H locs ls kl3_2 iu3_0_length hM_3 hP hD hS hl
    omega
  | succ N_3 ih_3 =>
    intro u3_0_length g3_bytes l3_2 H locs ls kl3_2 iu3_0_length hM_3 hP hD hS hl
    have b_l3_2 := i32b l3_2
    refine lv_iload_n hx hb dX9_add_3 rfl (lv_at hl 0 rfl) ?_
    refine lv_if_lt (tgt := 48) hx hb dX9_add_4 (by decide) (fun c_1 => ?_) (fun c_1 => ?_)
    · have c_1 : l3_2.toInt < 0 := ci_lt_t c_1
      exact ret _ _ _ _ (u3_0_length, g3_bytes) dX9_add_48 (show (0 ≤ u3_0_length.toInt ∧ u3_0_length.toInt ≤ 500) from (by first | assumption | omega | decide)) (hP.sub [0, 1] rfl) (hD.sub [0, 1] (by decide) rfl) hS
    · have c_1 : 0 ≤ l3_2.toInt := ci_lt_f c_1
      refine lv_aload_n hx hb dX9_add_7 rfl (lv_at hl 1 rfl) ?_
      refine va_get (D := D) (ci := 9) (v := .int u3_0_length) (C := RX9) (T := TX9) (N := 2) hx hb hts inlX9 hown hK hP 0 rfl rfl 1 (by decide) (hts _ (inr8 _ (List.mem_of_getElem? (i := 2) rfl))) (fun _ h9 => h9) rfl dX9_add_8 ?_
      refine lv_aload_n hx hb dX9_add_11 rfl (lv_at hl 1 rfl) ?_
      refine va_get (D := D) (ci := 9) (v := .ref h_bytes) (C := RX9) (T := TX9) (N := 2) hx hb hts inlX9 hown hK hP 0 rfl rfl 0 (by decide) (hts _ (inr3 _ (List.mem_of_getElem? (i := 14) rfl))) (fun _ h9 => h9) rfl dX9_add_12 ?_
      refine va_alen (v := 500) hx hb hK hP 1 0 rfl rfl rfl dX9_add_15 ?_
      refine lv_icmp_ge (tgt := 42) hx hb dX9_add_16 (by decide) (fun c_2 => ?_) (fun c_2 => ?_)
      · have c_2 : 500 ≤ u3_0_length.toInt := ci_ge_t c_2
        have b_u3_0_length := i32b u3_0_length
        obtain ⟨t_3, et_3⟩ : ∃ v9 : Int32, l3_2 + (-8) = v9 := ⟨_, rfl⟩
        have ft_3 : t_3.toInt = l3_2.toInt + (-8) := addT (a := l3_2.toInt) (b := (-8)) rfl (by decide) et_3 (by omega) (by omega)
        refine lv_iinc (v := t_3) (lv' := [(2, .int t_3), (0, .ref h0), (1, .int v1)]) hx hb dX9_add_42 hl (k := 0) rfl (by rw [← et_3]; rfl) (by decide) rfl (fun ls hl => ?_)
        refine lv_goto (tgt := 3) hx hb dX9_add_45 (by decide) ?_
        exact ih_3 (u3_0_length) (g3_bytes) (t_3) _ _ _ (by first | assumption | omega | decide) (by first | assumption | omega | decide) (by omega) (hP.sub [0, 1] rfl) (hD.sub [0, 1] (by decide) rfl) hS (lv_sub hl [0, 1, 2] rfl)
      · have c_2 : u3_0_length.toInt < 500 := ci_ge_f c_2
        have b_u3_0_length := i32b u3_0_length
        refine lv_aload_n hx hb dX9_add_19 rfl (lv_at hl 1 rfl) ?_
        refine va_get (D := D) (ci := 9) (v := .ref h_bytes) (C := RX9) (T := TX9) (N := 2) hx hb hts inlX9 hown hK hP 0 rfl rfl 0 (by decide) (hts _ (inr3 _ (List.mem_of_getElem? (i := 14) rfl))) (fun _ h9 => h9) rfl dX9_add_20 ?_
        refine lv_aload_n hx hb dX9_add_23 rfl (lv_at hl 1 rfl) ?_
        refine va_get (D := D) (ci := 9) (v := .int u3_0_length) (C := RX9) (T := TX9) (N := 2) hx hb hts inlX9 hown hK hP 0 rfl rfl 1 (by decide) (hts _ (inr8 _ (List.mem_of_getElem? (i := 2) rfl))) (fun _ h9 => h9) rfl dX9_add_24 ?_
        refine lv_iload_n hx hb dX9_add_27 rfl (lv_at hl 2 rfl) ?_
        refine lv_iload_n hx hb dX9_add_28 rfl (lv_at hl 0 rfl) ?_
        obtain ⟨t_4, et_4⟩ : ∃ v9 : Int32, v1 >>> (l3_2 &&& 31) = v9 := ⟨_, rfl⟩
        refine z_ishr (v := t_4) hx hb dX9_add_29 et_4 ?_
        obtain ⟨t_5, et_5⟩ : ∃ v9 : Int32, (t_4 : Int32).toInt8.toInt32 = v9 := ⟨_, rfl⟩
        refine lv_i2b (v := t_5) hx hb dX9_add_30 et_5 ?_
        refine va_bast hx hb hK hP hD hS 1 0 rfl rfl (vin_nat (by omega) (by omega)) dX9_add_31 (fun H locs hP hD hS => ?_)
        have hP : va_P D vwCl [(h0, .inr (9, [.ref h_bytes, .int u3_0_length])), (h_bytes, .inl (cB, 500, .inl (upd g3_bytes (u3_0_length : Int32).toNatClampNeg (vp_nar .byte t_5))))] H := hP
        have hD : va_D A [(h0, .inr (9, [.ref h_bytes, .int u3_0_length])), (h_bytes, .inl (cB, 500, .inl (upd g3_bytes (u3_0_length : Int32).toNatClampNeg (vp_nar .byte t_5))))] := hD
        obtain ⟨g_6, eg_6⟩ : ∃ v9 : Nat → Int32, (upd g3_bytes (u3_0_length : Int32).toNatClampNeg (vp_nar .byte t_5)) = v9 := ⟨_, rfl⟩
        rw [eg_6] at hP hD
        have hP : va_P D vwCl [(h0, .inr (9, [.ref h_bytes, .int u3_0_length])), (h_bytes, .inl (cB, 500, .inl g_6))] H := hP
        have hD : va_D A [(h0, .inr (9, [.ref h_bytes, .int u3_0_length])), (h_bytes, .inl (cB, 500, .inl g_6))] := hD
        refine lv_aload_n hx hb dX9_add_32 rfl (lv_at hl 1 rfl) ?_
        refine lv_dup hx hb dX9_add_33 rfl ?_
        refine va_get (D := D) (ci := 9) (v := .int u3_0_length) (C := RX9) (T := TX9) (N := 2) hx hb hts inlX9 hown hK hP 0 rfl rfl 1 (by decide) (hts _ (inr8 _ (List.mem_of_getElem? (i := 2) rfl))) (fun _ h9 => h9) rfl dX9_add_34 ?_
        refine lv_iconst (v := 1) hx hb dX9_add_37 (by decide) ?_
        obtain ⟨t_7, et_7⟩ : ∃ v9 : Int32, u3_0_length + 1 = v9 := ⟨_, rfl⟩
        refine z_iadd (v := t_7) hx hb dX9_add_38 et_7 ?_
        have ft_7 : t_7.toInt = u3_0_length.toInt + 1 := addT (a := u3_0_length.toInt) (b := 1) rfl (by decide) et_7 (by omega) (by omega)
        refine va_put (D := D) (ci := 9) (v := .int t_7) (ty := .int) (C := RX9) (T := TX9) (N := 2) hx hb hts inlX9 tyX9 tyX9_ok nmX9 hown hK hP hD hS 0 rfl rfl 1 (by decide) (hts _ (inr8 _ (List.mem_of_getElem? (i := 2) rfl))) (fun _ h9 => h9) rfl (by decide +kernel) rfl rfl (Nat.le_of_ble_eq_true rfl) dX9_add_39 (fun H locs hP hD hS => ?_)
        have hP : va_P D vwCl [(h0, .inr (9, [.ref h_bytes, .int t_7])), (h_bytes, .inl (cB, 500, .inl g_6))] H := hP
        have hD : va_D A [(h0, .inr (9, [.ref h_bytes, .int t_7])), (h_bytes, .inl (cB, 500, .inl g_6))] := hD
        obtain ⟨t_8, et_8⟩ : ∃ v9 : Int32, l3_2 + (-8) = v9 := ⟨_, rfl⟩
        have ft_8 : t_8.toInt = l3_2.toInt + (-8) := addT (a := l3_2.toInt) (b := (-8)) rfl (by decide) et_8 (by omega) (by omega)
        refine lv_iinc (v := t_8) (lv' := [(2, .int t_8), (0, .ref h0), (1, .int v1)]) hx hb dX9_add_42 hl (k := 0) rfl (by rw [← et_8]; rfl) (by decide) rfl (fun ls hl => ?_)
        refine lv_goto (tgt := 3) hx hb dX9_add_45 (by decide) ?_
        exact ih_3 (t_7) (g_6) (t_8) _ _ _ (by first | assumption | omega | decide) (by first | assumption | omega | decide) (by omega) (hP.sub [0, 1] rfl) (hD.sub [0, 1] (by decide) rfl) hS (lv_sub hl [0, 1, 2] rfl)

set_option maxHeartbeats 4000000 in
set_option maxRecDepth 100000 in
theorem b_X9_add (l : Launch) (G : Gho) (D : va_G) (cB cI cJ cZ cS cT : ClassId) (sz : Nat) (h0 : Nat) (h_bytes : Nat) (v0_length : Int32) (f_bytes : Nat → Int32) (v1 : Int32) (iv0_length : 0 ≤ v0_length.toInt ∧ v0_length.toInt ≤ 500) : Met l yX9_add (Cond.code yX9_add cX9_add 3 none :: wsL_law) ({ frames := 0, cells := 0, slots := 0, locals := 0 }) (wrP G D (tyL cB cI cJ cZ cS cT) [(h0, .inr (9, [.ref h_bytes, .int v0_length])), (h_bytes, .inl (cB, 500, .inl f_bytes))] sz [.ref h0, .int v1]) (va_Qv (fun x : Int32 × (Nat → Int32) => (0 ≤ x.1.toInt ∧ x.1.toInt ≤ 500)) (atW D (tyL cB cI cJ cZ cS cT) (va_A [(h0, .inr (9, [.ref h_bytes, .int v0_length])), (h_bytes, .inl (cB, 500, .inl f_bytes))] sz) (fun x : Int32 × (Nat → Int32) => [(h0, .inr (9, [.ref h_bytes, .int x.1])), (h_bytes, .inl (cB, 500, .inl x.2))])) (va_A [(h0, .inr (9, [.ref h_bytes, .int v0_length])), (h_bytes, .inl (cB, 500, .inl f_bytes))] sz)) 0 0 (va_A [(h0, .inr (9, [.ref h_bytes, .int v0_length])), (h_bytes, .inl (cB, 500, .inl f_bytes))] sz) := by
  refine metV (own := RX9) (by decide) rfl ?_
  intro p e s m below meth c Q hsz C hG hP hD hAB ret
  obtain ⟨hx, hb, hml, hown, hts, hK, hN, hT⟩ := id C
  subst hsz
  generalize hAe : va_A [(h0, .inr (9, [.ref h_bytes, .int v0_length])), (h_bytes, .inl (cB, 500, .inl f_bytes))] s.heap.size = A at hD hAB ret ⊢
  have hA : ∀ q : Nat, s.heap.size ≤ q → A q := fun q h => by rw [← hAe]; exact Or.inr h
  have hS : va_S A s.heap s.heap [] := va_S.rf
  have hl := lv_entry ([.ref h0, .int v1]) (n := 3) (Nat.le_of_ble_eq_true rfl)
  rw [lg_entry_eq]
  generalize (lg_sl ([.ref h0, .int v1]) ++ List.replicate (3 - (lg_sl ([.ref h0, .int v1])).length) Slot.unset).toArray = ls at hl ⊢
  have hl : lv_has ls 3 [(0, .ref h0), (1, .int v1)] := hl
  have hP : va_P D vwCl [(h0, .inr (9, [.ref h_bytes, .int v0_length])), (h_bytes, .inl (cB, 500, .inl f_bytes))] s.heap := hP
  refine lv_bipush (v := 24) hx hb dX9_add_0 (by decide) ?_
  refine lv_istore_n (lv' := [(2, .int 24), (0, .ref h0), (1, .int v1)]) hx hb dX9_add_2 rfl hl (by decide) rfl (fun ls hl => ?_)
  exact b_X9_add_l3 h0 h_bytes v0_length v1 (by first | assumption | omega | decide) C hG hAB hA ret _ (v0_length) (f_bytes) (24) _ _ _ (by first | assumption | omega | decide) (by first | assumption | omega | decide) (Nat.lt_succ_self _) (hP.sub [0, 1] rfl) (hD.sub [0, 1] (by decide) rfl) hS (lv_sub hl [0, 1, 2] rfl)

set_option maxHeartbeats 4000000 in
set_option maxRecDepth 100000 in
theorem b_X9_cut (l : Launch) (G : Gho) (D : va_G) (cB cI cJ cZ cS cT : ClassId) (sz : Nat) (h0 : Nat) (h_bytes : Nat) (v0_length : Int32) (v1 : Int32) (iv0_length : 0 ≤ v0_length.toInt ∧ v0_length.toInt ≤ 500) : Met l yX9_cut (Cond.code yX9_cut cX9_cut 2 none :: wsL_law) ({ frames := 0, cells := 0, slots := 0, locals := 0 }) (wrP G D (tyL cB cI cJ cZ cS cT) [(h0, .inr (9, [.ref h_bytes, .int v0_length]))] sz [.ref h0, .int v1]) (va_Qv (fun x : Int32 => (0 ≤ x.toInt ∧ x.toInt ≤ 500)) (atW D (tyL cB cI cJ cZ cS cT) (va_A [(h0, .inr (9, [.ref h_bytes, .int v0_length]))] sz) (fun x : Int32 => [(h0, .inr (9, [.ref h_bytes, .int x]))])) (va_A [(h0, .inr (9, [.ref h_bytes, .int v0_length]))] sz)) 0 0 (va_A [(h0, .inr (9, [.ref h_bytes, .int v0_length]))] sz) := by
  refine metV (own := RX9) (by decide) rfl ?_
  intro p e s m below meth c Q hsz C hG hP hD hAB ret
  obtain ⟨hx, hb, hml, hown, hts, hK, hN, hT⟩ := id C
  subst hsz
  generalize hAe : va_A [(h0, .inr (9, [.ref h_bytes, .int v0_length]))] s.heap.size = A at hD hAB ret ⊢
  have hA : ∀ q : Nat, s.heap.size ≤ q → A q := fun q h => by rw [← hAe]; exact Or.inr h
  have hS : va_S A s.heap s.heap [] := va_S.rf
  have hl := lv_entry ([.ref h0, .int v1]) (n := 2) (Nat.le_of_ble_eq_true rfl)
  rw [lg_entry_eq]
  generalize (lg_sl ([.ref h0, .int v1]) ++ List.replicate (2 - (lg_sl ([.ref h0, .int v1])).length) Slot.unset).toArray = ls at hl ⊢
  have hl : lv_has ls 2 [(0, .ref h0), (1, .int v1)] := hl
  have hP : va_P D vwCl [(h0, .inr (9, [.ref h_bytes, .int v0_length]))] s.heap := hP
  refine lv_iload_n hx hb dX9_cut_0 rfl (lv_at hl 1 rfl) ?_
  refine lv_if_lt (tgt := 17) hx hb dX9_cut_1 (by decide) (fun c_1 => ?_) (fun c_1 => ?_)
  · have c_1 : v1.toInt < 0 := ci_lt_t c_1
    have b_v1 := i32b v1
    exact ret _ _ _ _ v0_length dX9_cut_17 (show (0 ≤ v0_length.toInt ∧ v0_length.toInt ≤ 500) from (by first | assumption | omega | decide)) (hP.sub [0] rfl) (hD.sub [0] (by decide) rfl) hS
  · have c_1 : 0 ≤ v1.toInt := ci_lt_f c_1
    have b_v1 := i32b v1
    refine lv_iload_n hx hb dX9_cut_4 rfl (lv_at hl 1 rfl) ?_
    refine lv_aload_n hx hb dX9_cut_5 rfl (lv_at hl 0 rfl) ?_
    refine va_get (D := D) (ci := 9) (v := .int v0_length) (C := RX9) (T := TX9) (N := 2) hx hb hts inlX9 hown hK hP 0 rfl rfl 1 (by decide) (hts _ (inr8 _ (List.mem_of_getElem? (i := 2) rfl))) (fun _ h9 => h9) rfl dX9_cut_6 ?_
    refine lv_icmp_gt (tgt := 17) hx hb dX9_cut_9 (by decide) (fun c_2 => ?_) (fun c_2 => ?_)
    · have c_2 : v0_length.toInt < v1.toInt := ci_gt_t c_2
      have b_v0_length := i32b v0_length
      exact ret _ _ _ _ v0_length dX9_cut_17 (show (0 ≤ v0_length.toInt ∧ v0_length.toInt ≤ 500) from (by first | assumption | omega | decide)) (hP.sub [0] rfl) (hD.sub [0] (by decide) rfl) hS
    · have c_2 : v1.toInt ≤ v0_length.toInt := ci_gt_f c_2
      have b_v0_length := i32b v0_length
      refine lv_aload_n hx hb dX9_cut_12 rfl (lv_at hl 0 rfl) ?_
      refine lv_iload_n hx hb dX9_cut_13 rfl (lv_at hl 1 rfl) ?_
      refine va_put (D := D) (ci := 9) (v := .int v1) (ty := .int) (C := RX9) (T := TX9) (N := 2) hx hb hts inlX9 tyX9 tyX9_ok nmX9 hown hK hP hD hS 0 rfl rfl 1 (by decide) (hts _ (inr8 _ (List.mem_of_getElem? (i := 2) rfl))) (fun _ h9 => h9) rfl (by decide +kernel) rfl rfl (Nat.le_of_ble_eq_true rfl) dX9_cut_14 (fun H locs hP hD hS => ?_)
      have hP : va_P D vwCl [(h0, .inr (9, [.ref h_bytes, .int v1]))] H := hP
      have hD : va_D A [(h0, .inr (9, [.ref h_bytes, .int v1]))] := hD
      exact ret _ _ _ _ v1 dX9_cut_17 (show (0 ≤ v1.toInt ∧ v1.toInt ≤ 500) from (by first | assumption | omega | decide)) (hP.sub [0] rfl) (hD.sub [0] (by decide) rfl) hS

set_option maxHeartbeats 4000000 in
set_option maxRecDepth 100000 in
theorem b_X10_state (l : Launch) (G : Gho) (D : va_G) (cB cI cJ cZ cS cT : ClassId) (v0 : Int32) (v1 : Int32)  : Met l yX10_state (Cond.code yX10_state cX10_state 3 (some .int) :: wsL_law) ({ frames := 0, cells := 0, slots := 0, locals := 0 }) (roP G D (tyL cB cI cJ cZ cS cT) [] [.int v0, .int v1]) (vp_Si (fun r : Int32 => (0 ≤ r.toInt ∧ r.toInt ≤ 80))) 0 0 (fun _ => False) := by
  refine metRO (own := RX10) (by decide) rfl ?_
  intro p e s m below meth c Q C hP ret
  obtain ⟨hx, hb, hml, hown, hts, hK, hN, hT⟩ := id C
  have hl := lv_entry ([.int v0, .int v1]) (n := 3) (Nat.le_of_ble_eq_true rfl)
  rw [lg_entry_eq]
  generalize (lg_sl ([.int v0, .int v1]) ++ List.replicate (3 - (lg_sl ([.int v0, .int v1])).length) Slot.unset).toArray = ls at hl ⊢
  have hl : lv_has ls 3 [(0, .int v0), (1, .int v1)] := hl
  have hP : va_P D vwCl [] s.heap := hP
  refine lv_iload_n hx hb dX10_state_0 rfl (lv_at hl 0 rfl) ?_
  refine lv_bipush (v := 9) hx hb dX10_state_1 (by decide) ?_
  obtain ⟨t_1, et_1⟩ : ∃ v9 : Int32, v0 * 9 = v9 := ⟨_, rfl⟩
  refine z_imul (v := t_1) hx hb dX10_state_3 et_1 ?_
  refine lv_iload_n hx hb dX10_state_4 rfl (lv_at hl 1 rfl) ?_
  obtain ⟨t_2, et_2⟩ : ∃ v9 : Int32, t_1 + v1 = v9 := ⟨_, rfl⟩
  refine z_iadd (v := t_2) hx hb dX10_state_5 et_2 ?_
  refine lv_istore_n (lv' := [(2, .int t_2), (0, .int v0), (1, .int v1)]) hx hb dX10_state_6 rfl hl (by decide) rfl (fun ls hl => ?_)
  refine lv_iload_n hx hb dX10_state_7 rfl (lv_at hl 0 rfl) ?_
  refine lv_if_lt (tgt := 21) hx hb dX10_state_8 (by decide) (fun c_3 => ?_) (fun c_3 => ?_)
  · have c_3 : t_2.toInt < 0 := ci_lt_t c_3
    have b_t_2 := i32b t_2
    refine lv_iconst (v := 0) hx hb dX10_state_21 (by decide) ?_
    have hr9 : (0 : Int32).toInt = 0 := by decide
    exact ret _ _ _ dX10_state_22 (show (0 ≤ (0 : Int32).toInt ∧ (0 : Int32).toInt ≤ 80) from (by decide))
  · have c_3 : 0 ≤ t_2.toInt := ci_lt_f c_3
    have b_t_2 := i32b t_2
    refine lv_iload_n hx hb dX10_state_11 rfl (lv_at hl 0 rfl) ?_
    refine lv_bipush (v := 81) hx hb dX10_state_12 (by decide) ?_
    refine lv_icmp_ge (tgt := 21) hx hb dX10_state_14 (by decide) (fun c_4 => ?_) (fun c_4 => ?_)
    · have c_4 : 81 ≤ t_2.toInt := ci_ge_t c_4
      refine lv_iconst (v := 0) hx hb dX10_state_21 (by decide) ?_
      have hr9 : (0 : Int32).toInt = 0 := by decide
      exact ret _ _ _ dX10_state_22 (show (0 ≤ (0 : Int32).toInt ∧ (0 : Int32).toInt ≤ 80) from (by decide))
    · have c_4 : t_2.toInt < 81 := ci_ge_f c_4
      refine lv_iload_n hx hb dX10_state_17 rfl (lv_at hl 0 rfl) ?_
      refine lv_goto (tgt := 22) hx hb dX10_state_18 (by decide) ?_
      exact ret _ _ _ dX10_state_22 (show (0 ≤ t_2.toInt ∧ t_2.toInt ≤ 80) from (by first | assumption | omega | decide))

set_option maxHeartbeats 4000000 in
set_option maxRecDepth 100000 in
theorem b_X10_start (l : Launch) (G : Gho) (D : va_G) (cB cI cJ cZ cS cT : ClassId) (sz : Nat) (h0 : Nat) (h_spent : Nat) (h_spentNext : Nat) (h_missing : Nat) (f_spent : Nat → Int32) (v1 : Int32) (v2 : Int32)  : Met l yX10_start (Cond.code yX10_start cX10_start 3 none :: wsL_law) ({ frames := 1, cells := 0, slots := 0, locals := 23 }) (wrP G D (tyL cB cI cJ cZ cS cT) [(h0, .inr (10, [.ref h_spent, .ref h_spentNext, .ref h_missing])), (h_spent, .inl (cI, 81, .inl f_spent))] sz [.ref h0, .int v1, .int v2]) (va_Qv (fun x : (Nat → Int32) => True) (atW D (tyL cB cI cJ cZ cS cT) (va_A [(h0, .inr (10, [.ref h_spent, .ref h_spentNext, .ref h_missing])), (h_spent, .inl (cI, 81, .inl f_spent))] sz) (fun x : (Nat → Int32) => [(h0, .inr (10, [.ref h_spent, .ref h_spentNext, .ref h_missing])), (h_spent, .inl (cI, 81, .inl x))])) (va_A [(h0, .inr (10, [.ref h_spent, .ref h_spentNext, .ref h_missing])), (h_spent, .inl (cI, 81, .inl f_spent))] sz)) 0 0 (va_A [(h0, .inr (10, [.ref h_spent, .ref h_spentNext, .ref h_missing])), (h_spent, .inl (cI, 81, .inl f_spent))] sz) := by
  refine metV (own := RX10) (by decide) rfl ?_
  intro p e s m below meth c Q hsz C hG hP hD hAB ret
  obtain ⟨hx, hb, hml, hown, hts, hK, hN, hT⟩ := id C
  subst hsz
  generalize hAe : va_A [(h0, .inr (10, [.ref h_spent, .ref h_spentNext, .ref h_missing])), (h_spent, .inl (cI, 81, .inl f_spent))] s.heap.size = A at hD hAB ret ⊢
  have hA : ∀ q : Nat, s.heap.size ≤ q → A q := fun q h => by rw [← hAe]; exact Or.inr h
  have hS : va_S A s.heap s.heap [] := va_S.rf
  have hl := lv_entry ([.ref h0, .int v1, .int v2]) (n := 3) (Nat.le_of_ble_eq_true rfl)
  rw [lg_entry_eq]
  generalize (lg_sl ([.ref h0, .int v1, .int v2]) ++ List.replicate (3 - (lg_sl ([.ref h0, .int v1, .int v2])).length) Slot.unset).toArray = ls at hl ⊢
  have hl : lv_has ls 3 [(0, .ref h0), (1, .int v1), (2, .int v2)] := hl
  have hP : va_P D vwCl [(h0, .inr (10, [.ref h_spent, .ref h_spentNext, .ref h_missing])), (h_spent, .inl (cI, 81, .inl f_spent))] s.heap := hP
  refine lv_aload_n hx hb dX10_start_0 rfl (lv_at hl 0 rfl) ?_
  refine va_get (D := D) (ci := 10) (v := .ref h_spent) (C := RX10) (T := TX10) (N := 3) hx hb hts inlX10 hown hK hP 0 rfl rfl 0 (by decide) (hts _ (inr5 _ (List.mem_of_getElem? (i := 17) rfl))) (fun _ h9 => h9) rfl dX10_start_1 ?_
  refine lv_sipush (v := 1000) hx hb dX10_start_4 (by decide) ?_
  refine wrSv (As := [.ref h_spent, .int 1000]) (rest := []) (wr := [(h0, .inr (10, [.ref h_spent, .ref h_spentNext, .ref h_missing]))]) ⟨hx, hb, hml, hown, hts⟩ (b_fillI l G D cB cI cJ cZ cS cT s.heap.size h_spent 81 f_spent 1000 (by first | assumption | omega | decide)) hP hD hS hA hK hN hT hAB hG [1] [0] rfl rfl (by decide) (by decide) (by decide) (csX (n := 2) (inr41 _ (List.mem_of_getElem? (i := 8) rfl)) (inr4 _ (List.mem_of_getElem? (i := 15) rfl)) (inr4 _ (List.mem_of_getElem? (i := 16) rfl)) (inr4 _ (List.mem_of_getElem? (i := 17) rfl)) (by decide +kernel) hts rfl rfl ⟨Nat.le_of_ble_eq_true rfl, Nat.le_of_ble_eq_true rfl⟩) rfl hl.1 rfl (Nat.le_of_ble_eq_true rfl) ⟨Nat.le_of_ble_eq_true rfl, Nat.le_of_ble_eq_true rfl⟩ dX10_start_7 (fun x9 H locs h_2 hP hD hS => ?_)
  obtain ⟨g_3, rfl⟩ : ∃ z, z = x9 := ⟨_, rfl⟩
  have hP : va_P D vwCl [(h0, .inr (10, [.ref h_spent, .ref h_spentNext, .ref h_missing])), (h_spent, .inl (cI, 81, .inl g_3))] H := hP
  have hD : va_D A [(h0, .inr (10, [.ref h_spent, .ref h_spentNext, .ref h_missing])), (h_spent, .inl (cI, 81, .inl g_3))] := hD
  have h_2 : (∀ j, j < 81 → g_3 j = 1000) := h_2
  have i_4 := h_2
  refine lv_aload_n hx hb dX10_start_10 rfl (lv_at hl 0 rfl) ?_
  refine va_get (D := D) (ci := 10) (v := .ref h_spent) (C := RX10) (T := TX10) (N := 3) hx hb hts inlX10 hown hK hP 0 rfl rfl 0 (by decide) (hts _ (inr5 _ (List.mem_of_getElem? (i := 17) rfl))) (fun _ h9 => h9) rfl dX10_start_11 ?_
  refine lv_iload_n hx hb dX10_start_14 rfl (lv_at hl 1 rfl) ?_
  refine lv_iload_n hx hb dX10_start_15 rfl (lv_at hl 2 rfl) ?_
  refine rosi (As := [.int v1, .int v2]) (rest := [.ref h_spent]) ⟨hx, hb, hml, hown, hts⟩ (b_X10_state l G D cB cI cJ cZ cS cT v1 v2 ) (csB (n := 2) (inr41 _ (List.mem_of_getElem? (i := 9) rfl)) (inr41 _ (List.mem_of_getElem? (i := 10) rfl)) (inr2 _ (List.mem_of_getElem? (i := 20) rfl)) (inr41 _ (List.mem_of_getElem? (i := 11) rfl)) (by decide +kernel) hts rfl rfl ⟨Nat.le_of_ble_eq_true rfl, Nat.le_of_ble_eq_true rfl⟩) (hP.sub [] rfl) hK hN (kT.to hT hS hAB) rfl hl.1 rfl (Nat.le_of_ble_eq_true rfl) ⟨Nat.le_of_ble_eq_true rfl, Nat.le_of_ble_eq_true rfl⟩ dX10_start_16 (fun r_5 h_6 => ?_)
  have h_6 : (0 ≤ r_5.toInt ∧ r_5.toInt ≤ 80) := h_6
  have i_7 := h_6
  refine lv_iconst (v := 0) hx hb dX10_start_19 (by decide) ?_
  refine va_iast hx hb hK hP hD hS 1 1 rfl rfl (vin_nat (by omega) (by omega)) dX10_start_20 (fun H locs hP hD hS => ?_)
  have hP : va_P D vwCl [(h0, .inr (10, [.ref h_spent, .ref h_spentNext, .ref h_missing])), (h_spent, .inl (cI, 81, .inl (upd g_3 (r_5 : Int32).toNatClampNeg 0)))] H := hP
  have hD : va_D A [(h0, .inr (10, [.ref h_spent, .ref h_spentNext, .ref h_missing])), (h_spent, .inl (cI, 81, .inl (upd g_3 (r_5 : Int32).toNatClampNeg 0)))] := hD
  obtain ⟨g_8, eg_8⟩ : ∃ v9 : Nat → Int32, (upd g_3 (r_5 : Int32).toNatClampNeg 0) = v9 := ⟨_, rfl⟩
  rw [eg_8] at hP hD
  have hP : va_P D vwCl [(h0, .inr (10, [.ref h_spent, .ref h_spentNext, .ref h_missing])), (h_spent, .inl (cI, 81, .inl g_8))] H := hP
  have hD : va_D A [(h0, .inr (10, [.ref h_spent, .ref h_spentNext, .ref h_missing])), (h_spent, .inl (cI, 81, .inl g_8))] := hD
  exact ret _ _ _ _ g_8 dX10_start_21 trivial (hP.sub [0, 1] rfl) (hD.sub [0, 1] (by decide) rfl) hS

set_option maxHeartbeats 4000000 in
set_option maxRecDepth 100000 in
theorem b_X10_stateOf (l : Launch) (G : Gho) (D : va_G) (cB cI cJ cZ cS cT : ClassId) (v0 : Int32) (v1 : Int32) (v2 : Int32)  : Met l yX10_stateOf (Cond.code yX10_stateOf cX10_stateOf 3 (some .int) :: wsL_law) ({ frames := 1, cells := 0, slots := 0, locals := 22 }) (roP G D (tyL cB cI cJ cZ cS cT) [] [.int v0, .int v1, .int v2]) (vp_Si (fun r : Int32 => (0 ≤ r.toInt ∧ r.toInt ≤ 80))) 0 0 (fun _ => False) := by
  refine metRO (own := RX10) (by decide) rfl ?_
  intro p e s m below meth c Q C hP ret
  obtain ⟨hx, hb, hml, hown, hts, hK, hN, hT⟩ := id C
  have hl := lv_entry ([.int v0, .int v1, .int v2]) (n := 3) (Nat.le_of_ble_eq_true rfl)
  rw [lg_entry_eq]
  generalize (lg_sl ([.int v0, .int v1, .int v2]) ++ List.replicate (3 - (lg_sl ([.int v0, .int v1, .int v2])).length) Slot.unset).toArray = ls at hl ⊢
  have hl : lv_has ls 3 [(0, .int v0), (1, .int v1), (2, .int v2)] := hl
  have hP : va_P D vwCl [] s.heap := hP
  refine lv_iload_n hx hb dX10_stateOf_0 rfl (lv_at hl 0 rfl) ?_
  refine lv_if_eq (tgt := 12) hx hb dX10_stateOf_1 (by decide) (fun c_1 => ?_) (fun c_1 => ?_)
  · have c_1 : v0.toInt = 0 := ci_eq_t c_1
    have b_v0 := i32b v0
    refine lv_iload_n hx hb dX10_stateOf_12 rfl (lv_at hl 2 rfl) ?_
    refine lv_iload_n hx hb dX10_stateOf_13 rfl (lv_at hl 1 rfl) ?_
    refine rosi (As := [.int v2, .int v1]) (rest := []) ⟨hx, hb, hml, hown, hts⟩ (b_X10_state l G D cB cI cJ cZ cS cT v2 v1 ) (csB (n := 2) (inr41 _ (List.mem_of_getElem? (i := 9) rfl)) (inr41 _ (List.mem_of_getElem? (i := 10) rfl)) (inr2 _ (List.mem_of_getElem? (i := 20) rfl)) (inr41 _ (List.mem_of_getElem? (i := 11) rfl)) (by decide +kernel) hts rfl rfl ⟨Nat.le_of_ble_eq_true rfl, Nat.le_of_ble_eq_true rfl⟩) (hP.sub [] rfl) hK hN hT rfl hl.1 rfl (Nat.le_of_ble_eq_true rfl) ⟨Nat.le_of_ble_eq_true rfl, Nat.le_of_ble_eq_true rfl⟩ dX10_stateOf_14 (fun r_2 h_3 => ?_)
    have h_3 : (0 ≤ r_2.toInt ∧ r_2.toInt ≤ 80) := h_3
    have i_4 := h_3
    exact ret _ _ _ dX10_stateOf_17 (show (0 ≤ r_2.toInt ∧ r_2.toInt ≤ 80) from (by first | assumption | omega | decide))
  · have c_1 : ¬ v0.toInt = 0 := ci_eq_f c_1
    have b_v0 := i32b v0
    refine lv_iload_n hx hb dX10_stateOf_4 rfl (lv_at hl 1 rfl) ?_
    refine lv_iload_n hx hb dX10_stateOf_5 rfl (lv_at hl 2 rfl) ?_
    refine rosi (As := [.int v1, .int v2]) (rest := []) ⟨hx, hb, hml, hown, hts⟩ (b_X10_state l G D cB cI cJ cZ cS cT v1 v2 ) (csB (n := 2) (inr41 _ (List.mem_of_getElem? (i := 9) rfl)) (inr41 _ (List.mem_of_getElem? (i := 10) rfl)) (inr2 _ (List.mem_of_getElem? (i := 20) rfl)) (inr41 _ (List.mem_of_getElem? (i := 11) rfl)) (by decide +kernel) hts rfl rfl ⟨Nat.le_of_ble_eq_true rfl, Nat.le_of_ble_eq_true rfl⟩) (hP.sub [] rfl) hK hN hT rfl hl.1 rfl (Nat.le_of_ble_eq_true rfl) ⟨Nat.le_of_ble_eq_true rfl, Nat.le_of_ble_eq_true rfl⟩ dX10_stateOf_6 (fun r_5 h_6 => ?_)
    have h_6 : (0 ≤ r_5.toInt ∧ r_5.toInt ≤ 80) := h_6
    have i_7 := h_6
    refine lv_goto (tgt := 17) hx hb dX10_stateOf_9 (by decide) ?_
    exact ret _ _ _ dX10_stateOf_17 (show (0 ≤ r_5.toInt ∧ r_5.toInt ≤ 80) from (by first | assumption | omega | decide))

set_option maxHeartbeats 4000000 in
set_option maxRecDepth 100000 in
theorem b_X10_cheapest_l8 {p : Program} {l : Launch} {e : Env} {s : State} {m : MethodId} {args : Array Value} {below : List Frame} {meth : Method} {c : Code} {Q : State → Prop} {G : Gho} {D : va_G} {cB cI cJ cZ cS cT : ClassId} (h_a0 : Nat) (f_a0 : Nat → Int32) (n : Nat) (v1 : Int32) (v2 : Int32) (v3 : Int32) (v4 : Int32) (hfrom : 0 ≤ v1.toInt ∧ v1.toInt ≤ 3240 ∧ v1.toInt + 80 < (n : Int)) (zv1 : 0 ≤ v1.toInt ∧ v1.toInt ≤ 3240) (C : Cx p s m args c RX10 cX10_cheapest 7 G D (tyL cB cI cJ cZ cS cT)) (hP : va_P D vwCl [(h_a0, .inl (cI, n, .inl f_a0))] s.heap) (ret : RroI p l e ({ frames := 2, cells := 0, slots := 0, locals := 44 }) s m args below meth c cX10_cheapest (fun r : Int32 => True) Q) :
    ∀ (N : Nat) (l8_6 : Int32) (l8_5 : Int32) (ls : Array Slot), 0 ≤ l8_6.toInt → (v2.toInt - l8_6.toInt).toNat < N → lv_has ls 7 [(6, .int l8_6), (5, .int l8_5), (0, .ref h_a0), (1, .int v1), (2, .int v2), (3, .int v3), (4, .int v4)] → W p l e ({ frames := 2, cells := 0, slots := 0, locals := 44 }) s m args below meth c s.heap [] 0 0 Q (F0 m 8 ls []) := by
  obtain ⟨hx, hb, hml, hown, hts, hK, hN, hT⟩ := id C
  intro N
  induction N with
  | zero =>
    intro l8_6 l8_5 ls kl8_6 hM_8 hl
    omega
  | succ N_8 ih_8 =>
    intro l8_6 l8_5 ls kl8_6 hM_8 hl
    have b_l8_6 := i32b l8_6
    refine lv_iload hx hb dX10_cheapest_8 (lv_at hl 0 rfl) ?_
    refine lv_iload_n hx hb dX10_cheapest_10 rfl (lv_at hl 4 rfl) ?_
    refine lv_icmp_ge (tgt := 39) hx hb dX10_cheapest_11 (by decide) (fun c_1 => ?_) (fun c_1 => ?_)
    · have c_1 : v2.toInt ≤ l8_6.toInt := ci_ge_t c_1
      have b_v2 := i32b v2
      refine lv_iload hx hb dX10_cheapest_39 (lv_at hl 1 rfl) ?_
      exact ret _ _ _ dX10_cheapest_41 trivial
    · have c_1 : l8_6.toInt < v2.toInt := ci_ge_f c_1
      have b_v2 := i32b v2
      refine lv_iload hx hb dX10_cheapest_14 (lv_at hl 1 rfl) ?_
      refine lv_aload_n hx hb dX10_cheapest_16 rfl (lv_at hl 2 rfl) ?_
      refine lv_iload_n hx hb dX10_cheapest_17 rfl (lv_at hl 3 rfl) ?_
      refine lv_iload_n hx hb dX10_cheapest_18 rfl (lv_at hl 5 rfl) ?_
      refine lv_iload hx hb dX10_cheapest_19 (lv_at hl 6 rfl) ?_
      refine lv_iload hx hb dX10_cheapest_21 (lv_at hl 0 rfl) ?_
      refine rosi (As := [.int v3, .int v4, .int l8_6]) (rest := [.int v1, .ref h_a0, .int l8_5]) ⟨hx, hb, hml, hown, hts⟩ (b_X10_stateOf l G D cB cI cJ cZ cS cT v3 v4 l8_6 ) (csB (n := 3) (inr41 _ (List.mem_of_getElem? (i := 22) rfl)) (inr41 _ (List.mem_of_getElem? (i := 23) rfl)) (inr2 _ (List.mem_of_getElem? (i := 20) rfl)) (inr42 _ (List.mem_of_getElem? (i := 0) rfl)) (by decide +kernel) hts rfl rfl ⟨Nat.le_of_ble_eq_true rfl, Nat.le_of_ble_eq_true rfl⟩) (hP.sub [] rfl) hK hN hT rfl hl.1 rfl (Nat.le_of_ble_eq_true rfl) ⟨Nat.le_of_ble_eq_true rfl, Nat.le_of_ble_eq_true rfl⟩ dX10_cheapest_23 (fun r_2 h_3 => ?_)
      have h_3 : (0 ≤ r_2.toInt ∧ r_2.toInt ≤ 80) := h_3
      have i_4 := h_3
      obtain ⟨t_5, et_5⟩ : ∃ v9 : Int32, v1 + r_2 = v9 := ⟨_, rfl⟩
      refine z_iadd (v := t_5) hx hb dX10_cheapest_26 et_5 ?_
      have b_v1 := i32b v1
      have b_r_2 := i32b r_2
      have ft_5 : t_5.toInt = v1.toInt + r_2.toInt := addT (a := v1.toInt) (b := r_2.toInt) rfl rfl et_5 (by omega) (by omega)
      obtain ⟨t_6, et_6⟩ : ∃ v9 : Int32, f_a0 (t_5 : Int32).toNatClampNeg = v9 := ⟨_, rfl⟩
      refine z_iald (v := t_6) hx hb hK hP 0 1 rfl rfl (vin_nat (by omega) (by omega)) et_6 dX10_cheapest_27 ?_
      refine va_mmin hx hb (by rw [hml]; exact hl.1.symm) hown (hts _ (inr41 _ (List.mem_of_getElem? (i := 16) rfl))) (hts _ (inr18 _ (List.mem_of_getElem? (i := 11) rfl))) (hts _ (inr18 _ (List.mem_of_getElem? (i := 12) rfl))) (hts _ (inr18 _ (List.mem_of_getElem? (i := 13) rfl))) (Nat.le_of_ble_eq_true rfl) (Nat.le_of_ble_eq_true rfl) (Nat.le_of_ble_eq_true rfl) (Nat.le_of_ble_eq_true rfl) dX10_cheapest_28 ?_
      refine lv_topi (fun t_7 et_7 => ?_)
      have b_l8_5 := i32b l8_5
      have b_t_6 := i32b t_6
      have ft_7 : t_7.toInt ≤ l8_5.toInt ∧ t_7.toInt ≤ t_6.toInt ∧ (t_7.toInt = l8_5.toInt ∨ t_7.toInt = t_6.toInt) := minT et_7
      refine lv_istore (lv' := [(5, .int t_7), (6, .int l8_6), (0, .ref h_a0), (1, .int v1), (2, .int v2), (3, .int v3), (4, .int v4)]) hx hb dX10_cheapest_31 hl (by decide) rfl (fun ls hl => ?_)
      obtain ⟨t_8, et_8⟩ : ∃ v9 : Int32, l8_6 + 1 = v9 := ⟨_, rfl⟩
      have ft_8 : t_8.toInt = l8_6.toInt + 1 := addT (a := l8_6.toInt) (b := 1) rfl (by decide) et_8 (by omega) (by omega)
      refine lv_iinc (v := t_8) (lv' := [(6, .int t_8), (5, .int t_7), (0, .ref h_a0), (1, .int v1), (2, .int v2), (3, .int v3), (4, .int v4)]) hx hb dX10_cheapest_33 hl (k := 1) rfl (by rw [← et_8]; rfl) (by decide) rfl (fun ls hl => ?_)
      refine lv_goto (tgt := 8) hx hb dX10_cheapest_36 (by decide) ?_
      exact ih_8 (t_8) (t_7) _ (by first | assumption | omega | decide) (by omega) (lv_sub hl [0, 1, 2, 3, 4, 5, 6] rfl)

set_option maxHeartbeats 4000000 in
set_option maxRecDepth 100000 in
theorem b_X10_cheapest (l : Launch) (G : Gho) (D : va_G) (cB cI cJ cZ cS cT : ClassId) (h_a0 : Nat) (f_a0 : Nat → Int32) (n : Nat) (v1 : Int32) (v2 : Int32) (v3 : Int32) (v4 : Int32) (hfrom : 0 ≤ v1.toInt ∧ v1.toInt ≤ 3240 ∧ v1.toInt + 80 < (n : Int)) : Met l yX10_cheapest (Cond.code yX10_cheapest cX10_cheapest 7 (some .int) :: wsL_law) ({ frames := 2, cells := 0, slots := 0, locals := 44 }) (roP G D (tyL cB cI cJ cZ cS cT) [(h_a0, .inl (cI, n, .inl f_a0))] [.ref h_a0, .int v1, .int v2, .int v3, .int v4]) (vp_Si (fun r : Int32 => True)) 0 0 (fun _ => False) := by
  refine metRO (own := RX10) (by decide) rfl ?_
  intro p e s m below meth c Q C hP ret
  obtain ⟨hx, hb, hml, hown, hts, hK, hN, hT⟩ := id C
  have hl := lv_entry ([.ref h_a0, .int v1, .int v2, .int v3, .int v4]) (n := 7) (Nat.le_of_ble_eq_true rfl)
  rw [lg_entry_eq]
  generalize (lg_sl ([.ref h_a0, .int v1, .int v2, .int v3, .int v4]) ++ List.replicate (7 - (lg_sl ([.ref h_a0, .int v1, .int v2, .int v3, .int v4])).length) Slot.unset).toArray = ls at hl ⊢
  have hl : lv_has ls 7 [(0, .ref h_a0), (1, .int v1), (2, .int v2), (3, .int v3), (4, .int v4)] := hl
  have hP : va_P D vwCl [(h_a0, .inl (cI, n, .inl f_a0))] s.heap := hP
  refine lv_sipush (v := 1000) hx hb dX10_cheapest_0 (by decide) ?_
  refine lv_istore (lv' := [(5, .int 1000), (0, .ref h_a0), (1, .int v1), (2, .int v2), (3, .int v3), (4, .int v4)]) hx hb dX10_cheapest_3 hl (by decide) rfl (fun ls hl => ?_)
  refine lv_iconst (v := 0) hx hb dX10_cheapest_5 (by decide) ?_
  refine lv_istore (lv' := [(6, .int 0), (5, .int 1000), (0, .ref h_a0), (1, .int v1), (2, .int v2), (3, .int v3), (4, .int v4)]) hx hb dX10_cheapest_6 hl (by decide) rfl (fun ls hl => ?_)
  exact b_X10_cheapest_l8 h_a0 f_a0 n v1 v2 v3 v4 (by first | assumption | omega | decide) (by first | assumption | omega | decide) C (hP.sub [0] rfl) ret _ (0) (1000) _ (by first | assumption | omega | decide) (Nat.lt_succ_self _) (lv_sub hl [0, 1, 2, 3, 4, 5, 6] rfl)

set_option maxHeartbeats 4000000 in
set_option maxRecDepth 100000 in
theorem b_X10_ownTone (l : Launch) (G : Gho) (D : va_G) (cB cI cJ cZ cS cT : ClassId) (h_a0 : Nat) (v_a0_tones : Int32) (v_a0_a : Int32) (v_a0_b : Int32) (v_a0_c : Int32) (v_a0_d : Int32) (v_a0_odds : Int32) (v_a0_lines : Int32) (h_a0_signs : Nat) (v_a0_signCount : Int32) (h_a0_posts : Nat) (v_a0_postCount : Int32) (h_a0_acts : Nat) (f_a0_signs : Nat → Int32) (v1 : Int32) (v2 : Int32) (v3 : Int32) (v4 : Int32) (iv_a0_signCount : 0 ≤ v_a0_signCount.toInt ∧ v_a0_signCount.toInt ≤ 8) (iv_a0_postCount : 0 ≤ v_a0_postCount.toInt ∧ v_a0_postCount.toInt ≤ 5) : Met l yX10_ownTone (Cond.code yX10_ownTone cX10_ownTone 5 (some .int) :: wsL_law) ({ frames := 1, cells := 0, slots := 0, locals := 25 }) (roP G D (tyL cB cI cJ cZ cS cT) [(h_a0, .inr (8, [.int v_a0_tones, .int v_a0_a, .int v_a0_b, .int v_a0_c, .int v_a0_d, .int v_a0_odds, .int v_a0_lines, .ref h_a0_signs, .int v_a0_signCount, .ref h_a0_posts, .int v_a0_postCount, .ref h_a0_acts])), (h_a0_signs, .inl (cI, 8, .inl f_a0_signs))] [.ref h_a0, .int v1, .int v2, .int v3, .int v4]) (vp_Si (fun r : Int32 => True)) 0 0 (fun _ => False) := by
  refine metRO (own := RX10) (by decide) rfl ?_
  intro p e s m below meth c Q C hP ret
  obtain ⟨hx, hb, hml, hown, hts, hK, hN, hT⟩ := id C
  have hl := lv_entry ([.ref h_a0, .int v1, .int v2, .int v3, .int v4]) (n := 5) (Nat.le_of_ble_eq_true rfl)
  rw [lg_entry_eq]
  generalize (lg_sl ([.ref h_a0, .int v1, .int v2, .int v3, .int v4]) ++ List.replicate (5 - (lg_sl ([.ref h_a0, .int v1, .int v2, .int v3, .int v4])).length) Slot.unset).toArray = ls at hl ⊢
  have hl : lv_has ls 5 [(0, .ref h_a0), (1, .int v1), (2, .int v2), (3, .int v3), (4, .int v4)] := hl
  have hP : va_P D vwCl [(h_a0, .inr (8, [.int v_a0_tones, .int v_a0_a, .int v_a0_b, .int v_a0_c, .int v_a0_d, .int v_a0_odds, .int v_a0_lines, .ref h_a0_signs, .int v_a0_signCount, .ref h_a0_posts, .int v_a0_postCount, .ref h_a0_acts])), (h_a0_signs, .inl (cI, 8, .inl f_a0_signs))] s.heap := hP
  refine lv_iload_n hx hb dX10_ownTone_0 rfl (lv_at hl 2 rfl) ?_
  refine lv_if_eq (tgt := 15) hx hb dX10_ownTone_1 (by decide) (fun c_1 => ?_) (fun c_1 => ?_)
  · have c_1 : v2.toInt = 0 := ci_eq_t c_1
    have b_v2 := i32b v2
    refine lv_aload_n hx hb dX10_ownTone_15 rfl (lv_at hl 0 rfl) ?_
    refine lv_iload_n hx hb dX10_ownTone_16 rfl (lv_at hl 1 rfl) ?_
    refine lv_iload hx hb dX10_ownTone_17 (lv_at hl 4 rfl) ?_
    refine lv_iload_n hx hb dX10_ownTone_19 rfl (lv_at hl 3 rfl) ?_
    refine roi (As := [.int v1, .int v4, .int v3]) (rest := []) ⟨hx, hb, hml, hown, hts⟩ (b_X8_ownTone l G D cB cI cJ cZ cS cT h_a0 v_a0_tones v_a0_a v_a0_b v_a0_c v_a0_d v_a0_odds v_a0_lines h_a0_signs v_a0_signCount h_a0_posts v_a0_postCount h_a0_acts f_a0_signs v1 v4 v3 (by first | assumption | omega | decide) (by first | assumption | omega | decide)) (cvB (n := 3) (inr42 _ (List.mem_of_getElem? (i := 4) rfl)) (inr23 _ (List.mem_of_getElem? (i := 8) rfl)) (inr23 _ (List.mem_of_getElem? (i := 9) rfl)) (inr1 _ (List.mem_of_getElem? (i := 23) rfl)) (inr23 _ (List.mem_of_getElem? (i := 10) rfl)) (by decide +kernel) hts rfl rfl ⟨Nat.le_of_ble_eq_true rfl, Nat.le_of_ble_eq_true rfl⟩) 0 8 rfl rfl rfl (hP.sub [0, 1] rfl) hK hN hT rfl hl.1 rfl (Nat.le_of_ble_eq_true rfl) ⟨Nat.le_of_ble_eq_true rfl, Nat.le_of_ble_eq_true rfl⟩ dX10_ownTone_20 (fun r_2 h_3 => ?_)
    exact ret _ _ _ dX10_ownTone_23 trivial
  · have c_1 : ¬ v2.toInt = 0 := ci_eq_f c_1
    have b_v2 := i32b v2
    refine lv_aload_n hx hb dX10_ownTone_4 rfl (lv_at hl 0 rfl) ?_
    refine lv_iload_n hx hb dX10_ownTone_5 rfl (lv_at hl 1 rfl) ?_
    refine lv_iload_n hx hb dX10_ownTone_6 rfl (lv_at hl 3 rfl) ?_
    refine lv_iload hx hb dX10_ownTone_7 (lv_at hl 4 rfl) ?_
    refine roi (As := [.int v1, .int v3, .int v4]) (rest := []) ⟨hx, hb, hml, hown, hts⟩ (b_X8_ownTone l G D cB cI cJ cZ cS cT h_a0 v_a0_tones v_a0_a v_a0_b v_a0_c v_a0_d v_a0_odds v_a0_lines h_a0_signs v_a0_signCount h_a0_posts v_a0_postCount h_a0_acts f_a0_signs v1 v3 v4 (by first | assumption | omega | decide) (by first | assumption | omega | decide)) (cvB (n := 3) (inr42 _ (List.mem_of_getElem? (i := 4) rfl)) (inr23 _ (List.mem_of_getElem? (i := 8) rfl)) (inr23 _ (List.mem_of_getElem? (i := 9) rfl)) (inr1 _ (List.mem_of_getElem? (i := 23) rfl)) (inr23 _ (List.mem_of_getElem? (i := 10) rfl)) (by decide +kernel) hts rfl rfl ⟨Nat.le_of_ble_eq_true rfl, Nat.le_of_ble_eq_true rfl⟩) 0 8 rfl rfl rfl (hP.sub [0, 1] rfl) hK hN hT rfl hl.1 rfl (Nat.le_of_ble_eq_true rfl) ⟨Nat.le_of_ble_eq_true rfl, Nat.le_of_ble_eq_true rfl⟩ dX10_ownTone_9 (fun r_4 h_5 => ?_)
    refine lv_goto (tgt := 23) hx hb dX10_ownTone_12 (by decide) ?_
    exact ret _ _ _ dX10_ownTone_23 trivial

set_option maxHeartbeats 4000000 in
set_option maxRecDepth 100000 in
theorem b_X10_walkOver_l119 {p : Program} {l : Launch} {e : Env} {s : State} {m : MethodId} {args : Array Value} {below : List Frame} {meth : Method} {c : Code} {Q : State → Prop} {G : Gho} {D : va_G} {cB cI cJ cZ cS cT : ClassId} {A : Nat → Prop} (h0 : Nat) (h_spent : Nat) (h_spentNext : Nat) (h_missing : Nat) (f_spent : Nat → Int32) (h_a1 : Nat) (v_a1_tones : Int32) (v_a1_a : Int32) (v_a1_b : Int32) (v_a1_c : Int32) (v_a1_d : Int32) (v_a1_odds : Int32) (v_a1_lines : Int32) (h_a1_signs : Nat) (v_a1_signCount : Int32) (h_a1_posts : Nat) (v_a1_postCount : Int32) (h_a1_acts : Nat) (f_a1_signs : Nat → Int32) (v2 : Int32) (l36_6 : Int32) (r_1 : Int32) (g36_spentNext : Nat → Int32) (g79_spentNext : Nat → Int32) (l79_8 : Int32) (t_18 : Int32) (N_36 : Nat) (N_79 : Nat) (iv_a1_signCount : 0 ≤ v_a1_signCount.toInt ∧ v_a1_signCount.toInt ≤ 8) (iv_a1_postCount : 0 ≤ v_a1_postCount.toInt ∧ v_a1_postCount.toInt ≤ 5) (zv_a1_tones : 1 ≤ v_a1_tones.toInt ∧ v_a1_tones.toInt ≤ 2147483647) (zl36_6 : 0 ≤ l36_6.toInt ∧ l36_6.toInt ≤ 2147483646) (zr_1 : 1 ≤ r_1.toInt ∧ r_1.toInt ≤ 1) (c_4 : ¬ r_1.toInt = 0) (kl36_6 : 0 ≤ l36_6.toInt) (c_12 : l36_6.toInt < v_a1_tones.toInt) (kl79_8 : 0 ≤ l79_8.toInt) (c_22 : v_a1_tones.toInt ≤ l79_8.toInt) (ih_36 : ∀ (g36_spentNext : Nat → Int32) (l36_6 : Int32) (H : Heap) (locs : List Loc) (ls : Array Slot), 0 ≤ l36_6.toInt → (v_a1_tones.toInt - l36_6.toInt).toNat < N_36 → va_P D vwCl [(h0, .inr (10, [.ref h_spent, .ref h_spentNext, .ref h_missing])), (h_spent, .inl (cI, 81, .inl f_spent)), (h_spentNext, .inl (cI, 81, .inl g36_spentNext)), (h_a1, .inr (8, [.int v_a1_tones, .int v_a1_a, .int v_a1_b, .int v_a1_c, .int v_a1_d, .int v_a1_odds, .int v_a1_lines, .ref h_a1_signs, .int v_a1_signCount, .ref h_a1_posts, .int v_a1_postCount, .ref h_a1_acts])), (h_a1_signs, .inl (cI, 8, .inl f_a1_signs))] H → va_D A [(h0, .inr (10, [.ref h_spent, .ref h_spentNext, .ref h_missing])), (h_spent, .inl (cI, 81, .inl f_spent)), (h_spentNext, .inl (cI, 81, .inl g36_spentNext)), (h_a1, .inr (8, [.int v_a1_tones, .int v_a1_a, .int v_a1_b, .int v_a1_c, .int v_a1_d, .int v_a1_odds, .int v_a1_lines, .ref h_a1_signs, .int v_a1_signCount, .ref h_a1_posts, .int v_a1_postCount, .ref h_a1_acts])), (h_a1_signs, .inl (cI, 8, .inl f_a1_signs))] → va_S A s.heap H locs → lv_has ls 10 [(6, .int l36_6), (5, .int 1), (4, .int r_1), (0, .ref h0), (1, .ref h_a1), (2, .int v2)] → W p l e ({ frames := 3, cells := 0, slots := 0, locals := 70 }) s m args below meth c H locs 0 0 Q (F0 m 36 ls [])) (hM_36 : (v_a1_tones.toInt - l36_6.toInt).toNat < N_36 + 1) (ih_79 : ∀ (g79_spentNext : Nat → Int32) (l79_8 : Int32) (H : Heap) (locs : List Loc) (ls : Array Slot), 0 ≤ l79_8.toInt → (v_a1_tones.toInt - l79_8.toInt).toNat < N_79 → va_P D vwCl [(h0, .inr (10, [.ref h_spent, .ref h_spentNext, .ref h_missing])), (h_spent, .inl (cI, 81, .inl f_spent)), (h_spentNext, .inl (cI, 81, .inl g79_spentNext)), (h_a1, .inr (8, [.int v_a1_tones, .int v_a1_a, .int v_a1_b, .int v_a1_c, .int v_a1_d, .int v_a1_odds, .int v_a1_lines, .ref h_a1_signs, .int v_a1_signCount, .ref h_a1_posts, .int v_a1_postCount, .ref h_a1_acts])), (h_a1_signs, .inl (cI, 8, .inl f_a1_signs))] H → va_D A [(h0, .inr (10, [.ref h_spent, .ref h_spentNext, .ref h_missing])), (h_spent, .inl (cI, 81, .inl f_spent)), (h_spentNext, .inl (cI, 81, .inl g79_spentNext)), (h_a1, .inr (8, [.int v_a1_tones, .int v_a1_a, .int v_a1_b, .int v_a1_c, .int v_a1_d, .int v_a1_odds, .int v_a1_lines, .ref h_a1_signs, .int v_a1_signCount, .ref h_a1_posts, .int v_a1_postCount, .ref h_a1_acts])), (h_a1_signs, .inl (cI, 8, .inl f_a1_signs))] → va_S A s.heap H locs → lv_has ls 10 [(8, .int l79_8), (7, .int t_18), (6, .int l36_6), (5, .int 1), (4, .int r_1), (0, .ref h0), (1, .ref h_a1), (2, .int v2)] → W p l e ({ frames := 3, cells := 0, slots := 0, locals := 70 }) s m args below meth c H locs 0 0 Q (F0 m 79 ls [])) (hM_79 : (v_a1_tones.toInt - l79_8.toInt).toNat < N_79 + 1) (C : Cx p s m args c RX10 cX10_walkOver 10 G D (tyL cB cI cJ cZ cS cT)) (hG : G.1 ≤ s.heap.size) (hAB : ∀ q, A q → G.1 ≤ q) (hA : ∀ q : Nat, s.heap.size ≤ q → A q) (ret : RetV p l e ({ frames := 3, cells := 0, slots := 0, locals := 70 }) s m args below meth c cX10_walkOver D A (fun x : Nat × Nat × (Nat → Int32) × (Nat → Int32) => [(h0, .inr (10, [.ref x.1, .ref x.2.1, .ref h_missing])), (x.1, .inl (cI, 81, .inl x.2.2.1)), (x.2.1, .inl (cI, 81, .inl x.2.2.2)), (h_a1, .inr (8, [.int v_a1_tones, .int v_a1_a, .int v_a1_b, .int v_a1_c, .int v_a1_d, .int v_a1_odds, .int v_a1_lines, .ref h_a1_signs, .int v_a1_signCount, .ref h_a1_posts, .int v_a1_postCount, .ref h_a1_acts])), (h_a1_signs, .inl (cI, 8, .inl f_a1_signs))]) (fun x : Nat × Nat × (Nat → Int32) × (Nat → Int32) => True) Q) :
    ∀ (N : Nat) (g119_spentNext : Nat → Int32) (l119_8 : Int32) (H : Heap) (locs : List Loc) (ls : Array Slot), 0 ≤ l119_8.toInt → (v_a1_tones.toInt - l119_8.toInt).toNat < N → va_P D vwCl [(h0, .inr (10, [.ref h_spent, .ref h_spentNext, .ref h_missing])), (h_spent, .inl (cI, 81, .inl f_spent)), (h_spentNext, .inl (cI, 81, .inl g119_spentNext)), (h_a1, .inr (8, [.int v_a1_tones, .int v_a1_a, .int v_a1_b, .int v_a1_c, .int v_a1_d, .int v_a1_odds, .int v_a1_lines, .ref h_a1_signs, .int v_a1_signCount, .ref h_a1_posts, .int v_a1_postCount, .ref h_a1_acts])), (h_a1_signs, .inl (cI, 8, .inl f_a1_signs))] H → va_D A [(h0, .inr (10, [.ref h_spent, .ref h_spentNext, .ref h_missing])), (h_spent, .inl (cI, 81, .inl f_spent)), (h_spentNext, .inl (cI, 81, .inl g119_spentNext)), (h_a1, .inr (8, [.int v_a1_tones, .int v_a1_a, .int v_a1_b, .int v_a1_c, .int v_a1_d, .int v_a1_odds, .int v_a1_lines, .ref h_a1_signs, .int v_a1_signCount, .ref h_a1_posts, .int v_a1_postCount, .ref h_a1_acts])), (h_a1_signs, .inl (cI, 8, .inl f_a1_signs))] → va_S A s.heap H locs → lv_has ls 10 [(8, .int l119_8), (6, .int l36_6), (5, .int 1), (4, .int r_1), (0, .ref h0), (1, .ref h_a1), (2, .int v2)] → W p l e ({ frames := 3, cells := 0, slots := 0, locals := 70 }) s m args below meth c H locs 0 0 Q (F0 m 119 ls []) := by
  obtain ⟨hx, hb, hml, hown, hts, hK, hN, hT⟩ := id C
  intro N
  induction N with
  | zero =>
    intro g119_spentNext l119_8 H locs ls kl119_8 hM_119 hP hD hS hl
    omega
  | succ N_119 ih_119 =>
    intro g119_spentNext l119_8 H locs ls kl119_8 hM_119 hP hD hS hl
    have b_l119_8 := i32b l119_8
    refine lv_iload hx hb dX10_walkOver_119 (lv_at hl 0 rfl) ?_
    refine lv_aload_n hx hb dX10_walkOver_121 rfl (lv_at hl 5 rfl) ?_
    refine roi (As := []) (rest := [.int l119_8]) ⟨hx, hb, hml, hown, hts⟩ (b_X8_tones l G D cB cI cJ cZ cS cT h_a1 v_a1_tones v_a1_a v_a1_b v_a1_c v_a1_d v_a1_odds v_a1_lines h_a1_signs v_a1_signCount h_a1_posts v_a1_postCount h_a1_acts (by first | assumption | omega | decide) (by first | assumption | omega | decide)) (cvB (n := 0) (inr41 _ (List.mem_of_getElem? (i := 18) rfl)) (inr15 _ (List.mem_of_getElem? (i := 14) rfl)) (inr15 _ (List.mem_of_getElem? (i := 15) rfl)) (inr1 _ (List.mem_of_getElem? (i := 23) rfl)) (inr15 _ (List.mem_of_getElem? (i := 16) rfl)) (by decide +kernel) hts rfl rfl ⟨Nat.le_of_ble_eq_true rfl, Nat.le_of_ble_eq_true rfl⟩) 0 8 rfl rfl rfl (hP.sub [3] rfl) hK hN (kT.to hT hS hAB) rfl hl.1 rfl (Nat.le_of_ble_eq_true rfl) ⟨Nat.le_of_ble_eq_true rfl, Nat.le_of_ble_eq_true rfl⟩ dX10_walkOver_122 (fun r_23 h_24 => ?_)
    have h_24 : (r_23 = v_a1_tones) := h_24
    have i_25 := h_24
    obtain rfl := i_25.symm
    refine lv_icmp_ge (tgt := 185) hx hb dX10_walkOver_125 (by decide) (fun c_26 => ?_) (fun c_26 => ?_)
    · have c_26 : v_a1_tones.toInt ≤ l119_8.toInt := ci_ge_t c_26
      have b_v_a1_tones := i32b v_a1_tones
      obtain ⟨t_27, et_27⟩ : ∃ v9 : Int32, l36_6 + 1 = v9 := ⟨_, rfl⟩
      have b_l36_6 := i32b l36_6
      have ft_27 : t_27.toInt = l36_6.toInt + 1 := addT (a := l36_6.toInt) (b := 1) rfl (by decide) et_27 (by omega) (by omega)
      refine lv_iinc (v := t_27) (lv' := [(6, .int t_27), (8, .int l119_8), (5, .int 1), (4, .int r_1), (0, .ref h0), (1, .ref h_a1), (2, .int v2)]) hx hb dX10_walkOver_185 hl (k := 1) rfl (by rw [← et_27]; rfl) (by decide) rfl (fun ls hl => ?_)
      refine lv_goto (tgt := 36) hx hb dX10_walkOver_188 (by decide) ?_
      exact ih_36 (g119_spentNext) (t_27) _ _ _ (by first | assumption | omega | decide) (by omega) (hP.sub [0, 1, 2, 3, 4] rfl) (hD.sub [0, 1, 2, 3, 4] (by decide) rfl) hS (lv_sub hl [0, 2, 3, 4, 5, 6] rfl)
    · have c_26 : l119_8.toInt < v_a1_tones.toInt := ci_ge_f c_26
      have b_v_a1_tones := i32b v_a1_tones
      refine lv_iload hx hb dX10_walkOver_128 (lv_at hl 3 rfl) ?_
      refine lv_iload hx hb dX10_walkOver_130 (lv_at hl 1 rfl) ?_
      refine lv_aload_n hx hb dX10_walkOver_132 rfl (lv_at hl 5 rfl) ?_
      refine lv_iload_n hx hb dX10_walkOver_133 rfl (lv_at hl 6 rfl) ?_
      refine lv_iload hx hb dX10_walkOver_134 (lv_at hl 3 rfl) ?_
      refine lv_iload hx hb dX10_walkOver_136 (lv_at hl 1 rfl) ?_
      refine lv_iload hx hb dX10_walkOver_138 (lv_at hl 0 rfl) ?_
      refine rosi (As := [.ref h_a1, .int v2, .int r_1, .int l36_6, .int l119_8]) (rest := [.int l36_6, .int r_1]) ⟨hx, hb, hml, hown, hts⟩ (b_X10_ownTone l G D cB cI cJ cZ cS cT h_a1 v_a1_tones v_a1_a v_a1_b v_a1_c v_a1_d v_a1_odds v_a1_lines h_a1_signs v_a1_signCount h_a1_posts v_a1_postCount h_a1_acts f_a1_signs v2 r_1 l36_6 l119_8 (by first | assumption | omega | decide) (by first | assumption | omega | decide)) (csB (n := 5) (inr42 _ (List.mem_of_getElem? (i := 1) rfl)) (inr42 _ (List.mem_of_getElem? (i := 2) rfl)) (inr2 _ (List.mem_of_getElem? (i := 20) rfl)) (inr42 _ (List.mem_of_getElem? (i := 3) rfl)) (by decide +kernel) hts rfl rfl ⟨Nat.le_of_ble_eq_true rfl, Nat.le_of_ble_eq_true rfl⟩) (hP.sub [3, 4] rfl) hK hN (kT.to hT hS hAB) rfl hl.1 rfl (Nat.le_of_ble_eq_true rfl) ⟨Nat.le_of_ble_eq_true rfl, Nat.le_of_ble_eq_true rfl⟩ dX10_walkOver_140 (fun r_28 h_29 => ?_)
      refine rosi (As := [.int r_1, .int l36_6, .int r_28]) (rest := []) ⟨hx, hb, hml, hown, hts⟩ (b_X10_stateOf l G D cB cI cJ cZ cS cT r_1 l36_6 r_28 ) (csB (n := 3) (inr41 _ (List.mem_of_getElem? (i := 22) rfl)) (inr41 _ (List.mem_of_getElem? (i := 23) rfl)) (inr2 _ (List.mem_of_getElem? (i := 20) rfl)) (inr42 _ (List.mem_of_getElem? (i := 0) rfl)) (by decide +kernel) hts rfl rfl ⟨Nat.le_of_ble_eq_true rfl, Nat.le_of_ble_eq_true rfl⟩) (hP.sub [] rfl) hK hN (kT.to hT hS hAB) rfl hl.1 rfl (Nat.le_of_ble_eq_true rfl) ⟨Nat.le_of_ble_eq_true rfl, Nat.le_of_ble_eq_true rfl⟩ dX10_walkOver_143 (fun r_30 h_31 => ?_)
      have h_31 : (0 ≤ r_30.toInt ∧ r_30.toInt ≤ 80) := h_31
      have i_32 := h_31
      refine lv_istore (lv' := [(9, .int r_30), (8, .int l119_8), (6, .int l36_6), (5, .int 1), (4, .int r_1), (0, .ref h0), (1, .ref h_a1), (2, .int v2)]) hx hb dX10_walkOver_146 hl (by decide) rfl (fun ls hl => ?_)
      refine lv_aload_n hx hb dX10_walkOver_148 rfl (lv_at hl 5 rfl) ?_
      refine va_get (D := D) (ci := 10) (v := .ref h_spentNext) (C := RX10) (T := TX10) (N := 3) hx hb hts inlX10 hown hK hP 0 rfl rfl 1 (by decide) (hts _ (inr5 _ (List.mem_of_getElem? (i := 18) rfl))) (fun _ h9 => h9) rfl dX10_walkOver_149 ?_
      refine lv_iload hx hb dX10_walkOver_152 (lv_at hl 0 rfl) ?_
      refine lv_aload_n hx hb dX10_walkOver_154 rfl (lv_at hl 5 rfl) ?_
      refine va_get (D := D) (ci := 10) (v := .ref h_spentNext) (C := RX10) (T := TX10) (N := 3) hx hb hts inlX10 hown hK hP 0 rfl rfl 1 (by decide) (hts _ (inr5 _ (List.mem_of_getElem? (i := 18) rfl))) (fun _ h9 => h9) rfl dX10_walkOver_155 ?_
      refine lv_iload hx hb dX10_walkOver_158 (lv_at hl 0 rfl) ?_
      obtain ⟨t_33, et_33⟩ : ∃ v9 : Int32, g119_spentNext (r_30 : Int32).toNatClampNeg = v9 := ⟨_, rfl⟩
      refine z_iald (v := t_33) hx hb hK hP 2 1 rfl rfl (vin_nat (by omega) (by omega)) et_33 dX10_walkOver_160 ?_
      refine lv_aload_n hx hb dX10_walkOver_161 rfl (lv_at hl 5 rfl) ?_
      refine va_get (D := D) (ci := 10) (v := .ref h_spent) (C := RX10) (T := TX10) (N := 3) hx hb hts inlX10 hown hK hP 0 rfl rfl 0 (by decide) (hts _ (inr5 _ (List.mem_of_getElem? (i := 17) rfl))) (fun _ h9 => h9) rfl dX10_walkOver_162 ?_
      refine lv_iload hx hb dX10_walkOver_165 (lv_at hl 4 rfl) ?_
      refine lv_iload hx hb dX10_walkOver_167 (lv_at hl 2 rfl) ?_
      refine lv_iload hx hb dX10_walkOver_169 (lv_at hl 1 rfl) ?_
      refine rosi (As := [.int r_1, .int l36_6, .int l119_8]) (rest := [.ref h_spent, .int t_33, .int r_30, .ref h_spentNext]) ⟨hx, hb, hml, hown, hts⟩ (b_X10_stateOf l G D cB cI cJ cZ cS cT r_1 l36_6 l119_8 ) (csB (n := 3) (inr41 _ (List.mem_of_getElem? (i := 22) rfl)) (inr41 _ (List.mem_of_getElem? (i := 23) rfl)) (inr2 _ (List.mem_of_getElem? (i := 20) rfl)) (inr42 _ (List.mem_of_getElem? (i := 0) rfl)) (by decide +kernel) hts rfl rfl ⟨Nat.le_of_ble_eq_true rfl, Nat.le_of_ble_eq_true rfl⟩) (hP.sub [] rfl) hK hN (kT.to hT hS hAB) rfl hl.1 rfl (Nat.le_of_ble_eq_true rfl) ⟨Nat.le_of_ble_eq_true rfl, Nat.le_of_ble_eq_true rfl⟩ dX10_walkOver_171 (fun r_34 h_35 => ?_)
      have h_35 : (0 ≤ r_34.toInt ∧ r_34.toInt ≤ 80) := h_35
      have i_36 := h_35
      obtain ⟨t_37, et_37⟩ : ∃ v9 : Int32, f_spent (r_34 : Int32).toNatClampNeg = v9 := ⟨_, rfl⟩
      refine z_iald (v := t_37) hx hb hK hP 1 1 rfl rfl (vin_nat (by omega) (by omega)) et_37 dX10_walkOver_174 ?_
      refine va_mmin hx hb (by rw [hml]; exact hl.1.symm) hown (hts _ (inr41 _ (List.mem_of_getElem? (i := 16) rfl))) (hts _ (inr18 _ (List.mem_of_getElem? (i := 11) rfl))) (hts _ (inr18 _ (List.mem_of_getElem? (i := 12) rfl))) (hts _ (inr18 _ (List.mem_of_getElem? (i := 13) rfl))) (Nat.le_of_ble_eq_true rfl) (Nat.le_of_ble_eq_true rfl) (Nat.le_of_ble_eq_true rfl) (Nat.le_of_ble_eq_true rfl) dX10_walkOver_175 ?_
      refine lv_topi (fun t_38 et_38 => ?_)
      have b_t_33 := i32b t_33
      have b_t_37 := i32b t_37
      have ft_38 : t_38.toInt ≤ t_33.toInt ∧ t_38.toInt ≤ t_37.toInt ∧ (t_38.toInt = t_33.toInt ∨ t_38.toInt = t_37.toInt) := minT et_38
      refine va_iast hx hb hK hP hD hS 2 1 rfl rfl (vin_nat (by omega) (by omega)) dX10_walkOver_178 (fun H locs hP hD hS => ?_)
      have hP : va_P D vwCl [(h0, .inr (10, [.ref h_spent, .ref h_spentNext, .ref h_missing])), (h_spent, .inl (cI, 81, .inl f_spent)), (h_spentNext, .inl (cI, 81, .inl (upd g119_spentNext (r_30 : Int32).toNatClampNeg t_38))), (h_a1, .inr (8, [.int v_a1_tones, .int v_a1_a, .int v_a1_b, .int v_a1_c, .int v_a1_d, .int v_a1_odds, .int v_a1_lines, .ref h_a1_signs, .int v_a1_signCount, .ref h_a1_posts, .int v_a1_postCount, .ref h_a1_acts])), (h_a1_signs, .inl (cI, 8, .inl f_a1_signs))] H := hP
      have hD : va_D A [(h0, .inr (10, [.ref h_spent, .ref h_spentNext, .ref h_missing])), (h_spent, .inl (cI, 81, .inl f_spent)), (h_spentNext, .inl (cI, 81, .inl (upd g119_spentNext (r_30 : Int32).toNatClampNeg t_38))), (h_a1, .inr (8, [.int v_a1_tones, .int v_a1_a, .int v_a1_b, .int v_a1_c, .int v_a1_d, .int v_a1_odds, .int v_a1_lines, .ref h_a1_signs, .int v_a1_signCount, .ref h_a1_posts, .int v_a1_postCount, .ref h_a1_acts])), (h_a1_signs, .inl (cI, 8, .inl f_a1_signs))] := hD
      obtain ⟨g_39, eg_39⟩ : ∃ v9 : Nat → Int32, (upd g119_spentNext (r_30 : Int32).toNatClampNeg t_38) = v9 := ⟨_, rfl⟩
      rw [eg_39] at hP hD
      have hP : va_P D vwCl [(h0, .inr (10, [.ref h_spent, .ref h_spentNext, .ref h_missing])), (h_spent, .inl (cI, 81, .inl f_spent)), (h_spentNext, .inl (cI, 81, .inl g_39)), (h_a1, .inr (8, [.int v_a1_tones, .int v_a1_a, .int v_a1_b, .int v_a1_c, .int v_a1_d, .int v_a1_odds, .int v_a1_lines, .ref h_a1_signs, .int v_a1_signCount, .ref h_a1_posts, .int v_a1_postCount, .ref h_a1_acts])), (h_a1_signs, .inl (cI, 8, .inl f_a1_signs))] H := hP
      have hD : va_D A [(h0, .inr (10, [.ref h_spent, .ref h_spentNext, .ref h_missing])), (h_spent, .inl (cI, 81, .inl f_spent)), (h_spentNext, .inl (cI, 81, .inl g_39)), (h_a1, .inr (8, [.int v_a1_tones, .int v_a1_a, .int v_a1_b, .int v_a1_c, .int v_a1_d, .int v_a1_odds, .int v_a1_lines, .ref h_a1_signs, .int v_a1_signCount, .ref h_a1_posts, .int v_a1_postCount, .ref h_a1_acts])), (h_a1_signs, .inl (cI, 8, .inl f_a1_signs))] := hD
      obtain ⟨t_40, et_40⟩ : ∃ v9 : Int32, l119_8 + 1 = v9 := ⟨_, rfl⟩
      have ft_40 : t_40.toInt = l119_8.toInt + 1 := addT (a := l119_8.toInt) (b := 1) rfl (by decide) et_40 (by omega) (by omega)
      refine lv_iinc (v := t_40) (lv' := [(8, .int t_40), (9, .int r_30), (6, .int l36_6), (5, .int 1), (4, .int r_1), (0, .ref h0), (1, .ref h_a1), (2, .int v2)]) hx hb dX10_walkOver_179 hl (k := 1) rfl (by rw [← et_40]; rfl) (by decide) rfl (fun ls hl => ?_)
      refine lv_goto (tgt := 119) hx hb dX10_walkOver_182 (by decide) ?_
      exact ih_119 (g_39) (t_40) _ _ _ (by first | assumption | omega | decide) (by omega) (hP.sub [0, 1, 2, 3, 4] rfl) (hD.sub [0, 1, 2, 3, 4] (by decide) rfl) hS (lv_sub hl [0, 2, 3, 4, 5, 6, 7] rfl)

set_option maxHeartbeats 4000000 in
set_option maxRecDepth 100000 in
theorem b_X10_walkOver_l79 {p : Program} {l : Launch} {e : Env} {s : State} {m : MethodId} {args : Array Value} {below : List Frame} {meth : Method} {c : Code} {Q : State → Prop} {G : Gho} {D : va_G} {cB cI cJ cZ cS cT : ClassId} {A : Nat → Prop} (h0 : Nat) (h_spent : Nat) (h_spentNext : Nat) (h_missing : Nat) (f_spent : Nat → Int32) (h_a1 : Nat) (v_a1_tones : Int32) (v_a1_a : Int32) (v_a1_b : Int32) (v_a1_c : Int32) (v_a1_d : Int32) (v_a1_odds : Int32) (v_a1_lines : Int32) (h_a1_signs : Nat) (v_a1_signCount : Int32) (h_a1_posts : Nat) (v_a1_postCount : Int32) (h_a1_acts : Nat) (f_a1_signs : Nat → Int32) (v2 : Int32) (t_18 : Int32) (l36_6 : Int32) (r_1 : Int32) (g36_spentNext : Nat → Int32) (N_36 : Nat) (iv_a1_signCount : 0 ≤ v_a1_signCount.toInt ∧ v_a1_signCount.toInt ≤ 8) (iv_a1_postCount : 0 ≤ v_a1_postCount.toInt ∧ v_a1_postCount.toInt ≤ 5) (zv_a1_tones : 1 ≤ v_a1_tones.toInt ∧ v_a1_tones.toInt ≤ 2147483647) (zl36_6 : 0 ≤ l36_6.toInt ∧ l36_6.toInt ≤ 2147483646) (zr_1 : 1 ≤ r_1.toInt ∧ r_1.toInt ≤ 1) (c_4 : ¬ r_1.toInt = 0) (kl36_6 : 0 ≤ l36_6.toInt) (c_12 : l36_6.toInt < v_a1_tones.toInt) (ih_36 : ∀ (g36_spentNext : Nat → Int32) (l36_6 : Int32) (H : Heap) (locs : List Loc) (ls : Array Slot), 0 ≤ l36_6.toInt → (v_a1_tones.toInt - l36_6.toInt).toNat < N_36 → va_P D vwCl [(h0, .inr (10, [.ref h_spent, .ref h_spentNext, .ref h_missing])), (h_spent, .inl (cI, 81, .inl f_spent)), (h_spentNext, .inl (cI, 81, .inl g36_spentNext)), (h_a1, .inr (8, [.int v_a1_tones, .int v_a1_a, .int v_a1_b, .int v_a1_c, .int v_a1_d, .int v_a1_odds, .int v_a1_lines, .ref h_a1_signs, .int v_a1_signCount, .ref h_a1_posts, .int v_a1_postCount, .ref h_a1_acts])), (h_a1_signs, .inl (cI, 8, .inl f_a1_signs))] H → va_D A [(h0, .inr (10, [.ref h_spent, .ref h_spentNext, .ref h_missing])), (h_spent, .inl (cI, 81, .inl f_spent)), (h_spentNext, .inl (cI, 81, .inl g36_spentNext)), (h_a1, .inr (8, [.int v_a1_tones, .int v_a1_a, .int v_a1_b, .int v_a1_c, .int v_a1_d, .int v_a1_odds, .int v_a1_lines, .ref h_a1_signs, .int v_a1_signCount, .ref h_a1_posts, .int v_a1_postCount, .ref h_a1_acts])), (h_a1_signs, .inl (cI, 8, .inl f_a1_signs))] → va_S A s.heap H locs → lv_has ls 10 [(6, .int l36_6), (5, .int 1), (4, .int r_1), (0, .ref h0), (1, .ref h_a1), (2, .int v2)] → W p l e ({ frames := 3, cells := 0, slots := 0, locals := 70 }) s m args below meth c H locs 0 0 Q (F0 m 36 ls [])) (hM_36 : (v_a1_tones.toInt - l36_6.toInt).toNat < N_36 + 1) (C : Cx p s m args c RX10 cX10_walkOver 10 G D (tyL cB cI cJ cZ cS cT)) (hG : G.1 ≤ s.heap.size) (hAB : ∀ q, A q → G.1 ≤ q) (hA : ∀ q : Nat, s.heap.size ≤ q → A q) (ret : RetV p l e ({ frames := 3, cells := 0, slots := 0, locals := 70 }) s m args below meth c cX10_walkOver D A (fun x : Nat × Nat × (Nat → Int32) × (Nat → Int32) => [(h0, .inr (10, [.ref x.1, .ref x.2.1, .ref h_missing])), (x.1, .inl (cI, 81, .inl x.2.2.1)), (x.2.1, .inl (cI, 81, .inl x.2.2.2)), (h_a1, .inr (8, [.int v_a1_tones, .int v_a1_a, .int v_a1_b, .int v_a1_c, .int v_a1_d, .int v_a1_odds, .int v_a1_lines, .ref h_a1_signs, .int v_a1_signCount, .ref h_a1_posts, .int v_a1_postCount, .ref h_a1_acts])), (h_a1_signs, .inl (cI, 8, .inl f_a1_signs))]) (fun x : Nat × Nat × (Nat → Int32) × (Nat → Int32) => True) Q) :
    ∀ (N : Nat) (g79_spentNext : Nat → Int32) (l79_8 : Int32) (H : Heap) (locs : List Loc) (ls : Array Slot), 0 ≤ l79_8.toInt → (v_a1_tones.toInt - l79_8.toInt).toNat < N → va_P D vwCl [(h0, .inr (10, [.ref h_spent, .ref h_spentNext, .ref h_missing])), (h_spent, .inl (cI, 81, .inl f_spent)), (h_spentNext, .inl (cI, 81, .inl g79_spentNext)), (h_a1, .inr (8, [.int v_a1_tones, .int v_a1_a, .int v_a1_b, .int v_a1_c, .int v_a1_d, .int v_a1_odds, .int v_a1_lines, .ref h_a1_signs, .int v_a1_signCount, .ref h_a1_posts, .int v_a1_postCount, .ref h_a1_acts])), (h_a1_signs, .inl (cI, 8, .inl f_a1_signs))] H → va_D A [(h0, .inr (10, [.ref h_spent, .ref h_spentNext, .ref h_missing])), (h_spent, .inl (cI, 81, .inl f_spent)), (h_spentNext, .inl (cI, 81, .inl g79_spentNext)), (h_a1, .inr (8, [.int v_a1_tones, .int v_a1_a, .int v_a1_b, .int v_a1_c, .int v_a1_d, .int v_a1_odds, .int v_a1_lines, .ref h_a1_signs, .int v_a1_signCount, .ref h_a1_posts, .int v_a1_postCount, .ref h_a1_acts])), (h_a1_signs, .inl (cI, 8, .inl f_a1_signs))] → va_S A s.heap H locs → lv_has ls 10 [(8, .int l79_8), (7, .int t_18), (6, .int l36_6), (5, .int 1), (4, .int r_1), (0, .ref h0), (1, .ref h_a1), (2, .int v2)] → W p l e ({ frames := 3, cells := 0, slots := 0, locals := 70 }) s m args below meth c H locs 0 0 Q (F0 m 79 ls []) := by
  obtain ⟨hx, hb, hml, hown, hts, hK, hN, hT⟩ := id C
  intro N
  induction N with
  | zero =>
    intro g79_spentNext l79_8 H locs ls kl79_8 hM_79 hP hD hS hl
    omega
  | succ N_79 ih_79 =>
    intro g79_spentNext l79_8 H locs ls kl79_8 hM_79 hP hD hS hl
    have b_l79_8 := i32b l79_8
    refine lv_iload hx hb dX10_walkOver_79 (lv_at hl 0 rfl) ?_
    refine lv_aload_n hx hb dX10_walkOver_81 rfl (lv_at hl 6 rfl) ?_
    refine roi (As := []) (rest := [.int l79_8]) ⟨hx, hb, hml, hown, hts⟩ (b_X8_tones l G D cB cI cJ cZ cS cT h_a1 v_a1_tones v_a1_a v_a1_b v_a1_c v_a1_d v_a1_odds v_a1_lines h_a1_signs v_a1_signCount h_a1_posts v_a1_postCount h_a1_acts (by first | assumption | omega | decide) (by first | assumption | omega | decide)) (cvB (n := 0) (inr41 _ (List.mem_of_getElem? (i := 18) rfl)) (inr15 _ (List.mem_of_getElem? (i := 14) rfl)) (inr15 _ (List.mem_of_getElem? (i := 15) rfl)) (inr1 _ (List.mem_of_getElem? (i := 23) rfl)) (inr15 _ (List.mem_of_getElem? (i := 16) rfl)) (by decide +kernel) hts rfl rfl ⟨Nat.le_of_ble_eq_true rfl, Nat.le_of_ble_eq_true rfl⟩) 0 8 rfl rfl rfl (hP.sub [3] rfl) hK hN (kT.to hT hS hAB) rfl hl.1 rfl (Nat.le_of_ble_eq_true rfl) ⟨Nat.le_of_ble_eq_true rfl, Nat.le_of_ble_eq_true rfl⟩ dX10_walkOver_82 (fun r_19 h_20 => ?_)
    have h_20 : (r_19 = v_a1_tones) := h_20
    have i_21 := h_20
    obtain rfl := i_21.symm
    refine lv_icmp_ge (tgt := 116) hx hb dX10_walkOver_85 (by decide) (fun c_22 => ?_) (fun c_22 => ?_)
    · have c_22 : v_a1_tones.toInt ≤ l79_8.toInt := ci_ge_t c_22
      have b_v_a1_tones := i32b v_a1_tones
      refine lv_iconst (v := 0) hx hb dX10_walkOver_116 (by decide) ?_
      refine lv_istore (lv' := [(8, .int 0), (7, .int t_18), (6, .int l36_6), (5, .int 1), (4, .int r_1), (0, .ref h0), (1, .ref h_a1), (2, .int v2)]) hx hb dX10_walkOver_117 hl (by decide) rfl (fun ls hl => ?_)
      exact b_X10_walkOver_l119 h0 h_spent h_spentNext h_missing f_spent h_a1 v_a1_tones v_a1_a v_a1_b v_a1_c v_a1_d v_a1_odds v_a1_lines h_a1_signs v_a1_signCount h_a1_posts v_a1_postCount h_a1_acts f_a1_signs v2 l36_6 r_1 g36_spentNext g79_spentNext l79_8 t_18 N_36 N_79 (by first | assumption | omega | decide) (by first | assumption | omega | decide) (by first | assumption | omega | decide) (by first | assumption | omega | decide) (by first | assumption | omega | decide) (by first | assumption | omega | decide) (by first | assumption | omega | decide) (by first | assumption | omega | decide) (by first | assumption | omega | decide) (by first | assumption | omega | decide) (by first | assumption | omega | decide) (by first | assumption | omega | decide) (by first | assumption | omega | decide) (by first | assumption | omega | decide) C hG hAB hA ret _ (g79_spentNext) (0) _ _ _ (by first | assumption | omega | decide) (Nat.lt_succ_self _) (hP.sub [0, 1, 2, 3, 4] rfl) (hD.sub [0, 1, 2, 3, 4] (by decide) rfl) hS (lv_sub hl [0, 2, 3, 4, 5, 6, 7] rfl)
    · have c_22 : l79_8.toInt < v_a1_tones.toInt := ci_ge_f c_22
      have b_v_a1_tones := i32b v_a1_tones
      refine lv_aload_n hx hb dX10_walkOver_88 rfl (lv_at hl 5 rfl) ?_
      refine va_get (D := D) (ci := 10) (v := .ref h_spentNext) (C := RX10) (T := TX10) (N := 3) hx hb hts inlX10 hown hK hP 0 rfl rfl 1 (by decide) (hts _ (inr5 _ (List.mem_of_getElem? (i := 18) rfl))) (fun _ h9 => h9) rfl dX10_walkOver_89 ?_
      refine lv_iload hx hb dX10_walkOver_92 (lv_at hl 4 rfl) ?_
      refine lv_iload hx hb dX10_walkOver_94 (lv_at hl 2 rfl) ?_
      refine lv_iload hx hb dX10_walkOver_96 (lv_at hl 0 rfl) ?_
      refine rosi (As := [.int r_1, .int l36_6, .int l79_8]) (rest := [.ref h_spentNext]) ⟨hx, hb, hml, hown, hts⟩ (b_X10_stateOf l G D cB cI cJ cZ cS cT r_1 l36_6 l79_8 ) (csB (n := 3) (inr41 _ (List.mem_of_getElem? (i := 22) rfl)) (inr41 _ (List.mem_of_getElem? (i := 23) rfl)) (inr2 _ (List.mem_of_getElem? (i := 20) rfl)) (inr42 _ (List.mem_of_getElem? (i := 0) rfl)) (by decide +kernel) hts rfl rfl ⟨Nat.le_of_ble_eq_true rfl, Nat.le_of_ble_eq_true rfl⟩) (hP.sub [] rfl) hK hN (kT.to hT hS hAB) rfl hl.1 rfl (Nat.le_of_ble_eq_true rfl) ⟨Nat.le_of_ble_eq_true rfl, Nat.le_of_ble_eq_true rfl⟩ dX10_walkOver_98 (fun r_23 h_24 => ?_)
      have h_24 : (0 ≤ r_23.toInt ∧ r_23.toInt ≤ 80) := h_24
      have i_25 := h_24
      refine lv_iload hx hb dX10_walkOver_101 (lv_at hl 1 rfl) ?_
      refine lv_sipush (v := 1000) hx hb dX10_walkOver_103 (by decide) ?_
      refine va_mmin hx hb (by rw [hml]; exact hl.1.symm) hown (hts _ (inr41 _ (List.mem_of_getElem? (i := 16) rfl))) (hts _ (inr18 _ (List.mem_of_getElem? (i := 11) rfl))) (hts _ (inr18 _ (List.mem_of_getElem? (i := 12) rfl))) (hts _ (inr18 _ (List.mem_of_getElem? (i := 13) rfl))) (Nat.le_of_ble_eq_true rfl) (Nat.le_of_ble_eq_true rfl) (Nat.le_of_ble_eq_true rfl) (Nat.le_of_ble_eq_true rfl) dX10_walkOver_106 ?_
      refine lv_topi (fun t_26 et_26 => ?_)
      have b_t_18 := i32b t_18
      have ft_26 : t_26.toInt ≤ t_18.toInt ∧ t_26.toInt ≤ 1000 ∧ (t_26.toInt = t_18.toInt ∨ t_26.toInt = 1000) := minT et_26
      refine va_iast hx hb hK hP hD hS 2 1 rfl rfl (vin_nat (by omega) (by omega)) dX10_walkOver_109 (fun H locs hP hD hS => ?_)
      have hP : va_P D vwCl [(h0, .inr (10, [.ref h_spent, .ref h_spentNext, .ref h_missing])), (h_spent, .inl (cI, 81, .inl f_spent)), (h_spentNext, .inl (cI, 81, .inl (upd g79_spentNext (r_23 : Int32).toNatClampNeg t_26))), (h_a1, .inr (8, [.int v_a1_tones, .int v_a1_a, .int v_a1_b, .int v_a1_c, .int v_a1_d, .int v_a1_odds, .int v_a1_lines, .ref h_a1_signs, .int v_a1_signCount, .ref h_a1_posts, .int v_a1_postCount, .ref h_a1_acts])), (h_a1_signs, .inl (cI, 8, .inl f_a1_signs))] H := hP
      have hD : va_D A [(h0, .inr (10, [.ref h_spent, .ref h_spentNext, .ref h_missing])), (h_spent, .inl (cI, 81, .inl f_spent)), (h_spentNext, .inl (cI, 81, .inl (upd g79_spentNext (r_23 : Int32).toNatClampNeg t_26))), (h_a1, .inr (8, [.int v_a1_tones, .int v_a1_a, .int v_a1_b, .int v_a1_c, .int v_a1_d, .int v_a1_odds, .int v_a1_lines, .ref h_a1_signs, .int v_a1_signCount, .ref h_a1_posts, .int v_a1_postCount, .ref h_a1_acts])), (h_a1_signs, .inl (cI, 8, .inl f_a1_signs))] := hD
      obtain ⟨g_27, eg_27⟩ : ∃ v9 : Nat → Int32, (upd g79_spentNext (r_23 : Int32).toNatClampNeg t_26) = v9 := ⟨_, rfl⟩
      rw [eg_27] at hP hD
      have hP : va_P D vwCl [(h0, .inr (10, [.ref h_spent, .ref h_spentNext, .ref h_missing])), (h_spent, .inl (cI, 81, .inl f_spent)), (h_spentNext, .inl (cI, 81, .inl g_27)), (h_a1, .inr (8, [.int v_a1_tones, .int v_a1_a, .int v_a1_b, .int v_a1_c, .int v_a1_d, .int v_a1_odds, .int v_a1_lines, .ref h_a1_signs, .int v_a1_signCount, .ref h_a1_posts, .int v_a1_postCount, .ref h_a1_acts])), (h_a1_signs, .inl (cI, 8, .inl f_a1_signs))] H := hP
      have hD : va_D A [(h0, .inr (10, [.ref h_spent, .ref h_spentNext, .ref h_missing])), (h_spent, .inl (cI, 81, .inl f_spent)), (h_spentNext, .inl (cI, 81, .inl g_27)), (h_a1, .inr (8, [.int v_a1_tones, .int v_a1_a, .int v_a1_b, .int v_a1_c, .int v_a1_d, .int v_a1_odds, .int v_a1_lines, .ref h_a1_signs, .int v_a1_signCount, .ref h_a1_posts, .int v_a1_postCount, .ref h_a1_acts])), (h_a1_signs, .inl (cI, 8, .inl f_a1_signs))] := hD
      obtain ⟨t_28, et_28⟩ : ∃ v9 : Int32, l79_8 + 1 = v9 := ⟨_, rfl⟩
      have ft_28 : t_28.toInt = l79_8.toInt + 1 := addT (a := l79_8.toInt) (b := 1) rfl (by decide) et_28 (by omega) (by omega)
      refine lv_iinc (v := t_28) (lv' := [(8, .int t_28), (7, .int t_18), (6, .int l36_6), (5, .int 1), (4, .int r_1), (0, .ref h0), (1, .ref h_a1), (2, .int v2)]) hx hb dX10_walkOver_110 hl (k := 0) rfl (by rw [← et_28]; rfl) (by decide) rfl (fun ls hl => ?_)
      refine lv_goto (tgt := 79) hx hb dX10_walkOver_113 (by decide) ?_
      exact ih_79 (g_27) (t_28) _ _ _ (by first | assumption | omega | decide) (by omega) (hP.sub [0, 1, 2, 3, 4] rfl) (hD.sub [0, 1, 2, 3, 4] (by decide) rfl) hS (lv_sub hl [0, 1, 2, 3, 4, 5, 6, 7] rfl)

set_option maxHeartbeats 4000000 in
set_option maxRecDepth 100000 in
theorem b_X10_walkOver_l36 {p : Program} {l : Launch} {e : Env} {s : State} {m : MethodId} {args : Array Value} {below : List Frame} {meth : Method} {c : Code} {Q : State → Prop} {G : Gho} {D : va_G} {cB cI cJ cZ cS cT : ClassId} {A : Nat → Prop} (h0 : Nat) (h_spent : Nat) (h_spentNext : Nat) (h_missing : Nat) (f_spent : Nat → Int32) (h_a1 : Nat) (v_a1_tones : Int32) (v_a1_a : Int32) (v_a1_b : Int32) (v_a1_c : Int32) (v_a1_d : Int32) (v_a1_odds : Int32) (v_a1_lines : Int32) (h_a1_signs : Nat) (v_a1_signCount : Int32) (h_a1_posts : Nat) (v_a1_postCount : Int32) (h_a1_acts : Nat) (f_a1_signs : Nat → Int32) (v2 : Int32) (r_1 : Int32) (iv_a1_signCount : 0 ≤ v_a1_signCount.toInt ∧ v_a1_signCount.toInt ≤ 8) (iv_a1_postCount : 0 ≤ v_a1_postCount.toInt ∧ v_a1_postCount.toInt ≤ 5) (zr_1 : 1 ≤ r_1.toInt ∧ r_1.toInt ≤ 1) (c_4 : ¬ r_1.toInt = 0) (C : Cx p s m args c RX10 cX10_walkOver 10 G D (tyL cB cI cJ cZ cS cT)) (hG : G.1 ≤ s.heap.size) (hAB : ∀ q, A q → G.1 ≤ q) (hA : ∀ q : Nat, s.heap.size ≤ q → A q) (ret : RetV p l e ({ frames := 3, cells := 0, slots := 0, locals := 70 }) s m args below meth c cX10_walkOver D A (fun x : Nat × Nat × (Nat → Int32) × (Nat → Int32) => [(h0, .inr (10, [.ref x.1, .ref x.2.1, .ref h_missing])), (x.1, .inl (cI, 81, .inl x.2.2.1)), (x.2.1, .inl (cI, 81, .inl x.2.2.2)), (h_a1, .inr (8, [.int v_a1_tones, .int v_a1_a, .int v_a1_b, .int v_a1_c, .int v_a1_d, .int v_a1_odds, .int v_a1_lines, .ref h_a1_signs, .int v_a1_signCount, .ref h_a1_posts, .int v_a1_postCount, .ref h_a1_acts])), (h_a1_signs, .inl (cI, 8, .inl f_a1_signs))]) (fun x : Nat × Nat × (Nat → Int32) × (Nat → Int32) => True) Q) :
    ∀ (N : Nat) (g36_spentNext : Nat → Int32) (l36_6 : Int32) (H : Heap) (locs : List Loc) (ls : Array Slot), 0 ≤ l36_6.toInt → (v_a1_tones.toInt - l36_6.toInt).toNat < N → va_P D vwCl [(h0, .inr (10, [.ref h_spent, .ref h_spentNext, .ref h_missing])), (h_spent, .inl (cI, 81, .inl f_spent)), (h_spentNext, .inl (cI, 81, .inl g36_spentNext)), (h_a1, .inr (8, [.int v_a1_tones, .int v_a1_a, .int v_a1_b, .int v_a1_c, .int v_a1_d, .int v_a1_odds, .int v_a1_lines, .ref h_a1_signs, .int v_a1_signCount, .ref h_a1_posts, .int v_a1_postCount, .ref h_a1_acts])), (h_a1_signs, .inl (cI, 8, .inl f_a1_signs))] H → va_D A [(h0, .inr (10, [.ref h_spent, .ref h_spentNext, .ref h_missing])), (h_spent, .inl (cI, 81, .inl f_spent)), (h_spentNext, .inl (cI, 81, .inl g36_spentNext)), (h_a1, .inr (8, [.int v_a1_tones, .int v_a1_a, .int v_a1_b, .int v_a1_c, .int v_a1_d, .int v_a1_odds, .int v_a1_lines, .ref h_a1_signs, .int v_a1_signCount, .ref h_a1_posts, .int v_a1_postCount, .ref h_a1_acts])), (h_a1_signs, .inl (cI, 8, .inl f_a1_signs))] → va_S A s.heap H locs → lv_has ls 10 [(6, .int l36_6), (5, .int 1), (4, .int r_1), (0, .ref h0), (1, .ref h_a1), (2, .int v2)] → W p l e ({ frames := 3, cells := 0, slots := 0, locals := 70 }) s m args below meth c H locs 0 0 Q (F0 m 36 ls []) := by
  obtain ⟨hx, hb, hml, hown, hts, hK, hN, hT⟩ := id C
  intro N
  induction N with
  | zero =>
    intro g36_spentNext l36_6 H locs ls kl36_6 hM_36 hP hD hS hl
    omega
  | succ N_36 ih_36 =>
    intro g36_spentNext l36_6 H locs ls kl36_6 hM_36 hP hD hS hl
    have b_l36_6 := i32b l36_6
    refine lv_iload hx hb dX10_walkOver_36 (lv_at hl 0 rfl) ?_
    refine lv_aload_n hx hb dX10_walkOver_38 rfl (lv_at hl 4 rfl) ?_
    refine roi (As := []) (rest := [.int l36_6]) ⟨hx, hb, hml, hown, hts⟩ (b_X8_tones l G D cB cI cJ cZ cS cT h_a1 v_a1_tones v_a1_a v_a1_b v_a1_c v_a1_d v_a1_odds v_a1_lines h_a1_signs v_a1_signCount h_a1_posts v_a1_postCount h_a1_acts (by first | assumption | omega | decide) (by first | assumption | omega | decide)) (cvB (n := 0) (inr41 _ (List.mem_of_getElem? (i := 18) rfl)) (inr15 _ (List.mem_of_getElem? (i := 14) rfl)) (inr15 _ (List.mem_of_getElem? (i := 15) rfl)) (inr1 _ (List.mem_of_getElem? (i := 23) rfl)) (inr15 _ (List.mem_of_getElem? (i := 16) rfl)) (by decide +kernel) hts rfl rfl ⟨Nat.le_of_ble_eq_true rfl, Nat.le_of_ble_eq_true rfl⟩) 0 8 rfl rfl rfl (hP.sub [3] rfl) hK hN (kT.to hT hS hAB) rfl hl.1 rfl (Nat.le_of_ble_eq_true rfl) ⟨Nat.le_of_ble_eq_true rfl, Nat.le_of_ble_eq_true rfl⟩ dX10_walkOver_39 (fun r_9 h_10 => ?_)
    have h_10 : (r_9 = v_a1_tones) := h_10
    have i_11 := h_10
    obtain rfl := i_11.symm
    refine lv_icmp_ge (tgt := 191) hx hb dX10_walkOver_42 (by decide) (fun c_12 => ?_) (fun c_12 => ?_)
    · have c_12 : v_a1_tones.toInt ≤ l36_6.toInt := ci_ge_t c_12
      have b_v_a1_tones := i32b v_a1_tones
      refine lv_aload_n hx hb dX10_walkOver_191 rfl (lv_at hl 3 rfl) ?_
      refine va_get (D := D) (ci := 10) (v := .ref h_spent) (C := RX10) (T := TX10) (N := 3) hx hb hts inlX10 hown hK hP 0 rfl rfl 0 (by decide) (hts _ (inr5 _ (List.mem_of_getElem? (i := 17) rfl))) (fun _ h9 => h9) rfl dX10_walkOver_192 ?_
      refine lv_astore (lv' := [(6, .ref h_spent), (5, .int 1), (4, .int r_1), (0, .ref h0), (1, .ref h_a1), (2, .int v2)]) hx hb dX10_walkOver_195 hl (by decide) rfl (fun ls hl => ?_)
      refine lv_aload_n hx hb dX10_walkOver_197 rfl (lv_at hl 3 rfl) ?_
      refine lv_aload_n hx hb dX10_walkOver_198 rfl (lv_at hl 3 rfl) ?_
      refine va_get (D := D) (ci := 10) (v := .ref h_spentNext) (C := RX10) (T := TX10) (N := 3) hx hb hts inlX10 hown hK hP 0 rfl rfl 1 (by decide) (hts _ (inr5 _ (List.mem_of_getElem? (i := 18) rfl))) (fun _ h9 => h9) rfl dX10_walkOver_199 ?_
      refine va_put (D := D) (ci := 10) (v := .ref h_spentNext) (ty := .array .int) (C := RX10) (T := TX10) (N := 3) hx hb hts inlX10 tyX10 tyX10_ok nmX10 hown hK hP hD hS 0 rfl rfl 0 (by decide) (hts _ (inr5 _ (List.mem_of_getElem? (i := 17) rfl))) (fun _ h9 => h9) rfl (by decide +kernel) rfl rfl (Nat.le_of_ble_eq_true rfl) dX10_walkOver_202 (fun H locs hP hD hS => ?_)
      have hP : va_P D vwCl [(h0, .inr (10, [.ref h_spentNext, .ref h_spentNext, .ref h_missing])), (h_spent, .inl (cI, 81, .inl f_spent)), (h_spentNext, .inl (cI, 81, .inl g36_spentNext)), (h_a1, .inr (8, [.int v_a1_tones, .int v_a1_a, .int v_a1_b, .int v_a1_c, .int v_a1_d, .int v_a1_odds, .int v_a1_lines, .ref h_a1_signs, .int v_a1_signCount, .ref h_a1_posts, .int v_a1_postCount, .ref h_a1_acts])), (h_a1_signs, .inl (cI, 8, .inl f_a1_signs))] H := hP
      have hD : va_D A [(h0, .inr (10, [.ref h_spentNext, .ref h_spentNext, .ref h_missing])), (h_spent, .inl (cI, 81, .inl f_spent)), (h_spentNext, .inl (cI, 81, .inl g36_spentNext)), (h_a1, .inr (8, [.int v_a1_tones, .int v_a1_a, .int v_a1_b, .int v_a1_c, .int v_a1_d, .int v_a1_odds, .int v_a1_lines, .ref h_a1_signs, .int v_a1_signCount, .ref h_a1_posts, .int v_a1_postCount, .ref h_a1_acts])), (h_a1_signs, .inl (cI, 8, .inl f_a1_signs))] := hD
      refine lv_aload_n hx hb dX10_walkOver_205 rfl (lv_at hl 3 rfl) ?_
      refine lv_aload hx hb dX10_walkOver_206 (lv_at hl 0 rfl) ?_
      refine va_put (D := D) (ci := 10) (v := .ref h_spent) (ty := .array .int) (C := RX10) (T := TX10) (N := 3) hx hb hts inlX10 tyX10 tyX10_ok nmX10 hown hK hP hD hS 0 rfl rfl 1 (by decide) (hts _ (inr5 _ (List.mem_of_getElem? (i := 18) rfl))) (fun _ h9 => h9) rfl (by decide +kernel) rfl rfl (Nat.le_of_ble_eq_true rfl) dX10_walkOver_208 (fun H locs hP hD hS => ?_)
      have hP : va_P D vwCl [(h0, .inr (10, [.ref h_spentNext, .ref h_spent, .ref h_missing])), (h_spent, .inl (cI, 81, .inl f_spent)), (h_spentNext, .inl (cI, 81, .inl g36_spentNext)), (h_a1, .inr (8, [.int v_a1_tones, .int v_a1_a, .int v_a1_b, .int v_a1_c, .int v_a1_d, .int v_a1_odds, .int v_a1_lines, .ref h_a1_signs, .int v_a1_signCount, .ref h_a1_posts, .int v_a1_postCount, .ref h_a1_acts])), (h_a1_signs, .inl (cI, 8, .inl f_a1_signs))] H := hP
      have hD : va_D A [(h0, .inr (10, [.ref h_spentNext, .ref h_spent, .ref h_missing])), (h_spent, .inl (cI, 81, .inl f_spent)), (h_spentNext, .inl (cI, 81, .inl g36_spentNext)), (h_a1, .inr (8, [.int v_a1_tones, .int v_a1_a, .int v_a1_b, .int v_a1_c, .int v_a1_d, .int v_a1_odds, .int v_a1_lines, .ref h_a1_signs, .int v_a1_signCount, .ref h_a1_posts, .int v_a1_postCount, .ref h_a1_acts])), (h_a1_signs, .inl (cI, 8, .inl f_a1_signs))] := hD
      exact ret _ _ _ _ (h_spentNext, h_spent, g36_spentNext, f_spent) dX10_walkOver_211 trivial (hP.sub [0, 2, 1, 3, 4] rfl) (hD.sub [0, 2, 1, 3, 4] (by decide) rfl) hS
    · have c_12 : l36_6.toInt < v_a1_tones.toInt := ci_ge_f c_12
      have b_v_a1_tones := i32b v_a1_tones
      refine lv_iload hx hb dX10_walkOver_45 (lv_at hl 1 rfl) ?_
      refine lv_if_eq (tgt := 71) hx hb dX10_walkOver_47 (by decide) (fun c0 => absurd c0 (by decide)) (fun _ => ?_)
      refine lv_aload_n hx hb dX10_walkOver_50 rfl (lv_at hl 3 rfl) ?_
      refine va_get (D := D) (ci := 10) (v := .ref h_spent) (C := RX10) (T := TX10) (N := 3) hx hb hts inlX10 hown hK hP 0 rfl rfl 0 (by decide) (hts _ (inr5 _ (List.mem_of_getElem? (i := 17) rfl))) (fun _ h9 => h9) rfl dX10_walkOver_51 ?_
      refine lv_iconst (v := 0) hx hb dX10_walkOver_54 (by decide) ?_
      refine lv_aload_n hx hb dX10_walkOver_55 rfl (lv_at hl 4 rfl) ?_
      refine roi (As := []) (rest := [.int 0, .ref h_spent]) ⟨hx, hb, hml, hown, hts⟩ (b_X8_tones l G D cB cI cJ cZ cS cT h_a1 v_a1_tones v_a1_a v_a1_b v_a1_c v_a1_d v_a1_odds v_a1_lines h_a1_signs v_a1_signCount h_a1_posts v_a1_postCount h_a1_acts (by first | assumption | omega | decide) (by first | assumption | omega | decide)) (cvB (n := 0) (inr41 _ (List.mem_of_getElem? (i := 18) rfl)) (inr15 _ (List.mem_of_getElem? (i := 14) rfl)) (inr15 _ (List.mem_of_getElem? (i := 15) rfl)) (inr1 _ (List.mem_of_getElem? (i := 23) rfl)) (inr15 _ (List.mem_of_getElem? (i := 16) rfl)) (by decide +kernel) hts rfl rfl ⟨Nat.le_of_ble_eq_true rfl, Nat.le_of_ble_eq_true rfl⟩) 0 8 rfl rfl rfl (hP.sub [3] rfl) hK hN (kT.to hT hS hAB) rfl hl.1 rfl (Nat.le_of_ble_eq_true rfl) ⟨Nat.le_of_ble_eq_true rfl, Nat.le_of_ble_eq_true rfl⟩ dX10_walkOver_56 (fun r_13 h_14 => ?_)
      have h_14 : (r_13 = v_a1_tones) := h_14
      have i_15 := h_14
      obtain rfl := i_15.symm
      refine lv_iload hx hb dX10_walkOver_59 (lv_at hl 2 rfl) ?_
      refine lv_iload hx hb dX10_walkOver_61 (lv_at hl 0 rfl) ?_
      refine rosi (As := [.ref h_spent, .int 0, .int v_a1_tones, .int r_1, .int l36_6]) (rest := []) ⟨hx, hb, hml, hown, hts⟩ (b_X10_cheapest l G D cB cI cJ cZ cS cT h_spent f_spent 81 0 v_a1_tones r_1 l36_6 (by first | assumption | omega | decide)) (csB (n := 5) (inr41 _ (List.mem_of_getElem? (i := 19) rfl)) (inr41 _ (List.mem_of_getElem? (i := 20) rfl)) (inr2 _ (List.mem_of_getElem? (i := 20) rfl)) (inr41 _ (List.mem_of_getElem? (i := 21) rfl)) (by decide +kernel) hts rfl rfl ⟨Nat.le_of_ble_eq_true rfl, Nat.le_of_ble_eq_true rfl⟩) (hP.sub [1] rfl) hK hN (kT.to hT hS hAB) rfl hl.1 rfl (Nat.le_of_ble_eq_true rfl) ⟨Nat.le_of_ble_eq_true rfl, Nat.le_of_ble_eq_true rfl⟩ dX10_walkOver_63 (fun r_16 h_17 => ?_)
      refine lv_iconst (v := 1) hx hb dX10_walkOver_66 (by decide) ?_
      obtain ⟨t_18, et_18⟩ : ∃ v9 : Int32, r_16 + 1 = v9 := ⟨_, rfl⟩
      refine z_iadd (v := t_18) hx hb dX10_walkOver_67 et_18 ?_
      refine lv_goto (tgt := 74) hx hb dX10_walkOver_68 (by decide) ?_
      refine lv_istore (lv' := [(7, .int t_18), (6, .int l36_6), (5, .int 1), (4, .int r_1), (0, .ref h0), (1, .ref h_a1), (2, .int v2)]) hx hb dX10_walkOver_74 hl (by decide) rfl (fun ls hl => ?_)
      refine lv_iconst (v := 0) hx hb dX10_walkOver_76 (by decide) ?_
      refine lv_istore (lv' := [(8, .int 0), (7, .int t_18), (6, .int l36_6), (5, .int 1), (4, .int r_1), (0, .ref h0), (1, .ref h_a1), (2, .int v2)]) hx hb dX10_walkOver_77 hl (by decide) rfl (fun ls hl => ?_)
      exact b_X10_walkOver_l79 h0 h_spent h_spentNext h_missing f_spent h_a1 v_a1_tones v_a1_a v_a1_b v_a1_c v_a1_d v_a1_odds v_a1_lines h_a1_signs v_a1_signCount h_a1_posts v_a1_postCount h_a1_acts f_a1_signs v2 t_18 l36_6 r_1 g36_spentNext N_36 (by first | assumption | omega | decide) (by first | assumption | omega | decide) (by first | assumption | omega | decide) (by first | assumption | omega | decide) (by first | assumption | omega | decide) (by first | assumption | omega | decide) (by first | assumption | omega | decide) (by first | assumption | omega | decide) (by first | assumption | omega | decide) (by first | assumption | omega | decide) C hG hAB hA ret _ (g36_spentNext) (0) _ _ _ (by first | assumption | omega | decide) (Nat.lt_succ_self _) (hP.sub [0, 1, 2, 3, 4] rfl) (hD.sub [0, 1, 2, 3, 4] (by decide) rfl) hS (lv_sub hl [0, 1, 2, 3, 4, 5, 6, 7] rfl)

set_option maxHeartbeats 4000000 in
set_option maxRecDepth 100000 in
theorem b_X10_walkOver_l119x {p : Program} {l : Launch} {e : Env} {s : State} {m : MethodId} {args : Array Value} {below : List Frame} {meth : Method} {c : Code} {Q : State → Prop} {G : Gho} {D : va_G} {cB cI cJ cZ cS cT : ClassId} {A : Nat → Prop} (h0 : Nat) (h_spent : Nat) (h_spentNext : Nat) (h_missing : Nat) (f_spent : Nat → Int32) (h_a1 : Nat) (v_a1_tones : Int32) (v_a1_a : Int32) (v_a1_b : Int32) (v_a1_c : Int32) (v_a1_d : Int32) (v_a1_odds : Int32) (v_a1_lines : Int32) (h_a1_signs : Nat) (v_a1_signCount : Int32) (h_a1_posts : Nat) (v_a1_postCount : Int32) (h_a1_acts : Nat) (f_a1_signs : Nat → Int32) (v2 : Int32) (l36_6 : Int32) (r_1 : Int32) (g36_spentNext : Nat → Int32) (g79_spentNext : Nat → Int32) (l79_8 : Int32) (N_36 : Nat) (N_79 : Nat) (iv_a1_signCount : 0 ≤ v_a1_signCount.toInt ∧ v_a1_signCount.toInt ≤ 8) (iv_a1_postCount : 0 ≤ v_a1_postCount.toInt ∧ v_a1_postCount.toInt ≤ 5) (zv_a1_tones : 1 ≤ v_a1_tones.toInt ∧ v_a1_tones.toInt ≤ 2147483647) (zl36_6 : 0 ≤ l36_6.toInt ∧ l36_6.toInt ≤ 2147483646) (zr_1 : 0 ≤ r_1.toInt ∧ r_1.toInt ≤ 0) (c_4 : r_1.toInt = 0) (kl36_6 : 0 ≤ l36_6.toInt) (c_17 : l36_6.toInt < v_a1_tones.toInt) (kl79_8 : 0 ≤ l79_8.toInt) (c_21 : v_a1_tones.toInt ≤ l79_8.toInt) (ih_36 : ∀ (g36_spentNext : Nat → Int32) (l36_6 : Int32) (H : Heap) (locs : List Loc) (ls : Array Slot), 0 ≤ l36_6.toInt → (v_a1_tones.toInt - l36_6.toInt).toNat < N_36 → va_P D vwCl [(h0, .inr (10, [.ref h_spent, .ref h_spentNext, .ref h_missing])), (h_spent, .inl (cI, 81, .inl f_spent)), (h_spentNext, .inl (cI, 81, .inl g36_spentNext)), (h_a1, .inr (8, [.int v_a1_tones, .int v_a1_a, .int v_a1_b, .int v_a1_c, .int v_a1_d, .int v_a1_odds, .int v_a1_lines, .ref h_a1_signs, .int v_a1_signCount, .ref h_a1_posts, .int v_a1_postCount, .ref h_a1_acts])), (h_a1_signs, .inl (cI, 8, .inl f_a1_signs))] H → va_D A [(h0, .inr (10, [.ref h_spent, .ref h_spentNext, .ref h_missing])), (h_spent, .inl (cI, 81, .inl f_spent)), (h_spentNext, .inl (cI, 81, .inl g36_spentNext)), (h_a1, .inr (8, [.int v_a1_tones, .int v_a1_a, .int v_a1_b, .int v_a1_c, .int v_a1_d, .int v_a1_odds, .int v_a1_lines, .ref h_a1_signs, .int v_a1_signCount, .ref h_a1_posts, .int v_a1_postCount, .ref h_a1_acts])), (h_a1_signs, .inl (cI, 8, .inl f_a1_signs))] → va_S A s.heap H locs → lv_has ls 10 [(6, .int l36_6), (5, .int 0), (4, .int r_1), (0, .ref h0), (1, .ref h_a1), (2, .int v2)] → W p l e ({ frames := 3, cells := 0, slots := 0, locals := 70 }) s m args below meth c H locs 0 0 Q (F0 m 36 ls [])) (hM_36 : (v_a1_tones.toInt - l36_6.toInt).toNat < N_36 + 1) (ih_79 : ∀ (g79_spentNext : Nat → Int32) (l79_8 : Int32) (H : Heap) (locs : List Loc) (ls : Array Slot), 0 ≤ l79_8.toInt → (v_a1_tones.toInt - l79_8.toInt).toNat < N_79 → va_P D vwCl [(h0, .inr (10, [.ref h_spent, .ref h_spentNext, .ref h_missing])), (h_spent, .inl (cI, 81, .inl f_spent)), (h_spentNext, .inl (cI, 81, .inl g79_spentNext)), (h_a1, .inr (8, [.int v_a1_tones, .int v_a1_a, .int v_a1_b, .int v_a1_c, .int v_a1_d, .int v_a1_odds, .int v_a1_lines, .ref h_a1_signs, .int v_a1_signCount, .ref h_a1_posts, .int v_a1_postCount, .ref h_a1_acts])), (h_a1_signs, .inl (cI, 8, .inl f_a1_signs))] H → va_D A [(h0, .inr (10, [.ref h_spent, .ref h_spentNext, .ref h_missing])), (h_spent, .inl (cI, 81, .inl f_spent)), (h_spentNext, .inl (cI, 81, .inl g79_spentNext)), (h_a1, .inr (8, [.int v_a1_tones, .int v_a1_a, .int v_a1_b, .int v_a1_c, .int v_a1_d, .int v_a1_odds, .int v_a1_lines, .ref h_a1_signs, .int v_a1_signCount, .ref h_a1_posts, .int v_a1_postCount, .ref h_a1_acts])), (h_a1_signs, .inl (cI, 8, .inl f_a1_signs))] → va_S A s.heap H locs → lv_has ls 10 [(8, .int l79_8), (7, .int 1000), (6, .int l36_6), (5, .int 0), (4, .int r_1), (0, .ref h0), (1, .ref h_a1), (2, .int v2)] → W p l e ({ frames := 3, cells := 0, slots := 0, locals := 70 }) s m args below meth c H locs 0 0 Q (F0 m 79 ls [])) (hM_79 : (v_a1_tones.toInt - l79_8.toInt).toNat < N_79 + 1) (C : Cx p s m args c RX10 cX10_walkOver 10 G D (tyL cB cI cJ cZ cS cT)) (hG : G.1 ≤ s.heap.size) (hAB : ∀ q, A q → G.1 ≤ q) (hA : ∀ q : Nat, s.heap.size ≤ q → A q) (ret : RetV p l e ({ frames := 3, cells := 0, slots := 0, locals := 70 }) s m args below meth c cX10_walkOver D A (fun x : Nat × Nat × (Nat → Int32) × (Nat → Int32) => [(h0, .inr (10, [.ref x.1, .ref x.2.1, .ref h_missing])), (x.1, .inl (cI, 81, .inl x.2.2.1)), (x.2.1, .inl (cI, 81, .inl x.2.2.2)), (h_a1, .inr (8, [.int v_a1_tones, .int v_a1_a, .int v_a1_b, .int v_a1_c, .int v_a1_d, .int v_a1_odds, .int v_a1_lines, .ref h_a1_signs, .int v_a1_signCount, .ref h_a1_posts, .int v_a1_postCount, .ref h_a1_acts])), (h_a1_signs, .inl (cI, 8, .inl f_a1_signs))]) (fun x : Nat × Nat × (Nat → Int32) × (Nat → Int32) => True) Q) :
    ∀ (N : Nat) (g119_spentNext : Nat → Int32) (l119_8 : Int32) (H : Heap) (locs : List Loc) (ls : Array Slot), 0 ≤ l119_8.toInt → (v_a1_tones.toInt - l119_8.toInt).toNat < N → va_P D vwCl [(h0, .inr (10, [.ref h_spent, .ref h_spentNext, .ref h_missing])), (h_spent, .inl (cI, 81, .inl f_spent)), (h_spentNext, .inl (cI, 81, .inl g119_spentNext)), (h_a1, .inr (8, [.int v_a1_tones, .int v_a1_a, .int v_a1_b, .int v_a1_c, .int v_a1_d, .int v_a1_odds, .int v_a1_lines, .ref h_a1_signs, .int v_a1_signCount, .ref h_a1_posts, .int v_a1_postCount, .ref h_a1_acts])), (h_a1_signs, .inl (cI, 8, .inl f_a1_signs))] H → va_D A [(h0, .inr (10, [.ref h_spent, .ref h_spentNext, .ref h_missing])), (h_spent, .inl (cI, 81, .inl f_spent)), (h_spentNext, .inl (cI, 81, .inl g119_spentNext)), (h_a1, .inr (8, [.int v_a1_tones, .int v_a1_a, .int v_a1_b, .int v_a1_c, .int v_a1_d, .int v_a1_odds, .int v_a1_lines, .ref h_a1_signs, .int v_a1_signCount, .ref h_a1_posts, .int v_a1_postCount, .ref h_a1_acts])), (h_a1_signs, .inl (cI, 8, .inl f_a1_signs))] → va_S A s.heap H locs → lv_has ls 10 [(8, .int l119_8), (6, .int l36_6), (5, .int 0), (4, .int r_1), (0, .ref h0), (1, .ref h_a1), (2, .int v2)] → W p l e ({ frames := 3, cells := 0, slots := 0, locals := 70 }) s m args below meth c H locs 0 0 Q (F0 m 119 ls []) := by
  obtain ⟨hx, hb, hml, hown, hts, hK, hN, hT⟩ := id C
  intro N
  induction N with
  | zero =>
    intro g119_spentNext l119_8 H locs ls kl119_8 hM_119 hP hD hS hl
    omega
  | succ N_119 ih_119 =>
    intro g119_spentNext l119_8 H locs ls kl119_8 hM_119 hP hD hS hl
    have b_l119_8 := i32b l119_8
    refine lv_iload hx hb dX10_walkOver_119 (lv_at hl 0 rfl) ?_
    refine lv_aload_n hx hb dX10_walkOver_121 rfl (lv_at hl 5 rfl) ?_
    refine roi (As := []) (rest := [.int l119_8]) ⟨hx, hb, hml, hown, hts⟩ (b_X8_tones l G D cB cI cJ cZ cS cT h_a1 v_a1_tones v_a1_a v_a1_b v_a1_c v_a1_d v_a1_odds v_a1_lines h_a1_signs v_a1_signCount h_a1_posts v_a1_postCount h_a1_acts (by first | assumption | omega | decide) (by first | assumption | omega | decide)) (cvB (n := 0) (inr41 _ (List.mem_of_getElem? (i := 18) rfl)) (inr15 _ (List.mem_of_getElem? (i := 14) rfl)) (inr15 _ (List.mem_of_getElem? (i := 15) rfl)) (inr1 _ (List.mem_of_getElem? (i := 23) rfl)) (inr15 _ (List.mem_of_getElem? (i := 16) rfl)) (by decide +kernel) hts rfl rfl ⟨Nat.le_of_ble_eq_true rfl, Nat.le_of_ble_eq_true rfl⟩) 0 8 rfl rfl rfl (hP.sub [3] rfl) hK hN (kT.to hT hS hAB) rfl hl.1 rfl (Nat.le_of_ble_eq_true rfl) ⟨Nat.le_of_ble_eq_true rfl, Nat.le_of_ble_eq_true rfl⟩ dX10_walkOver_122 (fun r_22 h_23 => ?_)
    have h_23 : (r_22 = v_a1_tones) := h_23
    have i_24 := h_23
    obtain rfl := i_24.symm
    refine lv_icmp_ge (tgt := 185) hx hb dX10_walkOver_125 (by decide) (fun c_25 => ?_) (fun c_25 => ?_)
    · have c_25 : v_a1_tones.toInt ≤ l119_8.toInt := ci_ge_t c_25
      have b_v_a1_tones := i32b v_a1_tones
      obtain ⟨t_26, et_26⟩ : ∃ v9 : Int32, l36_6 + 1 = v9 := ⟨_, rfl⟩
      have b_l36_6 := i32b l36_6
      have ft_26 : t_26.toInt = l36_6.toInt + 1 := addT (a := l36_6.toInt) (b := 1) rfl (by decide) et_26 (by omega) (by omega)
      refine lv_iinc (v := t_26) (lv' := [(6, .int t_26), (8, .int l119_8), (5, .int 0), (4, .int r_1), (0, .ref h0), (1, .ref h_a1), (2, .int v2)]) hx hb dX10_walkOver_185 hl (k := 1) rfl (by rw [← et_26]; rfl) (by decide) rfl (fun ls hl => ?_)
      refine lv_goto (tgt := 36) hx hb dX10_walkOver_188 (by decide) ?_
      exact ih_36 (g119_spentNext) (t_26) _ _ _ (by first | assumption | omega | decide) (by omega) (hP.sub [0, 1, 2, 3, 4] rfl) (hD.sub [0, 1, 2, 3, 4] (by decide) rfl) hS (lv_sub hl [0, 2, 3, 4, 5, 6] rfl)
    · have c_25 : l119_8.toInt < v_a1_tones.toInt := ci_ge_f c_25
      have b_v_a1_tones := i32b v_a1_tones
      refine lv_iload hx hb dX10_walkOver_128 (lv_at hl 3 rfl) ?_
      refine lv_iload hx hb dX10_walkOver_130 (lv_at hl 1 rfl) ?_
      refine lv_aload_n hx hb dX10_walkOver_132 rfl (lv_at hl 5 rfl) ?_
      refine lv_iload_n hx hb dX10_walkOver_133 rfl (lv_at hl 6 rfl) ?_
      refine lv_iload hx hb dX10_walkOver_134 (lv_at hl 3 rfl) ?_
      refine lv_iload hx hb dX10_walkOver_136 (lv_at hl 1 rfl) ?_
      refine lv_iload hx hb dX10_walkOver_138 (lv_at hl 0 rfl) ?_
      refine rosi (As := [.ref h_a1, .int v2, .int r_1, .int l36_6, .int l119_8]) (rest := [.int l36_6, .int r_1]) ⟨hx, hb, hml, hown, hts⟩ (b_X10_ownTone l G D cB cI cJ cZ cS cT h_a1 v_a1_tones v_a1_a v_a1_b v_a1_c v_a1_d v_a1_odds v_a1_lines h_a1_signs v_a1_signCount h_a1_posts v_a1_postCount h_a1_acts f_a1_signs v2 r_1 l36_6 l119_8 (by first | assumption | omega | decide) (by first | assumption | omega | decide)) (csB (n := 5) (inr42 _ (List.mem_of_getElem? (i := 1) rfl)) (inr42 _ (List.mem_of_getElem? (i := 2) rfl)) (inr2 _ (List.mem_of_getElem? (i := 20) rfl)) (inr42 _ (List.mem_of_getElem? (i := 3) rfl)) (by decide +kernel) hts rfl rfl ⟨Nat.le_of_ble_eq_true rfl, Nat.le_of_ble_eq_true rfl⟩) (hP.sub [3, 4] rfl) hK hN (kT.to hT hS hAB) rfl hl.1 rfl (Nat.le_of_ble_eq_true rfl) ⟨Nat.le_of_ble_eq_true rfl, Nat.le_of_ble_eq_true rfl⟩ dX10_walkOver_140 (fun r_27 h_28 => ?_)
      refine rosi (As := [.int r_1, .int l36_6, .int r_27]) (rest := []) ⟨hx, hb, hml, hown, hts⟩ (b_X10_stateOf l G D cB cI cJ cZ cS cT r_1 l36_6 r_27 ) (csB (n := 3) (inr41 _ (List.mem_of_getElem? (i := 22) rfl)) (inr41 _ (List.mem_of_getElem? (i := 23) rfl)) (inr2 _ (List.mem_of_getElem? (i := 20) rfl)) (inr42 _ (List.mem_of_getElem? (i := 0) rfl)) (by decide +kernel) hts rfl rfl ⟨Nat.le_of_ble_eq_true rfl, Nat.le_of_ble_eq_true rfl⟩) (hP.sub [] rfl) hK hN (kT.to hT hS hAB) rfl hl.1 rfl (Nat.le_of_ble_eq_true rfl) ⟨Nat.le_of_ble_eq_true rfl, Nat.le_of_ble_eq_true rfl⟩ dX10_walkOver_143 (fun r_29 h_30 => ?_)
      have h_30 : (0 ≤ r_29.toInt ∧ r_29.toInt ≤ 80) := h_30
      have i_31 := h_30
      refine lv_istore (lv' := [(9, .int r_29), (8, .int l119_8), (6, .int l36_6), (5, .int 0), (4, .int r_1), (0, .ref h0), (1, .ref h_a1), (2, .int v2)]) hx hb dX10_walkOver_146 hl (by decide) rfl (fun ls hl => ?_)
      refine lv_aload_n hx hb dX10_walkOver_148 rfl (lv_at hl 5 rfl) ?_
      refine va_get (D := D) (ci := 10) (v := .ref h_spentNext) (C := RX10) (T := TX10) (N := 3) hx hb hts inlX10 hown hK hP 0 rfl rfl 1 (by decide) (hts _ (inr5 _ (List.mem_of_getElem? (i := 18) rfl))) (fun _ h9 => h9) rfl dX10_walkOver_149 ?_
      refine lv_iload hx hb dX10_walkOver_152 (lv_at hl 0 rfl) ?_
      refine lv_aload_n hx hb dX10_walkOver_154 rfl (lv_at hl 5 rfl) ?_
      refine va_get (D := D) (ci := 10) (v := .ref h_spentNext) (C := RX10) (T := TX10) (N := 3) hx hb hts inlX10 hown hK hP 0 rfl rfl 1 (by decide) (hts _ (inr5 _ (List.mem_of_getElem? (i := 18) rfl))) (fun _ h9 => h9) rfl dX10_walkOver_155 ?_
      refine lv_iload hx hb dX10_walkOver_158 (lv_at hl 0 rfl) ?_
      obtain ⟨t_32, et_32⟩ : ∃ v9 : Int32, g119_spentNext (r_29 : Int32).toNatClampNeg = v9 := ⟨_, rfl⟩
      refine z_iald (v := t_32) hx hb hK hP 2 1 rfl rfl (vin_nat (by omega) (by omega)) et_32 dX10_walkOver_160 ?_
      refine lv_aload_n hx hb dX10_walkOver_161 rfl (lv_at hl 5 rfl) ?_
      refine va_get (D := D) (ci := 10) (v := .ref h_spent) (C := RX10) (T := TX10) (N := 3) hx hb hts inlX10 hown hK hP 0 rfl rfl 0 (by decide) (hts _ (inr5 _ (List.mem_of_getElem? (i := 17) rfl))) (fun _ h9 => h9) rfl dX10_walkOver_162 ?_
      refine lv_iload hx hb dX10_walkOver_165 (lv_at hl 4 rfl) ?_
      refine lv_iload hx hb dX10_walkOver_167 (lv_at hl 2 rfl) ?_
      refine lv_iload hx hb dX10_walkOver_169 (lv_at hl 1 rfl) ?_
      refine rosi (As := [.int r_1, .int l36_6, .int l119_8]) (rest := [.ref h_spent, .int t_32, .int r_29, .ref h_spentNext]) ⟨hx, hb, hml, hown, hts⟩ (b_X10_stateOf l G D cB cI cJ cZ cS cT r_1 l36_6 l119_8 ) (csB (n := 3) (inr41 _ (List.mem_of_getElem? (i := 22) rfl)) (inr41 _ (List.mem_of_getElem? (i := 23) rfl)) (inr2 _ (List.mem_of_getElem? (i := 20) rfl)) (inr42 _ (List.mem_of_getElem? (i := 0) rfl)) (by decide +kernel) hts rfl rfl ⟨Nat.le_of_ble_eq_true rfl, Nat.le_of_ble_eq_true rfl⟩) (hP.sub [] rfl) hK hN (kT.to hT hS hAB) rfl hl.1 rfl (Nat.le_of_ble_eq_true rfl) ⟨Nat.le_of_ble_eq_true rfl, Nat.le_of_ble_eq_true rfl⟩ dX10_walkOver_171 (fun r_33 h_34 => ?_)
      have h_34 : (0 ≤ r_33.toInt ∧ r_33.toInt ≤ 80) := h_34
      have i_35 := h_34
      obtain ⟨t_36, et_36⟩ : ∃ v9 : Int32, f_spent (r_33 : Int32).toNatClampNeg = v9 := ⟨_, rfl⟩
      refine z_iald (v := t_36) hx hb hK hP 1 1 rfl rfl (vin_nat (by omega) (by omega)) et_36 dX10_walkOver_174 ?_
      refine va_mmin hx hb (by rw [hml]; exact hl.1.symm) hown (hts _ (inr41 _ (List.mem_of_getElem? (i := 16) rfl))) (hts _ (inr18 _ (List.mem_of_getElem? (i := 11) rfl))) (hts _ (inr18 _ (List.mem_of_getElem? (i := 12) rfl))) (hts _ (inr18 _ (List.mem_of_getElem? (i := 13) rfl))) (Nat.le_of_ble_eq_true rfl) (Nat.le_of_ble_eq_true rfl) (Nat.le_of_ble_eq_true rfl) (Nat.le_of_ble_eq_true rfl) dX10_walkOver_175 ?_
      refine lv_topi (fun t_37 et_37 => ?_)
      have b_t_32 := i32b t_32
      have b_t_36 := i32b t_36
      have ft_37 : t_37.toInt ≤ t_32.toInt ∧ t_37.toInt ≤ t_36.toInt ∧ (t_37.toInt = t_32.toInt ∨ t_37.toInt = t_36.toInt) := minT et_37
      refine va_iast hx hb hK hP hD hS 2 1 rfl rfl (vin_nat (by omega) (by omega)) dX10_walkOver_178 (fun H locs hP hD hS => ?_)
      have hP : va_P D vwCl [(h0, .inr (10, [.ref h_spent, .ref h_spentNext, .ref h_missing])), (h_spent, .inl (cI, 81, .inl f_spent)), (h_spentNext, .inl (cI, 81, .inl (upd g119_spentNext (r_29 : Int32).toNatClampNeg t_37))), (h_a1, .inr (8, [.int v_a1_tones, .int v_a1_a, .int v_a1_b, .int v_a1_c, .int v_a1_d, .int v_a1_odds, .int v_a1_lines, .ref h_a1_signs, .int v_a1_signCount, .ref h_a1_posts, .int v_a1_postCount, .ref h_a1_acts])), (h_a1_signs, .inl (cI, 8, .inl f_a1_signs))] H := hP
      have hD : va_D A [(h0, .inr (10, [.ref h_spent, .ref h_spentNext, .ref h_missing])), (h_spent, .inl (cI, 81, .inl f_spent)), (h_spentNext, .inl (cI, 81, .inl (upd g119_spentNext (r_29 : Int32).toNatClampNeg t_37))), (h_a1, .inr (8, [.int v_a1_tones, .int v_a1_a, .int v_a1_b, .int v_a1_c, .int v_a1_d, .int v_a1_odds, .int v_a1_lines, .ref h_a1_signs, .int v_a1_signCount, .ref h_a1_posts, .int v_a1_postCount, .ref h_a1_acts])), (h_a1_signs, .inl (cI, 8, .inl f_a1_signs))] := hD
      obtain ⟨g_38, eg_38⟩ : ∃ v9 : Nat → Int32, (upd g119_spentNext (r_29 : Int32).toNatClampNeg t_37) = v9 := ⟨_, rfl⟩
      rw [eg_38] at hP hD
      have hP : va_P D vwCl [(h0, .inr (10, [.ref h_spent, .ref h_spentNext, .ref h_missing])), (h_spent, .inl (cI, 81, .inl f_spent)), (h_spentNext, .inl (cI, 81, .inl g_38)), (h_a1, .inr (8, [.int v_a1_tones, .int v_a1_a, .int v_a1_b, .int v_a1_c, .int v_a1_d, .int v_a1_odds, .int v_a1_lines, .ref h_a1_signs, .int v_a1_signCount, .ref h_a1_posts, .int v_a1_postCount, .ref h_a1_acts])), (h_a1_signs, .inl (cI, 8, .inl f_a1_signs))] H := hP
      have hD : va_D A [(h0, .inr (10, [.ref h_spent, .ref h_spentNext, .ref h_missing])), (h_spent, .inl (cI, 81, .inl f_spent)), (h_spentNext, .inl (cI, 81, .inl g_38)), (h_a1, .inr (8, [.int v_a1_tones, .int v_a1_a, .int v_a1_b, .int v_a1_c, .int v_a1_d, .int v_a1_odds, .int v_a1_lines, .ref h_a1_signs, .int v_a1_signCount, .ref h_a1_posts, .int v_a1_postCount, .ref h_a1_acts])), (h_a1_signs, .inl (cI, 8, .inl f_a1_signs))] := hD
      obtain ⟨t_39, et_39⟩ : ∃ v9 : Int32, l119_8 + 1 = v9 := ⟨_, rfl⟩
      have ft_39 : t_39.toInt = l119_8.toInt + 1 := addT (a := l119_8.toInt) (b := 1) rfl (by decide) et_39 (by omega) (by omega)
      refine lv_iinc (v := t_39) (lv' := [(8, .int t_39), (9, .int r_29), (6, .int l36_6), (5, .int 0), (4, .int r_1), (0, .ref h0), (1, .ref h_a1), (2, .int v2)]) hx hb dX10_walkOver_179 hl (k := 1) rfl (by rw [← et_39]; rfl) (by decide) rfl (fun ls hl => ?_)
      refine lv_goto (tgt := 119) hx hb dX10_walkOver_182 (by decide) ?_
      exact ih_119 (g_38) (t_39) _ _ _ (by first | assumption | omega | decide) (by omega) (hP.sub [0, 1, 2, 3, 4] rfl) (hD.sub [0, 1, 2, 3, 4] (by decide) rfl) hS (lv_sub hl [0, 2, 3, 4, 5, 6, 7] rfl)

set_option maxHeartbeats 4000000 in
set_option maxRecDepth 100000 in
theorem b_X10_walkOver_l79x {p : Program} {l : Launch} {e : Env} {s : State} {m : MethodId} {args : Array Value} {below : List Frame} {meth : Method} {c : Code} {Q : State → Prop} {G : Gho} {D : va_G} {cB cI cJ cZ cS cT : ClassId} {A : Nat → Prop} (h0 : Nat) (h_spent : Nat) (h_spentNext : Nat) (h_missing : Nat) (f_spent : Nat → Int32) (h_a1 : Nat) (v_a1_tones : Int32) (v_a1_a : Int32) (v_a1_b : Int32) (v_a1_c : Int32) (v_a1_d : Int32) (v_a1_odds : Int32) (v_a1_lines : Int32) (h_a1_signs : Nat) (v_a1_signCount : Int32) (h_a1_posts : Nat) (v_a1_postCount : Int32) (h_a1_acts : Nat) (f_a1_signs : Nat → Int32) (v2 : Int32) (l36_6 : Int32) (r_1 : Int32) (g36_spentNext : Nat → Int32) (N_36 : Nat) (iv_a1_signCount : 0 ≤ v_a1_signCount.toInt ∧ v_a1_signCount.toInt ≤ 8) (iv_a1_postCount : 0 ≤ v_a1_postCount.toInt ∧ v_a1_postCount.toInt ≤ 5) (zv_a1_tones : 1 ≤ v_a1_tones.toInt ∧ v_a1_tones.toInt ≤ 2147483647) (zl36_6 : 0 ≤ l36_6.toInt ∧ l36_6.toInt ≤ 2147483646) (zr_1 : 0 ≤ r_1.toInt ∧ r_1.toInt ≤ 0) (c_4 : r_1.toInt = 0) (kl36_6 : 0 ≤ l36_6.toInt) (c_17 : l36_6.toInt < v_a1_tones.toInt) (ih_36 : ∀ (g36_spentNext : Nat → Int32) (l36_6 : Int32) (H : Heap) (locs : List Loc) (ls : Array Slot), 0 ≤ l36_6.toInt → (v_a1_tones.toInt - l36_6.toInt).toNat < N_36 → va_P D vwCl [(h0, .inr (10, [.ref h_spent, .ref h_spentNext, .ref h_missing])), (h_spent, .inl (cI, 81, .inl f_spent)), (h_spentNext, .inl (cI, 81, .inl g36_spentNext)), (h_a1, .inr (8, [.int v_a1_tones, .int v_a1_a, .int v_a1_b, .int v_a1_c, .int v_a1_d, .int v_a1_odds, .int v_a1_lines, .ref h_a1_signs, .int v_a1_signCount, .ref h_a1_posts, .int v_a1_postCount, .ref h_a1_acts])), (h_a1_signs, .inl (cI, 8, .inl f_a1_signs))] H → va_D A [(h0, .inr (10, [.ref h_spent, .ref h_spentNext, .ref h_missing])), (h_spent, .inl (cI, 81, .inl f_spent)), (h_spentNext, .inl (cI, 81, .inl g36_spentNext)), (h_a1, .inr (8, [.int v_a1_tones, .int v_a1_a, .int v_a1_b, .int v_a1_c, .int v_a1_d, .int v_a1_odds, .int v_a1_lines, .ref h_a1_signs, .int v_a1_signCount, .ref h_a1_posts, .int v_a1_postCount, .ref h_a1_acts])), (h_a1_signs, .inl (cI, 8, .inl f_a1_signs))] → va_S A s.heap H locs → lv_has ls 10 [(6, .int l36_6), (5, .int 0), (4, .int r_1), (0, .ref h0), (1, .ref h_a1), (2, .int v2)] → W p l e ({ frames := 3, cells := 0, slots := 0, locals := 70 }) s m args below meth c H locs 0 0 Q (F0 m 36 ls [])) (hM_36 : (v_a1_tones.toInt - l36_6.toInt).toNat < N_36 + 1) (C : Cx p s m args c RX10 cX10_walkOver 10 G D (tyL cB cI cJ cZ cS cT)) (hG : G.1 ≤ s.heap.size) (hAB : ∀ q, A q → G.1 ≤ q) (hA : ∀ q : Nat, s.heap.size ≤ q → A q) (ret : RetV p l e ({ frames := 3, cells := 0, slots := 0, locals := 70 }) s m args below meth c cX10_walkOver D A (fun x : Nat × Nat × (Nat → Int32) × (Nat → Int32) => [(h0, .inr (10, [.ref x.1, .ref x.2.1, .ref h_missing])), (x.1, .inl (cI, 81, .inl x.2.2.1)), (x.2.1, .inl (cI, 81, .inl x.2.2.2)), (h_a1, .inr (8, [.int v_a1_tones, .int v_a1_a, .int v_a1_b, .int v_a1_c, .int v_a1_d, .int v_a1_odds, .int v_a1_lines, .ref h_a1_signs, .int v_a1_signCount, .ref h_a1_posts, .int v_a1_postCount, .ref h_a1_acts])), (h_a1_signs, .inl (cI, 8, .inl f_a1_signs))]) (fun x : Nat × Nat × (Nat → Int32) × (Nat → Int32) => True) Q) :
    ∀ (N : Nat) (g79_spentNext : Nat → Int32) (l79_8 : Int32) (H : Heap) (locs : List Loc) (ls : Array Slot), 0 ≤ l79_8.toInt → (v_a1_tones.toInt - l79_8.toInt).toNat < N → va_P D vwCl [(h0, .inr (10, [.ref h_spent, .ref h_spentNext, .ref h_missing])), (h_spent, .inl (cI, 81, .inl f_spent)), (h_spentNext, .inl (cI, 81, .inl g79_spentNext)), (h_a1, .inr (8, [.int v_a1_tones, .int v_a1_a, .int v_a1_b, .int v_a1_c, .int v_a1_d, .int v_a1_odds, .int v_a1_lines, .ref h_a1_signs, .int v_a1_signCount, .ref h_a1_posts, .int v_a1_postCount, .ref h_a1_acts])), (h_a1_signs, .inl (cI, 8, .inl f_a1_signs))] H → va_D A [(h0, .inr (10, [.ref h_spent, .ref h_spentNext, .ref h_missing])), (h_spent, .inl (cI, 81, .inl f_spent)), (h_spentNext, .inl (cI, 81, .inl g79_spentNext)), (h_a1, .inr (8, [.int v_a1_tones, .int v_a1_a, .int v_a1_b, .int v_a1_c, .int v_a1_d, .int v_a1_odds, .int v_a1_lines, .ref h_a1_signs, .int v_a1_signCount, .ref h_a1_posts, .int v_a1_postCount, .ref h_a1_acts])), (h_a1_signs, .inl (cI, 8, .inl f_a1_signs))] → va_S A s.heap H locs → lv_has ls 10 [(8, .int l79_8), (7, .int 1000), (6, .int l36_6), (5, .int 0), (4, .int r_1), (0, .ref h0), (1, .ref h_a1), (2, .int v2)] → W p l e ({ frames := 3, cells := 0, slots := 0, locals := 70 }) s m args below meth c H locs 0 0 Q (F0 m 79 ls []) := by
  obtain ⟨hx, hb, hml, hown, hts, hK, hN, hT⟩ := id C
  intro N
  induction N with
  | zero =>
    intro g79_spentNext l79_8 H locs ls kl79_8 hM_79 hP hD hS hl
    omega
  | succ N_79 ih_79 =>
    intro g79_spentNext l79_8 H locs ls kl79_8 hM_79 hP hD hS hl
    have b_l79_8 := i32b l79_8
    refine lv_iload hx hb dX10_walkOver_79 (lv_at hl 0 rfl) ?_
    refine lv_aload_n hx hb dX10_walkOver_81 rfl (lv_at hl 6 rfl) ?_
    refine roi (As := []) (rest := [.int l79_8]) ⟨hx, hb, hml, hown, hts⟩ (b_X8_tones l G D cB cI cJ cZ cS cT h_a1 v_a1_tones v_a1_a v_a1_b v_a1_c v_a1_d v_a1_odds v_a1_lines h_a1_signs v_a1_signCount h_a1_posts v_a1_postCount h_a1_acts (by first | assumption | omega | decide) (by first | assumption | omega | decide)) (cvB (n := 0) (inr41 _ (List.mem_of_getElem? (i := 18) rfl)) (inr15 _ (List.mem_of_getElem? (i := 14) rfl)) (inr15 _ (List.mem_of_getElem? (i := 15) rfl)) (inr1 _ (List.mem_of_getElem? (i := 23) rfl)) (inr15 _ (List.mem_of_getElem? (i := 16) rfl)) (by decide +kernel) hts rfl rfl ⟨Nat.le_of_ble_eq_true rfl, Nat.le_of_ble_eq_true rfl⟩) 0 8 rfl rfl rfl (hP.sub [3] rfl) hK hN (kT.to hT hS hAB) rfl hl.1 rfl (Nat.le_of_ble_eq_true rfl) ⟨Nat.le_of_ble_eq_true rfl, Nat.le_of_ble_eq_true rfl⟩ dX10_walkOver_82 (fun r_18 h_19 => ?_)
    have h_19 : (r_18 = v_a1_tones) := h_19
    have i_20 := h_19
    obtain rfl := i_20.symm
    refine lv_icmp_ge (tgt := 116) hx hb dX10_walkOver_85 (by decide) (fun c_21 => ?_) (fun c_21 => ?_)
    · have c_21 : v_a1_tones.toInt ≤ l79_8.toInt := ci_ge_t c_21
      have b_v_a1_tones := i32b v_a1_tones
      refine lv_iconst (v := 0) hx hb dX10_walkOver_116 (by decide) ?_
      refine lv_istore (lv' := [(8, .int 0), (7, .int 1000), (6, .int l36_6), (5, .int 0), (4, .int r_1), (0, .ref h0), (1, .ref h_a1), (2, .int v2)]) hx hb dX10_walkOver_117 hl (by decide) rfl (fun ls hl => ?_)
      exact b_X10_walkOver_l119x h0 h_spent h_spentNext h_missing f_spent h_a1 v_a1_tones v_a1_a v_a1_b v_a1_c v_a1_d v_a1_odds v_a1_lines h_a1_signs v_a1_signCount h_a1_posts v_a1_postCount h_a1_acts f_a1_signs v2 l36_6 r_1 g36_spentNext g79_spentNext l79_8 N_36 N_79 (by first | assumption | omega | decide) (by first | assumption | omega | decide) (by first | assumption | omega | decide) (by first | assumption | omega | decide) (by first | assumption | omega | decide) (by first | assumption | omega | decide) (by first | assumption | omega | decide) (by first | assumption | omega | decide) (by first | assumption | omega | decide) (by first | assumption | omega | decide) (by first | assumption | omega | decide) (by first | assumption | omega | decide) (by first | assumption | omega | decide) (by first | assumption | omega | decide) C hG hAB hA ret _ (g79_spentNext) (0) _ _ _ (by first | assumption | omega | decide) (Nat.lt_succ_self _) (hP.sub [0, 1, 2, 3, 4] rfl) (hD.sub [0, 1, 2, 3, 4] (by decide) rfl) hS (lv_sub hl [0, 2, 3, 4, 5, 6, 7] rfl)
    · have c_21 : l79_8.toInt < v_a1_tones.toInt := ci_ge_f c_21
      have b_v_a1_tones := i32b v_a1_tones
      refine lv_aload_n hx hb dX10_walkOver_88 rfl (lv_at hl 5 rfl) ?_
      refine va_get (D := D) (ci := 10) (v := .ref h_spentNext) (C := RX10) (T := TX10) (N := 3) hx hb hts inlX10 hown hK hP 0 rfl rfl 1 (by decide) (hts _ (inr5 _ (List.mem_of_getElem? (i := 18) rfl))) (fun _ h9 => h9) rfl dX10_walkOver_89 ?_
      refine lv_iload hx hb dX10_walkOver_92 (lv_at hl 4 rfl) ?_
      refine lv_iload hx hb dX10_walkOver_94 (lv_at hl 2 rfl) ?_
      refine lv_iload hx hb dX10_walkOver_96 (lv_at hl 0 rfl) ?_
      refine rosi (As := [.int r_1, .int l36_6, .int l79_8]) (rest := [.ref h_spentNext]) ⟨hx, hb, hml, hown, hts⟩ (b_X10_stateOf l G D cB cI cJ cZ cS cT r_1 l36_6 l79_8 ) (csB (n := 3) (inr41 _ (List.mem_of_getElem? (i := 22) rfl)) (inr41 _ (List.mem_of_getElem? (i := 23) rfl)) (inr2 _ (List.mem_of_getElem? (i := 20) rfl)) (inr42 _ (List.mem_of_getElem? (i := 0) rfl)) (by decide +kernel) hts rfl rfl ⟨Nat.le_of_ble_eq_true rfl, Nat.le_of_ble_eq_true rfl⟩) (hP.sub [] rfl) hK hN (kT.to hT hS hAB) rfl hl.1 rfl (Nat.le_of_ble_eq_true rfl) ⟨Nat.le_of_ble_eq_true rfl, Nat.le_of_ble_eq_true rfl⟩ dX10_walkOver_98 (fun r_22 h_23 => ?_)
      have h_23 : (0 ≤ r_22.toInt ∧ r_22.toInt ≤ 80) := h_23
      have i_24 := h_23
      refine lv_iload hx hb dX10_walkOver_101 (lv_at hl 1 rfl) ?_
      refine lv_sipush (v := 1000) hx hb dX10_walkOver_103 (by decide) ?_
      refine va_mmin hx hb (by rw [hml]; exact hl.1.symm) hown (hts _ (inr41 _ (List.mem_of_getElem? (i := 16) rfl))) (hts _ (inr18 _ (List.mem_of_getElem? (i := 11) rfl))) (hts _ (inr18 _ (List.mem_of_getElem? (i := 12) rfl))) (hts _ (inr18 _ (List.mem_of_getElem? (i := 13) rfl))) (Nat.le_of_ble_eq_true rfl) (Nat.le_of_ble_eq_true rfl) (Nat.le_of_ble_eq_true rfl) (Nat.le_of_ble_eq_true rfl) dX10_walkOver_106 ?_
      refine lv_topi (fun t_25 et_25 => ?_)
      have ft_25 : t_25.toInt ≤ 1000 ∧ t_25.toInt ≤ 1000 ∧ (t_25.toInt = 1000 ∨ t_25.toInt = 1000) := minT et_25
      refine va_iast hx hb hK hP hD hS 2 1 rfl rfl (vin_nat (by omega) (by omega)) dX10_walkOver_109 (fun H locs hP hD hS => ?_)
      have hP : va_P D vwCl [(h0, .inr (10, [.ref h_spent, .ref h_spentNext, .ref h_missing])), (h_spent, .inl (cI, 81, .inl f_spent)), (h_spentNext, .inl (cI, 81, .inl (upd g79_spentNext (r_22 : Int32).toNatClampNeg t_25))), (h_a1, .inr (8, [.int v_a1_tones, .int v_a1_a, .int v_a1_b, .int v_a1_c, .int v_a1_d, .int v_a1_odds, .int v_a1_lines, .ref h_a1_signs, .int v_a1_signCount, .ref h_a1_posts, .int v_a1_postCount, .ref h_a1_acts])), (h_a1_signs, .inl (cI, 8, .inl f_a1_signs))] H := hP
      have hD : va_D A [(h0, .inr (10, [.ref h_spent, .ref h_spentNext, .ref h_missing])), (h_spent, .inl (cI, 81, .inl f_spent)), (h_spentNext, .inl (cI, 81, .inl (upd g79_spentNext (r_22 : Int32).toNatClampNeg t_25))), (h_a1, .inr (8, [.int v_a1_tones, .int v_a1_a, .int v_a1_b, .int v_a1_c, .int v_a1_d, .int v_a1_odds, .int v_a1_lines, .ref h_a1_signs, .int v_a1_signCount, .ref h_a1_posts, .int v_a1_postCount, .ref h_a1_acts])), (h_a1_signs, .inl (cI, 8, .inl f_a1_signs))] := hD
      obtain ⟨g_26, eg_26⟩ : ∃ v9 : Nat → Int32, (upd g79_spentNext (r_22 : Int32).toNatClampNeg t_25) = v9 := ⟨_, rfl⟩
      rw [eg_26] at hP hD
      have hP : va_P D vwCl [(h0, .inr (10, [.ref h_spent, .ref h_spentNext, .ref h_missing])), (h_spent, .inl (cI, 81, .inl f_spent)), (h_spentNext, .inl (cI, 81, .inl g_26)), (h_a1, .inr (8, [.int v_a1_tones, .int v_a1_a, .int v_a1_b, .int v_a1_c, .int v_a1_d, .int v_a1_odds, .int v_a1_lines, .ref h_a1_signs, .int v_a1_signCount, .ref h_a1_posts, .int v_a1_postCount, .ref h_a1_acts])), (h_a1_signs, .inl (cI, 8, .inl f_a1_signs))] H := hP
      have hD : va_D A [(h0, .inr (10, [.ref h_spent, .ref h_spentNext, .ref h_missing])), (h_spent, .inl (cI, 81, .inl f_spent)), (h_spentNext, .inl (cI, 81, .inl g_26)), (h_a1, .inr (8, [.int v_a1_tones, .int v_a1_a, .int v_a1_b, .int v_a1_c, .int v_a1_d, .int v_a1_odds, .int v_a1_lines, .ref h_a1_signs, .int v_a1_signCount, .ref h_a1_posts, .int v_a1_postCount, .ref h_a1_acts])), (h_a1_signs, .inl (cI, 8, .inl f_a1_signs))] := hD
      obtain ⟨t_27, et_27⟩ : ∃ v9 : Int32, l79_8 + 1 = v9 := ⟨_, rfl⟩
      have ft_27 : t_27.toInt = l79_8.toInt + 1 := addT (a := l79_8.toInt) (b := 1) rfl (by decide) et_27 (by omega) (by omega)
      refine lv_iinc (v := t_27) (lv' := [(8, .int t_27), (7, .int 1000), (6, .int l36_6), (5, .int 0), (4, .int r_1), (0, .ref h0), (1, .ref h_a1), (2, .int v2)]) hx hb dX10_walkOver_110 hl (k := 0) rfl (by rw [← et_27]; rfl) (by decide) rfl (fun ls hl => ?_)
      refine lv_goto (tgt := 79) hx hb dX10_walkOver_113 (by decide) ?_
      exact ih_79 (g_26) (t_27) _ _ _ (by first | assumption | omega | decide) (by omega) (hP.sub [0, 1, 2, 3, 4] rfl) (hD.sub [0, 1, 2, 3, 4] (by decide) rfl) hS (lv_sub hl [0, 1, 2, 3, 4, 5, 6, 7] rfl)

set_option maxHeartbeats 4000000 in
set_option maxRecDepth 100000 in
theorem b_X10_walkOver_l36x {p : Program} {l : Launch} {e : Env} {s : State} {m : MethodId} {args : Array Value} {below : List Frame} {meth : Method} {c : Code} {Q : State → Prop} {G : Gho} {D : va_G} {cB cI cJ cZ cS cT : ClassId} {A : Nat → Prop} (h0 : Nat) (h_spent : Nat) (h_spentNext : Nat) (h_missing : Nat) (f_spent : Nat → Int32) (h_a1 : Nat) (v_a1_tones : Int32) (v_a1_a : Int32) (v_a1_b : Int32) (v_a1_c : Int32) (v_a1_d : Int32) (v_a1_odds : Int32) (v_a1_lines : Int32) (h_a1_signs : Nat) (v_a1_signCount : Int32) (h_a1_posts : Nat) (v_a1_postCount : Int32) (h_a1_acts : Nat) (f_a1_signs : Nat → Int32) (v2 : Int32) (r_1 : Int32) (iv_a1_signCount : 0 ≤ v_a1_signCount.toInt ∧ v_a1_signCount.toInt ≤ 8) (iv_a1_postCount : 0 ≤ v_a1_postCount.toInt ∧ v_a1_postCount.toInt ≤ 5) (zr_1 : 0 ≤ r_1.toInt ∧ r_1.toInt ≤ 0) (c_4 : r_1.toInt = 0) (C : Cx p s m args c RX10 cX10_walkOver 10 G D (tyL cB cI cJ cZ cS cT)) (hG : G.1 ≤ s.heap.size) (hAB : ∀ q, A q → G.1 ≤ q) (hA : ∀ q : Nat, s.heap.size ≤ q → A q) (ret : RetV p l e ({ frames := 3, cells := 0, slots := 0, locals := 70 }) s m args below meth c cX10_walkOver D A (fun x : Nat × Nat × (Nat → Int32) × (Nat → Int32) => [(h0, .inr (10, [.ref x.1, .ref x.2.1, .ref h_missing])), (x.1, .inl (cI, 81, .inl x.2.2.1)), (x.2.1, .inl (cI, 81, .inl x.2.2.2)), (h_a1, .inr (8, [.int v_a1_tones, .int v_a1_a, .int v_a1_b, .int v_a1_c, .int v_a1_d, .int v_a1_odds, .int v_a1_lines, .ref h_a1_signs, .int v_a1_signCount, .ref h_a1_posts, .int v_a1_postCount, .ref h_a1_acts])), (h_a1_signs, .inl (cI, 8, .inl f_a1_signs))]) (fun x : Nat × Nat × (Nat → Int32) × (Nat → Int32) => True) Q) :
    ∀ (N : Nat) (g36_spentNext : Nat → Int32) (l36_6 : Int32) (H : Heap) (locs : List Loc) (ls : Array Slot), 0 ≤ l36_6.toInt → (v_a1_tones.toInt - l36_6.toInt).toNat < N → va_P D vwCl [(h0, .inr (10, [.ref h_spent, .ref h_spentNext, .ref h_missing])), (h_spent, .inl (cI, 81, .inl f_spent)), (h_spentNext, .inl (cI, 81, .inl g36_spentNext)), (h_a1, .inr (8, [.int v_a1_tones, .int v_a1_a, .int v_a1_b, .int v_a1_c, .int v_a1_d, .int v_a1_odds, .int v_a1_lines, .ref h_a1_signs, .int v_a1_signCount, .ref h_a1_posts, .int v_a1_postCount, .ref h_a1_acts])), (h_a1_signs, .inl (cI, 8, .inl f_a1_signs))] H → va_D A [(h0, .inr (10, [.ref h_spent, .ref h_spentNext, .ref h_missing])), (h_spent, .inl (cI, 81, .inl f_spent)), (h_spentNext, .inl (cI, 81, .inl g36_spentNext)), (h_a1, .inr (8, [.int v_a1_tones, .int v_a1_a, .int v_a1_b, .int v_a1_c, .int v_a1_d, .int v_a1_odds, .int v_a1_lines, .ref h_a1_signs, .int v_a1_signCount, .ref h_a1_posts, .int v_a1_postCount, .ref h_a1_acts])), (h_a1_signs, .inl (cI, 8, .inl f_a1_signs))] → va_S A s.heap H locs → lv_has ls 10 [(6, .int l36_6), (5, .int 0), (4, .int r_1), (0, .ref h0), (1, .ref h_a1), (2, .int v2)] → W p l e ({ frames := 3, cells := 0, slots := 0, locals := 70 }) s m args below meth c H locs 0 0 Q (F0 m 36 ls []) := by
  obtain ⟨hx, hb, hml, hown, hts, hK, hN, hT⟩ := id C
  intro N
  induction N with
  | zero =>
    intro g36_spentNext l36_6 H locs ls kl36_6 hM_36 hP hD hS hl
    omega
  | succ N_36 ih_36 =>
    intro g36_spentNext l36_6 H locs ls kl36_6 hM_36 hP hD hS hl
    have b_l36_6 := i32b l36_6
    refine lv_iload hx hb dX10_walkOver_36 (lv_at hl 0 rfl) ?_
    refine lv_aload_n hx hb dX10_walkOver_38 rfl (lv_at hl 4 rfl) ?_
    refine roi (As := []) (rest := [.int l36_6]) ⟨hx, hb, hml, hown, hts⟩ (b_X8_tones l G D cB cI cJ cZ cS cT h_a1 v_a1_tones v_a1_a v_a1_b v_a1_c v_a1_d v_a1_odds v_a1_lines h_a1_signs v_a1_signCount h_a1_posts v_a1_postCount h_a1_acts (by first | assumption | omega | decide) (by first | assumption | omega | decide)) (cvB (n := 0) (inr41 _ (List.mem_of_getElem? (i := 18) rfl)) (inr15 _ (List.mem_of_getElem? (i := 14) rfl)) (inr15 _ (List.mem_of_getElem? (i := 15) rfl)) (inr1 _ (List.mem_of_getElem? (i := 23) rfl)) (inr15 _ (List.mem_of_getElem? (i := 16) rfl)) (by decide +kernel) hts rfl rfl ⟨Nat.le_of_ble_eq_true rfl, Nat.le_of_ble_eq_true rfl⟩) 0 8 rfl rfl rfl (hP.sub [3] rfl) hK hN (kT.to hT hS hAB) rfl hl.1 rfl (Nat.le_of_ble_eq_true rfl) ⟨Nat.le_of_ble_eq_true rfl, Nat.le_of_ble_eq_true rfl⟩ dX10_walkOver_39 (fun r_14 h_15 => ?_)
    have h_15 : (r_14 = v_a1_tones) := h_15
    have i_16 := h_15
    obtain rfl := i_16.symm
    refine lv_icmp_ge (tgt := 191) hx hb dX10_walkOver_42 (by decide) (fun c_17 => ?_) (fun c_17 => ?_)
    · have c_17 : v_a1_tones.toInt ≤ l36_6.toInt := ci_ge_t c_17
      have b_v_a1_tones := i32b v_a1_tones
      refine lv_aload_n hx hb dX10_walkOver_191 rfl (lv_at hl 3 rfl) ?_
      refine va_get (D := D) (ci := 10) (v := .ref h_spent) (C := RX10) (T := TX10) (N := 3) hx hb hts inlX10 hown hK hP 0 rfl rfl 0 (by decide) (hts _ (inr5 _ (List.mem_of_getElem? (i := 17) rfl))) (fun _ h9 => h9) rfl dX10_walkOver_192 ?_
      refine lv_astore (lv' := [(6, .ref h_spent), (5, .int 0), (4, .int r_1), (0, .ref h0), (1, .ref h_a1), (2, .int v2)]) hx hb dX10_walkOver_195 hl (by decide) rfl (fun ls hl => ?_)
      refine lv_aload_n hx hb dX10_walkOver_197 rfl (lv_at hl 3 rfl) ?_
      refine lv_aload_n hx hb dX10_walkOver_198 rfl (lv_at hl 3 rfl) ?_
      refine va_get (D := D) (ci := 10) (v := .ref h_spentNext) (C := RX10) (T := TX10) (N := 3) hx hb hts inlX10 hown hK hP 0 rfl rfl 1 (by decide) (hts _ (inr5 _ (List.mem_of_getElem? (i := 18) rfl))) (fun _ h9 => h9) rfl dX10_walkOver_199 ?_
      refine va_put (D := D) (ci := 10) (v := .ref h_spentNext) (ty := .array .int) (C := RX10) (T := TX10) (N := 3) hx hb hts inlX10 tyX10 tyX10_ok nmX10 hown hK hP hD hS 0 rfl rfl 0 (by decide) (hts _ (inr5 _ (List.mem_of_getElem? (i := 17) rfl))) (fun _ h9 => h9) rfl (by decide +kernel) rfl rfl (Nat.le_of_ble_eq_true rfl) dX10_walkOver_202 (fun H locs hP hD hS => ?_)
      have hP : va_P D vwCl [(h0, .inr (10, [.ref h_spentNext, .ref h_spentNext, .ref h_missing])), (h_spent, .inl (cI, 81, .inl f_spent)), (h_spentNext, .inl (cI, 81, .inl g36_spentNext)), (h_a1, .inr (8, [.int v_a1_tones, .int v_a1_a, .int v_a1_b, .int v_a1_c, .int v_a1_d, .int v_a1_odds, .int v_a1_lines, .ref h_a1_signs, .int v_a1_signCount, .ref h_a1_posts, .int v_a1_postCount, .ref h_a1_acts])), (h_a1_signs, .inl (cI, 8, .inl f_a1_signs))] H := hP
      have hD : va_D A [(h0, .inr (10, [.ref h_spentNext, .ref h_spentNext, .ref h_missing])), (h_spent, .inl (cI, 81, .inl f_spent)), (h_spentNext, .inl (cI, 81, .inl g36_spentNext)), (h_a1, .inr (8, [.int v_a1_tones, .int v_a1_a, .int v_a1_b, .int v_a1_c, .int v_a1_d, .int v_a1_odds, .int v_a1_lines, .ref h_a1_signs, .int v_a1_signCount, .ref h_a1_posts, .int v_a1_postCount, .ref h_a1_acts])), (h_a1_signs, .inl (cI, 8, .inl f_a1_signs))] := hD
      refine lv_aload_n hx hb dX10_walkOver_205 rfl (lv_at hl 3 rfl) ?_
      refine lv_aload hx hb dX10_walkOver_206 (lv_at hl 0 rfl) ?_
      refine va_put (D := D) (ci := 10) (v := .ref h_spent) (ty := .array .int) (C := RX10) (T := TX10) (N := 3) hx hb hts inlX10 tyX10 tyX10_ok nmX10 hown hK hP hD hS 0 rfl rfl 1 (by decide) (hts _ (inr5 _ (List.mem_of_getElem? (i := 18) rfl))) (fun _ h9 => h9) rfl (by decide +kernel) rfl rfl (Nat.le_of_ble_eq_true rfl) dX10_walkOver_208 (fun H locs hP hD hS => ?_)
      have hP : va_P D vwCl [(h0, .inr (10, [.ref h_spentNext, .ref h_spent, .ref h_missing])), (h_spent, .inl (cI, 81, .inl f_spent)), (h_spentNext, .inl (cI, 81, .inl g36_spentNext)), (h_a1, .inr (8, [.int v_a1_tones, .int v_a1_a, .int v_a1_b, .int v_a1_c, .int v_a1_d, .int v_a1_odds, .int v_a1_lines, .ref h_a1_signs, .int v_a1_signCount, .ref h_a1_posts, .int v_a1_postCount, .ref h_a1_acts])), (h_a1_signs, .inl (cI, 8, .inl f_a1_signs))] H := hP
      have hD : va_D A [(h0, .inr (10, [.ref h_spentNext, .ref h_spent, .ref h_missing])), (h_spent, .inl (cI, 81, .inl f_spent)), (h_spentNext, .inl (cI, 81, .inl g36_spentNext)), (h_a1, .inr (8, [.int v_a1_tones, .int v_a1_a, .int v_a1_b, .int v_a1_c, .int v_a1_d, .int v_a1_odds, .int v_a1_lines, .ref h_a1_signs, .int v_a1_signCount, .ref h_a1_posts, .int v_a1_postCount, .ref h_a1_acts])), (h_a1_signs, .inl (cI, 8, .inl f_a1_signs))] := hD
      exact ret _ _ _ _ (h_spentNext, h_spent, g36_spentNext, f_spent) dX10_walkOver_211 trivial (hP.sub [0, 2, 1, 3, 4] rfl) (hD.sub [0, 2, 1, 3, 4] (by decide) rfl) hS
    · have c_17 : l36_6.toInt < v_a1_tones.toInt := ci_ge_f c_17
      have b_v_a1_tones := i32b v_a1_tones
      refine lv_iload hx hb dX10_walkOver_45 (lv_at hl 1 rfl) ?_
      refine lv_if_eq (tgt := 71) hx hb dX10_walkOver_47 (by decide) (fun _ => ?_) (fun c0 => absurd c0 (by decide))
      refine lv_sipush (v := 1000) hx hb dX10_walkOver_71 (by decide) ?_
      refine lv_istore (lv' := [(7, .int 1000), (6, .int l36_6), (5, .int 0), (4, .int r_1), (0, .ref h0), (1, .ref h_a1), (2, .int v2)]) hx hb dX10_walkOver_74 hl (by decide) rfl (fun ls hl => ?_)
      refine lv_iconst (v := 0) hx hb dX10_walkOver_76 (by decide) ?_
      refine lv_istore (lv' := [(8, .int 0), (7, .int 1000), (6, .int l36_6), (5, .int 0), (4, .int r_1), (0, .ref h0), (1, .ref h_a1), (2, .int v2)]) hx hb dX10_walkOver_77 hl (by decide) rfl (fun ls hl => ?_)
      exact b_X10_walkOver_l79x h0 h_spent h_spentNext h_missing f_spent h_a1 v_a1_tones v_a1_a v_a1_b v_a1_c v_a1_d v_a1_odds v_a1_lines h_a1_signs v_a1_signCount h_a1_posts v_a1_postCount h_a1_acts f_a1_signs v2 l36_6 r_1 g36_spentNext N_36 (by first | assumption | omega | decide) (by first | assumption | omega | decide) (by first | assumption | omega | decide) (by first | assumption | omega | decide) (by first | assumption | omega | decide) (by first | assumption | omega | decide) (by first | assumption | omega | decide) (by first | assumption | omega | decide) (by first | assumption | omega | decide) (by first | assumption | omega | decide) C hG hAB hA ret _ (g36_spentNext) (0) _ _ _ (by first | assumption | omega | decide) (Nat.lt_succ_self _) (hP.sub [0, 1, 2, 3, 4] rfl) (hD.sub [0, 1, 2, 3, 4] (by decide) rfl) hS (lv_sub hl [0, 1, 2, 3, 4, 5, 6, 7] rfl)

set_option maxHeartbeats 4000000 in
set_option maxRecDepth 100000 in
theorem b_X10_walkOver_l119xx {p : Program} {l : Launch} {e : Env} {s : State} {m : MethodId} {args : Array Value} {below : List Frame} {meth : Method} {c : Code} {Q : State → Prop} {G : Gho} {D : va_G} {cB cI cJ cZ cS cT : ClassId} {A : Nat → Prop} (h0 : Nat) (h_spent : Nat) (h_spentNext : Nat) (h_missing : Nat) (f_spent : Nat → Int32) (h_a1 : Nat) (v_a1_tones : Int32) (v_a1_a : Int32) (v_a1_b : Int32) (v_a1_c : Int32) (v_a1_d : Int32) (v_a1_odds : Int32) (v_a1_lines : Int32) (h_a1_signs : Nat) (v_a1_signCount : Int32) (h_a1_posts : Nat) (v_a1_postCount : Int32) (h_a1_acts : Nat) (f_a1_signs : Nat → Int32) (v2 : Int32) (l36_6 : Int32) (r_1 : Int32) (g36_spentNext : Nat → Int32) (g79_spentNext : Nat → Int32) (l79_8 : Int32) (t_27 : Int32) (N_36 : Nat) (N_79 : Nat) (iv_a1_signCount : 0 ≤ v_a1_signCount.toInt ∧ v_a1_signCount.toInt ≤ 8) (iv_a1_postCount : 0 ≤ v_a1_postCount.toInt ∧ v_a1_postCount.toInt ≤ 5) (zv_a1_tones : 1 ≤ v_a1_tones.toInt ∧ v_a1_tones.toInt ≤ 2147483647) (zl36_6 : 0 ≤ l36_6.toInt ∧ l36_6.toInt ≤ 2147483646) (zr_1 : 0 ≤ r_1.toInt ∧ r_1.toInt ≤ 0) (c_4 : r_1.toInt = 0) (kl36_6 : 0 ≤ l36_6.toInt) (c_21 : l36_6.toInt < v_a1_tones.toInt) (kl79_8 : 0 ≤ l79_8.toInt) (c_31 : v_a1_tones.toInt ≤ l79_8.toInt) (ih_36 : ∀ (g36_spentNext : Nat → Int32) (l36_6 : Int32) (H : Heap) (locs : List Loc) (ls : Array Slot), 0 ≤ l36_6.toInt → (v_a1_tones.toInt - l36_6.toInt).toNat < N_36 → va_P D vwCl [(h0, .inr (10, [.ref h_spent, .ref h_spentNext, .ref h_missing])), (h_spent, .inl (cI, 81, .inl f_spent)), (h_spentNext, .inl (cI, 81, .inl g36_spentNext)), (h_a1, .inr (8, [.int v_a1_tones, .int v_a1_a, .int v_a1_b, .int v_a1_c, .int v_a1_d, .int v_a1_odds, .int v_a1_lines, .ref h_a1_signs, .int v_a1_signCount, .ref h_a1_posts, .int v_a1_postCount, .ref h_a1_acts])), (h_a1_signs, .inl (cI, 8, .inl f_a1_signs))] H → va_D A [(h0, .inr (10, [.ref h_spent, .ref h_spentNext, .ref h_missing])), (h_spent, .inl (cI, 81, .inl f_spent)), (h_spentNext, .inl (cI, 81, .inl g36_spentNext)), (h_a1, .inr (8, [.int v_a1_tones, .int v_a1_a, .int v_a1_b, .int v_a1_c, .int v_a1_d, .int v_a1_odds, .int v_a1_lines, .ref h_a1_signs, .int v_a1_signCount, .ref h_a1_posts, .int v_a1_postCount, .ref h_a1_acts])), (h_a1_signs, .inl (cI, 8, .inl f_a1_signs))] → va_S A s.heap H locs → lv_has ls 10 [(6, .int l36_6), (5, .int 1), (4, .int r_1), (0, .ref h0), (1, .ref h_a1), (2, .int v2)] → W p l e ({ frames := 3, cells := 0, slots := 0, locals := 70 }) s m args below meth c H locs 0 0 Q (F0 m 36 ls [])) (hM_36 : (v_a1_tones.toInt - l36_6.toInt).toNat < N_36 + 1) (ih_79 : ∀ (g79_spentNext : Nat → Int32) (l79_8 : Int32) (H : Heap) (locs : List Loc) (ls : Array Slot), 0 ≤ l79_8.toInt → (v_a1_tones.toInt - l79_8.toInt).toNat < N_79 → va_P D vwCl [(h0, .inr (10, [.ref h_spent, .ref h_spentNext, .ref h_missing])), (h_spent, .inl (cI, 81, .inl f_spent)), (h_spentNext, .inl (cI, 81, .inl g79_spentNext)), (h_a1, .inr (8, [.int v_a1_tones, .int v_a1_a, .int v_a1_b, .int v_a1_c, .int v_a1_d, .int v_a1_odds, .int v_a1_lines, .ref h_a1_signs, .int v_a1_signCount, .ref h_a1_posts, .int v_a1_postCount, .ref h_a1_acts])), (h_a1_signs, .inl (cI, 8, .inl f_a1_signs))] H → va_D A [(h0, .inr (10, [.ref h_spent, .ref h_spentNext, .ref h_missing])), (h_spent, .inl (cI, 81, .inl f_spent)), (h_spentNext, .inl (cI, 81, .inl g79_spentNext)), (h_a1, .inr (8, [.int v_a1_tones, .int v_a1_a, .int v_a1_b, .int v_a1_c, .int v_a1_d, .int v_a1_odds, .int v_a1_lines, .ref h_a1_signs, .int v_a1_signCount, .ref h_a1_posts, .int v_a1_postCount, .ref h_a1_acts])), (h_a1_signs, .inl (cI, 8, .inl f_a1_signs))] → va_S A s.heap H locs → lv_has ls 10 [(8, .int l79_8), (7, .int t_27), (6, .int l36_6), (5, .int 1), (4, .int r_1), (0, .ref h0), (1, .ref h_a1), (2, .int v2)] → W p l e ({ frames := 3, cells := 0, slots := 0, locals := 70 }) s m args below meth c H locs 0 0 Q (F0 m 79 ls [])) (hM_79 : (v_a1_tones.toInt - l79_8.toInt).toNat < N_79 + 1) (C : Cx p s m args c RX10 cX10_walkOver 10 G D (tyL cB cI cJ cZ cS cT)) (hG : G.1 ≤ s.heap.size) (hAB : ∀ q, A q → G.1 ≤ q) (hA : ∀ q : Nat, s.heap.size ≤ q → A q) (ret : RetV p l e ({ frames := 3, cells := 0, slots := 0, locals := 70 }) s m args below meth c cX10_walkOver D A (fun x : Nat × Nat × (Nat → Int32) × (Nat → Int32) => [(h0, .inr (10, [.ref x.1, .ref x.2.1, .ref h_missing])), (x.1, .inl (cI, 81, .inl x.2.2.1)), (x.2.1, .inl (cI, 81, .inl x.2.2.2)), (h_a1, .inr (8, [.int v_a1_tones, .int v_a1_a, .int v_a1_b, .int v_a1_c, .int v_a1_d, .int v_a1_odds, .int v_a1_lines, .ref h_a1_signs, .int v_a1_signCount, .ref h_a1_posts, .int v_a1_postCount, .ref h_a1_acts])), (h_a1_signs, .inl (cI, 8, .inl f_a1_signs))]) (fun x : Nat × Nat × (Nat → Int32) × (Nat → Int32) => True) Q) :
    ∀ (N : Nat) (g119_spentNext : Nat → Int32) (l119_8 : Int32) (H : Heap) (locs : List Loc) (ls : Array Slot), 0 ≤ l119_8.toInt → (v_a1_tones.toInt - l119_8.toInt).toNat < N → va_P D vwCl [(h0, .inr (10, [.ref h_spent, .ref h_spentNext, .ref h_missing])), (h_spent, .inl (cI, 81, .inl f_spent)), (h_spentNext, .inl (cI, 81, .inl g119_spentNext)), (h_a1, .inr (8, [.int v_a1_tones, .int v_a1_a, .int v_a1_b, .int v_a1_c, .int v_a1_d, .int v_a1_odds, .int v_a1_lines, .ref h_a1_signs, .int v_a1_signCount, .ref h_a1_posts, .int v_a1_postCount, .ref h_a1_acts])), (h_a1_signs, .inl (cI, 8, .inl f_a1_signs))] H → va_D A [(h0, .inr (10, [.ref h_spent, .ref h_spentNext, .ref h_missing])), (h_spent, .inl (cI, 81, .inl f_spent)), (h_spentNext, .inl (cI, 81, .inl g119_spentNext)), (h_a1, .inr (8, [.int v_a1_tones, .int v_a1_a, .int v_a1_b, .int v_a1_c, .int v_a1_d, .int v_a1_odds, .int v_a1_lines, .ref h_a1_signs, .int v_a1_signCount, .ref h_a1_posts, .int v_a1_postCount, .ref h_a1_acts])), (h_a1_signs, .inl (cI, 8, .inl f_a1_signs))] → va_S A s.heap H locs → lv_has ls 10 [(8, .int l119_8), (6, .int l36_6), (5, .int 1), (4, .int r_1), (0, .ref h0), (1, .ref h_a1), (2, .int v2)] → W p l e ({ frames := 3, cells := 0, slots := 0, locals := 70 }) s m args below meth c H locs 0 0 Q (F0 m 119 ls []) := by
  obtain ⟨hx, hb, hml, hown, hts, hK, hN, hT⟩ := id C
  intro N
  induction N with
  | zero =>
    intro g119_spentNext l119_8 H locs ls kl119_8 hM_119 hP hD hS hl
    omega
  | succ N_119 ih_119 =>
    intro g119_spentNext l119_8 H locs ls kl119_8 hM_119 hP hD hS hl
    have b_l119_8 := i32b l119_8
    refine lv_iload hx hb dX10_walkOver_119 (lv_at hl 0 rfl) ?_
    refine lv_aload_n hx hb dX10_walkOver_121 rfl (lv_at hl 5 rfl) ?_
    refine roi (As := []) (rest := [.int l119_8]) ⟨hx, hb, hml, hown, hts⟩ (b_X8_tones l G D cB cI cJ cZ cS cT h_a1 v_a1_tones v_a1_a v_a1_b v_a1_c v_a1_d v_a1_odds v_a1_lines h_a1_signs v_a1_signCount h_a1_posts v_a1_postCount h_a1_acts (by first | assumption | omega | decide) (by first | assumption | omega | decide)) (cvB (n := 0) (inr41 _ (List.mem_of_getElem? (i := 18) rfl)) (inr15 _ (List.mem_of_getElem? (i := 14) rfl)) (inr15 _ (List.mem_of_getElem? (i := 15) rfl)) (inr1 _ (List.mem_of_getElem? (i := 23) rfl)) (inr15 _ (List.mem_of_getElem? (i := 16) rfl)) (by decide +kernel) hts rfl rfl ⟨Nat.le_of_ble_eq_true rfl, Nat.le_of_ble_eq_true rfl⟩) 0 8 rfl rfl rfl (hP.sub [3] rfl) hK hN (kT.to hT hS hAB) rfl hl.1 rfl (Nat.le_of_ble_eq_true rfl) ⟨Nat.le_of_ble_eq_true rfl, Nat.le_of_ble_eq_true rfl⟩ dX10_walkOver_122 (fun r_32 h_33 => ?_)
    have h_33 : (r_32 = v_a1_tones) := h_33
    have i_34 := h_33
    obtain rfl := i_34.symm
    refine lv_icmp_ge (tgt := 185) hx hb dX10_walkOver_125 (by decide) (fun c_35 => ?_) (fun c_35 => ?_)
    · have c_35 : v_a1_tones.toInt ≤ l119_8.toInt := ci_ge_t c_35
      have b_v_a1_tones := i32b v_a1_tones
      obtain ⟨t_36, et_36⟩ : ∃ v9 : Int32, l36_6 + 1 = v9 := ⟨_, rfl⟩
      have b_l36_6 := i32b l36_6
      have ft_36 : t_36.toInt = l36_6.toInt + 1 := addT (a := l36_6.toInt) (b := 1) rfl (by decide) et_36 (by omega) (by omega)
      refine lv_iinc (v := t_36) (lv' := [(6, .int t_36), (8, .int l119_8), (5, .int 1), (4, .int r_1), (0, .ref h0), (1, .ref h_a1), (2, .int v2)]) hx hb dX10_walkOver_185 hl (k := 1) rfl (by rw [← et_36]; rfl) (by decide) rfl (fun ls hl => ?_)
      refine lv_goto (tgt := 36) hx hb dX10_walkOver_188 (by decide) ?_
      exact ih_36 (g119_spentNext) (t_36) _ _ _ (by first | assumption | omega | decide) (by omega) (hP.sub [0, 1, 2, 3, 4] rfl) (hD.sub [0, 1, 2, 3, 4] (by decide) rfl) hS (lv_sub hl [0, 2, 3, 4, 5, 6] rfl)
    · have c_35 : l119_8.toInt < v_a1_tones.toInt := ci_ge_f c_35
      have b_v_a1_tones := i32b v_a1_tones
      refine lv_iload hx hb dX10_walkOver_128 (lv_at hl 3 rfl) ?_
      refine lv_iload hx hb dX10_walkOver_130 (lv_at hl 1 rfl) ?_
      refine lv_aload_n hx hb dX10_walkOver_132 rfl (lv_at hl 5 rfl) ?_
      refine lv_iload_n hx hb dX10_walkOver_133 rfl (lv_at hl 6 rfl) ?_
      refine lv_iload hx hb dX10_walkOver_134 (lv_at hl 3 rfl) ?_
      refine lv_iload hx hb dX10_walkOver_136 (lv_at hl 1 rfl) ?_
      refine lv_iload hx hb dX10_walkOver_138 (lv_at hl 0 rfl) ?_
      refine rosi (As := [.ref h_a1, .int v2, .int r_1, .int l36_6, .int l119_8]) (rest := [.int l36_6, .int r_1]) ⟨hx, hb, hml, hown, hts⟩ (b_X10_ownTone l G D cB cI cJ cZ cS cT h_a1 v_a1_tones v_a1_a v_a1_b v_a1_c v_a1_d v_a1_odds v_a1_lines h_a1_signs v_a1_signCount h_a1_posts v_a1_postCount h_a1_acts f_a1_signs v2 r_1 l36_6 l119_8 (by first | assumption | omega | decide) (by first | assumption | omega | decide)) (csB (n := 5) (inr42 _ (List.mem_of_getElem? (i := 1) rfl)) (inr42 _ (List.mem_of_getElem? (i := 2) rfl)) (inr2 _ (List.mem_of_getElem? (i := 20) rfl)) (inr42 _ (List.mem_of_getElem? (i := 3) rfl)) (by decide +kernel) hts rfl rfl ⟨Nat.le_of_ble_eq_true rfl, Nat.le_of_ble_eq_true rfl⟩) (hP.sub [3, 4] rfl) hK hN (kT.to hT hS hAB) rfl hl.1 rfl (Nat.le_of_ble_eq_true rfl) ⟨Nat.le_of_ble_eq_true rfl, Nat.le_of_ble_eq_true rfl⟩ dX10_walkOver_140 (fun r_37 h_38 => ?_)
      refine rosi (As := [.int r_1, .int l36_6, .int r_37]) (rest := []) ⟨hx, hb, hml, hown, hts⟩ (b_X10_stateOf l G D cB cI cJ cZ cS cT r_1 l36_6 r_37 ) (csB (n := 3) (inr41 _ (List.mem_of_getElem? (i := 22) rfl)) (inr41 _ (List.mem_of_getElem? (i := 23) rfl)) (inr2 _ (List.mem_of_getElem? (i := 20) rfl)) (inr42 _ (List.mem_of_getElem? (i := 0) rfl)) (by decide +kernel) hts rfl rfl ⟨Nat.le_of_ble_eq_true rfl, Nat.le_of_ble_eq_true rfl⟩) (hP.sub [] rfl) hK hN (kT.to hT hS hAB) rfl hl.1 rfl (Nat.le_of_ble_eq_true rfl) ⟨Nat.le_of_ble_eq_true rfl, Nat.le_of_ble_eq_true rfl⟩ dX10_walkOver_143 (fun r_39 h_40 => ?_)
      have h_40 : (0 ≤ r_39.toInt ∧ r_39.toInt ≤ 80) := h_40
      have i_41 := h_40
      refine lv_istore (lv' := [(9, .int r_39), (8, .int l119_8), (6, .int l36_6), (5, .int 1), (4, .int r_1), (0, .ref h0), (1, .ref h_a1), (2, .int v2)]) hx hb dX10_walkOver_146 hl (by decide) rfl (fun ls hl => ?_)
      refine lv_aload_n hx hb dX10_walkOver_148 rfl (lv_at hl 5 rfl) ?_
      refine va_get (D := D) (ci := 10) (v := .ref h_spentNext) (C := RX10) (T := TX10) (N := 3) hx hb hts inlX10 hown hK hP 0 rfl rfl 1 (by decide) (hts _ (inr5 _ (List.mem_of_getElem? (i := 18) rfl))) (fun _ h9 => h9) rfl dX10_walkOver_149 ?_
      refine lv_iload hx hb dX10_walkOver_152 (lv_at hl 0 rfl) ?_
      refine lv_aload_n hx hb dX10_walkOver_154 rfl (lv_at hl 5 rfl) ?_
      refine va_get (D := D) (ci := 10) (v := .ref h_spentNext) (C := RX10) (T := TX10) (N := 3) hx hb hts inlX10 hown hK hP 0 rfl rfl 1 (by decide) (hts _ (inr5 _ (List.mem_of_getElem? (i := 18) rfl))) (fun _ h9 => h9) rfl dX10_walkOver_155 ?_
      refine lv_iload hx hb dX10_walkOver_158 (lv_at hl 0 rfl) ?_
      obtain ⟨t_42, et_42⟩ : ∃ v9 : Int32, g119_spentNext (r_39 : Int32).toNatClampNeg = v9 := ⟨_, rfl⟩
      refine z_iald (v := t_42) hx hb hK hP 2 1 rfl rfl (vin_nat (by omega) (by omega)) et_42 dX10_walkOver_160 ?_
      refine lv_aload_n hx hb dX10_walkOver_161 rfl (lv_at hl 5 rfl) ?_
      refine va_get (D := D) (ci := 10) (v := .ref h_spent) (C := RX10) (T := TX10) (N := 3) hx hb hts inlX10 hown hK hP 0 rfl rfl 0 (by decide) (hts _ (inr5 _ (List.mem_of_getElem? (i := 17) rfl))) (fun _ h9 => h9) rfl dX10_walkOver_162 ?_
      refine lv_iload hx hb dX10_walkOver_165 (lv_at hl 4 rfl) ?_
      refine lv_iload hx hb dX10_walkOver_167 (lv_at hl 2 rfl) ?_
      refine lv_iload hx hb dX10_walkOver_169 (lv_at hl 1 rfl) ?_
      refine rosi (As := [.int r_1, .int l36_6, .int l119_8]) (rest := [.ref h_spent, .int t_42, .int r_39, .ref h_spentNext]) ⟨hx, hb, hml, hown, hts⟩ (b_X10_stateOf l G D cB cI cJ cZ cS cT r_1 l36_6 l119_8 ) (csB (n := 3) (inr41 _ (List.mem_of_getElem? (i := 22) rfl)) (inr41 _ (List.mem_of_getElem? (i := 23) rfl)) (inr2 _ (List.mem_of_getElem? (i := 20) rfl)) (inr42 _ (List.mem_of_getElem? (i := 0) rfl)) (by decide +kernel) hts rfl rfl ⟨Nat.le_of_ble_eq_true rfl, Nat.le_of_ble_eq_true rfl⟩) (hP.sub [] rfl) hK hN (kT.to hT hS hAB) rfl hl.1 rfl (Nat.le_of_ble_eq_true rfl) ⟨Nat.le_of_ble_eq_true rfl, Nat.le_of_ble_eq_true rfl⟩ dX10_walkOver_171 (fun r_43 h_44 => ?_)
      have h_44 : (0 ≤ r_43.toInt ∧ r_43.toInt ≤ 80) := h_44
      have i_45 := h_44
      obtain ⟨t_46, et_46⟩ : ∃ v9 : Int32, f_spent (r_43 : Int32).toNatClampNeg = v9 := ⟨_, rfl⟩
      refine z_iald (v := t_46) hx hb hK hP 1 1 rfl rfl (vin_nat (by omega) (by omega)) et_46 dX10_walkOver_174 ?_
      refine va_mmin hx hb (by rw [hml]; exact hl.1.symm) hown (hts _ (inr41 _ (List.mem_of_getElem? (i := 16) rfl))) (hts _ (inr18 _ (List.mem_of_getElem? (i := 11) rfl))) (hts _ (inr18 _ (List.mem_of_getElem? (i := 12) rfl))) (hts _ (inr18 _ (List.mem_of_getElem? (i := 13) rfl))) (Nat.le_of_ble_eq_true rfl) (Nat.le_of_ble_eq_true rfl) (Nat.le_of_ble_eq_true rfl) (Nat.le_of_ble_eq_true rfl) dX10_walkOver_175 ?_
      refine lv_topi (fun t_47 et_47 => ?_)
      have b_t_42 := i32b t_42
      have b_t_46 := i32b t_46
      have ft_47 : t_47.toInt ≤ t_42.toInt ∧ t_47.toInt ≤ t_46.toInt ∧ (t_47.toInt = t_42.toInt ∨ t_47.toInt = t_46.toInt) := minT et_47
      refine va_iast hx hb hK hP hD hS 2 1 rfl rfl (vin_nat (by omega) (by omega)) dX10_walkOver_178 (fun H locs hP hD hS => ?_)
      have hP : va_P D vwCl [(h0, .inr (10, [.ref h_spent, .ref h_spentNext, .ref h_missing])), (h_spent, .inl (cI, 81, .inl f_spent)), (h_spentNext, .inl (cI, 81, .inl (upd g119_spentNext (r_39 : Int32).toNatClampNeg t_47))), (h_a1, .inr (8, [.int v_a1_tones, .int v_a1_a, .int v_a1_b, .int v_a1_c, .int v_a1_d, .int v_a1_odds, .int v_a1_lines, .ref h_a1_signs, .int v_a1_signCount, .ref h_a1_posts, .int v_a1_postCount, .ref h_a1_acts])), (h_a1_signs, .inl (cI, 8, .inl f_a1_signs))] H := hP
      have hD : va_D A [(h0, .inr (10, [.ref h_spent, .ref h_spentNext, .ref h_missing])), (h_spent, .inl (cI, 81, .inl f_spent)), (h_spentNext, .inl (cI, 81, .inl (upd g119_spentNext (r_39 : Int32).toNatClampNeg t_47))), (h_a1, .inr (8, [.int v_a1_tones, .int v_a1_a, .int v_a1_b, .int v_a1_c, .int v_a1_d, .int v_a1_odds, .int v_a1_lines, .ref h_a1_signs, .int v_a1_signCount, .ref h_a1_posts, .int v_a1_postCount, .ref h_a1_acts])), (h_a1_signs, .inl (cI, 8, .inl f_a1_signs))] := hD
      obtain ⟨g_48, eg_48⟩ : ∃ v9 : Nat → Int32, (upd g119_spentNext (r_39 : Int32).toNatClampNeg t_47) = v9 := ⟨_, rfl⟩
      rw [eg_48] at hP hD
      have hP : va_P D vwCl [(h0, .inr (10, [.ref h_spent, .ref h_spentNext, .ref h_missing])), (h_spent, .inl (cI, 81, .inl f_spent)), (h_spentNext, .inl (cI, 81, .inl g_48)), (h_a1, .inr (8, [.int v_a1_tones, .int v_a1_a, .int v_a1_b, .int v_a1_c, .int v_a1_d, .int v_a1_odds, .int v_a1_lines, .ref h_a1_signs, .int v_a1_signCount, .ref h_a1_posts, .int v_a1_postCount, .ref h_a1_acts])), (h_a1_signs, .inl (cI, 8, .inl f_a1_signs))] H := hP
      have hD : va_D A [(h0, .inr (10, [.ref h_spent, .ref h_spentNext, .ref h_missing])), (h_spent, .inl (cI, 81, .inl f_spent)), (h_spentNext, .inl (cI, 81, .inl g_48)), (h_a1, .inr (8, [.int v_a1_tones, .int v_a1_a, .int v_a1_b, .int v_a1_c, .int v_a1_d, .int v_a1_odds, .int v_a1_lines, .ref h_a1_signs, .int v_a1_signCount, .ref h_a1_posts, .int v_a1_postCount, .ref h_a1_acts])), (h_a1_signs, .inl (cI, 8, .inl f_a1_signs))] := hD
      obtain ⟨t_49, et_49⟩ : ∃ v9 : Int32, l119_8 + 1 = v9 := ⟨_, rfl⟩
      have ft_49 : t_49.toInt = l119_8.toInt + 1 := addT (a := l119_8.toInt) (b := 1) rfl (by decide) et_49 (by omega) (by omega)
      refine lv_iinc (v := t_49) (lv' := [(8, .int t_49), (9, .int r_39), (6, .int l36_6), (5, .int 1), (4, .int r_1), (0, .ref h0), (1, .ref h_a1), (2, .int v2)]) hx hb dX10_walkOver_179 hl (k := 1) rfl (by rw [← et_49]; rfl) (by decide) rfl (fun ls hl => ?_)
      refine lv_goto (tgt := 119) hx hb dX10_walkOver_182 (by decide) ?_
      exact ih_119 (g_48) (t_49) _ _ _ (by first | assumption | omega | decide) (by omega) (hP.sub [0, 1, 2, 3, 4] rfl) (hD.sub [0, 1, 2, 3, 4] (by decide) rfl) hS (lv_sub hl [0, 2, 3, 4, 5, 6, 7] rfl)

set_option maxHeartbeats 4000000 in
set_option maxRecDepth 100000 in
theorem b_X10_walkOver_l79xx {p : Program} {l : Launch} {e : Env} {s : State} {m : MethodId} {args : Array Value} {below : List Frame} {meth : Method} {c : Code} {Q : State → Prop} {G : Gho} {D : va_G} {cB cI cJ cZ cS cT : ClassId} {A : Nat → Prop} (h0 : Nat) (h_spent : Nat) (h_spentNext : Nat) (h_missing : Nat) (f_spent : Nat → Int32) (h_a1 : Nat) (v_a1_tones : Int32) (v_a1_a : Int32) (v_a1_b : Int32) (v_a1_c : Int32) (v_a1_d : Int32) (v_a1_odds : Int32) (v_a1_lines : Int32) (h_a1_signs : Nat) (v_a1_signCount : Int32) (h_a1_posts : Nat) (v_a1_postCount : Int32) (h_a1_acts : Nat) (f_a1_signs : Nat → Int32) (v2 : Int32) (t_27 : Int32) (l36_6 : Int32) (r_1 : Int32) (g36_spentNext : Nat → Int32) (N_36 : Nat) (iv_a1_signCount : 0 ≤ v_a1_signCount.toInt ∧ v_a1_signCount.toInt ≤ 8) (iv_a1_postCount : 0 ≤ v_a1_postCount.toInt ∧ v_a1_postCount.toInt ≤ 5) (zv_a1_tones : 1 ≤ v_a1_tones.toInt ∧ v_a1_tones.toInt ≤ 2147483647) (zl36_6 : 0 ≤ l36_6.toInt ∧ l36_6.toInt ≤ 2147483646) (zr_1 : 0 ≤ r_1.toInt ∧ r_1.toInt ≤ 0) (c_4 : r_1.toInt = 0) (kl36_6 : 0 ≤ l36_6.toInt) (c_21 : l36_6.toInt < v_a1_tones.toInt) (ih_36 : ∀ (g36_spentNext : Nat → Int32) (l36_6 : Int32) (H : Heap) (locs : List Loc) (ls : Array Slot), 0 ≤ l36_6.toInt → (v_a1_tones.toInt - l36_6.toInt).toNat < N_36 → va_P D vwCl [(h0, .inr (10, [.ref h_spent, .ref h_spentNext, .ref h_missing])), (h_spent, .inl (cI, 81, .inl f_spent)), (h_spentNext, .inl (cI, 81, .inl g36_spentNext)), (h_a1, .inr (8, [.int v_a1_tones, .int v_a1_a, .int v_a1_b, .int v_a1_c, .int v_a1_d, .int v_a1_odds, .int v_a1_lines, .ref h_a1_signs, .int v_a1_signCount, .ref h_a1_posts, .int v_a1_postCount, .ref h_a1_acts])), (h_a1_signs, .inl (cI, 8, .inl f_a1_signs))] H → va_D A [(h0, .inr (10, [.ref h_spent, .ref h_spentNext, .ref h_missing])), (h_spent, .inl (cI, 81, .inl f_spent)), (h_spentNext, .inl (cI, 81, .inl g36_spentNext)), (h_a1, .inr (8, [.int v_a1_tones, .int v_a1_a, .int v_a1_b, .int v_a1_c, .int v_a1_d, .int v_a1_odds, .int v_a1_lines, .ref h_a1_signs, .int v_a1_signCount, .ref h_a1_posts, .int v_a1_postCount, .ref h_a1_acts])), (h_a1_signs, .inl (cI, 8, .inl f_a1_signs))] → va_S A s.heap H locs → lv_has ls 10 [(6, .int l36_6), (5, .int 1), (4, .int r_1), (0, .ref h0), (1, .ref h_a1), (2, .int v2)] → W p l e ({ frames := 3, cells := 0, slots := 0, locals := 70 }) s m args below meth c H locs 0 0 Q (F0 m 36 ls [])) (hM_36 : (v_a1_tones.toInt - l36_6.toInt).toNat < N_36 + 1) (C : Cx p s m args c RX10 cX10_walkOver 10 G D (tyL cB cI cJ cZ cS cT)) (hG : G.1 ≤ s.heap.size) (hAB : ∀ q, A q → G.1 ≤ q) (hA : ∀ q : Nat, s.heap.size ≤ q → A q) (ret : RetV p l e ({ frames := 3, cells := 0, slots := 0, locals := 70 }) s m args below meth c cX10_walkOver D A (fun x : Nat × Nat × (Nat → Int32) × (Nat → Int32) => [(h0, .inr (10, [.ref x.1, .ref x.2.1, .ref h_missing])), (x.1, .inl (cI, 81, .inl x.2.2.1)), (x.2.1, .inl (cI, 81, .inl x.2.2.2)), (h_a1, .inr (8, [.int v_a1_tones, .int v_a1_a, .int v_a1_b, .int v_a1_c, .int v_a1_d, .int v_a1_odds, .int v_a1_lines, .ref h_a1_signs, .int v_a1_signCount, .ref h_a1_posts, .int v_a1_postCount, .ref h_a1_acts])), (h_a1_signs, .inl (cI, 8, .inl f_a1_signs))]) (fun x : Nat × Nat × (Nat → Int32) × (Nat → Int32) => True) Q) :
    ∀ (N : Nat) (g79_spentNext : Nat → Int32) (l79_8 : Int32) (H : Heap) (locs : List Loc) (ls : Array Slot), 0 ≤ l79_8.toInt → (v_a1_tones.toInt - l79_8.toInt).toNat < N → va_P D vwCl [(h0, .inr (10, [.ref h_spent, .ref h_spentNext, .ref h_missing])), (h_spent, .inl (cI, 81, .inl f_spent)), (h_spentNext, .inl (cI, 81, .inl g79_spentNext)), (h_a1, .inr (8, [.int v_a1_tones, .int v_a1_a, .int v_a1_b, .int v_a1_c, .int v_a1_d, .int v_a1_odds, .int v_a1_lines, .ref h_a1_signs, .int v_a1_signCount, .ref h_a1_posts, .int v_a1_postCount, .ref h_a1_acts])), (h_a1_signs, .inl (cI, 8, .inl f_a1_signs))] H → va_D A [(h0, .inr (10, [.ref h_spent, .ref h_spentNext, .ref h_missing])), (h_spent, .inl (cI, 81, .inl f_spent)), (h_spentNext, .inl (cI, 81, .inl g79_spentNext)), (h_a1, .inr (8, [.int v_a1_tones, .int v_a1_a, .int v_a1_b, .int v_a1_c, .int v_a1_d, .int v_a1_odds, .int v_a1_lines, .ref h_a1_signs, .int v_a1_signCount, .ref h_a1_posts, .int v_a1_postCount, .ref h_a1_acts])), (h_a1_signs, .inl (cI, 8, .inl f_a1_signs))] → va_S A s.heap H locs → lv_has ls 10 [(8, .int l79_8), (7, .int t_27), (6, .int l36_6), (5, .int 1), (4, .int r_1), (0, .ref h0), (1, .ref h_a1), (2, .int v2)] → W p l e ({ frames := 3, cells := 0, slots := 0, locals := 70 }) s m args below meth c H locs 0 0 Q (F0 m 79 ls []) := by
  obtain ⟨hx, hb, hml, hown, hts, hK, hN, hT⟩ := id C
  intro N
  induction N with
  | zero =>
    intro g79_spentNext l79_8 H locs ls kl79_8 hM_79 hP hD hS hl
    omega
  | succ N_79 ih_79 =>
    intro g79_spentNext l79_8 H locs ls kl79_8 hM_79 hP hD hS hl
    have b_l79_8 := i32b l79_8
    refine lv_iload hx hb dX10_walkOver_79 (lv_at hl 0 rfl) ?_
    refine lv_aload_n hx hb dX10_walkOver_81 rfl (lv_at hl 6 rfl) ?_
    refine roi (As := []) (rest := [.int l79_8]) ⟨hx, hb, hml, hown, hts⟩ (b_X8_tones l G D cB cI cJ cZ cS cT h_a1 v_a1_tones v_a1_a v_a1_b v_a1_c v_a1_d v_a1_odds v_a1_lines h_a1_signs v_a1_signCount h_a1_posts v_a1_postCount h_a1_acts (by first | assumption | omega | decide) (by first | assumption | omega | decide)) (cvB (n := 0) (inr41 _ (List.mem_of_getElem? (i := 18) rfl)) (inr15 _ (List.mem_of_getElem? (i := 14) rfl)) (inr15 _ (List.mem_of_getElem? (i := 15) rfl)) (inr1 _ (List.mem_of_getElem? (i := 23) rfl)) (inr15 _ (List.mem_of_getElem? (i := 16) rfl)) (by decide +kernel) hts rfl rfl ⟨Nat.le_of_ble_eq_true rfl, Nat.le_of_ble_eq_true rfl⟩) 0 8 rfl rfl rfl (hP.sub [3] rfl) hK hN (kT.to hT hS hAB) rfl hl.1 rfl (Nat.le_of_ble_eq_true rfl) ⟨Nat.le_of_ble_eq_true rfl, Nat.le_of_ble_eq_true rfl⟩ dX10_walkOver_82 (fun r_28 h_29 => ?_)
    have h_29 : (r_28 = v_a1_tones) := h_29
    have i_30 := h_29
    obtain rfl := i_30.symm
    refine lv_icmp_ge (tgt := 116) hx hb dX10_walkOver_85 (by decide) (fun c_31 => ?_) (fun c_31 => ?_)
    · have c_31 : v_a1_tones.toInt ≤ l79_8.toInt := ci_ge_t c_31
      have b_v_a1_tones := i32b v_a1_tones
      refine lv_iconst (v := 0) hx hb dX10_walkOver_116 (by decide) ?_
      refine lv_istore (lv' := [(8, .int 0), (7, .int t_27), (6, .int l36_6), (5, .int 1), (4, .int r_1), (0, .ref h0), (1, .ref h_a1), (2, .int v2)]) hx hb dX10_walkOver_117 hl (by decide) rfl (fun ls hl => ?_)
      exact b_X10_walkOver_l119xx h0 h_spent h_spentNext h_missing f_spent h_a1 v_a1_tones v_a1_a v_a1_b v_a1_c v_a1_d v_a1_odds v_a1_lines h_a1_signs v_a1_signCount h_a1_posts v_a1_postCount h_a1_acts f_a1_signs v2 l36_6 r_1 g36_spentNext g79_spentNext l79_8 t_27 N_36 N_79 (by first | assumption | omega | decide) (by first | assumption | omega | decide) (by first | assumption | omega | decide) (by first | assumption | omega | decide) (by first | assumption | omega | decide) (by first | assumption | omega | decide) (by first | assumption | omega | decide) (by first | assumption | omega | decide) (by first | assumption | omega | decide) (by first | assumption | omega | decide) (by first | assumption | omega | decide) (by first | assumption | omega | decide) (by first | assumption | omega | decide) (by first | assumption | omega | decide) C hG hAB hA ret _ (g79_spentNext) (0) _ _ _ (by first | assumption | omega | decide) (Nat.lt_succ_self _) (hP.sub [0, 1, 2, 3, 4] rfl) (hD.sub [0, 1, 2, 3, 4] (by decide) rfl) hS (lv_sub hl [0, 2, 3, 4, 5, 6, 7] rfl)
    · have c_31 : l79_8.toInt < v_a1_tones.toInt := ci_ge_f c_31
      have b_v_a1_tones := i32b v_a1_tones
      refine lv_aload_n hx hb dX10_walkOver_88 rfl (lv_at hl 5 rfl) ?_
      refine va_get (D := D) (ci := 10) (v := .ref h_spentNext) (C := RX10) (T := TX10) (N := 3) hx hb hts inlX10 hown hK hP 0 rfl rfl 1 (by decide) (hts _ (inr5 _ (List.mem_of_getElem? (i := 18) rfl))) (fun _ h9 => h9) rfl dX10_walkOver_89 ?_
      refine lv_iload hx hb dX10_walkOver_92 (lv_at hl 4 rfl) ?_
      refine lv_iload hx hb dX10_walkOver_94 (lv_at hl 2 rfl) ?_
      refine lv_iload hx hb dX10_walkOver_96 (lv_at hl 0 rfl) ?_
      refine rosi (As := [.int r_1, .int l36_6, .int l79_8]) (rest := [.ref h_spentNext]) ⟨hx, hb, hml, hown, hts⟩ (b_X10_stateOf l G D cB cI cJ cZ cS cT r_1 l36_6 l79_8 ) (csB (n := 3) (inr41 _ (List.mem_of_getElem? (i := 22) rfl)) (inr41 _ (List.mem_of_getElem? (i := 23) rfl)) (inr2 _ (List.mem_of_getElem? (i := 20) rfl)) (inr42 _ (List.mem_of_getElem? (i := 0) rfl)) (by decide +kernel) hts rfl rfl ⟨Nat.le_of_ble_eq_true rfl, Nat.le_of_ble_eq_true rfl⟩) (hP.sub [] rfl) hK hN (kT.to hT hS hAB) rfl hl.1 rfl (Nat.le_of_ble_eq_true rfl) ⟨Nat.le_of_ble_eq_true rfl, Nat.le_of_ble_eq_true rfl⟩ dX10_walkOver_98 (fun r_32 h_33 => ?_)
      have h_33 : (0 ≤ r_32.toInt ∧ r_32.toInt ≤ 80) := h_33
      have i_34 := h_33
      refine lv_iload hx hb dX10_walkOver_101 (lv_at hl 1 rfl) ?_
      refine lv_sipush (v := 1000) hx hb dX10_walkOver_103 (by decide) ?_
      refine va_mmin hx hb (by rw [hml]; exact hl.1.symm) hown (hts _ (inr41 _ (List.mem_of_getElem? (i := 16) rfl))) (hts _ (inr18 _ (List.mem_of_getElem? (i := 11) rfl))) (hts _ (inr18 _ (List.mem_of_getElem? (i := 12) rfl))) (hts _ (inr18 _ (List.mem_of_getElem? (i := 13) rfl))) (Nat.le_of_ble_eq_true rfl) (Nat.le_of_ble_eq_true rfl) (Nat.le_of_ble_eq_true rfl) (Nat.le_of_ble_eq_true rfl) dX10_walkOver_106 ?_
      refine lv_topi (fun t_35 et_35 => ?_)
      have b_t_27 := i32b t_27
      have ft_35 : t_35.toInt ≤ t_27.toInt ∧ t_35.toInt ≤ 1000 ∧ (t_35.toInt = t_27.toInt ∨ t_35.toInt = 1000) := minT et_35
      refine va_iast hx hb hK hP hD hS 2 1 rfl rfl (vin_nat (by omega) (by omega)) dX10_walkOver_109 (fun H locs hP hD hS => ?_)
      have hP : va_P D vwCl [(h0, .inr (10, [.ref h_spent, .ref h_spentNext, .ref h_missing])), (h_spent, .inl (cI, 81, .inl f_spent)), (h_spentNext, .inl (cI, 81, .inl (upd g79_spentNext (r_32 : Int32).toNatClampNeg t_35))), (h_a1, .inr (8, [.int v_a1_tones, .int v_a1_a, .int v_a1_b, .int v_a1_c, .int v_a1_d, .int v_a1_odds, .int v_a1_lines, .ref h_a1_signs, .int v_a1_signCount, .ref h_a1_posts, .int v_a1_postCount, .ref h_a1_acts])), (h_a1_signs, .inl (cI, 8, .inl f_a1_signs))] H := hP
      have hD : va_D A [(h0, .inr (10, [.ref h_spent, .ref h_spentNext, .ref h_missing])), (h_spent, .inl (cI, 81, .inl f_spent)), (h_spentNext, .inl (cI, 81, .inl (upd g79_spentNext (r_32 : Int32).toNatClampNeg t_35))), (h_a1, .inr (8, [.int v_a1_tones, .int v_a1_a, .int v_a1_b, .int v_a1_c, .int v_a1_d, .int v_a1_odds, .int v_a1_lines, .ref h_a1_signs, .int v_a1_signCount, .ref h_a1_posts, .int v_a1_postCount, .ref h_a1_acts])), (h_a1_signs, .inl (cI, 8, .inl f_a1_signs))] := hD
      obtain ⟨g_36, eg_36⟩ : ∃ v9 : Nat → Int32, (upd g79_spentNext (r_32 : Int32).toNatClampNeg t_35) = v9 := ⟨_, rfl⟩
      rw [eg_36] at hP hD
      have hP : va_P D vwCl [(h0, .inr (10, [.ref h_spent, .ref h_spentNext, .ref h_missing])), (h_spent, .inl (cI, 81, .inl f_spent)), (h_spentNext, .inl (cI, 81, .inl g_36)), (h_a1, .inr (8, [.int v_a1_tones, .int v_a1_a, .int v_a1_b, .int v_a1_c, .int v_a1_d, .int v_a1_odds, .int v_a1_lines, .ref h_a1_signs, .int v_a1_signCount, .ref h_a1_posts, .int v_a1_postCount, .ref h_a1_acts])), (h_a1_signs, .inl (cI, 8, .inl f_a1_signs))] H := hP
      have hD : va_D A [(h0, .inr (10, [.ref h_spent, .ref h_spentNext, .ref h_missing])), (h_spent, .inl (cI, 81, .inl f_spent)), (h_spentNext, .inl (cI, 81, .inl g_36)), (h_a1, .inr (8, [.int v_a1_tones, .int v_a1_a, .int v_a1_b, .int v_a1_c, .int v_a1_d, .int v_a1_odds, .int v_a1_lines, .ref h_a1_signs, .int v_a1_signCount, .ref h_a1_posts, .int v_a1_postCount, .ref h_a1_acts])), (h_a1_signs, .inl (cI, 8, .inl f_a1_signs))] := hD
      obtain ⟨t_37, et_37⟩ : ∃ v9 : Int32, l79_8 + 1 = v9 := ⟨_, rfl⟩
      have ft_37 : t_37.toInt = l79_8.toInt + 1 := addT (a := l79_8.toInt) (b := 1) rfl (by decide) et_37 (by omega) (by omega)
      refine lv_iinc (v := t_37) (lv' := [(8, .int t_37), (7, .int t_27), (6, .int l36_6), (5, .int 1), (4, .int r_1), (0, .ref h0), (1, .ref h_a1), (2, .int v2)]) hx hb dX10_walkOver_110 hl (k := 0) rfl (by rw [← et_37]; rfl) (by decide) rfl (fun ls hl => ?_)
      refine lv_goto (tgt := 79) hx hb dX10_walkOver_113 (by decide) ?_
      exact ih_79 (g_36) (t_37) _ _ _ (by first | assumption | omega | decide) (by omega) (hP.sub [0, 1, 2, 3, 4] rfl) (hD.sub [0, 1, 2, 3, 4] (by decide) rfl) hS (lv_sub hl [0, 1, 2, 3, 4, 5, 6, 7] rfl)

set_option maxHeartbeats 4000000 in
set_option maxRecDepth 100000 in
theorem b_X10_walkOver_l36xx {p : Program} {l : Launch} {e : Env} {s : State} {m : MethodId} {args : Array Value} {below : List Frame} {meth : Method} {c : Code} {Q : State → Prop} {G : Gho} {D : va_G} {cB cI cJ cZ cS cT : ClassId} {A : Nat → Prop} (h0 : Nat) (h_spent : Nat) (h_spentNext : Nat) (h_missing : Nat) (f_spent : Nat → Int32) (h_a1 : Nat) (v_a1_tones : Int32) (v_a1_a : Int32) (v_a1_b : Int32) (v_a1_c : Int32) (v_a1_d : Int32) (v_a1_odds : Int32) (v_a1_lines : Int32) (h_a1_signs : Nat) (v_a1_signCount : Int32) (h_a1_posts : Nat) (v_a1_postCount : Int32) (h_a1_acts : Nat) (f_a1_signs : Nat → Int32) (v2 : Int32) (r_1 : Int32) (iv_a1_signCount : 0 ≤ v_a1_signCount.toInt ∧ v_a1_signCount.toInt ≤ 8) (iv_a1_postCount : 0 ≤ v_a1_postCount.toInt ∧ v_a1_postCount.toInt ≤ 5) (zr_1 : 0 ≤ r_1.toInt ∧ r_1.toInt ≤ 0) (c_4 : r_1.toInt = 0) (C : Cx p s m args c RX10 cX10_walkOver 10 G D (tyL cB cI cJ cZ cS cT)) (hG : G.1 ≤ s.heap.size) (hAB : ∀ q, A q → G.1 ≤ q) (hA : ∀ q : Nat, s.heap.size ≤ q → A q) (ret : RetV p l e ({ frames := 3, cells := 0, slots := 0, locals := 70 }) s m args below meth c cX10_walkOver D A (fun x : Nat × Nat × (Nat → Int32) × (Nat → Int32) => [(h0, .inr (10, [.ref x.1, .ref x.2.1, .ref h_missing])), (x.1, .inl (cI, 81, .inl x.2.2.1)), (x.2.1, .inl (cI, 81, .inl x.2.2.2)), (h_a1, .inr (8, [.int v_a1_tones, .int v_a1_a, .int v_a1_b, .int v_a1_c, .int v_a1_d, .int v_a1_odds, .int v_a1_lines, .ref h_a1_signs, .int v_a1_signCount, .ref h_a1_posts, .int v_a1_postCount, .ref h_a1_acts])), (h_a1_signs, .inl (cI, 8, .inl f_a1_signs))]) (fun x : Nat × Nat × (Nat → Int32) × (Nat → Int32) => True) Q) :
    ∀ (N : Nat) (g36_spentNext : Nat → Int32) (l36_6 : Int32) (H : Heap) (locs : List Loc) (ls : Array Slot), 0 ≤ l36_6.toInt → (v_a1_tones.toInt - l36_6.toInt).toNat < N → va_P D vwCl [(h0, .inr (10, [.ref h_spent, .ref h_spentNext, .ref h_missing])), (h_spent, .inl (cI, 81, .inl f_spent)), (h_spentNext, .inl (cI, 81, .inl g36_spentNext)), (h_a1, .inr (8, [.int v_a1_tones, .int v_a1_a, .int v_a1_b, .int v_a1_c, .int v_a1_d, .int v_a1_odds, .int v_a1_lines, .ref h_a1_signs, .int v_a1_signCount, .ref h_a1_posts, .int v_a1_postCount, .ref h_a1_acts])), (h_a1_signs, .inl (cI, 8, .inl f_a1_signs))] H → va_D A [(h0, .inr (10, [.ref h_spent, .ref h_spentNext, .ref h_missing])), (h_spent, .inl (cI, 81, .inl f_spent)), (h_spentNext, .inl (cI, 81, .inl g36_spentNext)), (h_a1, .inr (8, [.int v_a1_tones, .int v_a1_a, .int v_a1_b, .int v_a1_c, .int v_a1_d, .int v_a1_odds, .int v_a1_lines, .ref h_a1_signs, .int v_a1_signCount, .ref h_a1_posts, .int v_a1_postCount, .ref h_a1_acts])), (h_a1_signs, .inl (cI, 8, .inl f_a1_signs))] → va_S A s.heap H locs → lv_has ls 10 [(6, .int l36_6), (5, .int 1), (4, .int r_1), (0, .ref h0), (1, .ref h_a1), (2, .int v2)] → W p l e ({ frames := 3, cells := 0, slots := 0, locals := 70 }) s m args below meth c H locs 0 0 Q (F0 m 36 ls []) := by
  obtain ⟨hx, hb, hml, hown, hts, hK, hN, hT⟩ := id C
  intro N
  induction N with
  | zero =>
    intro g36_spentNext l36_6 H locs ls kl36_6 hM_36 hP hD hS hl
    omega
  | succ N_36 ih_36 =>
    intro g36_spentNext l36_6 H locs ls kl36_6 hM_36 hP hD hS hl
    have b_l36_6 := i32b l36_6
    refine lv_iload hx hb dX10_walkOver_36 (lv_at hl 0 rfl) ?_
    refine lv_aload_n hx hb dX10_walkOver_38 rfl (lv_at hl 4 rfl) ?_
    refine roi (As := []) (rest := [.int l36_6]) ⟨hx, hb, hml, hown, hts⟩ (b_X8_tones l G D cB cI cJ cZ cS cT h_a1 v_a1_tones v_a1_a v_a1_b v_a1_c v_a1_d v_a1_odds v_a1_lines h_a1_signs v_a1_signCount h_a1_posts v_a1_postCount h_a1_acts (by first | assumption | omega | decide) (by first | assumption | omega | decide)) (cvB (n := 0) (inr41 _ (List.mem_of_getElem? (i := 18) rfl)) (inr15 _ (List.mem_of_getElem? (i := 14) rfl)) (inr15 _ (List.mem_of_getElem? (i := 15) rfl)) (inr1 _ (List.mem_of_getElem? (i := 23) rfl)) (inr15 _ (List.mem_of_getElem? (i := 16) rfl)) (by decide +kernel) hts rfl rfl ⟨Nat.le_of_ble_eq_true rfl, Nat.le_of_ble_eq_true rfl⟩) 0 8 rfl rfl rfl (hP.sub [3] rfl) hK hN (kT.to hT hS hAB) rfl hl.1 rfl (Nat.le_of_ble_eq_true rfl) ⟨Nat.le_of_ble_eq_true rfl, Nat.le_of_ble_eq_true rfl⟩ dX10_walkOver_39 (fun r_18 h_19 => ?_)
    have h_19 : (r_18 = v_a1_tones) := h_19
    have i_20 := h_19
    obtain rfl := i_20.symm
    refine lv_icmp_ge (tgt := 191) hx hb dX10_walkOver_42 (by decide) (fun c_21 => ?_) (fun c_21 => ?_)
    · have c_21 : v_a1_tones.toInt ≤ l36_6.toInt := ci_ge_t c_21
      have b_v_a1_tones := i32b v_a1_tones
      refine lv_aload_n hx hb dX10_walkOver_191 rfl (lv_at hl 3 rfl) ?_
      refine va_get (D := D) (ci := 10) (v := .ref h_spent) (C := RX10) (T := TX10) (N := 3) hx hb hts inlX10 hown hK hP 0 rfl rfl 0 (by decide) (hts _ (inr5 _ (List.mem_of_getElem? (i := 17) rfl))) (fun _ h9 => h9) rfl dX10_walkOver_192 ?_
      refine lv_astore (lv' := [(6, .ref h_spent), (5, .int 1), (4, .int r_1), (0, .ref h0), (1, .ref h_a1), (2, .int v2)]) hx hb dX10_walkOver_195 hl (by decide) rfl (fun ls hl => ?_)
      refine lv_aload_n hx hb dX10_walkOver_197 rfl (lv_at hl 3 rfl) ?_
      refine lv_aload_n hx hb dX10_walkOver_198 rfl (lv_at hl 3 rfl) ?_
      refine va_get (D := D) (ci := 10) (v := .ref h_spentNext) (C := RX10) (T := TX10) (N := 3) hx hb hts inlX10 hown hK hP 0 rfl rfl 1 (by decide) (hts _ (inr5 _ (List.mem_of_getElem? (i := 18) rfl))) (fun _ h9 => h9) rfl dX10_walkOver_199 ?_
      refine va_put (D := D) (ci := 10) (v := .ref h_spentNext) (ty := .array .int) (C := RX10) (T := TX10) (N := 3) hx hb hts inlX10 tyX10 tyX10_ok nmX10 hown hK hP hD hS 0 rfl rfl 0 (by decide) (hts _ (inr5 _ (List.mem_of_getElem? (i := 17) rfl))) (fun _ h9 => h9) rfl (by decide +kernel) rfl rfl (Nat.le_of_ble_eq_true rfl) dX10_walkOver_202 (fun H locs hP hD hS => ?_)
      have hP : va_P D vwCl [(h0, .inr (10, [.ref h_spentNext, .ref h_spentNext, .ref h_missing])), (h_spent, .inl (cI, 81, .inl f_spent)), (h_spentNext, .inl (cI, 81, .inl g36_spentNext)), (h_a1, .inr (8, [.int v_a1_tones, .int v_a1_a, .int v_a1_b, .int v_a1_c, .int v_a1_d, .int v_a1_odds, .int v_a1_lines, .ref h_a1_signs, .int v_a1_signCount, .ref h_a1_posts, .int v_a1_postCount, .ref h_a1_acts])), (h_a1_signs, .inl (cI, 8, .inl f_a1_signs))] H := hP
      have hD : va_D A [(h0, .inr (10, [.ref h_spentNext, .ref h_spentNext, .ref h_missing])), (h_spent, .inl (cI, 81, .inl f_spent)), (h_spentNext, .inl (cI, 81, .inl g36_spentNext)), (h_a1, .inr (8, [.int v_a1_tones, .int v_a1_a, .int v_a1_b, .int v_a1_c, .int v_a1_d, .int v_a1_odds, .int v_a1_lines, .ref h_a1_signs, .int v_a1_signCount, .ref h_a1_posts, .int v_a1_postCount, .ref h_a1_acts])), (h_a1_signs, .inl (cI, 8, .inl f_a1_signs))] := hD
      refine lv_aload_n hx hb dX10_walkOver_205 rfl (lv_at hl 3 rfl) ?_
      refine lv_aload hx hb dX10_walkOver_206 (lv_at hl 0 rfl) ?_
      refine va_put (D := D) (ci := 10) (v := .ref h_spent) (ty := .array .int) (C := RX10) (T := TX10) (N := 3) hx hb hts inlX10 tyX10 tyX10_ok nmX10 hown hK hP hD hS 0 rfl rfl 1 (by decide) (hts _ (inr5 _ (List.mem_of_getElem? (i := 18) rfl))) (fun _ h9 => h9) rfl (by decide +kernel) rfl rfl (Nat.le_of_ble_eq_true rfl) dX10_walkOver_208 (fun H locs hP hD hS => ?_)
      have hP : va_P D vwCl [(h0, .inr (10, [.ref h_spentNext, .ref h_spent, .ref h_missing])), (h_spent, .inl (cI, 81, .inl f_spent)), (h_spentNext, .inl (cI, 81, .inl g36_spentNext)), (h_a1, .inr (8, [.int v_a1_tones, .int v_a1_a, .int v_a1_b, .int v_a1_c, .int v_a1_d, .int v_a1_odds, .int v_a1_lines, .ref h_a1_signs, .int v_a1_signCount, .ref h_a1_posts, .int v_a1_postCount, .ref h_a1_acts])), (h_a1_signs, .inl (cI, 8, .inl f_a1_signs))] H := hP
      have hD : va_D A [(h0, .inr (10, [.ref h_spentNext, .ref h_spent, .ref h_missing])), (h_spent, .inl (cI, 81, .inl f_spent)), (h_spentNext, .inl (cI, 81, .inl g36_spentNext)), (h_a1, .inr (8, [.int v_a1_tones, .int v_a1_a, .int v_a1_b, .int v_a1_c, .int v_a1_d, .int v_a1_odds, .int v_a1_lines, .ref h_a1_signs, .int v_a1_signCount, .ref h_a1_posts, .int v_a1_postCount, .ref h_a1_acts])), (h_a1_signs, .inl (cI, 8, .inl f_a1_signs))] := hD
      exact ret _ _ _ _ (h_spentNext, h_spent, g36_spentNext, f_spent) dX10_walkOver_211 trivial (hP.sub [0, 2, 1, 3, 4] rfl) (hD.sub [0, 2, 1, 3, 4] (by decide) rfl) hS
    · have c_21 : l36_6.toInt < v_a1_tones.toInt := ci_ge_f c_21
      have b_v_a1_tones := i32b v_a1_tones
      refine lv_iload hx hb dX10_walkOver_45 (lv_at hl 1 rfl) ?_
      refine lv_if_eq (tgt := 71) hx hb dX10_walkOver_47 (by decide) (fun c0 => absurd c0 (by decide)) (fun _ => ?_)
      refine lv_aload_n hx hb dX10_walkOver_50 rfl (lv_at hl 3 rfl) ?_
      refine va_get (D := D) (ci := 10) (v := .ref h_spent) (C := RX10) (T := TX10) (N := 3) hx hb hts inlX10 hown hK hP 0 rfl rfl 0 (by decide) (hts _ (inr5 _ (List.mem_of_getElem? (i := 17) rfl))) (fun _ h9 => h9) rfl dX10_walkOver_51 ?_
      refine lv_iconst (v := 0) hx hb dX10_walkOver_54 (by decide) ?_
      refine lv_aload_n hx hb dX10_walkOver_55 rfl (lv_at hl 4 rfl) ?_
      refine roi (As := []) (rest := [.int 0, .ref h_spent]) ⟨hx, hb, hml, hown, hts⟩ (b_X8_tones l G D cB cI cJ cZ cS cT h_a1 v_a1_tones v_a1_a v_a1_b v_a1_c v_a1_d v_a1_odds v_a1_lines h_a1_signs v_a1_signCount h_a1_posts v_a1_postCount h_a1_acts (by first | assumption | omega | decide) (by first | assumption | omega | decide)) (cvB (n := 0) (inr41 _ (List.mem_of_getElem? (i := 18) rfl)) (inr15 _ (List.mem_of_getElem? (i := 14) rfl)) (inr15 _ (List.mem_of_getElem? (i := 15) rfl)) (inr1 _ (List.mem_of_getElem? (i := 23) rfl)) (inr15 _ (List.mem_of_getElem? (i := 16) rfl)) (by decide +kernel) hts rfl rfl ⟨Nat.le_of_ble_eq_true rfl, Nat.le_of_ble_eq_true rfl⟩) 0 8 rfl rfl rfl (hP.sub [3] rfl) hK hN (kT.to hT hS hAB) rfl hl.1 rfl (Nat.le_of_ble_eq_true rfl) ⟨Nat.le_of_ble_eq_true rfl, Nat.le_of_ble_eq_true rfl⟩ dX10_walkOver_56 (fun r_22 h_23 => ?_)
      have h_23 : (r_22 = v_a1_tones) := h_23
      have i_24 := h_23
      obtain rfl := i_24.symm
      refine lv_iload hx hb dX10_walkOver_59 (lv_at hl 2 rfl) ?_
      refine lv_iload hx hb dX10_walkOver_61 (lv_at hl 0 rfl) ?_
      refine rosi (As := [.ref h_spent, .int 0, .int v_a1_tones, .int r_1, .int l36_6]) (rest := []) ⟨hx, hb, hml, hown, hts⟩ (b_X10_cheapest l G D cB cI cJ cZ cS cT h_spent f_spent 81 0 v_a1_tones r_1 l36_6 (by first | assumption | omega | decide)) (csB (n := 5) (inr41 _ (List.mem_of_getElem? (i := 19) rfl)) (inr41 _ (List.mem_of_getElem? (i := 20) rfl)) (inr2 _ (List.mem_of_getElem? (i := 20) rfl)) (inr41 _ (List.mem_of_getElem? (i := 21) rfl)) (by decide +kernel) hts rfl rfl ⟨Nat.le_of_ble_eq_true rfl, Nat.le_of_ble_eq_true rfl⟩) (hP.sub [1] rfl) hK hN (kT.to hT hS hAB) rfl hl.1 rfl (Nat.le_of_ble_eq_true rfl) ⟨Nat.le_of_ble_eq_true rfl, Nat.le_of_ble_eq_true rfl⟩ dX10_walkOver_63 (fun r_25 h_26 => ?_)
      refine lv_iconst (v := 1) hx hb dX10_walkOver_66 (by decide) ?_
      obtain ⟨t_27, et_27⟩ : ∃ v9 : Int32, r_25 + 1 = v9 := ⟨_, rfl⟩
      refine z_iadd (v := t_27) hx hb dX10_walkOver_67 et_27 ?_
      refine lv_goto (tgt := 74) hx hb dX10_walkOver_68 (by decide) ?_
      refine lv_istore (lv' := [(7, .int t_27), (6, .int l36_6), (5, .int 1), (4, .int r_1), (0, .ref h0), (1, .ref h_a1), (2, .int v2)]) hx hb dX10_walkOver_74 hl (by decide) rfl (fun ls hl => ?_)
      refine lv_iconst (v := 0) hx hb dX10_walkOver_76 (by decide) ?_
      refine lv_istore (lv' := [(8, .int 0), (7, .int t_27), (6, .int l36_6), (5, .int 1), (4, .int r_1), (0, .ref h0), (1, .ref h_a1), (2, .int v2)]) hx hb dX10_walkOver_77 hl (by decide) rfl (fun ls hl => ?_)
      exact b_X10_walkOver_l79xx h0 h_spent h_spentNext h_missing f_spent h_a1 v_a1_tones v_a1_a v_a1_b v_a1_c v_a1_d v_a1_odds v_a1_lines h_a1_signs v_a1_signCount h_a1_posts v_a1_postCount h_a1_acts f_a1_signs v2 t_27 l36_6 r_1 g36_spentNext N_36 (by first | assumption | omega | decide) (by first | assumption | omega | decide) (by first | assumption | omega | decide) (by first | assumption | omega | decide) (by first | assumption | omega | decide) (by first | assumption | omega | decide) (by first | assumption | omega | decide) (by first | assumption | omega | decide) (by first | assumption | omega | decide) (by first | assumption | omega | decide) C hG hAB hA ret _ (g36_spentNext) (0) _ _ _ (by first | assumption | omega | decide) (Nat.lt_succ_self _) (hP.sub [0, 1, 2, 3, 4] rfl) (hD.sub [0, 1, 2, 3, 4] (by decide) rfl) hS (lv_sub hl [0, 1, 2, 3, 4, 5, 6, 7] rfl)

set_option maxHeartbeats 4000000 in
set_option maxRecDepth 100000 in
theorem b_X10_walkOver (l : Launch) (G : Gho) (D : va_G) (cB cI cJ cZ cS cT : ClassId) (sz : Nat) (h0 : Nat) (h_spent : Nat) (h_spentNext : Nat) (h_missing : Nat) (f_spent : Nat → Int32) (f_spentNext : Nat → Int32) (h_a1 : Nat) (v_a1_tones : Int32) (v_a1_a : Int32) (v_a1_b : Int32) (v_a1_c : Int32) (v_a1_d : Int32) (v_a1_odds : Int32) (v_a1_lines : Int32) (h_a1_signs : Nat) (v_a1_signCount : Int32) (h_a1_posts : Nat) (v_a1_postCount : Int32) (h_a1_acts : Nat) (f_a1_signs : Nat → Int32) (v2 : Int32) (v3 : Int32) (iv_a1_signCount : 0 ≤ v_a1_signCount.toInt ∧ v_a1_signCount.toInt ≤ 8) (iv_a1_postCount : 0 ≤ v_a1_postCount.toInt ∧ v_a1_postCount.toInt ≤ 5) : Met l yX10_walkOver (Cond.code yX10_walkOver cX10_walkOver 10 none :: wsL_law) ({ frames := 3, cells := 0, slots := 0, locals := 70 }) (wrP G D (tyL cB cI cJ cZ cS cT) [(h0, .inr (10, [.ref h_spent, .ref h_spentNext, .ref h_missing])), (h_spent, .inl (cI, 81, .inl f_spent)), (h_spentNext, .inl (cI, 81, .inl f_spentNext)), (h_a1, .inr (8, [.int v_a1_tones, .int v_a1_a, .int v_a1_b, .int v_a1_c, .int v_a1_d, .int v_a1_odds, .int v_a1_lines, .ref h_a1_signs, .int v_a1_signCount, .ref h_a1_posts, .int v_a1_postCount, .ref h_a1_acts])), (h_a1_signs, .inl (cI, 8, .inl f_a1_signs))] sz [.ref h0, .ref h_a1, .int v2, .int v3]) (va_Qv (fun x : Nat × Nat × (Nat → Int32) × (Nat → Int32) => True) (atW D (tyL cB cI cJ cZ cS cT) (va_A [(h0, .inr (10, [.ref h_spent, .ref h_spentNext, .ref h_missing])), (h_spent, .inl (cI, 81, .inl f_spent)), (h_spentNext, .inl (cI, 81, .inl f_spentNext)), (h_a1, .inr (8, [.int v_a1_tones, .int v_a1_a, .int v_a1_b, .int v_a1_c, .int v_a1_d, .int v_a1_odds, .int v_a1_lines, .ref h_a1_signs, .int v_a1_signCount, .ref h_a1_posts, .int v_a1_postCount, .ref h_a1_acts])), (h_a1_signs, .inl (cI, 8, .inl f_a1_signs))] sz) (fun x : Nat × Nat × (Nat → Int32) × (Nat → Int32) => [(h0, .inr (10, [.ref x.1, .ref x.2.1, .ref h_missing])), (x.1, .inl (cI, 81, .inl x.2.2.1)), (x.2.1, .inl (cI, 81, .inl x.2.2.2)), (h_a1, .inr (8, [.int v_a1_tones, .int v_a1_a, .int v_a1_b, .int v_a1_c, .int v_a1_d, .int v_a1_odds, .int v_a1_lines, .ref h_a1_signs, .int v_a1_signCount, .ref h_a1_posts, .int v_a1_postCount, .ref h_a1_acts])), (h_a1_signs, .inl (cI, 8, .inl f_a1_signs))])) (va_A [(h0, .inr (10, [.ref h_spent, .ref h_spentNext, .ref h_missing])), (h_spent, .inl (cI, 81, .inl f_spent)), (h_spentNext, .inl (cI, 81, .inl f_spentNext)), (h_a1, .inr (8, [.int v_a1_tones, .int v_a1_a, .int v_a1_b, .int v_a1_c, .int v_a1_d, .int v_a1_odds, .int v_a1_lines, .ref h_a1_signs, .int v_a1_signCount, .ref h_a1_posts, .int v_a1_postCount, .ref h_a1_acts])), (h_a1_signs, .inl (cI, 8, .inl f_a1_signs))] sz)) 0 0 (va_A [(h0, .inr (10, [.ref h_spent, .ref h_spentNext, .ref h_missing])), (h_spent, .inl (cI, 81, .inl f_spent)), (h_spentNext, .inl (cI, 81, .inl f_spentNext)), (h_a1, .inr (8, [.int v_a1_tones, .int v_a1_a, .int v_a1_b, .int v_a1_c, .int v_a1_d, .int v_a1_odds, .int v_a1_lines, .ref h_a1_signs, .int v_a1_signCount, .ref h_a1_posts, .int v_a1_postCount, .ref h_a1_acts])), (h_a1_signs, .inl (cI, 8, .inl f_a1_signs))] sz) := by
  refine metV (own := RX10) (by decide) rfl ?_
  intro p e s m below meth c Q hsz C hG hP hD hAB ret
  obtain ⟨hx, hb, hml, hown, hts, hK, hN, hT⟩ := id C
  subst hsz
  generalize hAe : va_A [(h0, .inr (10, [.ref h_spent, .ref h_spentNext, .ref h_missing])), (h_spent, .inl (cI, 81, .inl f_spent)), (h_spentNext, .inl (cI, 81, .inl f_spentNext)), (h_a1, .inr (8, [.int v_a1_tones, .int v_a1_a, .int v_a1_b, .int v_a1_c, .int v_a1_d, .int v_a1_odds, .int v_a1_lines, .ref h_a1_signs, .int v_a1_signCount, .ref h_a1_posts, .int v_a1_postCount, .ref h_a1_acts])), (h_a1_signs, .inl (cI, 8, .inl f_a1_signs))] s.heap.size = A at hD hAB ret ⊢
  have hA : ∀ q : Nat, s.heap.size ≤ q → A q := fun q h => by rw [← hAe]; exact Or.inr h
  have hS : va_S A s.heap s.heap [] := va_S.rf
  have hl := lv_entry ([.ref h0, .ref h_a1, .int v2, .int v3]) (n := 10) (Nat.le_of_ble_eq_true rfl)
  rw [lg_entry_eq]
  generalize (lg_sl ([.ref h0, .ref h_a1, .int v2, .int v3]) ++ List.replicate (10 - (lg_sl ([.ref h0, .ref h_a1, .int v2, .int v3])).length) Slot.unset).toArray = ls at hl ⊢
  have hl : lv_has ls 10 [(0, .ref h0), (1, .ref h_a1), (2, .int v2), (3, .int v3)] := hl
  have hP : va_P D vwCl [(h0, .inr (10, [.ref h_spent, .ref h_spentNext, .ref h_missing])), (h_spent, .inl (cI, 81, .inl f_spent)), (h_spentNext, .inl (cI, 81, .inl f_spentNext)), (h_a1, .inr (8, [.int v_a1_tones, .int v_a1_a, .int v_a1_b, .int v_a1_c, .int v_a1_d, .int v_a1_odds, .int v_a1_lines, .ref h_a1_signs, .int v_a1_signCount, .ref h_a1_posts, .int v_a1_postCount, .ref h_a1_acts])), (h_a1_signs, .inl (cI, 8, .inl f_a1_signs))] s.heap := hP
  refine lv_aload_n hx hb dX10_walkOver_0 rfl (lv_at hl 1 rfl) ?_
  refine lv_iload_n hx hb dX10_walkOver_1 rfl (lv_at hl 2 rfl) ?_
  refine roi (As := [.int v2]) (rest := []) ⟨hx, hb, hml, hown, hts⟩ (b_X8_isGap l G D cB cI cJ cZ cS cT h_a1 v_a1_tones v_a1_a v_a1_b v_a1_c v_a1_d v_a1_odds v_a1_lines h_a1_signs v_a1_signCount h_a1_posts v_a1_postCount h_a1_acts f_a1_signs v2 (by first | assumption | omega | decide) (by first | assumption | omega | decide)) (cvB (n := 1) (inr41 _ (List.mem_of_getElem? (i := 17) rfl)) (inr23 _ (List.mem_of_getElem? (i := 12) rfl)) (inr23 _ (List.mem_of_getElem? (i := 13) rfl)) (inr1 _ (List.mem_of_getElem? (i := 23) rfl)) (inr23 _ (List.mem_of_getElem? (i := 14) rfl)) (by decide +kernel) hts rfl rfl ⟨Nat.le_of_ble_eq_true rfl, Nat.le_of_ble_eq_true rfl⟩) 0 8 rfl rfl rfl (hP.sub [3, 4] rfl) hK hN (kT.to hT hS hAB) rfl hl.1 rfl (Nat.le_of_ble_eq_true rfl) ⟨Nat.le_of_ble_eq_true rfl, Nat.le_of_ble_eq_true rfl⟩ dX10_walkOver_2 (fun r_1 h_2 => ?_)
  have h_2 : (r_1 = 0 ∨ r_1 = 1) := h_2
  have i_3 := h_2
  have ar_1 : 0 ≤ r_1.toInt ∧ r_1.toInt ≤ 1 := by rcases i_3 with h | h <;> rw [h] <;> decide
  refine lv_istore (lv' := [(4, .int r_1), (0, .ref h0), (1, .ref h_a1), (2, .int v2), (3, .int v3)]) hx hb dX10_walkOver_5 hl (by decide) rfl (fun ls hl => ?_)
  refine lv_iload hx hb dX10_walkOver_7 (lv_at hl 0 rfl) ?_
  refine lv_if_ne (tgt := 16) hx hb dX10_walkOver_9 (by decide) (fun c_4 => ?_) (fun c_4 => ?_)
  · have c_4 : ¬ r_1.toInt = 0 := ci_ne_t c_4
    have b_r_1 := i32b r_1
    refine lv_iconst (v := 1) hx hb dX10_walkOver_16 (by decide) ?_
    refine lv_goto (tgt := 21) hx hb dX10_walkOver_17 (by decide) ?_
    refine lv_istore (lv' := [(5, .int 1), (4, .int r_1), (0, .ref h0), (1, .ref h_a1), (2, .int v2), (3, .int v3)]) hx hb dX10_walkOver_21 hl (by decide) rfl (fun ls hl => ?_)
    refine lv_aload_n hx hb dX10_walkOver_23 rfl (lv_at hl 2 rfl) ?_
    refine va_get (D := D) (ci := 10) (v := .ref h_spentNext) (C := RX10) (T := TX10) (N := 3) hx hb hts inlX10 hown hK hP 0 rfl rfl 1 (by decide) (hts _ (inr5 _ (List.mem_of_getElem? (i := 18) rfl))) (fun _ h9 => h9) rfl dX10_walkOver_24 ?_
    refine lv_sipush (v := 1000) hx hb dX10_walkOver_27 (by decide) ?_
    refine wrSv (As := [.ref h_spentNext, .int 1000]) (rest := []) (wr := [(h0, .inr (10, [.ref h_spent, .ref h_spentNext, .ref h_missing])), (h_spent, .inl (cI, 81, .inl f_spent)), (h_a1, .inr (8, [.int v_a1_tones, .int v_a1_a, .int v_a1_b, .int v_a1_c, .int v_a1_d, .int v_a1_odds, .int v_a1_lines, .ref h_a1_signs, .int v_a1_signCount, .ref h_a1_posts, .int v_a1_postCount, .ref h_a1_acts])), (h_a1_signs, .inl (cI, 8, .inl f_a1_signs))]) ⟨hx, hb, hml, hown, hts⟩ (b_fillI l G D cB cI cJ cZ cS cT s.heap.size h_spentNext 81 f_spentNext 1000 (by first | assumption | omega | decide)) hP hD hS hA hK hN hT hAB hG [2] [0, 1, 3, 4] rfl rfl (by decide) (by decide) (by decide) (csX (n := 2) (inr41 _ (List.mem_of_getElem? (i := 8) rfl)) (inr4 _ (List.mem_of_getElem? (i := 15) rfl)) (inr4 _ (List.mem_of_getElem? (i := 16) rfl)) (inr4 _ (List.mem_of_getElem? (i := 17) rfl)) (by decide +kernel) hts rfl rfl ⟨Nat.le_of_ble_eq_true rfl, Nat.le_of_ble_eq_true rfl⟩) rfl hl.1 rfl (Nat.le_of_ble_eq_true rfl) ⟨Nat.le_of_ble_eq_true rfl, Nat.le_of_ble_eq_true rfl⟩ dX10_walkOver_30 (fun x9 H locs h_6 hP hD hS => ?_)
    obtain ⟨g_7, rfl⟩ : ∃ z, z = x9 := ⟨_, rfl⟩
    have hP : va_P D vwCl [(h0, .inr (10, [.ref h_spent, .ref h_spentNext, .ref h_missing])), (h_spent, .inl (cI, 81, .inl f_spent)), (h_a1, .inr (8, [.int v_a1_tones, .int v_a1_a, .int v_a1_b, .int v_a1_c, .int v_a1_d, .int v_a1_odds, .int v_a1_lines, .ref h_a1_signs, .int v_a1_signCount, .ref h_a1_posts, .int v_a1_postCount, .ref h_a1_acts])), (h_a1_signs, .inl (cI, 8, .inl f_a1_signs)), (h_spentNext, .inl (cI, 81, .inl g_7))] H := hP
    have hD : va_D A [(h0, .inr (10, [.ref h_spent, .ref h_spentNext, .ref h_missing])), (h_spent, .inl (cI, 81, .inl f_spent)), (h_a1, .inr (8, [.int v_a1_tones, .int v_a1_a, .int v_a1_b, .int v_a1_c, .int v_a1_d, .int v_a1_odds, .int v_a1_lines, .ref h_a1_signs, .int v_a1_signCount, .ref h_a1_posts, .int v_a1_postCount, .ref h_a1_acts])), (h_a1_signs, .inl (cI, 8, .inl f_a1_signs)), (h_spentNext, .inl (cI, 81, .inl g_7))] := hD
    have h_6 : (∀ j, j < 81 → g_7 j = 1000) := h_6
    have i_8 := h_6
    refine lv_iconst (v := 0) hx hb dX10_walkOver_33 (by decide) ?_
    refine lv_istore (lv' := [(6, .int 0), (5, .int 1), (4, .int r_1), (0, .ref h0), (1, .ref h_a1), (2, .int v2), (3, .int v3)]) hx hb dX10_walkOver_34 hl (by decide) rfl (fun ls hl => ?_)
    exact b_X10_walkOver_l36 h0 h_spent h_spentNext h_missing f_spent h_a1 v_a1_tones v_a1_a v_a1_b v_a1_c v_a1_d v_a1_odds v_a1_lines h_a1_signs v_a1_signCount h_a1_posts v_a1_postCount h_a1_acts f_a1_signs v2 r_1 (by first | assumption | omega | decide) (by first | assumption | omega | decide) (by first | assumption | omega | decide) (by first | assumption | omega | decide) C hG hAB hA ret _ (g_7) (0) _ _ _ (by first | assumption | omega | decide) (Nat.lt_succ_self _) (hP.sub [0, 1, 4, 2, 3] rfl) (hD.sub [0, 1, 4, 2, 3] (by decide) rfl) hS (lv_sub hl [0, 1, 2, 3, 4, 5] rfl)
  · have c_4 : r_1.toInt = 0 := ci_ne_f c_4
    have b_r_1 := i32b r_1
    refine lv_iload_n hx hb dX10_walkOver_12 rfl (lv_at hl 4 rfl) ?_
    refine lv_if_ne (tgt := 20) hx hb dX10_walkOver_13 (by decide) (fun c_9 => ?_) (fun c_9 => ?_)
    · have c_9 : ¬ v3.toInt = 0 := ci_ne_t c_9
      have b_v3 := i32b v3
      refine lv_iconst (v := 0) hx hb dX10_walkOver_20 (by decide) ?_
      refine lv_istore (lv' := [(5, .int 0), (4, .int r_1), (0, .ref h0), (1, .ref h_a1), (2, .int v2), (3, .int v3)]) hx hb dX10_walkOver_21 hl (by decide) rfl (fun ls hl => ?_)
      refine lv_aload_n hx hb dX10_walkOver_23 rfl (lv_at hl 2 rfl) ?_
      refine va_get (D := D) (ci := 10) (v := .ref h_spentNext) (C := RX10) (T := TX10) (N := 3) hx hb hts inlX10 hown hK hP 0 rfl rfl 1 (by decide) (hts _ (inr5 _ (List.mem_of_getElem? (i := 18) rfl))) (fun _ h9 => h9) rfl dX10_walkOver_24 ?_
      refine lv_sipush (v := 1000) hx hb dX10_walkOver_27 (by decide) ?_
      refine wrSv (As := [.ref h_spentNext, .int 1000]) (rest := []) (wr := [(h0, .inr (10, [.ref h_spent, .ref h_spentNext, .ref h_missing])), (h_spent, .inl (cI, 81, .inl f_spent)), (h_a1, .inr (8, [.int v_a1_tones, .int v_a1_a, .int v_a1_b, .int v_a1_c, .int v_a1_d, .int v_a1_odds, .int v_a1_lines, .ref h_a1_signs, .int v_a1_signCount, .ref h_a1_posts, .int v_a1_postCount, .ref h_a1_acts])), (h_a1_signs, .inl (cI, 8, .inl f_a1_signs))]) ⟨hx, hb, hml, hown, hts⟩ (b_fillI l G D cB cI cJ cZ cS cT s.heap.size h_spentNext 81 f_spentNext 1000 (by first | assumption | omega | decide)) hP hD hS hA hK hN hT hAB hG [2] [0, 1, 3, 4] rfl rfl (by decide) (by decide) (by decide) (csX (n := 2) (inr41 _ (List.mem_of_getElem? (i := 8) rfl)) (inr4 _ (List.mem_of_getElem? (i := 15) rfl)) (inr4 _ (List.mem_of_getElem? (i := 16) rfl)) (inr4 _ (List.mem_of_getElem? (i := 17) rfl)) (by decide +kernel) hts rfl rfl ⟨Nat.le_of_ble_eq_true rfl, Nat.le_of_ble_eq_true rfl⟩) rfl hl.1 rfl (Nat.le_of_ble_eq_true rfl) ⟨Nat.le_of_ble_eq_true rfl, Nat.le_of_ble_eq_true rfl⟩ dX10_walkOver_30 (fun x9 H locs h_11 hP hD hS => ?_)
      obtain ⟨g_12, rfl⟩ : ∃ z, z = x9 := ⟨_, rfl⟩
      have hP : va_P D vwCl [(h0, .inr (10, [.ref h_spent, .ref h_spentNext, .ref h_missing])), (h_spent, .inl (cI, 81, .inl f_spent)), (h_a1, .inr (8, [.int v_a1_tones, .int v_a1_a, .int v_a1_b, .int v_a1_c, .int v_a1_d, .int v_a1_odds, .int v_a1_lines, .ref h_a1_signs, .int v_a1_signCount, .ref h_a1_posts, .int v_a1_postCount, .ref h_a1_acts])), (h_a1_signs, .inl (cI, 8, .inl f_a1_signs)), (h_spentNext, .inl (cI, 81, .inl g_12))] H := hP
      have hD : va_D A [(h0, .inr (10, [.ref h_spent, .ref h_spentNext, .ref h_missing])), (h_spent, .inl (cI, 81, .inl f_spent)), (h_a1, .inr (8, [.int v_a1_tones, .int v_a1_a, .int v_a1_b, .int v_a1_c, .int v_a1_d, .int v_a1_odds, .int v_a1_lines, .ref h_a1_signs, .int v_a1_signCount, .ref h_a1_posts, .int v_a1_postCount, .ref h_a1_acts])), (h_a1_signs, .inl (cI, 8, .inl f_a1_signs)), (h_spentNext, .inl (cI, 81, .inl g_12))] := hD
      have h_11 : (∀ j, j < 81 → g_12 j = 1000) := h_11
      have i_13 := h_11
      refine lv_iconst (v := 0) hx hb dX10_walkOver_33 (by decide) ?_
      refine lv_istore (lv' := [(6, .int 0), (5, .int 0), (4, .int r_1), (0, .ref h0), (1, .ref h_a1), (2, .int v2), (3, .int v3)]) hx hb dX10_walkOver_34 hl (by decide) rfl (fun ls hl => ?_)
      exact b_X10_walkOver_l36x h0 h_spent h_spentNext h_missing f_spent h_a1 v_a1_tones v_a1_a v_a1_b v_a1_c v_a1_d v_a1_odds v_a1_lines h_a1_signs v_a1_signCount h_a1_posts v_a1_postCount h_a1_acts f_a1_signs v2 r_1 (by first | assumption | omega | decide) (by first | assumption | omega | decide) (by first | assumption | omega | decide) (by first | assumption | omega | decide) C hG hAB hA ret _ (g_12) (0) _ _ _ (by first | assumption | omega | decide) (Nat.lt_succ_self _) (hP.sub [0, 1, 4, 2, 3] rfl) (hD.sub [0, 1, 4, 2, 3] (by decide) rfl) hS (lv_sub hl [0, 1, 2, 3, 4, 5] rfl)
    · have c_9 : v3.toInt = 0 := ci_ne_f c_9
      have b_v3 := i32b v3
      refine lv_iconst (v := 1) hx hb dX10_walkOver_16 (by decide) ?_
      refine lv_goto (tgt := 21) hx hb dX10_walkOver_17 (by decide) ?_
      refine lv_istore (lv' := [(5, .int 1), (4, .int r_1), (0, .ref h0), (1, .ref h_a1), (2, .int v2), (3, .int v3)]) hx hb dX10_walkOver_21 hl (by decide) rfl (fun ls hl => ?_)
      refine lv_aload_n hx hb dX10_walkOver_23 rfl (lv_at hl 2 rfl) ?_
      refine va_get (D := D) (ci := 10) (v := .ref h_spentNext) (C := RX10) (T := TX10) (N := 3) hx hb hts inlX10 hown hK hP 0 rfl rfl 1 (by decide) (hts _ (inr5 _ (List.mem_of_getElem? (i := 18) rfl))) (fun _ h9 => h9) rfl dX10_walkOver_24 ?_
      refine lv_sipush (v := 1000) hx hb dX10_walkOver_27 (by decide) ?_
      refine wrSv (As := [.ref h_spentNext, .int 1000]) (rest := []) (wr := [(h0, .inr (10, [.ref h_spent, .ref h_spentNext, .ref h_missing])), (h_spent, .inl (cI, 81, .inl f_spent)), (h_a1, .inr (8, [.int v_a1_tones, .int v_a1_a, .int v_a1_b, .int v_a1_c, .int v_a1_d, .int v_a1_odds, .int v_a1_lines, .ref h_a1_signs, .int v_a1_signCount, .ref h_a1_posts, .int v_a1_postCount, .ref h_a1_acts])), (h_a1_signs, .inl (cI, 8, .inl f_a1_signs))]) ⟨hx, hb, hml, hown, hts⟩ (b_fillI l G D cB cI cJ cZ cS cT s.heap.size h_spentNext 81 f_spentNext 1000 (by first | assumption | omega | decide)) hP hD hS hA hK hN hT hAB hG [2] [0, 1, 3, 4] rfl rfl (by decide) (by decide) (by decide) (csX (n := 2) (inr41 _ (List.mem_of_getElem? (i := 8) rfl)) (inr4 _ (List.mem_of_getElem? (i := 15) rfl)) (inr4 _ (List.mem_of_getElem? (i := 16) rfl)) (inr4 _ (List.mem_of_getElem? (i := 17) rfl)) (by decide +kernel) hts rfl rfl ⟨Nat.le_of_ble_eq_true rfl, Nat.le_of_ble_eq_true rfl⟩) rfl hl.1 rfl (Nat.le_of_ble_eq_true rfl) ⟨Nat.le_of_ble_eq_true rfl, Nat.le_of_ble_eq_true rfl⟩ dX10_walkOver_30 (fun x9 H locs h_15 hP hD hS => ?_)
      obtain ⟨g_16, rfl⟩ : ∃ z, z = x9 := ⟨_, rfl⟩
      have hP : va_P D vwCl [(h0, .inr (10, [.ref h_spent, .ref h_spentNext, .ref h_missing])), (h_spent, .inl (cI, 81, .inl f_spent)), (h_a1, .inr (8, [.int v_a1_tones, .int v_a1_a, .int v_a1_b, .int v_a1_c, .int v_a1_d, .int v_a1_odds, .int v_a1_lines, .ref h_a1_signs, .int v_a1_signCount, .ref h_a1_posts, .int v_a1_postCount, .ref h_a1_acts])), (h_a1_signs, .inl (cI, 8, .inl f_a1_signs)), (h_spentNext, .inl (cI, 81, .inl g_16))] H := hP
      have hD : va_D A [(h0, .inr (10, [.ref h_spent, .ref h_spentNext, .ref h_missing])), (h_spent, .inl (cI, 81, .inl f_spent)), (h_a1, .inr (8, [.int v_a1_tones, .int v_a1_a, .int v_a1_b, .int v_a1_c, .int v_a1_d, .int v_a1_odds, .int v_a1_lines, .ref h_a1_signs, .int v_a1_signCount, .ref h_a1_posts, .int v_a1_postCount, .ref h_a1_acts])), (h_a1_signs, .inl (cI, 8, .inl f_a1_signs)), (h_spentNext, .inl (cI, 81, .inl g_16))] := hD
      have h_15 : (∀ j, j < 81 → g_16 j = 1000) := h_15
      have i_17 := h_15
      refine lv_iconst (v := 0) hx hb dX10_walkOver_33 (by decide) ?_
      refine lv_istore (lv' := [(6, .int 0), (5, .int 1), (4, .int r_1), (0, .ref h0), (1, .ref h_a1), (2, .int v2), (3, .int v3)]) hx hb dX10_walkOver_34 hl (by decide) rfl (fun ls hl => ?_)
      exact b_X10_walkOver_l36xx h0 h_spent h_spentNext h_missing f_spent h_a1 v_a1_tones v_a1_a v_a1_b v_a1_c v_a1_d v_a1_odds v_a1_lines h_a1_signs v_a1_signCount h_a1_posts v_a1_postCount h_a1_acts f_a1_signs v2 r_1 (by first | assumption | omega | decide) (by first | assumption | omega | decide) (by first | assumption | omega | decide) (by first | assumption | omega | decide) C hG hAB hA ret _ (g_16) (0) _ _ _ (by first | assumption | omega | decide) (Nat.lt_succ_self _) (hP.sub [0, 1, 4, 2, 3] rfl) (hD.sub [0, 1, 4, 2, 3] (by decide) rfl) hS (lv_sub hl [0, 1, 2, 3, 4, 5] rfl)

set_option maxHeartbeats 4000000 in
set_option maxRecDepth 100000 in
theorem b_X10_walkTo_l9 {p : Program} {l : Launch} {e : Env} {s : State} {m : MethodId} {args : Array Value} {below : List Frame} {meth : Method} {c : Code} {Q : State → Prop} {G : Gho} {D : va_G} {cB cI cJ cZ cS cT : ClassId} {A : Nat → Prop} (h0 : Nat) (h_missing : Nat) (h_a1 : Nat) (v_a1_tones : Int32) (v_a1_a : Int32) (v_a1_b : Int32) (v_a1_c : Int32) (v_a1_d : Int32) (v_a1_odds : Int32) (v_a1_lines : Int32) (h_a1_signs : Nat) (v_a1_signCount : Int32) (h_a1_posts : Nat) (v_a1_postCount : Int32) (h_a1_acts : Nat) (f_a1_signs : Nat → Int32) (v2 : Int32) (v3 : Int32) (iv_a1_signCount : 0 ≤ v_a1_signCount.toInt ∧ v_a1_signCount.toInt ≤ 8) (iv_a1_postCount : 0 ≤ v_a1_postCount.toInt ∧ v_a1_postCount.toInt ≤ 5) (C : Cx p s m args c RX10 cX10_walkTo 5 G D (tyL cB cI cJ cZ cS cT)) (hG : G.1 ≤ s.heap.size) (hAB : ∀ q, A q → G.1 ≤ q) (hA : ∀ q : Nat, s.heap.size ≤ q → A q) (ret : RetV p l e ({ frames := 4, cells := 0, slots := 0, locals := 99 }) s m args below meth c cX10_walkTo D A (fun x : Nat × Nat × (Nat → Int32) × (Nat → Int32) => [(h0, .inr (10, [.ref x.1, .ref x.2.1, .ref h_missing])), (x.1, .inl (cI, 81, .inl x.2.2.1)), (x.2.1, .inl (cI, 81, .inl x.2.2.2)), (h_a1, .inr (8, [.int v_a1_tones, .int v_a1_a, .int v_a1_b, .int v_a1_c, .int v_a1_d, .int v_a1_odds, .int v_a1_lines, .ref h_a1_signs, .int v_a1_signCount, .ref h_a1_posts, .int v_a1_postCount, .ref h_a1_acts])), (h_a1_signs, .inl (cI, 8, .inl f_a1_signs))]) (fun x : Nat × Nat × (Nat → Int32) × (Nat → Int32) => True) Q) :
    ∀ (N : Nat) (u9_spent : Nat) (u9_spentNext : Nat) (g9_spent : Nat → Int32) (g9_spentNext : Nat → Int32) (l9_4 : Int32) (H : Heap) (locs : List Loc) (ls : Array Slot), 0 ≤ l9_4.toInt → (v2.toInt - l9_4.toInt).toNat < N → va_P D vwCl [(h0, .inr (10, [.ref u9_spent, .ref u9_spentNext, .ref h_missing])), (u9_spent, .inl (cI, 81, .inl g9_spent)), (u9_spentNext, .inl (cI, 81, .inl g9_spentNext)), (h_a1, .inr (8, [.int v_a1_tones, .int v_a1_a, .int v_a1_b, .int v_a1_c, .int v_a1_d, .int v_a1_odds, .int v_a1_lines, .ref h_a1_signs, .int v_a1_signCount, .ref h_a1_posts, .int v_a1_postCount, .ref h_a1_acts])), (h_a1_signs, .inl (cI, 8, .inl f_a1_signs))] H → va_D A [(h0, .inr (10, [.ref u9_spent, .ref u9_spentNext, .ref h_missing])), (u9_spent, .inl (cI, 81, .inl g9_spent)), (u9_spentNext, .inl (cI, 81, .inl g9_spentNext)), (h_a1, .inr (8, [.int v_a1_tones, .int v_a1_a, .int v_a1_b, .int v_a1_c, .int v_a1_d, .int v_a1_odds, .int v_a1_lines, .ref h_a1_signs, .int v_a1_signCount, .ref h_a1_posts, .int v_a1_postCount, .ref h_a1_acts])), (h_a1_signs, .inl (cI, 8, .inl f_a1_signs))] → va_S A s.heap H locs → lv_has ls 5 [(4, .int l9_4), (0, .ref h0), (1, .ref h_a1), (2, .int v2), (3, .int v3)] → W p l e ({ frames := 4, cells := 0, slots := 0, locals := 99 }) s m args below meth c H locs 0 0 Q (F0 m 9 ls []) := by
  obtain ⟨hx, hb, hml, hown, hts, hK, hN, hT⟩ := id C
  intro N
  induction N with
  | zero =>
    intro u9_spent u9_spentNext g9_spent g9_spentNext l9_4 H locs ls kl9_4 hM_9 hP hD hS hl
    omega
  | succ N_9 ih_9 =>
    intro u9_spent u9_spentNext g9_spent g9_spentNext l9_4 H locs ls kl9_4 hM_9 hP hD hS hl
    have b_l9_4 := i32b l9_4
    refine lv_iload hx hb dX10_walkTo_9 (lv_at hl 0 rfl) ?_
    refine lv_iload_n hx hb dX10_walkTo_11 rfl (lv_at hl 3 rfl) ?_
    refine lv_icmp_ge (tgt := 36) hx hb dX10_walkTo_12 (by decide) (fun c_4 => ?_) (fun c_4 => ?_)
    · have c_4 : v2.toInt ≤ l9_4.toInt := ci_ge_t c_4
      have b_v2 := i32b v2
      exact ret _ _ _ _ (u9_spent, u9_spentNext, g9_spent, g9_spentNext) dX10_walkTo_36 trivial (hP.sub [0, 1, 2, 3, 4] rfl) (hD.sub [0, 1, 2, 3, 4] (by decide) rfl) hS
    · have c_4 : l9_4.toInt < v2.toInt := ci_ge_f c_4
      have b_v2 := i32b v2
      refine lv_iload hx hb dX10_walkTo_15 (lv_at hl 0 rfl) ?_
      refine lv_bipush (v := 61) hx hb dX10_walkTo_17 (by decide) ?_
      refine lv_icmp_ge (tgt := 36) hx hb dX10_walkTo_19 (by decide) (fun c_5 => ?_) (fun c_5 => ?_)
      · have c_5 : 61 ≤ l9_4.toInt := ci_ge_t c_5
        exact ret _ _ _ _ (u9_spent, u9_spentNext, g9_spent, g9_spentNext) dX10_walkTo_36 trivial (hP.sub [0, 1, 2, 3, 4] rfl) (hD.sub [0, 1, 2, 3, 4] (by decide) rfl) hS
      · have c_5 : l9_4.toInt < 61 := ci_ge_f c_5
        refine lv_aload_n hx hb dX10_walkTo_22 rfl (lv_at hl 1 rfl) ?_
        refine lv_aload_n hx hb dX10_walkTo_23 rfl (lv_at hl 2 rfl) ?_
        refine lv_iload hx hb dX10_walkTo_24 (lv_at hl 0 rfl) ?_
        refine lv_iload_n hx hb dX10_walkTo_26 rfl (lv_at hl 4 rfl) ?_
        refine wrVv (As := [.ref h_a1, .int l9_4, .int v3]) (rest := []) (wr := []) ⟨hx, hb, hml, hown, hts⟩ (b_X10_walkOver l G D cB cI cJ cZ cS cT H.size h0 u9_spent u9_spentNext h_missing g9_spent g9_spentNext h_a1 v_a1_tones v_a1_a v_a1_b v_a1_c v_a1_d v_a1_odds v_a1_lines h_a1_signs v_a1_signCount h_a1_posts v_a1_postCount h_a1_acts f_a1_signs l9_4 v3 (by first | assumption | omega | decide) (by first | assumption | omega | decide)) hP hD hS hA hK hN hT hAB hG [0, 1, 2, 3, 4] [] rfl rfl (by decide) (by decide) (by decide) (cvB (n := 3) (inr41 _ (List.mem_of_getElem? (i := 12) rfl)) (inr41 _ (List.mem_of_getElem? (i := 13) rfl)) (inr41 _ (List.mem_of_getElem? (i := 14) rfl)) (inr2 _ (List.mem_of_getElem? (i := 20) rfl)) (inr41 _ (List.mem_of_getElem? (i := 15) rfl)) (by decide +kernel) hts rfl rfl ⟨Nat.le_of_ble_eq_true rfl, Nat.le_of_ble_eq_true rfl⟩) 0 10 rfl rfl rfl rfl hl.1 rfl (Nat.le_of_ble_eq_true rfl) ⟨Nat.le_of_ble_eq_true rfl, Nat.le_of_ble_eq_true rfl⟩ dX10_walkTo_27 (fun x9 H locs h_7 hP hD hS => ?_)
        obtain ⟨q_8, q_9, g_10, g_11⟩ := x9
        have hP : va_P D vwCl [(h0, .inr (10, [.ref q_8, .ref q_9, .ref h_missing])), (q_8, .inl (cI, 81, .inl g_10)), (q_9, .inl (cI, 81, .inl g_11)), (h_a1, .inr (8, [.int v_a1_tones, .int v_a1_a, .int v_a1_b, .int v_a1_c, .int v_a1_d, .int v_a1_odds, .int v_a1_lines, .ref h_a1_signs, .int v_a1_signCount, .ref h_a1_posts, .int v_a1_postCount, .ref h_a1_acts])), (h_a1_signs, .inl (cI, 8, .inl f_a1_signs))] H := hP
        have hD : va_D A [(h0, .inr (10, [.ref q_8, .ref q_9, .ref h_missing])), (q_8, .inl (cI, 81, .inl g_10)), (q_9, .inl (cI, 81, .inl g_11)), (h_a1, .inr (8, [.int v_a1_tones, .int v_a1_a, .int v_a1_b, .int v_a1_c, .int v_a1_d, .int v_a1_odds, .int v_a1_lines, .ref h_a1_signs, .int v_a1_signCount, .ref h_a1_posts, .int v_a1_postCount, .ref h_a1_acts])), (h_a1_signs, .inl (cI, 8, .inl f_a1_signs))] := hD
        obtain ⟨t_12, et_12⟩ : ∃ v9 : Int32, l9_4 + 1 = v9 := ⟨_, rfl⟩
        have ft_12 : t_12.toInt = l9_4.toInt + 1 := addT (a := l9_4.toInt) (b := 1) rfl (by decide) et_12 (by omega) (by omega)
        refine lv_iinc (v := t_12) (lv' := [(4, .int t_12), (0, .ref h0), (1, .ref h_a1), (2, .int v2), (3, .int v3)]) hx hb dX10_walkTo_30 hl (k := 0) rfl (by rw [← et_12]; rfl) (by decide) rfl (fun ls hl => ?_)
        refine lv_goto (tgt := 9) hx hb dX10_walkTo_33 (by decide) ?_
        exact ih_9 (q_8) (q_9) (g_10) (g_11) (t_12) _ _ _ (by first | assumption | omega | decide) (by omega) (hP.sub [0, 1, 2, 3, 4] rfl) (hD.sub [0, 1, 2, 3, 4] (by decide) rfl) hS (lv_sub hl [0, 1, 2, 3, 4] rfl)

set_option maxHeartbeats 4000000 in
set_option maxRecDepth 100000 in
theorem b_X10_walkTo (l : Launch) (G : Gho) (D : va_G) (cB cI cJ cZ cS cT : ClassId) (sz : Nat) (h0 : Nat) (h_spent : Nat) (h_spentNext : Nat) (h_missing : Nat) (f_spent : Nat → Int32) (f_spentNext : Nat → Int32) (h_a1 : Nat) (v_a1_tones : Int32) (v_a1_a : Int32) (v_a1_b : Int32) (v_a1_c : Int32) (v_a1_d : Int32) (v_a1_odds : Int32) (v_a1_lines : Int32) (h_a1_signs : Nat) (v_a1_signCount : Int32) (h_a1_posts : Nat) (v_a1_postCount : Int32) (h_a1_acts : Nat) (f_a1_signs : Nat → Int32) (v2 : Int32) (v3 : Int32) (iv_a1_signCount : 0 ≤ v_a1_signCount.toInt ∧ v_a1_signCount.toInt ≤ 8) (iv_a1_postCount : 0 ≤ v_a1_postCount.toInt ∧ v_a1_postCount.toInt ≤ 5) : Met l yX10_walkTo (Cond.code yX10_walkTo cX10_walkTo 5 none :: wsL_law) ({ frames := 4, cells := 0, slots := 0, locals := 99 }) (wrP G D (tyL cB cI cJ cZ cS cT) [(h0, .inr (10, [.ref h_spent, .ref h_spentNext, .ref h_missing])), (h_spent, .inl (cI, 81, .inl f_spent)), (h_spentNext, .inl (cI, 81, .inl f_spentNext)), (h_a1, .inr (8, [.int v_a1_tones, .int v_a1_a, .int v_a1_b, .int v_a1_c, .int v_a1_d, .int v_a1_odds, .int v_a1_lines, .ref h_a1_signs, .int v_a1_signCount, .ref h_a1_posts, .int v_a1_postCount, .ref h_a1_acts])), (h_a1_signs, .inl (cI, 8, .inl f_a1_signs))] sz [.ref h0, .ref h_a1, .int v2, .int v3]) (va_Qv (fun x : Nat × Nat × (Nat → Int32) × (Nat → Int32) => True) (atW D (tyL cB cI cJ cZ cS cT) (va_A [(h0, .inr (10, [.ref h_spent, .ref h_spentNext, .ref h_missing])), (h_spent, .inl (cI, 81, .inl f_spent)), (h_spentNext, .inl (cI, 81, .inl f_spentNext)), (h_a1, .inr (8, [.int v_a1_tones, .int v_a1_a, .int v_a1_b, .int v_a1_c, .int v_a1_d, .int v_a1_odds, .int v_a1_lines, .ref h_a1_signs, .int v_a1_signCount, .ref h_a1_posts, .int v_a1_postCount, .ref h_a1_acts])), (h_a1_signs, .inl (cI, 8, .inl f_a1_signs))] sz) (fun x : Nat × Nat × (Nat → Int32) × (Nat → Int32) => [(h0, .inr (10, [.ref x.1, .ref x.2.1, .ref h_missing])), (x.1, .inl (cI, 81, .inl x.2.2.1)), (x.2.1, .inl (cI, 81, .inl x.2.2.2)), (h_a1, .inr (8, [.int v_a1_tones, .int v_a1_a, .int v_a1_b, .int v_a1_c, .int v_a1_d, .int v_a1_odds, .int v_a1_lines, .ref h_a1_signs, .int v_a1_signCount, .ref h_a1_posts, .int v_a1_postCount, .ref h_a1_acts])), (h_a1_signs, .inl (cI, 8, .inl f_a1_signs))])) (va_A [(h0, .inr (10, [.ref h_spent, .ref h_spentNext, .ref h_missing])), (h_spent, .inl (cI, 81, .inl f_spent)), (h_spentNext, .inl (cI, 81, .inl f_spentNext)), (h_a1, .inr (8, [.int v_a1_tones, .int v_a1_a, .int v_a1_b, .int v_a1_c, .int v_a1_d, .int v_a1_odds, .int v_a1_lines, .ref h_a1_signs, .int v_a1_signCount, .ref h_a1_posts, .int v_a1_postCount, .ref h_a1_acts])), (h_a1_signs, .inl (cI, 8, .inl f_a1_signs))] sz)) 0 0 (va_A [(h0, .inr (10, [.ref h_spent, .ref h_spentNext, .ref h_missing])), (h_spent, .inl (cI, 81, .inl f_spent)), (h_spentNext, .inl (cI, 81, .inl f_spentNext)), (h_a1, .inr (8, [.int v_a1_tones, .int v_a1_a, .int v_a1_b, .int v_a1_c, .int v_a1_d, .int v_a1_odds, .int v_a1_lines, .ref h_a1_signs, .int v_a1_signCount, .ref h_a1_posts, .int v_a1_postCount, .ref h_a1_acts])), (h_a1_signs, .inl (cI, 8, .inl f_a1_signs))] sz) := by
  refine metV (own := RX10) (by decide) rfl ?_
  intro p e s m below meth c Q hsz C hG hP hD hAB ret
  obtain ⟨hx, hb, hml, hown, hts, hK, hN, hT⟩ := id C
  subst hsz
  generalize hAe : va_A [(h0, .inr (10, [.ref h_spent, .ref h_spentNext, .ref h_missing])), (h_spent, .inl (cI, 81, .inl f_spent)), (h_spentNext, .inl (cI, 81, .inl f_spentNext)), (h_a1, .inr (8, [.int v_a1_tones, .int v_a1_a, .int v_a1_b, .int v_a1_c, .int v_a1_d, .int v_a1_odds, .int v_a1_lines, .ref h_a1_signs, .int v_a1_signCount, .ref h_a1_posts, .int v_a1_postCount, .ref h_a1_acts])), (h_a1_signs, .inl (cI, 8, .inl f_a1_signs))] s.heap.size = A at hD hAB ret ⊢
  have hA : ∀ q : Nat, s.heap.size ≤ q → A q := fun q h => by rw [← hAe]; exact Or.inr h
  have hS : va_S A s.heap s.heap [] := va_S.rf
  have hl := lv_entry ([.ref h0, .ref h_a1, .int v2, .int v3]) (n := 5) (Nat.le_of_ble_eq_true rfl)
  rw [lg_entry_eq]
  generalize (lg_sl ([.ref h0, .ref h_a1, .int v2, .int v3]) ++ List.replicate (5 - (lg_sl ([.ref h0, .ref h_a1, .int v2, .int v3])).length) Slot.unset).toArray = ls at hl ⊢
  have hl : lv_has ls 5 [(0, .ref h0), (1, .ref h_a1), (2, .int v2), (3, .int v3)] := hl
  have hP : va_P D vwCl [(h0, .inr (10, [.ref h_spent, .ref h_spentNext, .ref h_missing])), (h_spent, .inl (cI, 81, .inl f_spent)), (h_spentNext, .inl (cI, 81, .inl f_spentNext)), (h_a1, .inr (8, [.int v_a1_tones, .int v_a1_a, .int v_a1_b, .int v_a1_c, .int v_a1_d, .int v_a1_odds, .int v_a1_lines, .ref h_a1_signs, .int v_a1_signCount, .ref h_a1_posts, .int v_a1_postCount, .ref h_a1_acts])), (h_a1_signs, .inl (cI, 8, .inl f_a1_signs))] s.heap := hP
  refine lv_aload_n hx hb dX10_walkTo_0 rfl (lv_at hl 0 rfl) ?_
  refine lv_iconst (v := 0) hx hb dX10_walkTo_1 (by decide) ?_
  refine lv_iconst (v := 0) hx hb dX10_walkTo_2 (by decide) ?_
  refine wrVv (As := [.int 0, .int 0]) (rest := []) (wr := [(h_spentNext, .inl (cI, 81, .inl f_spentNext)), (h_a1, .inr (8, [.int v_a1_tones, .int v_a1_a, .int v_a1_b, .int v_a1_c, .int v_a1_d, .int v_a1_odds, .int v_a1_lines, .ref h_a1_signs, .int v_a1_signCount, .ref h_a1_posts, .int v_a1_postCount, .ref h_a1_acts])), (h_a1_signs, .inl (cI, 8, .inl f_a1_signs))]) ⟨hx, hb, hml, hown, hts⟩ (b_X10_start l G D cB cI cJ cZ cS cT s.heap.size h0 h_spent h_spentNext h_missing f_spent 0 0 ) hP hD hS hA hK hN hT hAB hG [0, 1] [2, 3, 4] rfl rfl (by decide) (by decide) (by decide) (cvB (n := 2) (inr41 _ (List.mem_of_getElem? (i := 4) rfl)) (inr41 _ (List.mem_of_getElem? (i := 5) rfl)) (inr41 _ (List.mem_of_getElem? (i := 6) rfl)) (inr2 _ (List.mem_of_getElem? (i := 20) rfl)) (inr41 _ (List.mem_of_getElem? (i := 7) rfl)) (by decide +kernel) hts rfl rfl ⟨Nat.le_of_ble_eq_true rfl, Nat.le_of_ble_eq_true rfl⟩) 0 10 rfl rfl rfl rfl hl.1 rfl (Nat.le_of_ble_eq_true rfl) ⟨Nat.le_of_ble_eq_true rfl, Nat.le_of_ble_eq_true rfl⟩ dX10_walkTo_3 (fun x9 H locs h_2 hP hD hS => ?_)
  obtain ⟨g_3, rfl⟩ : ∃ z, z = x9 := ⟨_, rfl⟩
  have hP : va_P D vwCl [(h_spentNext, .inl (cI, 81, .inl f_spentNext)), (h_a1, .inr (8, [.int v_a1_tones, .int v_a1_a, .int v_a1_b, .int v_a1_c, .int v_a1_d, .int v_a1_odds, .int v_a1_lines, .ref h_a1_signs, .int v_a1_signCount, .ref h_a1_posts, .int v_a1_postCount, .ref h_a1_acts])), (h_a1_signs, .inl (cI, 8, .inl f_a1_signs)), (h0, .inr (10, [.ref h_spent, .ref h_spentNext, .ref h_missing])), (h_spent, .inl (cI, 81, .inl g_3))] H := hP
  have hD : va_D A [(h_spentNext, .inl (cI, 81, .inl f_spentNext)), (h_a1, .inr (8, [.int v_a1_tones, .int v_a1_a, .int v_a1_b, .int v_a1_c, .int v_a1_d, .int v_a1_odds, .int v_a1_lines, .ref h_a1_signs, .int v_a1_signCount, .ref h_a1_posts, .int v_a1_postCount, .ref h_a1_acts])), (h_a1_signs, .inl (cI, 8, .inl f_a1_signs)), (h0, .inr (10, [.ref h_spent, .ref h_spentNext, .ref h_missing])), (h_spent, .inl (cI, 81, .inl g_3))] := hD
  refine lv_iconst (v := 0) hx hb dX10_walkTo_6 (by decide) ?_
  refine lv_istore (lv' := [(4, .int 0), (0, .ref h0), (1, .ref h_a1), (2, .int v2), (3, .int v3)]) hx hb dX10_walkTo_7 hl (by decide) rfl (fun ls hl => ?_)
  exact b_X10_walkTo_l9 h0 h_missing h_a1 v_a1_tones v_a1_a v_a1_b v_a1_c v_a1_d v_a1_odds v_a1_lines h_a1_signs v_a1_signCount h_a1_posts v_a1_postCount h_a1_acts f_a1_signs v2 v3 (by first | assumption | omega | decide) (by first | assumption | omega | decide) C hG hAB hA ret _ (h_spent) (h_spentNext) (g_3) (f_spentNext) (0) _ _ _ (by first | assumption | omega | decide) (Nat.lt_succ_self _) (hP.sub [3, 4, 0, 1, 2] rfl) (hD.sub [3, 4, 0, 1, 2] (by decide) rfl) hS (lv_sub hl [0, 1, 2, 3, 4] rfl)

set_option maxHeartbeats 4000000 in
set_option maxRecDepth 100000 in
theorem b_X10_fewestTo_l37 {p : Program} {l : Launch} {e : Env} {s : State} {m : MethodId} {args : Array Value} {below : List Frame} {meth : Method} {c : Code} {Q : State → Prop} {G : Gho} {D : va_G} {cB cI cJ cZ cS cT : ClassId} {A : Nat → Prop} (h0 : Nat) (h_missing : Nat) (h_a1 : Nat) (v_a1_tones : Int32) (v_a1_a : Int32) (v_a1_b : Int32) (v_a1_c : Int32) (v_a1_d : Int32) (v_a1_odds : Int32) (v_a1_lines : Int32) (h_a1_signs : Nat) (v_a1_signCount : Int32) (h_a1_posts : Nat) (v_a1_postCount : Int32) (h_a1_acts : Nat) (f_a1_signs : Nat → Int32) (v2 : Int32) (v3 : Int32) (q_7 : Nat) (q_8 : Nat) (g_9 : Nat → Int32) (g_10 : Nat → Int32) (l25_6 : Int32) (l25_5 : Int32) (N_25 : Nat) (iv_a1_signCount : 0 ≤ v_a1_signCount.toInt ∧ v_a1_signCount.toInt ≤ 8) (iv_a1_postCount : 0 ≤ v_a1_postCount.toInt ∧ v_a1_postCount.toInt ≤ 5) (zv_a1_tones : 1 ≤ v_a1_tones.toInt ∧ v_a1_tones.toInt ≤ 2147483647) (zl25_6 : 0 ≤ l25_6.toInt ∧ l25_6.toInt ≤ 2147483646) (c_4 : ¬ v_a1_signCount.toInt = 0) (kl25_6 : 0 ≤ l25_6.toInt) (c_14 : l25_6.toInt < v_a1_tones.toInt) (ih_25 : ∀ (l25_6 : Int32) (l25_5 : Int32) (H : Heap) (locs : List Loc) (ls : Array Slot), 0 ≤ l25_6.toInt → (v_a1_tones.toInt - l25_6.toInt).toNat < N_25 → va_P D vwCl [(h0, .inr (10, [.ref q_7, .ref q_8, .ref h_missing])), (q_7, .inl (cI, 81, .inl g_9)), (q_8, .inl (cI, 81, .inl g_10)), (h_a1, .inr (8, [.int v_a1_tones, .int v_a1_a, .int v_a1_b, .int v_a1_c, .int v_a1_d, .int v_a1_odds, .int v_a1_lines, .ref h_a1_signs, .int v_a1_signCount, .ref h_a1_posts, .int v_a1_postCount, .ref h_a1_acts])), (h_a1_signs, .inl (cI, 8, .inl f_a1_signs))] H → va_D A [(h0, .inr (10, [.ref q_7, .ref q_8, .ref h_missing])), (q_7, .inl (cI, 81, .inl g_9)), (q_8, .inl (cI, 81, .inl g_10)), (h_a1, .inr (8, [.int v_a1_tones, .int v_a1_a, .int v_a1_b, .int v_a1_c, .int v_a1_d, .int v_a1_odds, .int v_a1_lines, .ref h_a1_signs, .int v_a1_signCount, .ref h_a1_posts, .int v_a1_postCount, .ref h_a1_acts])), (h_a1_signs, .inl (cI, 8, .inl f_a1_signs))] → va_S A s.heap H locs → lv_has ls 8 [(6, .int l25_6), (5, .int l25_5), (0, .ref h0), (1, .ref h_a1), (2, .int v2), (3, .int v3)] → W p l e ({ frames := 5, cells := 0, slots := 0, locals := 123 }) s m args below meth c H locs 0 0 Q (F0 m 25 ls [])) (hM_25 : (v_a1_tones.toInt - l25_6.toInt).toNat < N_25 + 1) (C : Cx p s m args c RX10 cX10_fewestTo 8 G D (tyL cB cI cJ cZ cS cT)) (hG : G.1 ≤ s.heap.size) (hAB : ∀ q, A q → G.1 ≤ q) (hA : ∀ q : Nat, s.heap.size ≤ q → A q) (ret : RetI p l e ({ frames := 5, cells := 0, slots := 0, locals := 123 }) s m args below meth c cX10_fewestTo D A (fun x : Nat × Nat × (Nat → Int32) × (Nat → Int32) => [(h0, .inr (10, [.ref x.1, .ref x.2.1, .ref h_missing])), (x.1, .inl (cI, 81, .inl x.2.2.1)), (x.2.1, .inl (cI, 81, .inl x.2.2.2)), (h_a1, .inr (8, [.int v_a1_tones, .int v_a1_a, .int v_a1_b, .int v_a1_c, .int v_a1_d, .int v_a1_odds, .int v_a1_lines, .ref h_a1_signs, .int v_a1_signCount, .ref h_a1_posts, .int v_a1_postCount, .ref h_a1_acts])), (h_a1_signs, .inl (cI, 8, .inl f_a1_signs))]) (fun (r : Int32) (x : Nat × Nat × (Nat → Int32) × (Nat → Int32)) => True) Q) :
    ∀ (N : Nat) (l37_7 : Int32) (l37_5 : Int32) (H : Heap) (locs : List Loc) (ls : Array Slot), 0 ≤ l37_7.toInt → (v_a1_tones.toInt - l37_7.toInt).toNat < N → va_P D vwCl [(h0, .inr (10, [.ref q_7, .ref q_8, .ref h_missing])), (q_7, .inl (cI, 81, .inl g_9)), (q_8, .inl (cI, 81, .inl g_10)), (h_a1, .inr (8, [.int v_a1_tones, .int v_a1_a, .int v_a1_b, .int v_a1_c, .int v_a1_d, .int v_a1_odds, .int v_a1_lines, .ref h_a1_signs, .int v_a1_signCount, .ref h_a1_posts, .int v_a1_postCount, .ref h_a1_acts])), (h_a1_signs, .inl (cI, 8, .inl f_a1_signs))] H → va_D A [(h0, .inr (10, [.ref q_7, .ref q_8, .ref h_missing])), (q_7, .inl (cI, 81, .inl g_9)), (q_8, .inl (cI, 81, .inl g_10)), (h_a1, .inr (8, [.int v_a1_tones, .int v_a1_a, .int v_a1_b, .int v_a1_c, .int v_a1_d, .int v_a1_odds, .int v_a1_lines, .ref h_a1_signs, .int v_a1_signCount, .ref h_a1_posts, .int v_a1_postCount, .ref h_a1_acts])), (h_a1_signs, .inl (cI, 8, .inl f_a1_signs))] → va_S A s.heap H locs → lv_has ls 8 [(7, .int l37_7), (6, .int l25_6), (5, .int l37_5), (0, .ref h0), (1, .ref h_a1), (2, .int v2), (3, .int v3)] → W p l e ({ frames := 5, cells := 0, slots := 0, locals := 123 }) s m args below meth c H locs 0 0 Q (F0 m 37 ls []) := by
  obtain ⟨hx, hb, hml, hown, hts, hK, hN, hT⟩ := id C
  intro N
  induction N with
  | zero =>
    intro l37_7 l37_5 H locs ls kl37_7 hM_37 hP hD hS hl
    omega
  | succ N_37 ih_37 =>
    intro l37_7 l37_5 H locs ls kl37_7 hM_37 hP hD hS hl
    have b_l37_7 := i32b l37_7
    refine lv_iload hx hb dX10_fewestTo_37 (lv_at hl 0 rfl) ?_
    refine lv_aload_n hx hb dX10_fewestTo_39 rfl (lv_at hl 4 rfl) ?_
    refine roi (As := []) (rest := [.int l37_7]) ⟨hx, hb, hml, hown, hts⟩ (b_X8_tones l G D cB cI cJ cZ cS cT h_a1 v_a1_tones v_a1_a v_a1_b v_a1_c v_a1_d v_a1_odds v_a1_lines h_a1_signs v_a1_signCount h_a1_posts v_a1_postCount h_a1_acts (by first | assumption | omega | decide) (by first | assumption | omega | decide)) (cvB (n := 0) (inr41 _ (List.mem_of_getElem? (i := 18) rfl)) (inr15 _ (List.mem_of_getElem? (i := 14) rfl)) (inr15 _ (List.mem_of_getElem? (i := 15) rfl)) (inr1 _ (List.mem_of_getElem? (i := 23) rfl)) (inr15 _ (List.mem_of_getElem? (i := 16) rfl)) (by decide +kernel) hts rfl rfl ⟨Nat.le_of_ble_eq_true rfl, Nat.le_of_ble_eq_true rfl⟩) 0 8 rfl rfl rfl (hP.sub [3] rfl) hK hN (kT.to hT hS hAB) rfl hl.1 rfl (Nat.le_of_ble_eq_true rfl) ⟨Nat.le_of_ble_eq_true rfl, Nat.le_of_ble_eq_true rfl⟩ dX10_fewestTo_40 (fun r_16 h_17 => ?_)
    have h_17 : (r_16 = v_a1_tones) := h_17
    have i_18 := h_17
    obtain rfl := i_18.symm
    refine lv_icmp_ge (tgt := 84) hx hb dX10_fewestTo_43 (by decide) (fun c_19 => ?_) (fun c_19 => ?_)
    · have c_19 : v_a1_tones.toInt ≤ l37_7.toInt := ci_ge_t c_19
      have b_v_a1_tones := i32b v_a1_tones
      obtain ⟨t_20, et_20⟩ : ∃ v9 : Int32, l25_6 + 1 = v9 := ⟨_, rfl⟩
      have b_l25_6 := i32b l25_6
      have ft_20 : t_20.toInt = l25_6.toInt + 1 := addT (a := l25_6.toInt) (b := 1) rfl (by decide) et_20 (by omega) (by omega)
      refine lv_iinc (v := t_20) (lv' := [(6, .int t_20), (7, .int l37_7), (5, .int l37_5), (0, .ref h0), (1, .ref h_a1), (2, .int v2), (3, .int v3)]) hx hb dX10_fewestTo_84 hl (k := 1) rfl (by rw [← et_20]; rfl) (by decide) rfl (fun ls hl => ?_)
      refine lv_goto (tgt := 25) hx hb dX10_fewestTo_87 (by decide) ?_
      exact ih_25 (t_20) (l37_5) _ _ _ (by first | assumption | omega | decide) (by omega) (hP.sub [0, 1, 2, 3, 4] rfl) (hD.sub [0, 1, 2, 3, 4] (by decide) rfl) hS (lv_sub hl [0, 2, 3, 4, 5, 6] rfl)
    · have c_19 : l37_7.toInt < v_a1_tones.toInt := ci_ge_f c_19
      have b_v_a1_tones := i32b v_a1_tones
      refine lv_aload_n hx hb dX10_fewestTo_46 rfl (lv_at hl 4 rfl) ?_
      refine lv_iload_n hx hb dX10_fewestTo_47 rfl (lv_at hl 5 rfl) ?_
      refine lv_iload hx hb dX10_fewestTo_48 (lv_at hl 1 rfl) ?_
      refine lv_iload hx hb dX10_fewestTo_50 (lv_at hl 0 rfl) ?_
      refine roi (As := [.int v2, .int l25_6, .int l37_7]) (rest := []) ⟨hx, hb, hml, hown, hts⟩ (b_X8_ownTone l G D cB cI cJ cZ cS cT h_a1 v_a1_tones v_a1_a v_a1_b v_a1_c v_a1_d v_a1_odds v_a1_lines h_a1_signs v_a1_signCount h_a1_posts v_a1_postCount h_a1_acts f_a1_signs v2 l25_6 l37_7 (by first | assumption | omega | decide) (by first | assumption | omega | decide)) (cvB (n := 3) (inr42 _ (List.mem_of_getElem? (i := 4) rfl)) (inr23 _ (List.mem_of_getElem? (i := 8) rfl)) (inr23 _ (List.mem_of_getElem? (i := 9) rfl)) (inr1 _ (List.mem_of_getElem? (i := 23) rfl)) (inr23 _ (List.mem_of_getElem? (i := 10) rfl)) (by decide +kernel) hts rfl rfl ⟨Nat.le_of_ble_eq_true rfl, Nat.le_of_ble_eq_true rfl⟩) 0 8 rfl rfl rfl (hP.sub [3, 4] rfl) hK hN (kT.to hT hS hAB) rfl hl.1 rfl (Nat.le_of_ble_eq_true rfl) ⟨Nat.le_of_ble_eq_true rfl, Nat.le_of_ble_eq_true rfl⟩ dX10_fewestTo_52 (fun r_21 h_22 => ?_)
      refine lv_iload_n hx hb dX10_fewestTo_55 rfl (lv_at hl 6 rfl) ?_
      refine lv_icmp_ne (tgt := 78) hx hb dX10_fewestTo_56 (by decide) (fun c_23 => ?_) (fun c_23 => ?_)
      · have c_23 : ¬ r_21.toInt = v3.toInt := ci_ne_t c_23
        have b_r_21 := i32b r_21
        have b_v3 := i32b v3
        obtain ⟨t_24, et_24⟩ : ∃ v9 : Int32, l37_7 + 1 = v9 := ⟨_, rfl⟩
        have ft_24 : t_24.toInt = l37_7.toInt + 1 := addT (a := l37_7.toInt) (b := 1) rfl (by decide) et_24 (by omega) (by omega)
        refine lv_iinc (v := t_24) (lv' := [(7, .int t_24), (6, .int l25_6), (5, .int l37_5), (0, .ref h0), (1, .ref h_a1), (2, .int v2), (3, .int v3)]) hx hb dX10_fewestTo_78 hl (k := 0) rfl (by rw [← et_24]; rfl) (by decide) rfl (fun ls hl => ?_)
        refine lv_goto (tgt := 37) hx hb dX10_fewestTo_81 (by decide) ?_
        exact ih_37 (t_24) (l37_5) _ _ _ (by first | assumption | omega | decide) (by omega) (hP.sub [0, 1, 2, 3, 4] rfl) (hD.sub [0, 1, 2, 3, 4] (by decide) rfl) hS (lv_sub hl [0, 1, 2, 3, 4, 5, 6] rfl)
      · have c_23 : r_21.toInt = v3.toInt := ci_ne_f c_23
        have b_r_21 := i32b r_21
        have b_v3 := i32b v3
        refine lv_iload hx hb dX10_fewestTo_59 (lv_at hl 2 rfl) ?_
        refine lv_aload_n hx hb dX10_fewestTo_61 rfl (lv_at hl 3 rfl) ?_
        refine va_get (D := D) (ci := 10) (v := .ref q_7) (C := RX10) (T := TX10) (N := 3) hx hb hts inlX10 hown hK hP 0 rfl rfl 0 (by decide) (hts _ (inr5 _ (List.mem_of_getElem? (i := 17) rfl))) (fun _ h9 => h9) rfl dX10_fewestTo_62 ?_
        refine lv_iload hx hb dX10_fewestTo_65 (lv_at hl 1 rfl) ?_
        refine lv_iload hx hb dX10_fewestTo_67 (lv_at hl 0 rfl) ?_
        refine rosi (As := [.int l25_6, .int l37_7]) (rest := [.ref q_7, .int l37_5]) ⟨hx, hb, hml, hown, hts⟩ (b_X10_state l G D cB cI cJ cZ cS cT l25_6 l37_7 ) (csB (n := 2) (inr41 _ (List.mem_of_getElem? (i := 9) rfl)) (inr41 _ (List.mem_of_getElem? (i := 10) rfl)) (inr2 _ (List.mem_of_getElem? (i := 20) rfl)) (inr41 _ (List.mem_of_getElem? (i := 11) rfl)) (by decide +kernel) hts rfl rfl ⟨Nat.le_of_ble_eq_true rfl, Nat.le_of_ble_eq_true rfl⟩) (hP.sub [] rfl) hK hN (kT.to hT hS hAB) rfl hl.1 rfl (Nat.le_of_ble_eq_true rfl) ⟨Nat.le_of_ble_eq_true rfl, Nat.le_of_ble_eq_true rfl⟩ dX10_fewestTo_69 (fun r_25 h_26 => ?_)
        have h_26 : (0 ≤ r_25.toInt ∧ r_25.toInt ≤ 80) := h_26
        have i_27 := h_26
        obtain ⟨t_28, et_28⟩ : ∃ v9 : Int32, g_9 (r_25 : Int32).toNatClampNeg = v9 := ⟨_, rfl⟩
        refine z_iald (v := t_28) hx hb hK hP 1 1 rfl rfl (vin_nat (by omega) (by omega)) et_28 dX10_fewestTo_72 ?_
        refine va_mmin hx hb (by rw [hml]; exact hl.1.symm) hown (hts _ (inr41 _ (List.mem_of_getElem? (i := 16) rfl))) (hts _ (inr18 _ (List.mem_of_getElem? (i := 11) rfl))) (hts _ (inr18 _ (List.mem_of_getElem? (i := 12) rfl))) (hts _ (inr18 _ (List.mem_of_getElem? (i := 13) rfl))) (Nat.le_of_ble_eq_true rfl) (Nat.le_of_ble_eq_true rfl) (Nat.le_of_ble_eq_true rfl) (Nat.le_of_ble_eq_true rfl) dX10_fewestTo_73 ?_
        refine lv_topi (fun t_29 et_29 => ?_)
        have b_l37_5 := i32b l37_5
        have b_t_28 := i32b t_28
        have ft_29 : t_29.toInt ≤ l37_5.toInt ∧ t_29.toInt ≤ t_28.toInt ∧ (t_29.toInt = l37_5.toInt ∨ t_29.toInt = t_28.toInt) := minT et_29
        refine lv_istore (lv' := [(5, .int t_29), (7, .int l37_7), (6, .int l25_6), (0, .ref h0), (1, .ref h_a1), (2, .int v2), (3, .int v3)]) hx hb dX10_fewestTo_76 hl (by decide) rfl (fun ls hl => ?_)
        obtain ⟨t_30, et_30⟩ : ∃ v9 : Int32, l37_7 + 1 = v9 := ⟨_, rfl⟩
        have ft_30 : t_30.toInt = l37_7.toInt + 1 := addT (a := l37_7.toInt) (b := 1) rfl (by decide) et_30 (by omega) (by omega)
        refine lv_iinc (v := t_30) (lv' := [(7, .int t_30), (5, .int t_29), (6, .int l25_6), (0, .ref h0), (1, .ref h_a1), (2, .int v2), (3, .int v3)]) hx hb dX10_fewestTo_78 hl (k := 1) rfl (by rw [← et_30]; rfl) (by decide) rfl (fun ls hl => ?_)
        refine lv_goto (tgt := 37) hx hb dX10_fewestTo_81 (by decide) ?_
        exact ih_37 (t_30) (t_29) _ _ _ (by first | assumption | omega | decide) (by omega) (hP.sub [0, 1, 2, 3, 4] rfl) (hD.sub [0, 1, 2, 3, 4] (by decide) rfl) hS (lv_sub hl [0, 2, 1, 3, 4, 5, 6] rfl)

set_option maxHeartbeats 4000000 in
set_option maxRecDepth 100000 in
theorem b_X10_fewestTo_l25 {p : Program} {l : Launch} {e : Env} {s : State} {m : MethodId} {args : Array Value} {below : List Frame} {meth : Method} {c : Code} {Q : State → Prop} {G : Gho} {D : va_G} {cB cI cJ cZ cS cT : ClassId} {A : Nat → Prop} (h0 : Nat) (h_missing : Nat) (h_a1 : Nat) (v_a1_tones : Int32) (v_a1_a : Int32) (v_a1_b : Int32) (v_a1_c : Int32) (v_a1_d : Int32) (v_a1_odds : Int32) (v_a1_lines : Int32) (h_a1_signs : Nat) (v_a1_signCount : Int32) (h_a1_posts : Nat) (v_a1_postCount : Int32) (h_a1_acts : Nat) (f_a1_signs : Nat → Int32) (v2 : Int32) (v3 : Int32) (q_7 : Nat) (q_8 : Nat) (g_9 : Nat → Int32) (g_10 : Nat → Int32) (iv_a1_signCount : 0 ≤ v_a1_signCount.toInt ∧ v_a1_signCount.toInt ≤ 8) (iv_a1_postCount : 0 ≤ v_a1_postCount.toInt ∧ v_a1_postCount.toInt ≤ 5) (c_4 : ¬ v_a1_signCount.toInt = 0) (C : Cx p s m args c RX10 cX10_fewestTo 8 G D (tyL cB cI cJ cZ cS cT)) (hG : G.1 ≤ s.heap.size) (hAB : ∀ q, A q → G.1 ≤ q) (hA : ∀ q : Nat, s.heap.size ≤ q → A q) (ret : RetI p l e ({ frames := 5, cells := 0, slots := 0, locals := 123 }) s m args below meth c cX10_fewestTo D A (fun x : Nat × Nat × (Nat → Int32) × (Nat → Int32) => [(h0, .inr (10, [.ref x.1, .ref x.2.1, .ref h_missing])), (x.1, .inl (cI, 81, .inl x.2.2.1)), (x.2.1, .inl (cI, 81, .inl x.2.2.2)), (h_a1, .inr (8, [.int v_a1_tones, .int v_a1_a, .int v_a1_b, .int v_a1_c, .int v_a1_d, .int v_a1_odds, .int v_a1_lines, .ref h_a1_signs, .int v_a1_signCount, .ref h_a1_posts, .int v_a1_postCount, .ref h_a1_acts])), (h_a1_signs, .inl (cI, 8, .inl f_a1_signs))]) (fun (r : Int32) (x : Nat × Nat × (Nat → Int32) × (Nat → Int32)) => True) Q) :
    ∀ (N : Nat) (l25_6 : Int32) (l25_5 : Int32) (H : Heap) (locs : List Loc) (ls : Array Slot), 0 ≤ l25_6.toInt → (v_a1_tones.toInt - l25_6.toInt).toNat < N → va_P D vwCl [(h0, .inr (10, [.ref q_7, .ref q_8, .ref h_missing])), (q_7, .inl (cI, 81, .inl g_9)), (q_8, .inl (cI, 81, .inl g_10)), (h_a1, .inr (8, [.int v_a1_tones, .int v_a1_a, .int v_a1_b, .int v_a1_c, .int v_a1_d, .int v_a1_odds, .int v_a1_lines, .ref h_a1_signs, .int v_a1_signCount, .ref h_a1_posts, .int v_a1_postCount, .ref h_a1_acts])), (h_a1_signs, .inl (cI, 8, .inl f_a1_signs))] H → va_D A [(h0, .inr (10, [.ref q_7, .ref q_8, .ref h_missing])), (q_7, .inl (cI, 81, .inl g_9)), (q_8, .inl (cI, 81, .inl g_10)), (h_a1, .inr (8, [.int v_a1_tones, .int v_a1_a, .int v_a1_b, .int v_a1_c, .int v_a1_d, .int v_a1_odds, .int v_a1_lines, .ref h_a1_signs, .int v_a1_signCount, .ref h_a1_posts, .int v_a1_postCount, .ref h_a1_acts])), (h_a1_signs, .inl (cI, 8, .inl f_a1_signs))] → va_S A s.heap H locs → lv_has ls 8 [(6, .int l25_6), (5, .int l25_5), (0, .ref h0), (1, .ref h_a1), (2, .int v2), (3, .int v3)] → W p l e ({ frames := 5, cells := 0, slots := 0, locals := 123 }) s m args below meth c H locs 0 0 Q (F0 m 25 ls []) := by
  obtain ⟨hx, hb, hml, hown, hts, hK, hN, hT⟩ := id C
  intro N
  induction N with
  | zero =>
    intro l25_6 l25_5 H locs ls kl25_6 hM_25 hP hD hS hl
    omega
  | succ N_25 ih_25 =>
    intro l25_6 l25_5 H locs ls kl25_6 hM_25 hP hD hS hl
    have b_l25_6 := i32b l25_6
    refine lv_iload hx hb dX10_fewestTo_25 (lv_at hl 0 rfl) ?_
    refine lv_aload_n hx hb dX10_fewestTo_27 rfl (lv_at hl 3 rfl) ?_
    refine roi (As := []) (rest := [.int l25_6]) ⟨hx, hb, hml, hown, hts⟩ (b_X8_tones l G D cB cI cJ cZ cS cT h_a1 v_a1_tones v_a1_a v_a1_b v_a1_c v_a1_d v_a1_odds v_a1_lines h_a1_signs v_a1_signCount h_a1_posts v_a1_postCount h_a1_acts (by first | assumption | omega | decide) (by first | assumption | omega | decide)) (cvB (n := 0) (inr41 _ (List.mem_of_getElem? (i := 18) rfl)) (inr15 _ (List.mem_of_getElem? (i := 14) rfl)) (inr15 _ (List.mem_of_getElem? (i := 15) rfl)) (inr1 _ (List.mem_of_getElem? (i := 23) rfl)) (inr15 _ (List.mem_of_getElem? (i := 16) rfl)) (by decide +kernel) hts rfl rfl ⟨Nat.le_of_ble_eq_true rfl, Nat.le_of_ble_eq_true rfl⟩) 0 8 rfl rfl rfl (hP.sub [3] rfl) hK hN (kT.to hT hS hAB) rfl hl.1 rfl (Nat.le_of_ble_eq_true rfl) ⟨Nat.le_of_ble_eq_true rfl, Nat.le_of_ble_eq_true rfl⟩ dX10_fewestTo_28 (fun r_11 h_12 => ?_)
    have h_12 : (r_11 = v_a1_tones) := h_12
    have i_13 := h_12
    obtain rfl := i_13.symm
    refine lv_icmp_ge (tgt := 90) hx hb dX10_fewestTo_31 (by decide) (fun c_14 => ?_) (fun c_14 => ?_)
    · have c_14 : v_a1_tones.toInt ≤ l25_6.toInt := ci_ge_t c_14
      have b_v_a1_tones := i32b v_a1_tones
      refine lv_iload hx hb dX10_fewestTo_90 (lv_at hl 1 rfl) ?_
      refine lv_sipush (v := 1000) hx hb dX10_fewestTo_92 (by decide) ?_
      refine lv_icmp_ge (tgt := 103) hx hb dX10_fewestTo_95 (by decide) (fun c_15 => ?_) (fun c_15 => ?_)
      · have c_15 : 1000 ≤ l25_5.toInt := ci_ge_t c_15
        have b_l25_5 := i32b l25_5
        refine lv_iconst (v := (-1)) hx hb dX10_fewestTo_103 (by decide) ?_
        exact ret _ _ _ _ _ (q_7, q_8, g_9, g_10) dX10_fewestTo_104 trivial (hP.sub [0, 1, 2, 3, 4] rfl) (hD.sub [0, 1, 2, 3, 4] (by decide) rfl) hS
      · have c_15 : l25_5.toInt < 1000 := ci_ge_f c_15
        have b_l25_5 := i32b l25_5
        refine lv_iload hx hb dX10_fewestTo_98 (lv_at hl 1 rfl) ?_
        refine lv_goto (tgt := 104) hx hb dX10_fewestTo_100 (by decide) ?_
        exact ret _ _ _ _ _ (q_7, q_8, g_9, g_10) dX10_fewestTo_104 trivial (hP.sub [0, 1, 2, 3, 4] rfl) (hD.sub [0, 1, 2, 3, 4] (by decide) rfl) hS
    · have c_14 : l25_6.toInt < v_a1_tones.toInt := ci_ge_f c_14
      have b_v_a1_tones := i32b v_a1_tones
      refine lv_iconst (v := 0) hx hb dX10_fewestTo_34 (by decide) ?_
      refine lv_istore (lv' := [(7, .int 0), (6, .int l25_6), (5, .int l25_5), (0, .ref h0), (1, .ref h_a1), (2, .int v2), (3, .int v3)]) hx hb dX10_fewestTo_35 hl (by decide) rfl (fun ls hl => ?_)
      exact b_X10_fewestTo_l37 h0 h_missing h_a1 v_a1_tones v_a1_a v_a1_b v_a1_c v_a1_d v_a1_odds v_a1_lines h_a1_signs v_a1_signCount h_a1_posts v_a1_postCount h_a1_acts f_a1_signs v2 v3 q_7 q_8 g_9 g_10 l25_6 l25_5 N_25 (by first | assumption | omega | decide) (by first | assumption | omega | decide) (by first | assumption | omega | decide) (by first | assumption | omega | decide) (by first | assumption | omega | decide) (by first | assumption | omega | decide) (by first | assumption | omega | decide) (by first | assumption | omega | decide) (by first | assumption | omega | decide) C hG hAB hA ret _ (0) (l25_5) _ _ _ (by first | assumption | omega | decide) (Nat.lt_succ_self _) (hP.sub [0, 1, 2, 3, 4] rfl) (hD.sub [0, 1, 2, 3, 4] (by decide) rfl) hS (lv_sub hl [0, 1, 2, 3, 4, 5, 6] rfl)

set_option maxHeartbeats 4000000 in
set_option maxRecDepth 100000 in
theorem b_X10_fewestTo (l : Launch) (G : Gho) (D : va_G) (cB cI cJ cZ cS cT : ClassId) (sz : Nat) (h0 : Nat) (h_spent : Nat) (h_spentNext : Nat) (h_missing : Nat) (f_spent : Nat → Int32) (f_spentNext : Nat → Int32) (h_a1 : Nat) (v_a1_tones : Int32) (v_a1_a : Int32) (v_a1_b : Int32) (v_a1_c : Int32) (v_a1_d : Int32) (v_a1_odds : Int32) (v_a1_lines : Int32) (h_a1_signs : Nat) (v_a1_signCount : Int32) (h_a1_posts : Nat) (v_a1_postCount : Int32) (h_a1_acts : Nat) (f_a1_signs : Nat → Int32) (v2 : Int32) (v3 : Int32) (v4 : Int32) (iv_a1_signCount : 0 ≤ v_a1_signCount.toInt ∧ v_a1_signCount.toInt ≤ 8) (iv_a1_postCount : 0 ≤ v_a1_postCount.toInt ∧ v_a1_postCount.toInt ≤ 5) : Met l yX10_fewestTo (Cond.code yX10_fewestTo cX10_fewestTo 8 (some .int) :: wsL_law) ({ frames := 5, cells := 0, slots := 0, locals := 123 }) (wrP G D (tyL cB cI cJ cZ cS cT) [(h0, .inr (10, [.ref h_spent, .ref h_spentNext, .ref h_missing])), (h_spent, .inl (cI, 81, .inl f_spent)), (h_spentNext, .inl (cI, 81, .inl f_spentNext)), (h_a1, .inr (8, [.int v_a1_tones, .int v_a1_a, .int v_a1_b, .int v_a1_c, .int v_a1_d, .int v_a1_odds, .int v_a1_lines, .ref h_a1_signs, .int v_a1_signCount, .ref h_a1_posts, .int v_a1_postCount, .ref h_a1_acts])), (h_a1_signs, .inl (cI, 8, .inl f_a1_signs))] sz [.ref h0, .ref h_a1, .int v2, .int v3, .int v4]) (va_Qi (fun (r : Int32) (x : Nat × Nat × (Nat → Int32) × (Nat → Int32)) => True) (atW D (tyL cB cI cJ cZ cS cT) (va_A [(h0, .inr (10, [.ref h_spent, .ref h_spentNext, .ref h_missing])), (h_spent, .inl (cI, 81, .inl f_spent)), (h_spentNext, .inl (cI, 81, .inl f_spentNext)), (h_a1, .inr (8, [.int v_a1_tones, .int v_a1_a, .int v_a1_b, .int v_a1_c, .int v_a1_d, .int v_a1_odds, .int v_a1_lines, .ref h_a1_signs, .int v_a1_signCount, .ref h_a1_posts, .int v_a1_postCount, .ref h_a1_acts])), (h_a1_signs, .inl (cI, 8, .inl f_a1_signs))] sz) (fun x : Nat × Nat × (Nat → Int32) × (Nat → Int32) => [(h0, .inr (10, [.ref x.1, .ref x.2.1, .ref h_missing])), (x.1, .inl (cI, 81, .inl x.2.2.1)), (x.2.1, .inl (cI, 81, .inl x.2.2.2)), (h_a1, .inr (8, [.int v_a1_tones, .int v_a1_a, .int v_a1_b, .int v_a1_c, .int v_a1_d, .int v_a1_odds, .int v_a1_lines, .ref h_a1_signs, .int v_a1_signCount, .ref h_a1_posts, .int v_a1_postCount, .ref h_a1_acts])), (h_a1_signs, .inl (cI, 8, .inl f_a1_signs))])) (va_A [(h0, .inr (10, [.ref h_spent, .ref h_spentNext, .ref h_missing])), (h_spent, .inl (cI, 81, .inl f_spent)), (h_spentNext, .inl (cI, 81, .inl f_spentNext)), (h_a1, .inr (8, [.int v_a1_tones, .int v_a1_a, .int v_a1_b, .int v_a1_c, .int v_a1_d, .int v_a1_odds, .int v_a1_lines, .ref h_a1_signs, .int v_a1_signCount, .ref h_a1_posts, .int v_a1_postCount, .ref h_a1_acts])), (h_a1_signs, .inl (cI, 8, .inl f_a1_signs))] sz)) 0 0 (va_A [(h0, .inr (10, [.ref h_spent, .ref h_spentNext, .ref h_missing])), (h_spent, .inl (cI, 81, .inl f_spent)), (h_spentNext, .inl (cI, 81, .inl f_spentNext)), (h_a1, .inr (8, [.int v_a1_tones, .int v_a1_a, .int v_a1_b, .int v_a1_c, .int v_a1_d, .int v_a1_odds, .int v_a1_lines, .ref h_a1_signs, .int v_a1_signCount, .ref h_a1_posts, .int v_a1_postCount, .ref h_a1_acts])), (h_a1_signs, .inl (cI, 8, .inl f_a1_signs))] sz) := by
  refine metI (own := RX10) (by decide) rfl ?_
  intro p e s m below meth c Q hsz C hG hP hD hAB ret
  obtain ⟨hx, hb, hml, hown, hts, hK, hN, hT⟩ := id C
  subst hsz
  generalize hAe : va_A [(h0, .inr (10, [.ref h_spent, .ref h_spentNext, .ref h_missing])), (h_spent, .inl (cI, 81, .inl f_spent)), (h_spentNext, .inl (cI, 81, .inl f_spentNext)), (h_a1, .inr (8, [.int v_a1_tones, .int v_a1_a, .int v_a1_b, .int v_a1_c, .int v_a1_d, .int v_a1_odds, .int v_a1_lines, .ref h_a1_signs, .int v_a1_signCount, .ref h_a1_posts, .int v_a1_postCount, .ref h_a1_acts])), (h_a1_signs, .inl (cI, 8, .inl f_a1_signs))] s.heap.size = A at hD hAB ret ⊢
  have hA : ∀ q : Nat, s.heap.size ≤ q → A q := fun q h => by rw [← hAe]; exact Or.inr h
  have hS : va_S A s.heap s.heap [] := va_S.rf
  have hl := lv_entry ([.ref h0, .ref h_a1, .int v2, .int v3, .int v4]) (n := 8) (Nat.le_of_ble_eq_true rfl)
  rw [lg_entry_eq]
  generalize (lg_sl ([.ref h0, .ref h_a1, .int v2, .int v3, .int v4]) ++ List.replicate (8 - (lg_sl ([.ref h0, .ref h_a1, .int v2, .int v3, .int v4])).length) Slot.unset).toArray = ls at hl ⊢
  have hl : lv_has ls 8 [(0, .ref h0), (1, .ref h_a1), (2, .int v2), (3, .int v3), (4, .int v4)] := hl
  have hP : va_P D vwCl [(h0, .inr (10, [.ref h_spent, .ref h_spentNext, .ref h_missing])), (h_spent, .inl (cI, 81, .inl f_spent)), (h_spentNext, .inl (cI, 81, .inl f_spentNext)), (h_a1, .inr (8, [.int v_a1_tones, .int v_a1_a, .int v_a1_b, .int v_a1_c, .int v_a1_d, .int v_a1_odds, .int v_a1_lines, .ref h_a1_signs, .int v_a1_signCount, .ref h_a1_posts, .int v_a1_postCount, .ref h_a1_acts])), (h_a1_signs, .inl (cI, 8, .inl f_a1_signs))] s.heap := hP
  refine lv_aload_n hx hb dX10_fewestTo_0 rfl (lv_at hl 1 rfl) ?_
  refine roi (As := []) (rest := []) ⟨hx, hb, hml, hown, hts⟩ (b_X8_signCount l G D cB cI cJ cZ cS cT h_a1 v_a1_tones v_a1_a v_a1_b v_a1_c v_a1_d v_a1_odds v_a1_lines h_a1_signs v_a1_signCount h_a1_posts v_a1_postCount h_a1_acts (by first | assumption | omega | decide) (by first | assumption | omega | decide)) (cvB (n := 0) (inr40 _ (List.mem_of_getElem? (i := 23) rfl)) (inr15 _ (List.mem_of_getElem? (i := 10) rfl)) (inr15 _ (List.mem_of_getElem? (i := 11) rfl)) (inr1 _ (List.mem_of_getElem? (i := 23) rfl)) (inr15 _ (List.mem_of_getElem? (i := 12) rfl)) (by decide +kernel) hts rfl rfl ⟨Nat.le_of_ble_eq_true rfl, Nat.le_of_ble_eq_true rfl⟩) 0 8 rfl rfl rfl (hP.sub [3] rfl) hK hN (kT.to hT hS hAB) rfl hl.1 rfl (Nat.le_of_ble_eq_true rfl) ⟨Nat.le_of_ble_eq_true rfl, Nat.le_of_ble_eq_true rfl⟩ dX10_fewestTo_1 (fun r_1 h_2 => ?_)
  have h_2 : (r_1 = v_a1_signCount) := h_2
  have i_3 := h_2
  obtain rfl := i_3.symm
  refine lv_if_ne (tgt := 9) hx hb dX10_fewestTo_4 (by decide) (fun c_4 => ?_) (fun c_4 => ?_)
  · have c_4 : ¬ v_a1_signCount.toInt = 0 := ci_ne_t c_4
    have b_v_a1_signCount := i32b v_a1_signCount
    refine lv_aload_n hx hb dX10_fewestTo_9 rfl (lv_at hl 0 rfl) ?_
    refine lv_aload_n hx hb dX10_fewestTo_10 rfl (lv_at hl 1 rfl) ?_
    refine lv_iload_n hx hb dX10_fewestTo_11 rfl (lv_at hl 2 rfl) ?_
    refine lv_iload hx hb dX10_fewestTo_12 (lv_at hl 4 rfl) ?_
    refine wrVv (As := [.ref h_a1, .int v2, .int v4]) (rest := []) (wr := []) ⟨hx, hb, hml, hown, hts⟩ (b_X10_walkTo l G D cB cI cJ cZ cS cT s.heap.size h0 h_spent h_spentNext h_missing f_spent f_spentNext h_a1 v_a1_tones v_a1_a v_a1_b v_a1_c v_a1_d v_a1_odds v_a1_lines h_a1_signs v_a1_signCount h_a1_posts v_a1_postCount h_a1_acts f_a1_signs v2 v4 (by first | assumption | omega | decide) (by first | assumption | omega | decide)) hP hD hS hA hK hN hT hAB hG [0, 1, 2, 3, 4] [] rfl rfl (by decide) (by decide) (by decide) (cvB (n := 3) (inr41 _ (List.mem_of_getElem? (i := 0) rfl)) (inr41 _ (List.mem_of_getElem? (i := 1) rfl)) (inr41 _ (List.mem_of_getElem? (i := 2) rfl)) (inr2 _ (List.mem_of_getElem? (i := 20) rfl)) (inr41 _ (List.mem_of_getElem? (i := 3) rfl)) (by decide +kernel) hts rfl rfl ⟨Nat.le_of_ble_eq_true rfl, Nat.le_of_ble_eq_true rfl⟩) 0 10 rfl rfl rfl rfl hl.1 rfl (Nat.le_of_ble_eq_true rfl) ⟨Nat.le_of_ble_eq_true rfl, Nat.le_of_ble_eq_true rfl⟩ dX10_fewestTo_14 (fun x9 H locs h_6 hP hD hS => ?_)
    obtain ⟨q_7, q_8, g_9, g_10⟩ := x9
    have hP : va_P D vwCl [(h0, .inr (10, [.ref q_7, .ref q_8, .ref h_missing])), (q_7, .inl (cI, 81, .inl g_9)), (q_8, .inl (cI, 81, .inl g_10)), (h_a1, .inr (8, [.int v_a1_tones, .int v_a1_a, .int v_a1_b, .int v_a1_c, .int v_a1_d, .int v_a1_odds, .int v_a1_lines, .ref h_a1_signs, .int v_a1_signCount, .ref h_a1_posts, .int v_a1_postCount, .ref h_a1_acts])), (h_a1_signs, .inl (cI, 8, .inl f_a1_signs))] H := hP
    have hD : va_D A [(h0, .inr (10, [.ref q_7, .ref q_8, .ref h_missing])), (q_7, .inl (cI, 81, .inl g_9)), (q_8, .inl (cI, 81, .inl g_10)), (h_a1, .inr (8, [.int v_a1_tones, .int v_a1_a, .int v_a1_b, .int v_a1_c, .int v_a1_d, .int v_a1_odds, .int v_a1_lines, .ref h_a1_signs, .int v_a1_signCount, .ref h_a1_posts, .int v_a1_postCount, .ref h_a1_acts])), (h_a1_signs, .inl (cI, 8, .inl f_a1_signs))] := hD
    refine lv_sipush (v := 1000) hx hb dX10_fewestTo_17 (by decide) ?_
    refine lv_istore (lv' := [(5, .int 1000), (0, .ref h0), (1, .ref h_a1), (2, .int v2), (3, .int v3), (4, .int v4)]) hx hb dX10_fewestTo_20 hl (by decide) rfl (fun ls hl => ?_)
    refine lv_iconst (v := 0) hx hb dX10_fewestTo_22 (by decide) ?_
    refine lv_istore (lv' := [(6, .int 0), (5, .int 1000), (0, .ref h0), (1, .ref h_a1), (2, .int v2), (3, .int v3), (4, .int v4)]) hx hb dX10_fewestTo_23 hl (by decide) rfl (fun ls hl => ?_)
    exact b_X10_fewestTo_l25 h0 h_missing h_a1 v_a1_tones v_a1_a v_a1_b v_a1_c v_a1_d v_a1_odds v_a1_lines h_a1_signs v_a1_signCount h_a1_posts v_a1_postCount h_a1_acts f_a1_signs v2 v3 q_7 q_8 g_9 g_10 (by first | assumption | omega | decide) (by first | assumption | omega | decide) (by first | assumption | omega | decide) C hG hAB hA ret _ (0) (1000) _ _ _ (by first | assumption | omega | decide) (Nat.lt_succ_self _) (hP.sub [0, 1, 2, 3, 4] rfl) (hD.sub [0, 1, 2, 3, 4] (by decide) rfl) hS (lv_sub hl [0, 1, 2, 3, 4, 5] rfl)
  · have c_4 : v_a1_signCount.toInt = 0 := ci_ne_f c_4
    have b_v_a1_signCount := i32b v_a1_signCount
    refine lv_iconst (v := (-1)) hx hb dX10_fewestTo_7 (by decide) ?_
    exact ret _ _ _ _ _ (h_spent, h_spentNext, f_spent, f_spentNext) dX10_fewestTo_8 trivial (hP.sub [0, 1, 2, 3, 4] rfl) (hD.sub [0, 1, 2, 3, 4] (by decide) rfl) hS

set_option maxHeartbeats 4000000 in
set_option maxRecDepth 100000 in
theorem b_X10_tonesReached_l33 {p : Program} {l : Launch} {e : Env} {s : State} {m : MethodId} {args : Array Value} {below : List Frame} {meth : Method} {c : Code} {Q : State → Prop} {G : Gho} {D : va_G} {cB cI cJ cZ cS cT : ClassId} {A : Nat → Prop} (h0 : Nat) (h_missing : Nat) (h_a1 : Nat) (v_a1_tones : Int32) (v_a1_a : Int32) (v_a1_b : Int32) (v_a1_c : Int32) (v_a1_d : Int32) (v_a1_odds : Int32) (v_a1_lines : Int32) (h_a1_signs : Nat) (v_a1_signCount : Int32) (h_a1_posts : Nat) (v_a1_postCount : Int32) (h_a1_acts : Nat) (f_a1_signs : Nat → Int32) (v2 : Int32) (q_7 : Nat) (q_8 : Nat) (g_9 : Nat → Int32) (g_10 : Nat → Int32) (l21_4 : Int32) (l21_3 : Int32) (N_21 : Nat) (iv_a1_signCount : 0 ≤ v_a1_signCount.toInt ∧ v_a1_signCount.toInt ≤ 8) (iv_a1_postCount : 0 ≤ v_a1_postCount.toInt ∧ v_a1_postCount.toInt ≤ 5) (zv_a1_tones : 1 ≤ v_a1_tones.toInt ∧ v_a1_tones.toInt ≤ 2147483647) (zl21_4 : 0 ≤ l21_4.toInt ∧ l21_4.toInt ≤ 2147483646) (c_4 : ¬ v_a1_signCount.toInt = 0) (kl21_4 : 0 ≤ l21_4.toInt) (c_14 : l21_4.toInt < v_a1_tones.toInt) (ih_21 : ∀ (l21_4 : Int32) (l21_3 : Int32) (H : Heap) (locs : List Loc) (ls : Array Slot), 0 ≤ l21_4.toInt → (v_a1_tones.toInt - l21_4.toInt).toNat < N_21 → va_P D vwCl [(h0, .inr (10, [.ref q_7, .ref q_8, .ref h_missing])), (q_7, .inl (cI, 81, .inl g_9)), (q_8, .inl (cI, 81, .inl g_10)), (h_a1, .inr (8, [.int v_a1_tones, .int v_a1_a, .int v_a1_b, .int v_a1_c, .int v_a1_d, .int v_a1_odds, .int v_a1_lines, .ref h_a1_signs, .int v_a1_signCount, .ref h_a1_posts, .int v_a1_postCount, .ref h_a1_acts])), (h_a1_signs, .inl (cI, 8, .inl f_a1_signs))] H → va_D A [(h0, .inr (10, [.ref q_7, .ref q_8, .ref h_missing])), (q_7, .inl (cI, 81, .inl g_9)), (q_8, .inl (cI, 81, .inl g_10)), (h_a1, .inr (8, [.int v_a1_tones, .int v_a1_a, .int v_a1_b, .int v_a1_c, .int v_a1_d, .int v_a1_odds, .int v_a1_lines, .ref h_a1_signs, .int v_a1_signCount, .ref h_a1_posts, .int v_a1_postCount, .ref h_a1_acts])), (h_a1_signs, .inl (cI, 8, .inl f_a1_signs))] → va_S A s.heap H locs → lv_has ls 6 [(4, .int l21_4), (3, .int l21_3), (0, .ref h0), (1, .ref h_a1), (2, .int v2)] → W p l e ({ frames := 5, cells := 0, slots := 0, locals := 123 }) s m args below meth c H locs 0 0 Q (F0 m 21 ls [])) (hM_21 : (v_a1_tones.toInt - l21_4.toInt).toNat < N_21 + 1) (C : Cx p s m args c RX10 cX10_tonesReached 6 G D (tyL cB cI cJ cZ cS cT)) (hG : G.1 ≤ s.heap.size) (hAB : ∀ q, A q → G.1 ≤ q) (hA : ∀ q : Nat, s.heap.size ≤ q → A q) (ret : RetI p l e ({ frames := 5, cells := 0, slots := 0, locals := 123 }) s m args below meth c cX10_tonesReached D A (fun x : Nat × Nat × (Nat → Int32) × (Nat → Int32) => [(h0, .inr (10, [.ref x.1, .ref x.2.1, .ref h_missing])), (x.1, .inl (cI, 81, .inl x.2.2.1)), (x.2.1, .inl (cI, 81, .inl x.2.2.2)), (h_a1, .inr (8, [.int v_a1_tones, .int v_a1_a, .int v_a1_b, .int v_a1_c, .int v_a1_d, .int v_a1_odds, .int v_a1_lines, .ref h_a1_signs, .int v_a1_signCount, .ref h_a1_posts, .int v_a1_postCount, .ref h_a1_acts])), (h_a1_signs, .inl (cI, 8, .inl f_a1_signs))]) (fun (r : Int32) (x : Nat × Nat × (Nat → Int32) × (Nat → Int32)) => True) Q) :
    ∀ (N : Nat) (l33_5 : Int32) (l33_3 : Int32) (H : Heap) (locs : List Loc) (ls : Array Slot), 0 ≤ l33_5.toInt → (v_a1_tones.toInt - l33_5.toInt).toNat < N → va_P D vwCl [(h0, .inr (10, [.ref q_7, .ref q_8, .ref h_missing])), (q_7, .inl (cI, 81, .inl g_9)), (q_8, .inl (cI, 81, .inl g_10)), (h_a1, .inr (8, [.int v_a1_tones, .int v_a1_a, .int v_a1_b, .int v_a1_c, .int v_a1_d, .int v_a1_odds, .int v_a1_lines, .ref h_a1_signs, .int v_a1_signCount, .ref h_a1_posts, .int v_a1_postCount, .ref h_a1_acts])), (h_a1_signs, .inl (cI, 8, .inl f_a1_signs))] H → va_D A [(h0, .inr (10, [.ref q_7, .ref q_8, .ref h_missing])), (q_7, .inl (cI, 81, .inl g_9)), (q_8, .inl (cI, 81, .inl g_10)), (h_a1, .inr (8, [.int v_a1_tones, .int v_a1_a, .int v_a1_b, .int v_a1_c, .int v_a1_d, .int v_a1_odds, .int v_a1_lines, .ref h_a1_signs, .int v_a1_signCount, .ref h_a1_posts, .int v_a1_postCount, .ref h_a1_acts])), (h_a1_signs, .inl (cI, 8, .inl f_a1_signs))] → va_S A s.heap H locs → lv_has ls 6 [(5, .int l33_5), (4, .int l21_4), (3, .int l33_3), (0, .ref h0), (1, .ref h_a1), (2, .int v2)] → W p l e ({ frames := 5, cells := 0, slots := 0, locals := 123 }) s m args below meth c H locs 0 0 Q (F0 m 33 ls []) := by
  obtain ⟨hx, hb, hml, hown, hts, hK, hN, hT⟩ := id C
  intro N
  induction N with
  | zero =>
    intro l33_5 l33_3 H locs ls kl33_5 hM_33 hP hD hS hl
    omega
  | succ N_33 ih_33 =>
    intro l33_5 l33_3 H locs ls kl33_5 hM_33 hP hD hS hl
    have b_l33_5 := i32b l33_5
    refine lv_iload hx hb dX10_tonesReached_33 (lv_at hl 0 rfl) ?_
    refine lv_aload_n hx hb dX10_tonesReached_35 rfl (lv_at hl 4 rfl) ?_
    refine roi (As := []) (rest := [.int l33_5]) ⟨hx, hb, hml, hown, hts⟩ (b_X8_tones l G D cB cI cJ cZ cS cT h_a1 v_a1_tones v_a1_a v_a1_b v_a1_c v_a1_d v_a1_odds v_a1_lines h_a1_signs v_a1_signCount h_a1_posts v_a1_postCount h_a1_acts (by first | assumption | omega | decide) (by first | assumption | omega | decide)) (cvB (n := 0) (inr41 _ (List.mem_of_getElem? (i := 18) rfl)) (inr15 _ (List.mem_of_getElem? (i := 14) rfl)) (inr15 _ (List.mem_of_getElem? (i := 15) rfl)) (inr1 _ (List.mem_of_getElem? (i := 23) rfl)) (inr15 _ (List.mem_of_getElem? (i := 16) rfl)) (by decide +kernel) hts rfl rfl ⟨Nat.le_of_ble_eq_true rfl, Nat.le_of_ble_eq_true rfl⟩) 0 8 rfl rfl rfl (hP.sub [3] rfl) hK hN (kT.to hT hS hAB) rfl hl.1 rfl (Nat.le_of_ble_eq_true rfl) ⟨Nat.le_of_ble_eq_true rfl, Nat.le_of_ble_eq_true rfl⟩ dX10_tonesReached_36 (fun r_15 h_16 => ?_)
    have h_16 : (r_15 = v_a1_tones) := h_16
    have i_17 := h_16
    obtain rfl := i_17.symm
    refine lv_icmp_ge (tgt := 80) hx hb dX10_tonesReached_39 (by decide) (fun c_18 => ?_) (fun c_18 => ?_)
    · have c_18 : v_a1_tones.toInt ≤ l33_5.toInt := ci_ge_t c_18
      have b_v_a1_tones := i32b v_a1_tones
      obtain ⟨t_19, et_19⟩ : ∃ v9 : Int32, l21_4 + 1 = v9 := ⟨_, rfl⟩
      have b_l21_4 := i32b l21_4
      have ft_19 : t_19.toInt = l21_4.toInt + 1 := addT (a := l21_4.toInt) (b := 1) rfl (by decide) et_19 (by omega) (by omega)
      refine lv_iinc (v := t_19) (lv' := [(4, .int t_19), (5, .int l33_5), (3, .int l33_3), (0, .ref h0), (1, .ref h_a1), (2, .int v2)]) hx hb dX10_tonesReached_80 hl (k := 1) rfl (by rw [← et_19]; rfl) (by decide) rfl (fun ls hl => ?_)
      refine lv_goto (tgt := 21) hx hb dX10_tonesReached_83 (by decide) ?_
      exact ih_21 (t_19) (l33_3) _ _ _ (by first | assumption | omega | decide) (by omega) (hP.sub [0, 1, 2, 3, 4] rfl) (hD.sub [0, 1, 2, 3, 4] (by decide) rfl) hS (lv_sub hl [0, 2, 3, 4, 5] rfl)
    · have c_18 : l33_5.toInt < v_a1_tones.toInt := ci_ge_f c_18
      have b_v_a1_tones := i32b v_a1_tones
      refine lv_aload_n hx hb dX10_tonesReached_42 rfl (lv_at hl 3 rfl) ?_
      refine va_get (D := D) (ci := 10) (v := .ref q_7) (C := RX10) (T := TX10) (N := 3) hx hb hts inlX10 hown hK hP 0 rfl rfl 0 (by decide) (hts _ (inr5 _ (List.mem_of_getElem? (i := 17) rfl))) (fun _ h9 => h9) rfl dX10_tonesReached_43 ?_
      refine lv_iload hx hb dX10_tonesReached_46 (lv_at hl 1 rfl) ?_
      refine lv_iload hx hb dX10_tonesReached_48 (lv_at hl 0 rfl) ?_
      refine rosi (As := [.int l21_4, .int l33_5]) (rest := [.ref q_7]) ⟨hx, hb, hml, hown, hts⟩ (b_X10_state l G D cB cI cJ cZ cS cT l21_4 l33_5 ) (csB (n := 2) (inr41 _ (List.mem_of_getElem? (i := 9) rfl)) (inr41 _ (List.mem_of_getElem? (i := 10) rfl)) (inr2 _ (List.mem_of_getElem? (i := 20) rfl)) (inr41 _ (List.mem_of_getElem? (i := 11) rfl)) (by decide +kernel) hts rfl rfl ⟨Nat.le_of_ble_eq_true rfl, Nat.le_of_ble_eq_true rfl⟩) (hP.sub [] rfl) hK hN (kT.to hT hS hAB) rfl hl.1 rfl (Nat.le_of_ble_eq_true rfl) ⟨Nat.le_of_ble_eq_true rfl, Nat.le_of_ble_eq_true rfl⟩ dX10_tonesReached_50 (fun r_20 h_21 => ?_)
      have h_21 : (0 ≤ r_20.toInt ∧ r_20.toInt ≤ 80) := h_21
      have i_22 := h_21
      obtain ⟨t_23, et_23⟩ : ∃ v9 : Int32, g_9 (r_20 : Int32).toNatClampNeg = v9 := ⟨_, rfl⟩
      refine z_iald (v := t_23) hx hb hK hP 1 1 rfl rfl (vin_nat (by omega) (by omega)) et_23 dX10_tonesReached_53 ?_
      refine lv_sipush (v := 1000) hx hb dX10_tonesReached_54 (by decide) ?_
      refine lv_icmp_ge (tgt := 74) hx hb dX10_tonesReached_57 (by decide) (fun c_24 => ?_) (fun c_24 => ?_)
      · have c_24 : 1000 ≤ t_23.toInt := ci_ge_t c_24
        have b_t_23 := i32b t_23
        obtain ⟨t_25, et_25⟩ : ∃ v9 : Int32, l33_5 + 1 = v9 := ⟨_, rfl⟩
        have ft_25 : t_25.toInt = l33_5.toInt + 1 := addT (a := l33_5.toInt) (b := 1) rfl (by decide) et_25 (by omega) (by omega)
        refine lv_iinc (v := t_25) (lv' := [(5, .int t_25), (4, .int l21_4), (3, .int l33_3), (0, .ref h0), (1, .ref h_a1), (2, .int v2)]) hx hb dX10_tonesReached_74 hl (k := 0) rfl (by rw [← et_25]; rfl) (by decide) rfl (fun ls hl => ?_)
        refine lv_goto (tgt := 33) hx hb dX10_tonesReached_77 (by decide) ?_
        exact ih_33 (t_25) (l33_3) _ _ _ (by first | assumption | omega | decide) (by omega) (hP.sub [0, 1, 2, 3, 4] rfl) (hD.sub [0, 1, 2, 3, 4] (by decide) rfl) hS (lv_sub hl [0, 1, 2, 3, 4, 5] rfl)
      · have c_24 : t_23.toInt < 1000 := ci_ge_f c_24
        have b_t_23 := i32b t_23
        refine lv_iload_n hx hb dX10_tonesReached_60 rfl (lv_at hl 2 rfl) ?_
        refine lv_iconst (v := 1) hx hb dX10_tonesReached_61 (by decide) ?_
        refine lv_aload_n hx hb dX10_tonesReached_62 rfl (lv_at hl 4 rfl) ?_
        refine lv_iload_n hx hb dX10_tonesReached_63 rfl (lv_at hl 5 rfl) ?_
        refine lv_iload hx hb dX10_tonesReached_64 (lv_at hl 1 rfl) ?_
        refine lv_iload hx hb dX10_tonesReached_66 (lv_at hl 0 rfl) ?_
        refine roi (As := [.int v2, .int l21_4, .int l33_5]) (rest := [.int 1, .int l33_3]) ⟨hx, hb, hml, hown, hts⟩ (b_X8_ownTone l G D cB cI cJ cZ cS cT h_a1 v_a1_tones v_a1_a v_a1_b v_a1_c v_a1_d v_a1_odds v_a1_lines h_a1_signs v_a1_signCount h_a1_posts v_a1_postCount h_a1_acts f_a1_signs v2 l21_4 l33_5 (by first | assumption | omega | decide) (by first | assumption | omega | decide)) (cvB (n := 3) (inr42 _ (List.mem_of_getElem? (i := 4) rfl)) (inr23 _ (List.mem_of_getElem? (i := 8) rfl)) (inr23 _ (List.mem_of_getElem? (i := 9) rfl)) (inr1 _ (List.mem_of_getElem? (i := 23) rfl)) (inr23 _ (List.mem_of_getElem? (i := 10) rfl)) (by decide +kernel) hts rfl rfl ⟨Nat.le_of_ble_eq_true rfl, Nat.le_of_ble_eq_true rfl⟩) 0 8 rfl rfl rfl (hP.sub [3, 4] rfl) hK hN (kT.to hT hS hAB) rfl hl.1 rfl (Nat.le_of_ble_eq_true rfl) ⟨Nat.le_of_ble_eq_true rfl, Nat.le_of_ble_eq_true rfl⟩ dX10_tonesReached_68 (fun r_26 h_27 => ?_)
        obtain ⟨t_28, et_28⟩ : ∃ v9 : Int32, 1 <<< (r_26 &&& 31) = v9 := ⟨_, rfl⟩
        refine z_ishl (v := t_28) hx hb dX10_tonesReached_71 et_28 ?_
        obtain ⟨t_29, et_29⟩ : ∃ v9 : Int32, l33_3 ||| t_28 = v9 := ⟨_, rfl⟩
        refine z_ior (v := t_29) hx hb dX10_tonesReached_72 et_29 ?_
        refine lv_istore_n (lv' := [(3, .int t_29), (5, .int l33_5), (4, .int l21_4), (0, .ref h0), (1, .ref h_a1), (2, .int v2)]) hx hb dX10_tonesReached_73 rfl hl (by decide) rfl (fun ls hl => ?_)
        obtain ⟨t_30, et_30⟩ : ∃ v9 : Int32, l33_5 + 1 = v9 := ⟨_, rfl⟩
        have ft_30 : t_30.toInt = l33_5.toInt + 1 := addT (a := l33_5.toInt) (b := 1) rfl (by decide) et_30 (by omega) (by omega)
        refine lv_iinc (v := t_30) (lv' := [(5, .int t_30), (3, .int t_29), (4, .int l21_4), (0, .ref h0), (1, .ref h_a1), (2, .int v2)]) hx hb dX10_tonesReached_74 hl (k := 1) rfl (by rw [← et_30]; rfl) (by decide) rfl (fun ls hl => ?_)
        refine lv_goto (tgt := 33) hx hb dX10_tonesReached_77 (by decide) ?_
        exact ih_33 (t_30) (t_29) _ _ _ (by first | assumption | omega | decide) (by omega) (hP.sub [0, 1, 2, 3, 4] rfl) (hD.sub [0, 1, 2, 3, 4] (by decide) rfl) hS (lv_sub hl [0, 2, 1, 3, 4, 5] rfl)

set_option maxHeartbeats 4000000 in
set_option maxRecDepth 100000 in
theorem b_X10_tonesReached_l21 {p : Program} {l : Launch} {e : Env} {s : State} {m : MethodId} {args : Array Value} {below : List Frame} {meth : Method} {c : Code} {Q : State → Prop} {G : Gho} {D : va_G} {cB cI cJ cZ cS cT : ClassId} {A : Nat → Prop} (h0 : Nat) (h_missing : Nat) (h_a1 : Nat) (v_a1_tones : Int32) (v_a1_a : Int32) (v_a1_b : Int32) (v_a1_c : Int32) (v_a1_d : Int32) (v_a1_odds : Int32) (v_a1_lines : Int32) (h_a1_signs : Nat) (v_a1_signCount : Int32) (h_a1_posts : Nat) (v_a1_postCount : Int32) (h_a1_acts : Nat) (f_a1_signs : Nat → Int32) (v2 : Int32) (q_7 : Nat) (q_8 : Nat) (g_9 : Nat → Int32) (g_10 : Nat → Int32) (iv_a1_signCount : 0 ≤ v_a1_signCount.toInt ∧ v_a1_signCount.toInt ≤ 8) (iv_a1_postCount : 0 ≤ v_a1_postCount.toInt ∧ v_a1_postCount.toInt ≤ 5) (c_4 : ¬ v_a1_signCount.toInt = 0) (C : Cx p s m args c RX10 cX10_tonesReached 6 G D (tyL cB cI cJ cZ cS cT)) (hG : G.1 ≤ s.heap.size) (hAB : ∀ q, A q → G.1 ≤ q) (hA : ∀ q : Nat, s.heap.size ≤ q → A q) (ret : RetI p l e ({ frames := 5, cells := 0, slots := 0, locals := 123 }) s m args below meth c cX10_tonesReached D A (fun x : Nat × Nat × (Nat → Int32) × (Nat → Int32) => [(h0, .inr (10, [.ref x.1, .ref x.2.1, .ref h_missing])), (x.1, .inl (cI, 81, .inl x.2.2.1)), (x.2.1, .inl (cI, 81, .inl x.2.2.2)), (h_a1, .inr (8, [.int v_a1_tones, .int v_a1_a, .int v_a1_b, .int v_a1_c, .int v_a1_d, .int v_a1_odds, .int v_a1_lines, .ref h_a1_signs, .int v_a1_signCount, .ref h_a1_posts, .int v_a1_postCount, .ref h_a1_acts])), (h_a1_signs, .inl (cI, 8, .inl f_a1_signs))]) (fun (r : Int32) (x : Nat × Nat × (Nat → Int32) × (Nat → Int32)) => True) Q) :
    ∀ (N : Nat) (l21_4 : Int32) (l21_3 : Int32) (H : Heap) (locs : List Loc) (ls : Array Slot), 0 ≤ l21_4.toInt → (v_a1_tones.toInt - l21_4.toInt).toNat < N → va_P D vwCl [(h0, .inr (10, [.ref q_7, .ref q_8, .ref h_missing])), (q_7, .inl (cI, 81, .inl g_9)), (q_8, .inl (cI, 81, .inl g_10)), (h_a1, .inr (8, [.int v_a1_tones, .int v_a1_a, .int v_a1_b, .int v_a1_c, .int v_a1_d, .int v_a1_odds, .int v_a1_lines, .ref h_a1_signs, .int v_a1_signCount, .ref h_a1_posts, .int v_a1_postCount, .ref h_a1_acts])), (h_a1_signs, .inl (cI, 8, .inl f_a1_signs))] H → va_D A [(h0, .inr (10, [.ref q_7, .ref q_8, .ref h_missing])), (q_7, .inl (cI, 81, .inl g_9)), (q_8, .inl (cI, 81, .inl g_10)), (h_a1, .inr (8, [.int v_a1_tones, .int v_a1_a, .int v_a1_b, .int v_a1_c, .int v_a1_d, .int v_a1_odds, .int v_a1_lines, .ref h_a1_signs, .int v_a1_signCount, .ref h_a1_posts, .int v_a1_postCount, .ref h_a1_acts])), (h_a1_signs, .inl (cI, 8, .inl f_a1_signs))] → va_S A s.heap H locs → lv_has ls 6 [(4, .int l21_4), (3, .int l21_3), (0, .ref h0), (1, .ref h_a1), (2, .int v2)] → W p l e ({ frames := 5, cells := 0, slots := 0, locals := 123 }) s m args below meth c H locs 0 0 Q (F0 m 21 ls []) := by
  obtain ⟨hx, hb, hml, hown, hts, hK, hN, hT⟩ := id C
  intro N
  induction N with
  | zero =>
    intro l21_4 l21_3 H locs ls kl21_4 hM_21 hP hD hS hl
    omega
  | succ N_21 ih_21 =>
    intro l21_4 l21_3 H locs ls kl21_4 hM_21 hP hD hS hl
    have b_l21_4 := i32b l21_4
    refine lv_iload hx hb dX10_tonesReached_21 (lv_at hl 0 rfl) ?_
    refine lv_aload_n hx hb dX10_tonesReached_23 rfl (lv_at hl 3 rfl) ?_
    refine roi (As := []) (rest := [.int l21_4]) ⟨hx, hb, hml, hown, hts⟩ (b_X8_tones l G D cB cI cJ cZ cS cT h_a1 v_a1_tones v_a1_a v_a1_b v_a1_c v_a1_d v_a1_odds v_a1_lines h_a1_signs v_a1_signCount h_a1_posts v_a1_postCount h_a1_acts (by first | assumption | omega | decide) (by first | assumption | omega | decide)) (cvB (n := 0) (inr41 _ (List.mem_of_getElem? (i := 18) rfl)) (inr15 _ (List.mem_of_getElem? (i := 14) rfl)) (inr15 _ (List.mem_of_getElem? (i := 15) rfl)) (inr1 _ (List.mem_of_getElem? (i := 23) rfl)) (inr15 _ (List.mem_of_getElem? (i := 16) rfl)) (by decide +kernel) hts rfl rfl ⟨Nat.le_of_ble_eq_true rfl, Nat.le_of_ble_eq_true rfl⟩) 0 8 rfl rfl rfl (hP.sub [3] rfl) hK hN (kT.to hT hS hAB) rfl hl.1 rfl (Nat.le_of_ble_eq_true rfl) ⟨Nat.le_of_ble_eq_true rfl, Nat.le_of_ble_eq_true rfl⟩ dX10_tonesReached_24 (fun r_11 h_12 => ?_)
    have h_12 : (r_11 = v_a1_tones) := h_12
    have i_13 := h_12
    obtain rfl := i_13.symm
    refine lv_icmp_ge (tgt := 86) hx hb dX10_tonesReached_27 (by decide) (fun c_14 => ?_) (fun c_14 => ?_)
    · have c_14 : v_a1_tones.toInt ≤ l21_4.toInt := ci_ge_t c_14
      have b_v_a1_tones := i32b v_a1_tones
      refine lv_iload_n hx hb dX10_tonesReached_86 rfl (lv_at hl 1 rfl) ?_
      exact ret _ _ _ _ _ (q_7, q_8, g_9, g_10) dX10_tonesReached_87 trivial (hP.sub [0, 1, 2, 3, 4] rfl) (hD.sub [0, 1, 2, 3, 4] (by decide) rfl) hS
    · have c_14 : l21_4.toInt < v_a1_tones.toInt := ci_ge_f c_14
      have b_v_a1_tones := i32b v_a1_tones
      refine lv_iconst (v := 0) hx hb dX10_tonesReached_30 (by decide) ?_
      refine lv_istore (lv' := [(5, .int 0), (4, .int l21_4), (3, .int l21_3), (0, .ref h0), (1, .ref h_a1), (2, .int v2)]) hx hb dX10_tonesReached_31 hl (by decide) rfl (fun ls hl => ?_)
      exact b_X10_tonesReached_l33 h0 h_missing h_a1 v_a1_tones v_a1_a v_a1_b v_a1_c v_a1_d v_a1_odds v_a1_lines h_a1_signs v_a1_signCount h_a1_posts v_a1_postCount h_a1_acts f_a1_signs v2 q_7 q_8 g_9 g_10 l21_4 l21_3 N_21 (by first | assumption | omega | decide) (by first | assumption | omega | decide) (by first | assumption | omega | decide) (by first | assumption | omega | decide) (by first | assumption | omega | decide) (by first | assumption | omega | decide) (by first | assumption | omega | decide) (by first | assumption | omega | decide) (by first | assumption | omega | decide) C hG hAB hA ret _ (0) (l21_3) _ _ _ (by first | assumption | omega | decide) (Nat.lt_succ_self _) (hP.sub [0, 1, 2, 3, 4] rfl) (hD.sub [0, 1, 2, 3, 4] (by decide) rfl) hS (lv_sub hl [0, 1, 2, 3, 4, 5] rfl)

set_option maxHeartbeats 4000000 in
set_option maxRecDepth 100000 in
theorem b_X10_tonesReached (l : Launch) (G : Gho) (D : va_G) (cB cI cJ cZ cS cT : ClassId) (sz : Nat) (h0 : Nat) (h_spent : Nat) (h_spentNext : Nat) (h_missing : Nat) (f_spent : Nat → Int32) (f_spentNext : Nat → Int32) (h_a1 : Nat) (v_a1_tones : Int32) (v_a1_a : Int32) (v_a1_b : Int32) (v_a1_c : Int32) (v_a1_d : Int32) (v_a1_odds : Int32) (v_a1_lines : Int32) (h_a1_signs : Nat) (v_a1_signCount : Int32) (h_a1_posts : Nat) (v_a1_postCount : Int32) (h_a1_acts : Nat) (f_a1_signs : Nat → Int32) (v2 : Int32) (iv_a1_signCount : 0 ≤ v_a1_signCount.toInt ∧ v_a1_signCount.toInt ≤ 8) (iv_a1_postCount : 0 ≤ v_a1_postCount.toInt ∧ v_a1_postCount.toInt ≤ 5) : Met l yX10_tonesReached (Cond.code yX10_tonesReached cX10_tonesReached 6 (some .int) :: wsL_law) ({ frames := 5, cells := 0, slots := 0, locals := 123 }) (wrP G D (tyL cB cI cJ cZ cS cT) [(h0, .inr (10, [.ref h_spent, .ref h_spentNext, .ref h_missing])), (h_spent, .inl (cI, 81, .inl f_spent)), (h_spentNext, .inl (cI, 81, .inl f_spentNext)), (h_a1, .inr (8, [.int v_a1_tones, .int v_a1_a, .int v_a1_b, .int v_a1_c, .int v_a1_d, .int v_a1_odds, .int v_a1_lines, .ref h_a1_signs, .int v_a1_signCount, .ref h_a1_posts, .int v_a1_postCount, .ref h_a1_acts])), (h_a1_signs, .inl (cI, 8, .inl f_a1_signs))] sz [.ref h0, .ref h_a1, .int v2]) (va_Qi (fun (r : Int32) (x : Nat × Nat × (Nat → Int32) × (Nat → Int32)) => True) (atW D (tyL cB cI cJ cZ cS cT) (va_A [(h0, .inr (10, [.ref h_spent, .ref h_spentNext, .ref h_missing])), (h_spent, .inl (cI, 81, .inl f_spent)), (h_spentNext, .inl (cI, 81, .inl f_spentNext)), (h_a1, .inr (8, [.int v_a1_tones, .int v_a1_a, .int v_a1_b, .int v_a1_c, .int v_a1_d, .int v_a1_odds, .int v_a1_lines, .ref h_a1_signs, .int v_a1_signCount, .ref h_a1_posts, .int v_a1_postCount, .ref h_a1_acts])), (h_a1_signs, .inl (cI, 8, .inl f_a1_signs))] sz) (fun x : Nat × Nat × (Nat → Int32) × (Nat → Int32) => [(h0, .inr (10, [.ref x.1, .ref x.2.1, .ref h_missing])), (x.1, .inl (cI, 81, .inl x.2.2.1)), (x.2.1, .inl (cI, 81, .inl x.2.2.2)), (h_a1, .inr (8, [.int v_a1_tones, .int v_a1_a, .int v_a1_b, .int v_a1_c, .int v_a1_d, .int v_a1_odds, .int v_a1_lines, .ref h_a1_signs, .int v_a1_signCount, .ref h_a1_posts, .int v_a1_postCount, .ref h_a1_acts])), (h_a1_signs, .inl (cI, 8, .inl f_a1_signs))])) (va_A [(h0, .inr (10, [.ref h_spent, .ref h_spentNext, .ref h_missing])), (h_spent, .inl (cI, 81, .inl f_spent)), (h_spentNext, .inl (cI, 81, .inl f_spentNext)), (h_a1, .inr (8, [.int v_a1_tones, .int v_a1_a, .int v_a1_b, .int v_a1_c, .int v_a1_d, .int v_a1_odds, .int v_a1_lines, .ref h_a1_signs, .int v_a1_signCount, .ref h_a1_posts, .int v_a1_postCount, .ref h_a1_acts])), (h_a1_signs, .inl (cI, 8, .inl f_a1_signs))] sz)) 0 0 (va_A [(h0, .inr (10, [.ref h_spent, .ref h_spentNext, .ref h_missing])), (h_spent, .inl (cI, 81, .inl f_spent)), (h_spentNext, .inl (cI, 81, .inl f_spentNext)), (h_a1, .inr (8, [.int v_a1_tones, .int v_a1_a, .int v_a1_b, .int v_a1_c, .int v_a1_d, .int v_a1_odds, .int v_a1_lines, .ref h_a1_signs, .int v_a1_signCount, .ref h_a1_posts, .int v_a1_postCount, .ref h_a1_acts])), (h_a1_signs, .inl (cI, 8, .inl f_a1_signs))] sz) := by
  refine metI (own := RX10) (by decide) rfl ?_
  intro p e s m below meth c Q hsz C hG hP hD hAB ret
  obtain ⟨hx, hb, hml, hown, hts, hK, hN, hT⟩ := id C
  subst hsz
  generalize hAe : va_A [(h0, .inr (10, [.ref h_spent, .ref h_spentNext, .ref h_missing])), (h_spent, .inl (cI, 81, .inl f_spent)), (h_spentNext, .inl (cI, 81, .inl f_spentNext)), (h_a1, .inr (8, [.int v_a1_tones, .int v_a1_a, .int v_a1_b, .int v_a1_c, .int v_a1_d, .int v_a1_odds, .int v_a1_lines, .ref h_a1_signs, .int v_a1_signCount, .ref h_a1_posts, .int v_a1_postCount, .ref h_a1_acts])), (h_a1_signs, .inl (cI, 8, .inl f_a1_signs))] s.heap.size = A at hD hAB ret ⊢
  have hA : ∀ q : Nat, s.heap.size ≤ q → A q := fun q h => by rw [← hAe]; exact Or.inr h
  have hS : va_S A s.heap s.heap [] := va_S.rf
  have hl := lv_entry ([.ref h0, .ref h_a1, .int v2]) (n := 6) (Nat.le_of_ble_eq_true rfl)
  rw [lg_entry_eq]
  generalize (lg_sl ([.ref h0, .ref h_a1, .int v2]) ++ List.replicate (6 - (lg_sl ([.ref h0, .ref h_a1, .int v2])).length) Slot.unset).toArray = ls at hl ⊢
  have hl : lv_has ls 6 [(0, .ref h0), (1, .ref h_a1), (2, .int v2)] := hl
  have hP : va_P D vwCl [(h0, .inr (10, [.ref h_spent, .ref h_spentNext, .ref h_missing])), (h_spent, .inl (cI, 81, .inl f_spent)), (h_spentNext, .inl (cI, 81, .inl f_spentNext)), (h_a1, .inr (8, [.int v_a1_tones, .int v_a1_a, .int v_a1_b, .int v_a1_c, .int v_a1_d, .int v_a1_odds, .int v_a1_lines, .ref h_a1_signs, .int v_a1_signCount, .ref h_a1_posts, .int v_a1_postCount, .ref h_a1_acts])), (h_a1_signs, .inl (cI, 8, .inl f_a1_signs))] s.heap := hP
  refine lv_aload_n hx hb dX10_tonesReached_0 rfl (lv_at hl 1 rfl) ?_
  refine roi (As := []) (rest := []) ⟨hx, hb, hml, hown, hts⟩ (b_X8_signCount l G D cB cI cJ cZ cS cT h_a1 v_a1_tones v_a1_a v_a1_b v_a1_c v_a1_d v_a1_odds v_a1_lines h_a1_signs v_a1_signCount h_a1_posts v_a1_postCount h_a1_acts (by first | assumption | omega | decide) (by first | assumption | omega | decide)) (cvB (n := 0) (inr40 _ (List.mem_of_getElem? (i := 23) rfl)) (inr15 _ (List.mem_of_getElem? (i := 10) rfl)) (inr15 _ (List.mem_of_getElem? (i := 11) rfl)) (inr1 _ (List.mem_of_getElem? (i := 23) rfl)) (inr15 _ (List.mem_of_getElem? (i := 12) rfl)) (by decide +kernel) hts rfl rfl ⟨Nat.le_of_ble_eq_true rfl, Nat.le_of_ble_eq_true rfl⟩) 0 8 rfl rfl rfl (hP.sub [3] rfl) hK hN (kT.to hT hS hAB) rfl hl.1 rfl (Nat.le_of_ble_eq_true rfl) ⟨Nat.le_of_ble_eq_true rfl, Nat.le_of_ble_eq_true rfl⟩ dX10_tonesReached_1 (fun r_1 h_2 => ?_)
  have h_2 : (r_1 = v_a1_signCount) := h_2
  have i_3 := h_2
  obtain rfl := i_3.symm
  refine lv_if_ne (tgt := 9) hx hb dX10_tonesReached_4 (by decide) (fun c_4 => ?_) (fun c_4 => ?_)
  · have c_4 : ¬ v_a1_signCount.toInt = 0 := ci_ne_t c_4
    have b_v_a1_signCount := i32b v_a1_signCount
    refine lv_aload_n hx hb dX10_tonesReached_9 rfl (lv_at hl 0 rfl) ?_
    refine lv_aload_n hx hb dX10_tonesReached_10 rfl (lv_at hl 1 rfl) ?_
    refine lv_iload_n hx hb dX10_tonesReached_11 rfl (lv_at hl 2 rfl) ?_
    refine lv_iconst (v := 0) hx hb dX10_tonesReached_12 (by decide) ?_
    refine wrVv (As := [.ref h_a1, .int v2, .int 0]) (rest := []) (wr := []) ⟨hx, hb, hml, hown, hts⟩ (b_X10_walkTo l G D cB cI cJ cZ cS cT s.heap.size h0 h_spent h_spentNext h_missing f_spent f_spentNext h_a1 v_a1_tones v_a1_a v_a1_b v_a1_c v_a1_d v_a1_odds v_a1_lines h_a1_signs v_a1_signCount h_a1_posts v_a1_postCount h_a1_acts f_a1_signs v2 0 (by first | assumption | omega | decide) (by first | assumption | omega | decide)) hP hD hS hA hK hN hT hAB hG [0, 1, 2, 3, 4] [] rfl rfl (by decide) (by decide) (by decide) (cvB (n := 3) (inr41 _ (List.mem_of_getElem? (i := 0) rfl)) (inr41 _ (List.mem_of_getElem? (i := 1) rfl)) (inr41 _ (List.mem_of_getElem? (i := 2) rfl)) (inr2 _ (List.mem_of_getElem? (i := 20) rfl)) (inr41 _ (List.mem_of_getElem? (i := 3) rfl)) (by decide +kernel) hts rfl rfl ⟨Nat.le_of_ble_eq_true rfl, Nat.le_of_ble_eq_true rfl⟩) 0 10 rfl rfl rfl rfl hl.1 rfl (Nat.le_of_ble_eq_true rfl) ⟨Nat.le_of_ble_eq_true rfl, Nat.le_of_ble_eq_true rfl⟩ dX10_tonesReached_13 (fun x9 H locs h_6 hP hD hS => ?_)
    obtain ⟨q_7, q_8, g_9, g_10⟩ := x9
    have hP : va_P D vwCl [(h0, .inr (10, [.ref q_7, .ref q_8, .ref h_missing])), (q_7, .inl (cI, 81, .inl g_9)), (q_8, .inl (cI, 81, .inl g_10)), (h_a1, .inr (8, [.int v_a1_tones, .int v_a1_a, .int v_a1_b, .int v_a1_c, .int v_a1_d, .int v_a1_odds, .int v_a1_lines, .ref h_a1_signs, .int v_a1_signCount, .ref h_a1_posts, .int v_a1_postCount, .ref h_a1_acts])), (h_a1_signs, .inl (cI, 8, .inl f_a1_signs))] H := hP
    have hD : va_D A [(h0, .inr (10, [.ref q_7, .ref q_8, .ref h_missing])), (q_7, .inl (cI, 81, .inl g_9)), (q_8, .inl (cI, 81, .inl g_10)), (h_a1, .inr (8, [.int v_a1_tones, .int v_a1_a, .int v_a1_b, .int v_a1_c, .int v_a1_d, .int v_a1_odds, .int v_a1_lines, .ref h_a1_signs, .int v_a1_signCount, .ref h_a1_posts, .int v_a1_postCount, .ref h_a1_acts])), (h_a1_signs, .inl (cI, 8, .inl f_a1_signs))] := hD
    refine lv_iconst (v := 0) hx hb dX10_tonesReached_16 (by decide) ?_
    refine lv_istore_n (lv' := [(3, .int 0), (0, .ref h0), (1, .ref h_a1), (2, .int v2)]) hx hb dX10_tonesReached_17 rfl hl (by decide) rfl (fun ls hl => ?_)
    refine lv_iconst (v := 0) hx hb dX10_tonesReached_18 (by decide) ?_
    refine lv_istore (lv' := [(4, .int 0), (3, .int 0), (0, .ref h0), (1, .ref h_a1), (2, .int v2)]) hx hb dX10_tonesReached_19 hl (by decide) rfl (fun ls hl => ?_)
    exact b_X10_tonesReached_l21 h0 h_missing h_a1 v_a1_tones v_a1_a v_a1_b v_a1_c v_a1_d v_a1_odds v_a1_lines h_a1_signs v_a1_signCount h_a1_posts v_a1_postCount h_a1_acts f_a1_signs v2 q_7 q_8 g_9 g_10 (by first | assumption | omega | decide) (by first | assumption | omega | decide) (by first | assumption | omega | decide) C hG hAB hA ret _ (0) (0) _ _ _ (by first | assumption | omega | decide) (Nat.lt_succ_self _) (hP.sub [0, 1, 2, 3, 4] rfl) (hD.sub [0, 1, 2, 3, 4] (by decide) rfl) hS (lv_sub hl [0, 1, 2, 3, 4] rfl)
  · have c_4 : v_a1_signCount.toInt = 0 := ci_ne_f c_4
    have b_v_a1_signCount := i32b v_a1_signCount
    refine lv_iconst (v := 0) hx hb dX10_tonesReached_7 (by decide) ?_
    exact ret _ _ _ _ _ (h_spent, h_spentNext, f_spent, f_spentNext) dX10_tonesReached_8 trivial (hP.sub [0, 1, 2, 3, 4] rfl) (hD.sub [0, 1, 2, 3, 4] (by decide) rfl) hS

set_option maxHeartbeats 4000000 in
set_option maxRecDepth 100000 in
theorem b_X10_fewestToMend_l68 {p : Program} {l : Launch} {e : Env} {s : State} {m : MethodId} {args : Array Value} {below : List Frame} {meth : Method} {c : Code} {Q : State → Prop} {G : Gho} {D : va_G} {cB cI cJ cZ cS cT : ClassId} {A : Nat → Prop} (h0 : Nat) (h_missing : Nat) (h_a1 : Nat) (v_a1_tones : Int32) (v_a1_a : Int32) (v_a1_b : Int32) (v_a1_c : Int32) (v_a1_d : Int32) (v_a1_odds : Int32) (v_a1_lines : Int32) (h_a1_signs : Nat) (v_a1_signCount : Int32) (h_a1_posts : Nat) (v_a1_postCount : Int32) (h_a1_acts : Nat) (f_a1_signs : Nat → Int32) (h_a2 : Nat) (h_a2_tones : Nat) (h_a2_lasts : Nat) (h_a2_answers : Nat) (h_a2_pip : Nat) (f_a2_answers : Nat → Int32) (f_a2_lasts : Nat → Int32) (iv_a1_signCount : 0 ≤ v_a1_signCount.toInt ∧ v_a1_signCount.toInt ≤ 8) (iv_a1_postCount : 0 ≤ v_a1_postCount.toInt ∧ v_a1_postCount.toInt ≤ 5) (c_4 : ¬ v_a1_signCount.toInt = 0) (C : Cx p s m args c RX10 cX10_fewestToMend 11 G D (tyL cB cI cJ cZ cS cT)) (hG : G.1 ≤ s.heap.size) (hAB : ∀ q, A q → G.1 ≤ q) (hA : ∀ q : Nat, s.heap.size ≤ q → A q) (ret : RetI p l e ({ frames := 4, cells := 0, slots := 0, locals := 99 }) s m args below meth c cX10_fewestToMend D A (fun x : Nat × Nat × (Nat → Int32) × (Nat → Int32) => [(h0, .inr (10, [.ref x.1, .ref x.2.1, .ref h_missing])), (x.1, .inl (cI, 81, .inl x.2.2.1)), (x.2.1, .inl (cI, 81, .inl x.2.2.2)), (h_a1, .inr (8, [.int v_a1_tones, .int v_a1_a, .int v_a1_b, .int v_a1_c, .int v_a1_d, .int v_a1_odds, .int v_a1_lines, .ref h_a1_signs, .int v_a1_signCount, .ref h_a1_posts, .int v_a1_postCount, .ref h_a1_acts])), (h_a1_signs, .inl (cI, 8, .inl f_a1_signs)), (h_a2, .inr (4, [.ref h_a2_tones, .ref h_a2_lasts, .ref h_a2_answers, .ref h_a2_pip])), (h_a2_answers, .inl (cI, 61, .inl f_a2_answers)), (h_a2_lasts, .inl (cI, 61, .inl f_a2_lasts))]) (fun (r : Int32) (x : Nat × Nat × (Nat → Int32) × (Nat → Int32)) => True) Q) :
    ∀ (N : Nat) (u68_spent : Nat) (u68_spentNext : Nat) (g68_spent : Nat → Int32) (g68_spentNext : Nat → Int32) (l68_9 : Int32) (l68_8 : Int32) (H : Heap) (locs : List Loc) (ls : Array Slot), (61 - l68_9.toInt).toNat < N → va_P D vwCl [(h0, .inr (10, [.ref u68_spent, .ref u68_spentNext, .ref h_missing])), (u68_spent, .inl (cI, 81, .inl g68_spent)), (u68_spentNext, .inl (cI, 81, .inl g68_spentNext)), (h_a1, .inr (8, [.int v_a1_tones, .int v_a1_a, .int v_a1_b, .int v_a1_c, .int v_a1_d, .int v_a1_odds, .int v_a1_lines, .ref h_a1_signs, .int v_a1_signCount, .ref h_a1_posts, .int v_a1_postCount, .ref h_a1_acts])), (h_a1_signs, .inl (cI, 8, .inl f_a1_signs)), (h_a2, .inr (4, [.ref h_a2_tones, .ref h_a2_lasts, .ref h_a2_answers, .ref h_a2_pip])), (h_a2_answers, .inl (cI, 61, .inl f_a2_answers)), (h_a2_lasts, .inl (cI, 61, .inl f_a2_lasts))] H → va_D A [(h0, .inr (10, [.ref u68_spent, .ref u68_spentNext, .ref h_missing])), (u68_spent, .inl (cI, 81, .inl g68_spent)), (u68_spentNext, .inl (cI, 81, .inl g68_spentNext)), (h_a1, .inr (8, [.int v_a1_tones, .int v_a1_a, .int v_a1_b, .int v_a1_c, .int v_a1_d, .int v_a1_odds, .int v_a1_lines, .ref h_a1_signs, .int v_a1_signCount, .ref h_a1_posts, .int v_a1_postCount, .ref h_a1_acts])), (h_a1_signs, .inl (cI, 8, .inl f_a1_signs)), (h_a2, .inr (4, [.ref h_a2_tones, .ref h_a2_lasts, .ref h_a2_answers, .ref h_a2_pip])), (h_a2_answers, .inl (cI, 61, .inl f_a2_answers)), (h_a2_lasts, .inl (cI, 61, .inl f_a2_lasts))] → va_S A s.heap H locs → lv_has ls 11 [(9, .int l68_9), (8, .int l68_8), (0, .ref h0), (1, .ref h_a1), (2, .ref h_a2)] → W p l e ({ frames := 4, cells := 0, slots := 0, locals := 99 }) s m args below meth c H locs 0 0 Q (F0 m 68 ls []) := by
  obtain ⟨hx, hb, hml, hown, hts, hK, hN, hT⟩ := id C
  intro N
  induction N with
  | zero =>
    intro u68_spent u68_spentNext g68_spent g68_spentNext l68_9 l68_8 H locs ls  hM_68 hP hD hS hl
    omega
  | succ N_68 ih_68 =>
    intro u68_spent u68_spentNext g68_spent g68_spentNext l68_9 l68_8 H locs ls  hM_68 hP hD hS hl
    have b_l68_9 := i32b l68_9
    refine lv_iload hx hb dX10_fewestToMend_68 (lv_at hl 0 rfl) ?_
    refine lv_bipush (v := 61) hx hb dX10_fewestToMend_70 (by decide) ?_
    refine lv_icmp_ge (tgt := 120) hx hb dX10_fewestToMend_72 (by decide) (fun c_16 => ?_) (fun c_16 => ?_)
    · have c_16 : 61 ≤ l68_9.toInt := ci_ge_t c_16
      refine lv_iload hx hb dX10_fewestToMend_120 (lv_at hl 1 rfl) ?_
      refine lv_sipush (v := 1000) hx hb dX10_fewestToMend_122 (by decide) ?_
      refine lv_icmp_ge (tgt := 133) hx hb dX10_fewestToMend_125 (by decide) (fun c_17 => ?_) (fun c_17 => ?_)
      · have c_17 : 1000 ≤ l68_8.toInt := ci_ge_t c_17
        have b_l68_8 := i32b l68_8
        refine lv_iconst (v := (-1)) hx hb dX10_fewestToMend_133 (by decide) ?_
        exact ret _ _ _ _ _ (u68_spent, u68_spentNext, g68_spent, g68_spentNext) dX10_fewestToMend_134 trivial (hP.sub [0, 1, 2, 3, 4, 5, 6, 7] rfl) (hD.sub [0, 1, 2, 3, 4, 5, 6, 7] (by decide) rfl) hS
      · have c_17 : l68_8.toInt < 1000 := ci_ge_f c_17
        have b_l68_8 := i32b l68_8
        refine lv_iload hx hb dX10_fewestToMend_128 (lv_at hl 1 rfl) ?_
        refine lv_goto (tgt := 134) hx hb dX10_fewestToMend_130 (by decide) ?_
        exact ret _ _ _ _ _ (u68_spent, u68_spentNext, g68_spent, g68_spentNext) dX10_fewestToMend_134 trivial (hP.sub [0, 1, 2, 3, 4, 5, 6, 7] rfl) (hD.sub [0, 1, 2, 3, 4, 5, 6, 7] (by decide) rfl) hS
    · have c_16 : l68_9.toInt < 61 := ci_ge_f c_16
      refine lv_aload_n hx hb dX10_fewestToMend_75 rfl (lv_at hl 4 rfl) ?_
      refine lv_iload hx hb dX10_fewestToMend_76 (lv_at hl 0 rfl) ?_
      refine roi (As := [.int l68_9]) (rest := []) ⟨hx, hb, hml, hown, hts⟩ (b_X4_lastAhead l G D cB cI cJ cZ cS cT h_a2 h_a2_tones h_a2_lasts h_a2_answers h_a2_pip f_a2_lasts l68_9 ) (cvB (n := 1) (inr50 _ (List.mem_of_getElem? (i := 21) rfl)) (inr26 _ (List.mem_of_getElem? (i := 15) rfl)) (inr26 _ (List.mem_of_getElem? (i := 16) rfl)) (inr2 _ (List.mem_of_getElem? (i := 11) rfl)) (inr26 _ (List.mem_of_getElem? (i := 17) rfl)) (by decide +kernel) hts rfl rfl ⟨Nat.le_of_ble_eq_true rfl, Nat.le_of_ble_eq_true rfl⟩) 0 4 rfl rfl rfl (hP.sub [5, 7] rfl) hK hN (kT.to hT hS hAB) rfl hl.1 rfl (Nat.le_of_ble_eq_true rfl) ⟨Nat.le_of_ble_eq_true rfl, Nat.le_of_ble_eq_true rfl⟩ dX10_fewestToMend_78 (fun r_18 h_19 => ?_)
      refine lv_aload_n hx hb dX10_fewestToMend_81 rfl (lv_at hl 4 rfl) ?_
      refine lv_iload hx hb dX10_fewestToMend_82 (lv_at hl 0 rfl) ?_
      refine roi (As := [.int l68_9]) (rest := [.int r_18]) ⟨hx, hb, hml, hown, hts⟩ (b_X4_answerAhead l G D cB cI cJ cZ cS cT h_a2 h_a2_tones h_a2_lasts h_a2_answers h_a2_pip f_a2_answers l68_9 ) (cvB (n := 1) (inr50 _ (List.mem_of_getElem? (i := 22) rfl)) (inr27 _ (List.mem_of_getElem? (i := 3) rfl)) (inr27 _ (List.mem_of_getElem? (i := 4) rfl)) (inr2 _ (List.mem_of_getElem? (i := 11) rfl)) (inr27 _ (List.mem_of_getElem? (i := 5) rfl)) (by decide +kernel) hts rfl rfl ⟨Nat.le_of_ble_eq_true rfl, Nat.le_of_ble_eq_true rfl⟩) 0 4 rfl rfl rfl (hP.sub [5, 6] rfl) hK hN (kT.to hT hS hAB) rfl hl.1 rfl (Nat.le_of_ble_eq_true rfl) ⟨Nat.le_of_ble_eq_true rfl, Nat.le_of_ble_eq_true rfl⟩ dX10_fewestToMend_84 (fun r_20 h_21 => ?_)
      refine rosi (As := [.int r_18, .int r_20]) (rest := []) ⟨hx, hb, hml, hown, hts⟩ (b_X10_state l G D cB cI cJ cZ cS cT r_18 r_20 ) (csB (n := 2) (inr41 _ (List.mem_of_getElem? (i := 9) rfl)) (inr41 _ (List.mem_of_getElem? (i := 10) rfl)) (inr2 _ (List.mem_of_getElem? (i := 20) rfl)) (inr41 _ (List.mem_of_getElem? (i := 11) rfl)) (by decide +kernel) hts rfl rfl ⟨Nat.le_of_ble_eq_true rfl, Nat.le_of_ble_eq_true rfl⟩) (hP.sub [] rfl) hK hN (kT.to hT hS hAB) rfl hl.1 rfl (Nat.le_of_ble_eq_true rfl) ⟨Nat.le_of_ble_eq_true rfl, Nat.le_of_ble_eq_true rfl⟩ dX10_fewestToMend_87 (fun r_22 h_23 => ?_)
      have h_23 : (0 ≤ r_22.toInt ∧ r_22.toInt ≤ 80) := h_23
      have i_24 := h_23
      refine lv_istore (lv' := [(10, .int r_22), (9, .int l68_9), (8, .int l68_8), (0, .ref h0), (1, .ref h_a1), (2, .ref h_a2)]) hx hb dX10_fewestToMend_90 hl (by decide) rfl (fun ls hl => ?_)
      refine lv_iload hx hb dX10_fewestToMend_92 (lv_at hl 2 rfl) ?_
      refine lv_aload_n hx hb dX10_fewestToMend_94 rfl (lv_at hl 3 rfl) ?_
      refine va_get (D := D) (ci := 10) (v := .ref u68_spent) (C := RX10) (T := TX10) (N := 3) hx hb hts inlX10 hown hK hP 0 rfl rfl 0 (by decide) (hts _ (inr5 _ (List.mem_of_getElem? (i := 17) rfl))) (fun _ h9 => h9) rfl dX10_fewestToMend_95 ?_
      refine lv_iload hx hb dX10_fewestToMend_98 (lv_at hl 0 rfl) ?_
      obtain ⟨t_25, et_25⟩ : ∃ v9 : Int32, g68_spent (r_22 : Int32).toNatClampNeg = v9 := ⟨_, rfl⟩
      refine z_iald (v := t_25) hx hb hK hP 1 1 rfl rfl (vin_nat (by omega) (by omega)) et_25 dX10_fewestToMend_100 ?_
      refine va_mmin hx hb (by rw [hml]; exact hl.1.symm) hown (hts _ (inr41 _ (List.mem_of_getElem? (i := 16) rfl))) (hts _ (inr18 _ (List.mem_of_getElem? (i := 11) rfl))) (hts _ (inr18 _ (List.mem_of_getElem? (i := 12) rfl))) (hts _ (inr18 _ (List.mem_of_getElem? (i := 13) rfl))) (Nat.le_of_ble_eq_true rfl) (Nat.le_of_ble_eq_true rfl) (Nat.le_of_ble_eq_true rfl) (Nat.le_of_ble_eq_true rfl) dX10_fewestToMend_101 ?_
      refine lv_topi (fun t_26 et_26 => ?_)
      have b_l68_8 := i32b l68_8
      have b_t_25 := i32b t_25
      have ft_26 : t_26.toInt ≤ l68_8.toInt ∧ t_26.toInt ≤ t_25.toInt ∧ (t_26.toInt = l68_8.toInt ∨ t_26.toInt = t_25.toInt) := minT et_26
      refine lv_istore (lv' := [(8, .int t_26), (10, .int r_22), (9, .int l68_9), (0, .ref h0), (1, .ref h_a1), (2, .ref h_a2)]) hx hb dX10_fewestToMend_104 hl (by decide) rfl (fun ls hl => ?_)
      refine lv_aload_n hx hb dX10_fewestToMend_106 rfl (lv_at hl 3 rfl) ?_
      refine lv_aload_n hx hb dX10_fewestToMend_107 rfl (lv_at hl 4 rfl) ?_
      refine lv_iload hx hb dX10_fewestToMend_108 (lv_at hl 2 rfl) ?_
      refine lv_iconst (v := 0) hx hb dX10_fewestToMend_110 (by decide) ?_
      refine wrVv (As := [.ref h_a1, .int l68_9, .int 0]) (rest := []) (wr := [(h_a2, .inr (4, [.ref h_a2_tones, .ref h_a2_lasts, .ref h_a2_answers, .ref h_a2_pip])), (h_a2_answers, .inl (cI, 61, .inl f_a2_answers)), (h_a2_lasts, .inl (cI, 61, .inl f_a2_lasts))]) ⟨hx, hb, hml, hown, hts⟩ (b_X10_walkOver l G D cB cI cJ cZ cS cT H.size h0 u68_spent u68_spentNext h_missing g68_spent g68_spentNext h_a1 v_a1_tones v_a1_a v_a1_b v_a1_c v_a1_d v_a1_odds v_a1_lines h_a1_signs v_a1_signCount h_a1_posts v_a1_postCount h_a1_acts f_a1_signs l68_9 0 (by first | assumption | omega | decide) (by first | assumption | omega | decide)) hP hD hS hA hK hN hT hAB hG [0, 1, 2, 3, 4] [5, 6, 7] rfl rfl (by decide) (by decide) (by decide) (cvB (n := 3) (inr41 _ (List.mem_of_getElem? (i := 12) rfl)) (inr41 _ (List.mem_of_getElem? (i := 13) rfl)) (inr41 _ (List.mem_of_getElem? (i := 14) rfl)) (inr2 _ (List.mem_of_getElem? (i := 20) rfl)) (inr41 _ (List.mem_of_getElem? (i := 15) rfl)) (by decide +kernel) hts rfl rfl ⟨Nat.le_of_ble_eq_true rfl, Nat.le_of_ble_eq_true rfl⟩) 0 10 rfl rfl rfl rfl hl.1 rfl (Nat.le_of_ble_eq_true rfl) ⟨Nat.le_of_ble_eq_true rfl, Nat.le_of_ble_eq_true rfl⟩ dX10_fewestToMend_111 (fun x9 H locs h_28 hP hD hS => ?_)
      obtain ⟨q_29, q_30, g_31, g_32⟩ := x9
      have hP : va_P D vwCl [(h_a2, .inr (4, [.ref h_a2_tones, .ref h_a2_lasts, .ref h_a2_answers, .ref h_a2_pip])), (h_a2_answers, .inl (cI, 61, .inl f_a2_answers)), (h_a2_lasts, .inl (cI, 61, .inl f_a2_lasts)), (h0, .inr (10, [.ref q_29, .ref q_30, .ref h_missing])), (q_29, .inl (cI, 81, .inl g_31)), (q_30, .inl (cI, 81, .inl g_32)), (h_a1, .inr (8, [.int v_a1_tones, .int v_a1_a, .int v_a1_b, .int v_a1_c, .int v_a1_d, .int v_a1_odds, .int v_a1_lines, .ref h_a1_signs, .int v_a1_signCount, .ref h_a1_posts, .int v_a1_postCount, .ref h_a1_acts])), (h_a1_signs, .inl (cI, 8, .inl f_a1_signs))] H := hP
      have hD : va_D A [(h_a2, .inr (4, [.ref h_a2_tones, .ref h_a2_lasts, .ref h_a2_answers, .ref h_a2_pip])), (h_a2_answers, .inl (cI, 61, .inl f_a2_answers)), (h_a2_lasts, .inl (cI, 61, .inl f_a2_lasts)), (h0, .inr (10, [.ref q_29, .ref q_30, .ref h_missing])), (q_29, .inl (cI, 81, .inl g_31)), (q_30, .inl (cI, 81, .inl g_32)), (h_a1, .inr (8, [.int v_a1_tones, .int v_a1_a, .int v_a1_b, .int v_a1_c, .int v_a1_d, .int v_a1_odds, .int v_a1_lines, .ref h_a1_signs, .int v_a1_signCount, .ref h_a1_posts, .int v_a1_postCount, .ref h_a1_acts])), (h_a1_signs, .inl (cI, 8, .inl f_a1_signs))] := hD
      obtain ⟨t_33, et_33⟩ : ∃ v9 : Int32, l68_9 + 1 = v9 := ⟨_, rfl⟩
      have ft_33 : t_33.toInt = l68_9.toInt + 1 := addT (a := l68_9.toInt) (b := 1) rfl (by decide) et_33 (by omega) (by omega)
      refine lv_iinc (v := t_33) (lv' := [(9, .int t_33), (8, .int t_26), (10, .int r_22), (0, .ref h0), (1, .ref h_a1), (2, .ref h_a2)]) hx hb dX10_fewestToMend_114 hl (k := 2) rfl (by rw [← et_33]; rfl) (by decide) rfl (fun ls hl => ?_)
      refine lv_goto (tgt := 68) hx hb dX10_fewestToMend_117 (by decide) ?_
      exact ih_68 (q_29) (q_30) (g_31) (g_32) (t_33) (t_26) _ _ _  (by omega) (hP.sub [3, 4, 5, 6, 7, 0, 1, 2] rfl) (hD.sub [3, 4, 5, 6, 7, 0, 1, 2] (by decide) rfl) hS (lv_sub hl [0, 1, 3, 4, 5] rfl)

set_option maxHeartbeats 4000000 in
set_option maxRecDepth 100000 in
theorem b_X10_fewestToMend_l68x {p : Program} {l : Launch} {e : Env} {s : State} {m : MethodId} {args : Array Value} {below : List Frame} {meth : Method} {c : Code} {Q : State → Prop} {G : Gho} {D : va_G} {cB cI cJ cZ cS cT : ClassId} {A : Nat → Prop} (h0 : Nat) (h_missing : Nat) (h_a1 : Nat) (v_a1_tones : Int32) (v_a1_a : Int32) (v_a1_b : Int32) (v_a1_c : Int32) (v_a1_d : Int32) (v_a1_odds : Int32) (v_a1_lines : Int32) (h_a1_signs : Nat) (v_a1_signCount : Int32) (h_a1_posts : Nat) (v_a1_postCount : Int32) (h_a1_acts : Nat) (f_a1_signs : Nat → Int32) (h_a2 : Nat) (h_a2_tones : Nat) (h_a2_lasts : Nat) (h_a2_answers : Nat) (h_a2_pip : Nat) (f_a2_answers : Nat → Int32) (f_a2_lasts : Nat → Int32) (iv_a1_signCount : 0 ≤ v_a1_signCount.toInt ∧ v_a1_signCount.toInt ≤ 8) (iv_a1_postCount : 0 ≤ v_a1_postCount.toInt ∧ v_a1_postCount.toInt ≤ 5) (c_4 : ¬ v_a1_signCount.toInt = 0) (C : Cx p s m args c RX10 cX10_fewestToMend 11 G D (tyL cB cI cJ cZ cS cT)) (hG : G.1 ≤ s.heap.size) (hAB : ∀ q, A q → G.1 ≤ q) (hA : ∀ q : Nat, s.heap.size ≤ q → A q) (ret : RetI p l e ({ frames := 4, cells := 0, slots := 0, locals := 99 }) s m args below meth c cX10_fewestToMend D A (fun x : Nat × Nat × (Nat → Int32) × (Nat → Int32) => [(h0, .inr (10, [.ref x.1, .ref x.2.1, .ref h_missing])), (x.1, .inl (cI, 81, .inl x.2.2.1)), (x.2.1, .inl (cI, 81, .inl x.2.2.2)), (h_a1, .inr (8, [.int v_a1_tones, .int v_a1_a, .int v_a1_b, .int v_a1_c, .int v_a1_d, .int v_a1_odds, .int v_a1_lines, .ref h_a1_signs, .int v_a1_signCount, .ref h_a1_posts, .int v_a1_postCount, .ref h_a1_acts])), (h_a1_signs, .inl (cI, 8, .inl f_a1_signs)), (h_a2, .inr (4, [.ref h_a2_tones, .ref h_a2_lasts, .ref h_a2_answers, .ref h_a2_pip])), (h_a2_answers, .inl (cI, 61, .inl f_a2_answers)), (h_a2_lasts, .inl (cI, 61, .inl f_a2_lasts))]) (fun (r : Int32) (x : Nat × Nat × (Nat → Int32) × (Nat → Int32)) => True) Q) :
    ∀ (N : Nat) (u68_spent : Nat) (u68_spentNext : Nat) (g68_spent : Nat → Int32) (g68_spentNext : Nat → Int32) (l68_9 : Int32) (l68_8 : Int32) (H : Heap) (locs : List Loc) (ls : Array Slot), (61 - l68_9.toInt).toNat < N → va_P D vwCl [(h0, .inr (10, [.ref u68_spent, .ref u68_spentNext, .ref h_missing])), (u68_spent, .inl (cI, 81, .inl g68_spent)), (u68_spentNext, .inl (cI, 81, .inl g68_spentNext)), (h_a1, .inr (8, [.int v_a1_tones, .int v_a1_a, .int v_a1_b, .int v_a1_c, .int v_a1_d, .int v_a1_odds, .int v_a1_lines, .ref h_a1_signs, .int v_a1_signCount, .ref h_a1_posts, .int v_a1_postCount, .ref h_a1_acts])), (h_a1_signs, .inl (cI, 8, .inl f_a1_signs)), (h_a2, .inr (4, [.ref h_a2_tones, .ref h_a2_lasts, .ref h_a2_answers, .ref h_a2_pip])), (h_a2_answers, .inl (cI, 61, .inl f_a2_answers)), (h_a2_lasts, .inl (cI, 61, .inl f_a2_lasts))] H → va_D A [(h0, .inr (10, [.ref u68_spent, .ref u68_spentNext, .ref h_missing])), (u68_spent, .inl (cI, 81, .inl g68_spent)), (u68_spentNext, .inl (cI, 81, .inl g68_spentNext)), (h_a1, .inr (8, [.int v_a1_tones, .int v_a1_a, .int v_a1_b, .int v_a1_c, .int v_a1_d, .int v_a1_odds, .int v_a1_lines, .ref h_a1_signs, .int v_a1_signCount, .ref h_a1_posts, .int v_a1_postCount, .ref h_a1_acts])), (h_a1_signs, .inl (cI, 8, .inl f_a1_signs)), (h_a2, .inr (4, [.ref h_a2_tones, .ref h_a2_lasts, .ref h_a2_answers, .ref h_a2_pip])), (h_a2_answers, .inl (cI, 61, .inl f_a2_answers)), (h_a2_lasts, .inl (cI, 61, .inl f_a2_lasts))] → va_S A s.heap H locs → lv_has ls 11 [(9, .int l68_9), (8, .int l68_8), (0, .ref h0), (1, .ref h_a1), (2, .ref h_a2)] → W p l e ({ frames := 4, cells := 0, slots := 0, locals := 99 }) s m args below meth c H locs 0 0 Q (F0 m 68 ls []) := by
  obtain ⟨hx, hb, hml, hown, hts, hK, hN, hT⟩ := id C
  intro N
  induction N with
  | zero =>
    intro u68_spent u68_spentNext g68_spent g68_spentNext l68_9 l68_8 H locs ls  hM_68 hP hD hS hl
    omega
  | succ N_68 ih_68 =>
    intro u68_spent u68_spentNext g68_spent g68_spentNext l68_9 l68_8 H locs ls  hM_68 hP hD hS hl
    have b_l68_9 := i32b l68_9
    refine lv_iload hx hb dX10_fewestToMend_68 (lv_at hl 0 rfl) ?_
    refine lv_bipush (v := 61) hx hb dX10_fewestToMend_70 (by decide) ?_
    refine lv_icmp_ge (tgt := 120) hx hb dX10_fewestToMend_72 (by decide) (fun c_23 => ?_) (fun c_23 => ?_)
    · have c_23 : 61 ≤ l68_9.toInt := ci_ge_t c_23
      refine lv_iload hx hb dX10_fewestToMend_120 (lv_at hl 1 rfl) ?_
      refine lv_sipush (v := 1000) hx hb dX10_fewestToMend_122 (by decide) ?_
      refine lv_icmp_ge (tgt := 133) hx hb dX10_fewestToMend_125 (by decide) (fun c_24 => ?_) (fun c_24 => ?_)
      · have c_24 : 1000 ≤ l68_8.toInt := ci_ge_t c_24
        have b_l68_8 := i32b l68_8
        refine lv_iconst (v := (-1)) hx hb dX10_fewestToMend_133 (by decide) ?_
        exact ret _ _ _ _ _ (u68_spent, u68_spentNext, g68_spent, g68_spentNext) dX10_fewestToMend_134 trivial (hP.sub [0, 1, 2, 3, 4, 5, 6, 7] rfl) (hD.sub [0, 1, 2, 3, 4, 5, 6, 7] (by decide) rfl) hS
      · have c_24 : l68_8.toInt < 1000 := ci_ge_f c_24
        have b_l68_8 := i32b l68_8
        refine lv_iload hx hb dX10_fewestToMend_128 (lv_at hl 1 rfl) ?_
        refine lv_goto (tgt := 134) hx hb dX10_fewestToMend_130 (by decide) ?_
        exact ret _ _ _ _ _ (u68_spent, u68_spentNext, g68_spent, g68_spentNext) dX10_fewestToMend_134 trivial (hP.sub [0, 1, 2, 3, 4, 5, 6, 7] rfl) (hD.sub [0, 1, 2, 3, 4, 5, 6, 7] (by decide) rfl) hS
    · have c_23 : l68_9.toInt < 61 := ci_ge_f c_23
      refine lv_aload_n hx hb dX10_fewestToMend_75 rfl (lv_at hl 4 rfl) ?_
      refine lv_iload hx hb dX10_fewestToMend_76 (lv_at hl 0 rfl) ?_
      refine roi (As := [.int l68_9]) (rest := []) ⟨hx, hb, hml, hown, hts⟩ (b_X4_lastAhead l G D cB cI cJ cZ cS cT h_a2 h_a2_tones h_a2_lasts h_a2_answers h_a2_pip f_a2_lasts l68_9 ) (cvB (n := 1) (inr50 _ (List.mem_of_getElem? (i := 21) rfl)) (inr26 _ (List.mem_of_getElem? (i := 15) rfl)) (inr26 _ (List.mem_of_getElem? (i := 16) rfl)) (inr2 _ (List.mem_of_getElem? (i := 11) rfl)) (inr26 _ (List.mem_of_getElem? (i := 17) rfl)) (by decide +kernel) hts rfl rfl ⟨Nat.le_of_ble_eq_true rfl, Nat.le_of_ble_eq_true rfl⟩) 0 4 rfl rfl rfl (hP.sub [5, 7] rfl) hK hN (kT.to hT hS hAB) rfl hl.1 rfl (Nat.le_of_ble_eq_true rfl) ⟨Nat.le_of_ble_eq_true rfl, Nat.le_of_ble_eq_true rfl⟩ dX10_fewestToMend_78 (fun r_25 h_26 => ?_)
      refine lv_aload_n hx hb dX10_fewestToMend_81 rfl (lv_at hl 4 rfl) ?_
      refine lv_iload hx hb dX10_fewestToMend_82 (lv_at hl 0 rfl) ?_
      refine roi (As := [.int l68_9]) (rest := [.int r_25]) ⟨hx, hb, hml, hown, hts⟩ (b_X4_answerAhead l G D cB cI cJ cZ cS cT h_a2 h_a2_tones h_a2_lasts h_a2_answers h_a2_pip f_a2_answers l68_9 ) (cvB (n := 1) (inr50 _ (List.mem_of_getElem? (i := 22) rfl)) (inr27 _ (List.mem_of_getElem? (i := 3) rfl)) (inr27 _ (List.mem_of_getElem? (i := 4) rfl)) (inr2 _ (List.mem_of_getElem? (i := 11) rfl)) (inr27 _ (List.mem_of_getElem? (i := 5) rfl)) (by decide +kernel) hts rfl rfl ⟨Nat.le_of_ble_eq_true rfl, Nat.le_of_ble_eq_true rfl⟩) 0 4 rfl rfl rfl (hP.sub [5, 6] rfl) hK hN (kT.to hT hS hAB) rfl hl.1 rfl (Nat.le_of_ble_eq_true rfl) ⟨Nat.le_of_ble_eq_true rfl, Nat.le_of_ble_eq_true rfl⟩ dX10_fewestToMend_84 (fun r_27 h_28 => ?_)
      refine rosi (As := [.int r_25, .int r_27]) (rest := []) ⟨hx, hb, hml, hown, hts⟩ (b_X10_state l G D cB cI cJ cZ cS cT r_25 r_27 ) (csB (n := 2) (inr41 _ (List.mem_of_getElem? (i := 9) rfl)) (inr41 _ (List.mem_of_getElem? (i := 10) rfl)) (inr2 _ (List.mem_of_getElem? (i := 20) rfl)) (inr41 _ (List.mem_of_getElem? (i := 11) rfl)) (by decide +kernel) hts rfl rfl ⟨Nat.le_of_ble_eq_true rfl, Nat.le_of_ble_eq_true rfl⟩) (hP.sub [] rfl) hK hN (kT.to hT hS hAB) rfl hl.1 rfl (Nat.le_of_ble_eq_true rfl) ⟨Nat.le_of_ble_eq_true rfl, Nat.le_of_ble_eq_true rfl⟩ dX10_fewestToMend_87 (fun r_29 h_30 => ?_)
      have h_30 : (0 ≤ r_29.toInt ∧ r_29.toInt ≤ 80) := h_30
      have i_31 := h_30
      refine lv_istore (lv' := [(10, .int r_29), (9, .int l68_9), (8, .int l68_8), (0, .ref h0), (1, .ref h_a1), (2, .ref h_a2)]) hx hb dX10_fewestToMend_90 hl (by decide) rfl (fun ls hl => ?_)
      refine lv_iload hx hb dX10_fewestToMend_92 (lv_at hl 2 rfl) ?_
      refine lv_aload_n hx hb dX10_fewestToMend_94 rfl (lv_at hl 3 rfl) ?_
      refine va_get (D := D) (ci := 10) (v := .ref u68_spent) (C := RX10) (T := TX10) (N := 3) hx hb hts inlX10 hown hK hP 0 rfl rfl 0 (by decide) (hts _ (inr5 _ (List.mem_of_getElem? (i := 17) rfl))) (fun _ h9 => h9) rfl dX10_fewestToMend_95 ?_
      refine lv_iload hx hb dX10_fewestToMend_98 (lv_at hl 0 rfl) ?_
      obtain ⟨t_32, et_32⟩ : ∃ v9 : Int32, g68_spent (r_29 : Int32).toNatClampNeg = v9 := ⟨_, rfl⟩
      refine z_iald (v := t_32) hx hb hK hP 1 1 rfl rfl (vin_nat (by omega) (by omega)) et_32 dX10_fewestToMend_100 ?_
      refine va_mmin hx hb (by rw [hml]; exact hl.1.symm) hown (hts _ (inr41 _ (List.mem_of_getElem? (i := 16) rfl))) (hts _ (inr18 _ (List.mem_of_getElem? (i := 11) rfl))) (hts _ (inr18 _ (List.mem_of_getElem? (i := 12) rfl))) (hts _ (inr18 _ (List.mem_of_getElem? (i := 13) rfl))) (Nat.le_of_ble_eq_true rfl) (Nat.le_of_ble_eq_true rfl) (Nat.le_of_ble_eq_true rfl) (Nat.le_of_ble_eq_true rfl) dX10_fewestToMend_101 ?_
      refine lv_topi (fun t_33 et_33 => ?_)
      have b_l68_8 := i32b l68_8
      have b_t_32 := i32b t_32
      have ft_33 : t_33.toInt ≤ l68_8.toInt ∧ t_33.toInt ≤ t_32.toInt ∧ (t_33.toInt = l68_8.toInt ∨ t_33.toInt = t_32.toInt) := minT et_33
      refine lv_istore (lv' := [(8, .int t_33), (10, .int r_29), (9, .int l68_9), (0, .ref h0), (1, .ref h_a1), (2, .ref h_a2)]) hx hb dX10_fewestToMend_104 hl (by decide) rfl (fun ls hl => ?_)
      refine lv_aload_n hx hb dX10_fewestToMend_106 rfl (lv_at hl 3 rfl) ?_
      refine lv_aload_n hx hb dX10_fewestToMend_107 rfl (lv_at hl 4 rfl) ?_
      refine lv_iload hx hb dX10_fewestToMend_108 (lv_at hl 2 rfl) ?_
      refine lv_iconst (v := 0) hx hb dX10_fewestToMend_110 (by decide) ?_
      refine wrVv (As := [.ref h_a1, .int l68_9, .int 0]) (rest := []) (wr := [(h_a2, .inr (4, [.ref h_a2_tones, .ref h_a2_lasts, .ref h_a2_answers, .ref h_a2_pip])), (h_a2_answers, .inl (cI, 61, .inl f_a2_answers)), (h_a2_lasts, .inl (cI, 61, .inl f_a2_lasts))]) ⟨hx, hb, hml, hown, hts⟩ (b_X10_walkOver l G D cB cI cJ cZ cS cT H.size h0 u68_spent u68_spentNext h_missing g68_spent g68_spentNext h_a1 v_a1_tones v_a1_a v_a1_b v_a1_c v_a1_d v_a1_odds v_a1_lines h_a1_signs v_a1_signCount h_a1_posts v_a1_postCount h_a1_acts f_a1_signs l68_9 0 (by first | assumption | omega | decide) (by first | assumption | omega | decide)) hP hD hS hA hK hN hT hAB hG [0, 1, 2, 3, 4] [5, 6, 7] rfl rfl (by decide) (by decide) (by decide) (cvB (n := 3) (inr41 _ (List.mem_of_getElem? (i := 12) rfl)) (inr41 _ (List.mem_of_getElem? (i := 13) rfl)) (inr41 _ (List.mem_of_getElem? (i := 14) rfl)) (inr2 _ (List.mem_of_getElem? (i := 20) rfl)) (inr41 _ (List.mem_of_getElem? (i := 15) rfl)) (by decide +kernel) hts rfl rfl ⟨Nat.le_of_ble_eq_true rfl, Nat.le_of_ble_eq_true rfl⟩) 0 10 rfl rfl rfl rfl hl.1 rfl (Nat.le_of_ble_eq_true rfl) ⟨Nat.le_of_ble_eq_true rfl, Nat.le_of_ble_eq_true rfl⟩ dX10_fewestToMend_111 (fun x9 H locs h_35 hP hD hS => ?_)
      obtain ⟨q_36, q_37, g_38, g_39⟩ := x9
      have hP : va_P D vwCl [(h_a2, .inr (4, [.ref h_a2_tones, .ref h_a2_lasts, .ref h_a2_answers, .ref h_a2_pip])), (h_a2_answers, .inl (cI, 61, .inl f_a2_answers)), (h_a2_lasts, .inl (cI, 61, .inl f_a2_lasts)), (h0, .inr (10, [.ref q_36, .ref q_37, .ref h_missing])), (q_36, .inl (cI, 81, .inl g_38)), (q_37, .inl (cI, 81, .inl g_39)), (h_a1, .inr (8, [.int v_a1_tones, .int v_a1_a, .int v_a1_b, .int v_a1_c, .int v_a1_d, .int v_a1_odds, .int v_a1_lines, .ref h_a1_signs, .int v_a1_signCount, .ref h_a1_posts, .int v_a1_postCount, .ref h_a1_acts])), (h_a1_signs, .inl (cI, 8, .inl f_a1_signs))] H := hP
      have hD : va_D A [(h_a2, .inr (4, [.ref h_a2_tones, .ref h_a2_lasts, .ref h_a2_answers, .ref h_a2_pip])), (h_a2_answers, .inl (cI, 61, .inl f_a2_answers)), (h_a2_lasts, .inl (cI, 61, .inl f_a2_lasts)), (h0, .inr (10, [.ref q_36, .ref q_37, .ref h_missing])), (q_36, .inl (cI, 81, .inl g_38)), (q_37, .inl (cI, 81, .inl g_39)), (h_a1, .inr (8, [.int v_a1_tones, .int v_a1_a, .int v_a1_b, .int v_a1_c, .int v_a1_d, .int v_a1_odds, .int v_a1_lines, .ref h_a1_signs, .int v_a1_signCount, .ref h_a1_posts, .int v_a1_postCount, .ref h_a1_acts])), (h_a1_signs, .inl (cI, 8, .inl f_a1_signs))] := hD
      obtain ⟨t_40, et_40⟩ : ∃ v9 : Int32, l68_9 + 1 = v9 := ⟨_, rfl⟩
      have ft_40 : t_40.toInt = l68_9.toInt + 1 := addT (a := l68_9.toInt) (b := 1) rfl (by decide) et_40 (by omega) (by omega)
      refine lv_iinc (v := t_40) (lv' := [(9, .int t_40), (8, .int t_33), (10, .int r_29), (0, .ref h0), (1, .ref h_a1), (2, .ref h_a2)]) hx hb dX10_fewestToMend_114 hl (k := 2) rfl (by rw [← et_40]; rfl) (by decide) rfl (fun ls hl => ?_)
      refine lv_goto (tgt := 68) hx hb dX10_fewestToMend_117 (by decide) ?_
      exact ih_68 (q_36) (q_37) (g_38) (g_39) (t_40) (t_33) _ _ _  (by omega) (hP.sub [3, 4, 5, 6, 7, 0, 1, 2] rfl) (hD.sub [3, 4, 5, 6, 7, 0, 1, 2] (by decide) rfl) hS (lv_sub hl [0, 1, 3, 4, 5] rfl)

set_option maxHeartbeats 4000000 in
set_option maxRecDepth 100000 in
theorem b_X10_fewestToMend (l : Launch) (G : Gho) (D : va_G) (cB cI cJ cZ cS cT : ClassId) (sz : Nat) (h0 : Nat) (h_spent : Nat) (h_spentNext : Nat) (h_missing : Nat) (f_spent : Nat → Int32) (f_spentNext : Nat → Int32) (h_a1 : Nat) (v_a1_tones : Int32) (v_a1_a : Int32) (v_a1_b : Int32) (v_a1_c : Int32) (v_a1_d : Int32) (v_a1_odds : Int32) (v_a1_lines : Int32) (h_a1_signs : Nat) (v_a1_signCount : Int32) (h_a1_posts : Nat) (v_a1_postCount : Int32) (h_a1_acts : Nat) (f_a1_signs : Nat → Int32) (h_a2 : Nat) (h_a2_tones : Nat) (h_a2_lasts : Nat) (h_a2_answers : Nat) (h_a2_pip : Nat) (f_a2_answers : Nat → Int32) (f_a2_lasts : Nat → Int32) (v3 : Int32) (v4 : Int32) (iv_a1_signCount : 0 ≤ v_a1_signCount.toInt ∧ v_a1_signCount.toInt ≤ 8) (iv_a1_postCount : 0 ≤ v_a1_postCount.toInt ∧ v_a1_postCount.toInt ≤ 5) : Met l yX10_fewestToMend (Cond.code yX10_fewestToMend cX10_fewestToMend 11 (some .int) :: wsL_law) ({ frames := 4, cells := 0, slots := 0, locals := 99 }) (wrP G D (tyL cB cI cJ cZ cS cT) [(h0, .inr (10, [.ref h_spent, .ref h_spentNext, .ref h_missing])), (h_spent, .inl (cI, 81, .inl f_spent)), (h_spentNext, .inl (cI, 81, .inl f_spentNext)), (h_a1, .inr (8, [.int v_a1_tones, .int v_a1_a, .int v_a1_b, .int v_a1_c, .int v_a1_d, .int v_a1_odds, .int v_a1_lines, .ref h_a1_signs, .int v_a1_signCount, .ref h_a1_posts, .int v_a1_postCount, .ref h_a1_acts])), (h_a1_signs, .inl (cI, 8, .inl f_a1_signs)), (h_a2, .inr (4, [.ref h_a2_tones, .ref h_a2_lasts, .ref h_a2_answers, .ref h_a2_pip])), (h_a2_answers, .inl (cI, 61, .inl f_a2_answers)), (h_a2_lasts, .inl (cI, 61, .inl f_a2_lasts))] sz [.ref h0, .ref h_a1, .ref h_a2, .int v3, .int v4]) (va_Qi (fun (r : Int32) (x : Nat × Nat × (Nat → Int32) × (Nat → Int32)) => True) (atW D (tyL cB cI cJ cZ cS cT) (va_A [(h0, .inr (10, [.ref h_spent, .ref h_spentNext, .ref h_missing])), (h_spent, .inl (cI, 81, .inl f_spent)), (h_spentNext, .inl (cI, 81, .inl f_spentNext)), (h_a1, .inr (8, [.int v_a1_tones, .int v_a1_a, .int v_a1_b, .int v_a1_c, .int v_a1_d, .int v_a1_odds, .int v_a1_lines, .ref h_a1_signs, .int v_a1_signCount, .ref h_a1_posts, .int v_a1_postCount, .ref h_a1_acts])), (h_a1_signs, .inl (cI, 8, .inl f_a1_signs)), (h_a2, .inr (4, [.ref h_a2_tones, .ref h_a2_lasts, .ref h_a2_answers, .ref h_a2_pip])), (h_a2_answers, .inl (cI, 61, .inl f_a2_answers)), (h_a2_lasts, .inl (cI, 61, .inl f_a2_lasts))] sz) (fun x : Nat × Nat × (Nat → Int32) × (Nat → Int32) => [(h0, .inr (10, [.ref x.1, .ref x.2.1, .ref h_missing])), (x.1, .inl (cI, 81, .inl x.2.2.1)), (x.2.1, .inl (cI, 81, .inl x.2.2.2)), (h_a1, .inr (8, [.int v_a1_tones, .int v_a1_a, .int v_a1_b, .int v_a1_c, .int v_a1_d, .int v_a1_odds, .int v_a1_lines, .ref h_a1_signs, .int v_a1_signCount, .ref h_a1_posts, .int v_a1_postCount, .ref h_a1_acts])), (h_a1_signs, .inl (cI, 8, .inl f_a1_signs)), (h_a2, .inr (4, [.ref h_a2_tones, .ref h_a2_lasts, .ref h_a2_answers, .ref h_a2_pip])), (h_a2_answers, .inl (cI, 61, .inl f_a2_answers)), (h_a2_lasts, .inl (cI, 61, .inl f_a2_lasts))])) (va_A [(h0, .inr (10, [.ref h_spent, .ref h_spentNext, .ref h_missing])), (h_spent, .inl (cI, 81, .inl f_spent)), (h_spentNext, .inl (cI, 81, .inl f_spentNext)), (h_a1, .inr (8, [.int v_a1_tones, .int v_a1_a, .int v_a1_b, .int v_a1_c, .int v_a1_d, .int v_a1_odds, .int v_a1_lines, .ref h_a1_signs, .int v_a1_signCount, .ref h_a1_posts, .int v_a1_postCount, .ref h_a1_acts])), (h_a1_signs, .inl (cI, 8, .inl f_a1_signs)), (h_a2, .inr (4, [.ref h_a2_tones, .ref h_a2_lasts, .ref h_a2_answers, .ref h_a2_pip])), (h_a2_answers, .inl (cI, 61, .inl f_a2_answers)), (h_a2_lasts, .inl (cI, 61, .inl f_a2_lasts))] sz)) 0 0 (va_A [(h0, .inr (10, [.ref h_spent, .ref h_spentNext, .ref h_missing])), (h_spent, .inl (cI, 81, .inl f_spent)), (h_spentNext, .inl (cI, 81, .inl f_spentNext)), (h_a1, .inr (8, [.int v_a1_tones, .int v_a1_a, .int v_a1_b, .int v_a1_c, .int v_a1_d, .int v_a1_odds, .int v_a1_lines, .ref h_a1_signs, .int v_a1_signCount, .ref h_a1_posts, .int v_a1_postCount, .ref h_a1_acts])), (h_a1_signs, .inl (cI, 8, .inl f_a1_signs)), (h_a2, .inr (4, [.ref h_a2_tones, .ref h_a2_lasts, .ref h_a2_answers, .ref h_a2_pip])), (h_a2_answers, .inl (cI, 61, .inl f_a2_answers)), (h_a2_lasts, .inl (cI, 61, .inl f_a2_lasts))] sz) := by
  refine metI (own := RX10) (by decide) rfl ?_
  intro p e s m below meth c Q hsz C hG hP hD hAB ret
  obtain ⟨hx, hb, hml, hown, hts, hK, hN, hT⟩ := id C
  subst hsz
  generalize hAe : va_A [(h0, .inr (10, [.ref h_spent, .ref h_spentNext, .ref h_missing])), (h_spent, .inl (cI, 81, .inl f_spent)), (h_spentNext, .inl (cI, 81, .inl f_spentNext)), (h_a1, .inr (8, [.int v_a1_tones, .int v_a1_a, .int v_a1_b, .int v_a1_c, .int v_a1_d, .int v_a1_odds, .int v_a1_lines, .ref h_a1_signs, .int v_a1_signCount, .ref h_a1_posts, .int v_a1_postCount, .ref h_a1_acts])), (h_a1_signs, .inl (cI, 8, .inl f_a1_signs)), (h_a2, .inr (4, [.ref h_a2_tones, .ref h_a2_lasts, .ref h_a2_answers, .ref h_a2_pip])), (h_a2_answers, .inl (cI, 61, .inl f_a2_answers)), (h_a2_lasts, .inl (cI, 61, .inl f_a2_lasts))] s.heap.size = A at hD hAB ret ⊢
  have hA : ∀ q : Nat, s.heap.size ≤ q → A q := fun q h => by rw [← hAe]; exact Or.inr h
  have hS : va_S A s.heap s.heap [] := va_S.rf
  have hl := lv_entry ([.ref h0, .ref h_a1, .ref h_a2, .int v3, .int v4]) (n := 11) (Nat.le_of_ble_eq_true rfl)
  rw [lg_entry_eq]
  generalize (lg_sl ([.ref h0, .ref h_a1, .ref h_a2, .int v3, .int v4]) ++ List.replicate (11 - (lg_sl ([.ref h0, .ref h_a1, .ref h_a2, .int v3, .int v4])).length) Slot.unset).toArray = ls at hl ⊢
  have hl : lv_has ls 11 [(0, .ref h0), (1, .ref h_a1), (2, .ref h_a2), (3, .int v3), (4, .int v4)] := hl
  have hP : va_P D vwCl [(h0, .inr (10, [.ref h_spent, .ref h_spentNext, .ref h_missing])), (h_spent, .inl (cI, 81, .inl f_spent)), (h_spentNext, .inl (cI, 81, .inl f_spentNext)), (h_a1, .inr (8, [.int v_a1_tones, .int v_a1_a, .int v_a1_b, .int v_a1_c, .int v_a1_d, .int v_a1_odds, .int v_a1_lines, .ref h_a1_signs, .int v_a1_signCount, .ref h_a1_posts, .int v_a1_postCount, .ref h_a1_acts])), (h_a1_signs, .inl (cI, 8, .inl f_a1_signs)), (h_a2, .inr (4, [.ref h_a2_tones, .ref h_a2_lasts, .ref h_a2_answers, .ref h_a2_pip])), (h_a2_answers, .inl (cI, 61, .inl f_a2_answers)), (h_a2_lasts, .inl (cI, 61, .inl f_a2_lasts))] s.heap := hP
  refine lv_aload_n hx hb dX10_fewestToMend_0 rfl (lv_at hl 1 rfl) ?_
  refine roi (As := []) (rest := []) ⟨hx, hb, hml, hown, hts⟩ (b_X8_signCount l G D cB cI cJ cZ cS cT h_a1 v_a1_tones v_a1_a v_a1_b v_a1_c v_a1_d v_a1_odds v_a1_lines h_a1_signs v_a1_signCount h_a1_posts v_a1_postCount h_a1_acts (by first | assumption | omega | decide) (by first | assumption | omega | decide)) (cvB (n := 0) (inr40 _ (List.mem_of_getElem? (i := 23) rfl)) (inr15 _ (List.mem_of_getElem? (i := 10) rfl)) (inr15 _ (List.mem_of_getElem? (i := 11) rfl)) (inr1 _ (List.mem_of_getElem? (i := 23) rfl)) (inr15 _ (List.mem_of_getElem? (i := 12) rfl)) (by decide +kernel) hts rfl rfl ⟨Nat.le_of_ble_eq_true rfl, Nat.le_of_ble_eq_true rfl⟩) 0 8 rfl rfl rfl (hP.sub [3] rfl) hK hN (kT.to hT hS hAB) rfl hl.1 rfl (Nat.le_of_ble_eq_true rfl) ⟨Nat.le_of_ble_eq_true rfl, Nat.le_of_ble_eq_true rfl⟩ dX10_fewestToMend_1 (fun r_1 h_2 => ?_)
  have h_2 : (r_1 = v_a1_signCount) := h_2
  have i_3 := h_2
  obtain rfl := i_3.symm
  refine lv_if_ne (tgt := 9) hx hb dX10_fewestToMend_4 (by decide) (fun c_4 => ?_) (fun c_4 => ?_)
  · have c_4 : ¬ v_a1_signCount.toInt = 0 := ci_ne_t c_4
    have b_v_a1_signCount := i32b v_a1_signCount
    refine lv_aload_n hx hb dX10_fewestToMend_9 rfl (lv_at hl 1 rfl) ?_
    refine lv_iload_n hx hb dX10_fewestToMend_10 rfl (lv_at hl 3 rfl) ?_
    refine roi (As := [.int v3]) (rest := []) ⟨hx, hb, hml, hown, hts⟩ (b_X8_isGap l G D cB cI cJ cZ cS cT h_a1 v_a1_tones v_a1_a v_a1_b v_a1_c v_a1_d v_a1_odds v_a1_lines h_a1_signs v_a1_signCount h_a1_posts v_a1_postCount h_a1_acts f_a1_signs v3 (by first | assumption | omega | decide) (by first | assumption | omega | decide)) (cvB (n := 1) (inr41 _ (List.mem_of_getElem? (i := 17) rfl)) (inr23 _ (List.mem_of_getElem? (i := 12) rfl)) (inr23 _ (List.mem_of_getElem? (i := 13) rfl)) (inr1 _ (List.mem_of_getElem? (i := 23) rfl)) (inr23 _ (List.mem_of_getElem? (i := 14) rfl)) (by decide +kernel) hts rfl rfl ⟨Nat.le_of_ble_eq_true rfl, Nat.le_of_ble_eq_true rfl⟩) 0 8 rfl rfl rfl (hP.sub [3, 4] rfl) hK hN (kT.to hT hS hAB) rfl hl.1 rfl (Nat.le_of_ble_eq_true rfl) ⟨Nat.le_of_ble_eq_true rfl, Nat.le_of_ble_eq_true rfl⟩ dX10_fewestToMend_11 (fun r_5 h_6 => ?_)
    have h_6 : (r_5 = 0 ∨ r_5 = 1) := h_6
    have i_7 := h_6
    have ar_5 : 0 ≤ r_5.toInt ∧ r_5.toInt ≤ 1 := by rcases i_7 with h | h <;> rw [h] <;> decide
    refine lv_istore (lv' := [(5, .int r_5), (0, .ref h0), (1, .ref h_a1), (2, .ref h_a2), (3, .int v3), (4, .int v4)]) hx hb dX10_fewestToMend_14 hl (by decide) rfl (fun ls hl => ?_)
    refine lv_iload hx hb dX10_fewestToMend_16 (lv_at hl 0 rfl) ?_
    refine lv_if_eq (tgt := 29) hx hb dX10_fewestToMend_18 (by decide) (fun c_8 => ?_) (fun c_8 => ?_)
    · have c_8 : r_5.toInt = 0 := ci_eq_t c_8
      have b_r_5 := i32b r_5
      refine lv_iload hx hb dX10_fewestToMend_29 (lv_at hl 5 rfl) ?_
      refine lv_istore (lv' := [(6, .int v4), (5, .int r_5), (0, .ref h0), (1, .ref h_a1), (2, .ref h_a2), (3, .int v3), (4, .int v4)]) hx hb dX10_fewestToMend_31 hl (by decide) rfl (fun ls hl => ?_)
      refine lv_iload hx hb dX10_fewestToMend_33 (lv_at hl 1 rfl) ?_
      refine lv_if_eq (tgt := 43) hx hb dX10_fewestToMend_35 (by decide) (fun c_9 => ?_) (fun c_9 => ?_)
      · have c_9 : r_5.toInt = 0 := ci_eq_t c_9
        refine lv_aload_n hx hb dX10_fewestToMend_43 rfl (lv_at hl 4 rfl) ?_
        refine lv_iload_n hx hb dX10_fewestToMend_44 rfl (lv_at hl 5 rfl) ?_
        refine roi (As := [.int v3]) (rest := []) ⟨hx, hb, hml, hown, hts⟩ (b_X4_answerAhead l G D cB cI cJ cZ cS cT h_a2 h_a2_tones h_a2_lasts h_a2_answers h_a2_pip f_a2_answers v3 ) (cvB (n := 1) (inr50 _ (List.mem_of_getElem? (i := 22) rfl)) (inr27 _ (List.mem_of_getElem? (i := 3) rfl)) (inr27 _ (List.mem_of_getElem? (i := 4) rfl)) (inr2 _ (List.mem_of_getElem? (i := 11) rfl)) (inr27 _ (List.mem_of_getElem? (i := 5) rfl)) (by decide +kernel) hts rfl rfl ⟨Nat.le_of_ble_eq_true rfl, Nat.le_of_ble_eq_true rfl⟩) 0 4 rfl rfl rfl (hP.sub [5, 6] rfl) hK hN (kT.to hT hS hAB) rfl hl.1 rfl (Nat.le_of_ble_eq_true rfl) ⟨Nat.le_of_ble_eq_true rfl, Nat.le_of_ble_eq_true rfl⟩ dX10_fewestToMend_45 (fun r_10 h_11 => ?_)
        refine lv_istore (lv' := [(7, .int r_10), (6, .int v4), (5, .int r_5), (0, .ref h0), (1, .ref h_a1), (2, .ref h_a2), (3, .int v3), (4, .int v4)]) hx hb dX10_fewestToMend_48 hl (by decide) rfl (fun ls hl => ?_)
        refine lv_aload_n hx hb dX10_fewestToMend_50 rfl (lv_at hl 3 rfl) ?_
        refine lv_iload hx hb dX10_fewestToMend_51 (lv_at hl 1 rfl) ?_
        refine lv_iload hx hb dX10_fewestToMend_53 (lv_at hl 0 rfl) ?_
        refine wrVv (As := [.int v4, .int r_10]) (rest := []) (wr := [(h_spentNext, .inl (cI, 81, .inl f_spentNext)), (h_a1, .inr (8, [.int v_a1_tones, .int v_a1_a, .int v_a1_b, .int v_a1_c, .int v_a1_d, .int v_a1_odds, .int v_a1_lines, .ref h_a1_signs, .int v_a1_signCount, .ref h_a1_posts, .int v_a1_postCount, .ref h_a1_acts])), (h_a1_signs, .inl (cI, 8, .inl f_a1_signs)), (h_a2, .inr (4, [.ref h_a2_tones, .ref h_a2_lasts, .ref h_a2_answers, .ref h_a2_pip])), (h_a2_answers, .inl (cI, 61, .inl f_a2_answers)), (h_a2_lasts, .inl (cI, 61, .inl f_a2_lasts))]) ⟨hx, hb, hml, hown, hts⟩ (b_X10_start l G D cB cI cJ cZ cS cT s.heap.size h0 h_spent h_spentNext h_missing f_spent v4 r_10 ) hP hD hS hA hK hN hT hAB hG [0, 1] [2, 3, 4, 5, 6, 7] rfl rfl (by decide) (by decide) (by decide) (cvB (n := 2) (inr41 _ (List.mem_of_getElem? (i := 4) rfl)) (inr41 _ (List.mem_of_getElem? (i := 5) rfl)) (inr41 _ (List.mem_of_getElem? (i := 6) rfl)) (inr2 _ (List.mem_of_getElem? (i := 20) rfl)) (inr41 _ (List.mem_of_getElem? (i := 7) rfl)) (by decide +kernel) hts rfl rfl ⟨Nat.le_of_ble_eq_true rfl, Nat.le_of_ble_eq_true rfl⟩) 0 10 rfl rfl rfl rfl hl.1 rfl (Nat.le_of_ble_eq_true rfl) ⟨Nat.le_of_ble_eq_true rfl, Nat.le_of_ble_eq_true rfl⟩ dX10_fewestToMend_55 (fun x9 H locs h_13 hP hD hS => ?_)
        obtain ⟨g_14, rfl⟩ : ∃ z, z = x9 := ⟨_, rfl⟩
        have hP : va_P D vwCl [(h_spentNext, .inl (cI, 81, .inl f_spentNext)), (h_a1, .inr (8, [.int v_a1_tones, .int v_a1_a, .int v_a1_b, .int v_a1_c, .int v_a1_d, .int v_a1_odds, .int v_a1_lines, .ref h_a1_signs, .int v_a1_signCount, .ref h_a1_posts, .int v_a1_postCount, .ref h_a1_acts])), (h_a1_signs, .inl (cI, 8, .inl f_a1_signs)), (h_a2, .inr (4, [.ref h_a2_tones, .ref h_a2_lasts, .ref h_a2_answers, .ref h_a2_pip])), (h_a2_answers, .inl (cI, 61, .inl f_a2_answers)), (h_a2_lasts, .inl (cI, 61, .inl f_a2_lasts)), (h0, .inr (10, [.ref h_spent, .ref h_spentNext, .ref h_missing])), (h_spent, .inl (cI, 81, .inl g_14))] H := hP
        have hD : va_D A [(h_spentNext, .inl (cI, 81, .inl f_spentNext)), (h_a1, .inr (8, [.int v_a1_tones, .int v_a1_a, .int v_a1_b, .int v_a1_c, .int v_a1_d, .int v_a1_odds, .int v_a1_lines, .ref h_a1_signs, .int v_a1_signCount, .ref h_a1_posts, .int v_a1_postCount, .ref h_a1_acts])), (h_a1_signs, .inl (cI, 8, .inl f_a1_signs)), (h_a2, .inr (4, [.ref h_a2_tones, .ref h_a2_lasts, .ref h_a2_answers, .ref h_a2_pip])), (h_a2_answers, .inl (cI, 61, .inl f_a2_answers)), (h_a2_lasts, .inl (cI, 61, .inl f_a2_lasts)), (h0, .inr (10, [.ref h_spent, .ref h_spentNext, .ref h_missing])), (h_spent, .inl (cI, 81, .inl g_14))] := hD
        refine lv_sipush (v := 1000) hx hb dX10_fewestToMend_58 (by decide) ?_
        refine lv_istore (lv' := [(8, .int 1000), (7, .int r_10), (6, .int v4), (5, .int r_5), (0, .ref h0), (1, .ref h_a1), (2, .ref h_a2), (3, .int v3), (4, .int v4)]) hx hb dX10_fewestToMend_61 hl (by decide) rfl (fun ls hl => ?_)
        refine lv_iload_n hx hb dX10_fewestToMend_63 rfl (lv_at hl 7 rfl) ?_
        refine lv_iconst (v := 1) hx hb dX10_fewestToMend_64 (by decide) ?_
        obtain ⟨t_15, et_15⟩ : ∃ v9 : Int32, v3 + 1 = v9 := ⟨_, rfl⟩
        refine z_iadd (v := t_15) hx hb dX10_fewestToMend_65 et_15 ?_
        refine lv_istore (lv' := [(9, .int t_15), (8, .int 1000), (7, .int r_10), (6, .int v4), (5, .int r_5), (0, .ref h0), (1, .ref h_a1), (2, .ref h_a2), (3, .int v3), (4, .int v4)]) hx hb dX10_fewestToMend_66 hl (by decide) rfl (fun ls hl => ?_)
        exact b_X10_fewestToMend_l68 h0 h_missing h_a1 v_a1_tones v_a1_a v_a1_b v_a1_c v_a1_d v_a1_odds v_a1_lines h_a1_signs v_a1_signCount h_a1_posts v_a1_postCount h_a1_acts f_a1_signs h_a2 h_a2_tones h_a2_lasts h_a2_answers h_a2_pip f_a2_answers f_a2_lasts (by first | assumption | omega | decide) (by first | assumption | omega | decide) (by first | assumption | omega | decide) C hG hAB hA ret _ (h_spent) (h_spentNext) (g_14) (f_spentNext) (t_15) (1000) _ _ _  (Nat.lt_succ_self _) (hP.sub [6, 7, 0, 1, 2, 3, 4, 5] rfl) (hD.sub [6, 7, 0, 1, 2, 3, 4, 5] (by decide) rfl) hS (lv_sub hl [0, 1, 5, 6, 7] rfl)
      · have c_9 : ¬ r_5.toInt = 0 := ci_eq_f c_9
        exfalso
        omega
    · have c_8 : ¬ r_5.toInt = 0 := ci_eq_f c_8
      have b_r_5 := i32b r_5
      refine lv_aload_n hx hb dX10_fewestToMend_21 rfl (lv_at hl 3 rfl) ?_
      refine lv_iload_n hx hb dX10_fewestToMend_22 rfl (lv_at hl 4 rfl) ?_
      refine roi (As := [.int v3]) (rest := []) ⟨hx, hb, hml, hown, hts⟩ (b_X4_lastAhead l G D cB cI cJ cZ cS cT h_a2 h_a2_tones h_a2_lasts h_a2_answers h_a2_pip f_a2_lasts v3 ) (cvB (n := 1) (inr50 _ (List.mem_of_getElem? (i := 21) rfl)) (inr26 _ (List.mem_of_getElem? (i := 15) rfl)) (inr26 _ (List.mem_of_getElem? (i := 16) rfl)) (inr2 _ (List.mem_of_getElem? (i := 11) rfl)) (inr26 _ (List.mem_of_getElem? (i := 17) rfl)) (by decide +kernel) hts rfl rfl ⟨Nat.le_of_ble_eq_true rfl, Nat.le_of_ble_eq_true rfl⟩) 0 4 rfl rfl rfl (hP.sub [5, 7] rfl) hK hN (kT.to hT hS hAB) rfl hl.1 rfl (Nat.le_of_ble_eq_true rfl) ⟨Nat.le_of_ble_eq_true rfl, Nat.le_of_ble_eq_true rfl⟩ dX10_fewestToMend_23 (fun r_16 h_17 => ?_)
      refine lv_goto (tgt := 31) hx hb dX10_fewestToMend_26 (by decide) ?_
      refine lv_istore (lv' := [(6, .int r_16), (5, .int r_5), (0, .ref h0), (1, .ref h_a1), (2, .ref h_a2), (3, .int v3), (4, .int v4)]) hx hb dX10_fewestToMend_31 hl (by decide) rfl (fun ls hl => ?_)
      refine lv_iload hx hb dX10_fewestToMend_33 (lv_at hl 1 rfl) ?_
      refine lv_if_eq (tgt := 43) hx hb dX10_fewestToMend_35 (by decide) (fun c_18 => ?_) (fun c_18 => ?_)
      · have c_18 : r_5.toInt = 0 := ci_eq_t c_18
        exfalso
        omega
      · have c_18 : ¬ r_5.toInt = 0 := ci_eq_f c_18
        refine lv_iload hx hb dX10_fewestToMend_38 (lv_at hl 6 rfl) ?_
        refine lv_goto (tgt := 48) hx hb dX10_fewestToMend_40 (by decide) ?_
        refine lv_istore (lv' := [(7, .int v4), (6, .int r_16), (5, .int r_5), (0, .ref h0), (1, .ref h_a1), (2, .ref h_a2), (3, .int v3), (4, .int v4)]) hx hb dX10_fewestToMend_48 hl (by decide) rfl (fun ls hl => ?_)
        refine lv_aload_n hx hb dX10_fewestToMend_50 rfl (lv_at hl 3 rfl) ?_
        refine lv_iload hx hb dX10_fewestToMend_51 (lv_at hl 1 rfl) ?_
        refine lv_iload hx hb dX10_fewestToMend_53 (lv_at hl 0 rfl) ?_
        refine wrVv (As := [.int r_16, .int v4]) (rest := []) (wr := [(h_spentNext, .inl (cI, 81, .inl f_spentNext)), (h_a1, .inr (8, [.int v_a1_tones, .int v_a1_a, .int v_a1_b, .int v_a1_c, .int v_a1_d, .int v_a1_odds, .int v_a1_lines, .ref h_a1_signs, .int v_a1_signCount, .ref h_a1_posts, .int v_a1_postCount, .ref h_a1_acts])), (h_a1_signs, .inl (cI, 8, .inl f_a1_signs)), (h_a2, .inr (4, [.ref h_a2_tones, .ref h_a2_lasts, .ref h_a2_answers, .ref h_a2_pip])), (h_a2_answers, .inl (cI, 61, .inl f_a2_answers)), (h_a2_lasts, .inl (cI, 61, .inl f_a2_lasts))]) ⟨hx, hb, hml, hown, hts⟩ (b_X10_start l G D cB cI cJ cZ cS cT s.heap.size h0 h_spent h_spentNext h_missing f_spent r_16 v4 ) hP hD hS hA hK hN hT hAB hG [0, 1] [2, 3, 4, 5, 6, 7] rfl rfl (by decide) (by decide) (by decide) (cvB (n := 2) (inr41 _ (List.mem_of_getElem? (i := 4) rfl)) (inr41 _ (List.mem_of_getElem? (i := 5) rfl)) (inr41 _ (List.mem_of_getElem? (i := 6) rfl)) (inr2 _ (List.mem_of_getElem? (i := 20) rfl)) (inr41 _ (List.mem_of_getElem? (i := 7) rfl)) (by decide +kernel) hts rfl rfl ⟨Nat.le_of_ble_eq_true rfl, Nat.le_of_ble_eq_true rfl⟩) 0 10 rfl rfl rfl rfl hl.1 rfl (Nat.le_of_ble_eq_true rfl) ⟨Nat.le_of_ble_eq_true rfl, Nat.le_of_ble_eq_true rfl⟩ dX10_fewestToMend_55 (fun x9 H locs h_20 hP hD hS => ?_)
        obtain ⟨g_21, rfl⟩ : ∃ z, z = x9 := ⟨_, rfl⟩
        have hP : va_P D vwCl [(h_spentNext, .inl (cI, 81, .inl f_spentNext)), (h_a1, .inr (8, [.int v_a1_tones, .int v_a1_a, .int v_a1_b, .int v_a1_c, .int v_a1_d, .int v_a1_odds, .int v_a1_lines, .ref h_a1_signs, .int v_a1_signCount, .ref h_a1_posts, .int v_a1_postCount, .ref h_a1_acts])), (h_a1_signs, .inl (cI, 8, .inl f_a1_signs)), (h_a2, .inr (4, [.ref h_a2_tones, .ref h_a2_lasts, .ref h_a2_answers, .ref h_a2_pip])), (h_a2_answers, .inl (cI, 61, .inl f_a2_answers)), (h_a2_lasts, .inl (cI, 61, .inl f_a2_lasts)), (h0, .inr (10, [.ref h_spent, .ref h_spentNext, .ref h_missing])), (h_spent, .inl (cI, 81, .inl g_21))] H := hP
        have hD : va_D A [(h_spentNext, .inl (cI, 81, .inl f_spentNext)), (h_a1, .inr (8, [.int v_a1_tones, .int v_a1_a, .int v_a1_b, .int v_a1_c, .int v_a1_d, .int v_a1_odds, .int v_a1_lines, .ref h_a1_signs, .int v_a1_signCount, .ref h_a1_posts, .int v_a1_postCount, .ref h_a1_acts])), (h_a1_signs, .inl (cI, 8, .inl f_a1_signs)), (h_a2, .inr (4, [.ref h_a2_tones, .ref h_a2_lasts, .ref h_a2_answers, .ref h_a2_pip])), (h_a2_answers, .inl (cI, 61, .inl f_a2_answers)), (h_a2_lasts, .inl (cI, 61, .inl f_a2_lasts)), (h0, .inr (10, [.ref h_spent, .ref h_spentNext, .ref h_missing])), (h_spent, .inl (cI, 81, .inl g_21))] := hD
        refine lv_sipush (v := 1000) hx hb dX10_fewestToMend_58 (by decide) ?_
        refine lv_istore (lv' := [(8, .int 1000), (7, .int v4), (6, .int r_16), (5, .int r_5), (0, .ref h0), (1, .ref h_a1), (2, .ref h_a2), (3, .int v3), (4, .int v4)]) hx hb dX10_fewestToMend_61 hl (by decide) rfl (fun ls hl => ?_)
        refine lv_iload_n hx hb dX10_fewestToMend_63 rfl (lv_at hl 7 rfl) ?_
        refine lv_iconst (v := 1) hx hb dX10_fewestToMend_64 (by decide) ?_
        obtain ⟨t_22, et_22⟩ : ∃ v9 : Int32, v3 + 1 = v9 := ⟨_, rfl⟩
        refine z_iadd (v := t_22) hx hb dX10_fewestToMend_65 et_22 ?_
        refine lv_istore (lv' := [(9, .int t_22), (8, .int 1000), (7, .int v4), (6, .int r_16), (5, .int r_5), (0, .ref h0), (1, .ref h_a1), (2, .ref h_a2), (3, .int v3), (4, .int v4)]) hx hb dX10_fewestToMend_66 hl (by decide) rfl (fun ls hl => ?_)
        exact b_X10_fewestToMend_l68x h0 h_missing h_a1 v_a1_tones v_a1_a v_a1_b v_a1_c v_a1_d v_a1_odds v_a1_lines h_a1_signs v_a1_signCount h_a1_posts v_a1_postCount h_a1_acts f_a1_signs h_a2 h_a2_tones h_a2_lasts h_a2_answers h_a2_pip f_a2_answers f_a2_lasts (by first | assumption | omega | decide) (by first | assumption | omega | decide) (by first | assumption | omega | decide) C hG hAB hA ret _ (h_spent) (h_spentNext) (g_21) (f_spentNext) (t_22) (1000) _ _ _  (Nat.lt_succ_self _) (hP.sub [6, 7, 0, 1, 2, 3, 4, 5] rfl) (hD.sub [6, 7, 0, 1, 2, 3, 4, 5] (by decide) rfl) hS (lv_sub hl [0, 1, 5, 6, 7] rfl)
  · have c_4 : v_a1_signCount.toInt = 0 := ci_ne_f c_4
    have b_v_a1_signCount := i32b v_a1_signCount
    refine lv_iconst (v := 0) hx hb dX10_fewestToMend_7 (by decide) ?_
    exact ret _ _ _ _ _ (h_spent, h_spentNext, f_spent, f_spentNext) dX10_fewestToMend_8 trivial (hP.sub [0, 1, 2, 3, 4, 5, 6, 7] rfl) (hD.sub [0, 1, 2, 3, 4, 5, 6, 7] (by decide) rfl) hS
