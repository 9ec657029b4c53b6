theorem dX3_leftAtWorst_0 : decode cX3_leftAtWorst 0 = .ok (.iload_n 1, 1) := by decide +kernel
theorem dX3_leftAtWorst_1 : decode cX3_leftAtWorst 1 = .ok (.ifCond .lt 9, 3) := by decide +kernel
theorem dX3_leftAtWorst_10 : decode cX3_leftAtWorst 10 = .ok (.aload_n 0, 1) := by decide +kernel
theorem dX3_leftAtWorst_11 : decode cX3_leftAtWorst 11 = .ok (.getfield 36, 3) := by decide +kernel
theorem dX3_leftAtWorst_14 : decode cX3_leftAtWorst 14 = .ok (.ireturn, 1) := by decide +kernel
theorem dX3_leftAtWorst_15 : decode cX3_leftAtWorst 15 = .ok (.iconst 0, 1) := by decide +kernel
theorem dX3_leftAtWorst_16 : decode cX3_leftAtWorst 16 = .ok (.istore_n 2, 1) := by decide +kernel
theorem dX3_leftAtWorst_17 : decode cX3_leftAtWorst 17 = .ok (.iconst 0, 1) := by decide +kernel
theorem dX3_leftAtWorst_18 : decode cX3_leftAtWorst 18 = .ok (.istore_n 3, 1) := by decide +kernel
theorem dX3_leftAtWorst_19 : decode cX3_leftAtWorst 19 = .ok (.iload_n 3, 1) := by decide +kernel
theorem dX3_leftAtWorst_20 : decode cX3_leftAtWorst 20 = .ok (.bipush 10, 2) := by decide +kernel
theorem dX3_leftAtWorst_22 : decode cX3_leftAtWorst 22 = .ok (.if_icmp .ge 25, 3) := by decide +kernel
theorem dX3_leftAtWorst_25 : decode cX3_leftAtWorst 25 = .ok (.iload_n 2, 1) := by decide +kernel
theorem dX3_leftAtWorst_26 : decode cX3_leftAtWorst 26 = .ok (.aload_n 0, 1) := by decide +kernel
theorem dX3_leftAtWorst_27 : decode cX3_leftAtWorst 27 = .ok (.getfield 25, 3) := by decide +kernel
theorem dX3_leftAtWorst_30 : decode cX3_leftAtWorst 30 = .ok (.iload_n 1, 1) := by decide +kernel
theorem dX3_leftAtWorst_31 : decode cX3_leftAtWorst 31 = .ok (.bipush 10, 2) := by decide +kernel
theorem dX3_leftAtWorst_33 : decode cX3_leftAtWorst 33 = .ok (.imul, 1) := by decide +kernel
theorem dX3_leftAtWorst_34 : decode cX3_leftAtWorst 34 = .ok (.iload_n 3, 1) := by decide +kernel
theorem dX3_leftAtWorst_35 : decode cX3_leftAtWorst 35 = .ok (.iadd, 1) := by decide +kernel
theorem dX3_leftAtWorst_36 : decode cX3_leftAtWorst 36 = .ok (.iaload, 1) := by decide +kernel
theorem dX3_leftAtWorst_37 : decode cX3_leftAtWorst 37 = .ok (.invokestatic 87, 3) := by decide +kernel
theorem dX3_leftAtWorst_4 : decode cX3_leftAtWorst 4 = .ok (.iload_n 1, 1) := by decide +kernel
theorem dX3_leftAtWorst_40 : decode cX3_leftAtWorst 40 = .ok (.istore_n 2, 1) := by decide +kernel
theorem dX3_leftAtWorst_41 : decode cX3_leftAtWorst 41 = .ok (.iinc 3 1, 3) := by decide +kernel
theorem dX3_leftAtWorst_44 : decode cX3_leftAtWorst 44 = .ok (.goto (-25), 3) := by decide +kernel
theorem dX3_leftAtWorst_47 : decode cX3_leftAtWorst 47 = .ok (.iload_n 2, 1) := by decide +kernel
theorem dX3_leftAtWorst_48 : decode cX3_leftAtWorst 48 = .ok (.ireturn, 1) := by decide +kernel
theorem dX3_leftAtWorst_5 : decode cX3_leftAtWorst 5 = .ok (.bipush 61, 2) := by decide +kernel
theorem dX3_leftAtWorst_7 : decode cX3_leftAtWorst 7 = .ok (.if_icmp .lt 8, 3) := by decide +kernel
theorem dX3_stepToAsk_0 : decode cX3_stepToAsk 0 = .ok (.iconst (-1), 1) := by decide +kernel
theorem dX3_stepToAsk_1 : decode cX3_stepToAsk 1 = .ok (.istore_n 1, 1) := by decide +kernel
theorem dX3_stepToAsk_10 : decode cX3_stepToAsk 10 = .ok (.bipush 61, 2) := by decide +kernel
theorem dX3_stepToAsk_12 : decode cX3_stepToAsk 12 = .ok (.if_icmp .ge 27, 3) := by decide +kernel
theorem dX3_stepToAsk_15 : decode cX3_stepToAsk 15 = .ok (.aload_n 0, 1) := by decide +kernel
theorem dX3_stepToAsk_16 : decode cX3_stepToAsk 16 = .ok (.iload_n 3, 1) := by decide +kernel
theorem dX3_stepToAsk_17 : decode cX3_stepToAsk 17 = .ok (.invokevirtual 83, 3) := by decide +kernel
theorem dX3_stepToAsk_2 : decode cX3_stepToAsk 2 = .ok (.aload_n 0, 1) := by decide +kernel
theorem dX3_stepToAsk_20 : decode cX3_stepToAsk 20 = .ok (.istore 4, 2) := by decide +kernel
theorem dX3_stepToAsk_22 : decode cX3_stepToAsk 22 = .ok (.iload 4, 2) := by decide +kernel
theorem dX3_stepToAsk_24 : decode cX3_stepToAsk 24 = .ok (.iload_n 2, 1) := by decide +kernel
theorem dX3_stepToAsk_25 : decode cX3_stepToAsk 25 = .ok (.if_icmp .ge 8, 3) := by decide +kernel
theorem dX3_stepToAsk_28 : decode cX3_stepToAsk 28 = .ok (.iload_n 3, 1) := by decide +kernel
theorem dX3_stepToAsk_29 : decode cX3_stepToAsk 29 = .ok (.istore_n 1, 1) := by decide +kernel
theorem dX3_stepToAsk_3 : decode cX3_stepToAsk 3 = .ok (.getfield 36, 3) := by decide +kernel
theorem dX3_stepToAsk_30 : decode cX3_stepToAsk 30 = .ok (.iload 4, 2) := by decide +kernel
theorem dX3_stepToAsk_32 : decode cX3_stepToAsk 32 = .ok (.istore_n 2, 1) := by decide +kernel
theorem dX3_stepToAsk_33 : decode cX3_stepToAsk 33 = .ok (.iinc 3 1, 3) := by decide +kernel
theorem dX3_stepToAsk_36 : decode cX3_stepToAsk 36 = .ok (.goto (-27), 3) := by decide +kernel
theorem dX3_stepToAsk_39 : decode cX3_stepToAsk 39 = .ok (.iload_n 1, 1) := by decide +kernel
theorem dX3_stepToAsk_40 : decode cX3_stepToAsk 40 = .ok (.ireturn, 1) := by decide +kernel
theorem dX3_stepToAsk_6 : decode cX3_stepToAsk 6 = .ok (.istore_n 2, 1) := by decide +kernel
theorem dX3_stepToAsk_7 : decode cX3_stepToAsk 7 = .ok (.iconst 0, 1) := by decide +kernel
theorem dX3_stepToAsk_8 : decode cX3_stepToAsk 8 = .ok (.istore_n 3, 1) := by decide +kernel
theorem dX3_stepToAsk_9 : decode cX3_stepToAsk 9 = .ok (.iload_n 3, 1) := by decide +kernel
theorem dX4_answerAhead_0 : decode cX4_answerAhead 0 = .ok (.iload_n 1, 1) := by decide +kernel
theorem dX4_answerAhead_1 : decode cX4_answerAhead 1 = .ok (.ifCond .lt 18, 3) := by decide +kernel
theorem dX4_answerAhead_10 : decode cX4_answerAhead 10 = .ok (.aload_n 0, 1) := by decide +kernel
theorem dX4_answerAhead_11 : decode cX4_answerAhead 11 = .ok (.getfield 18, 3) := by decide +kernel
theorem dX4_answerAhead_14 : decode cX4_answerAhead 14 = .ok (.iload_n 1, 1) := by decide +kernel
theorem dX4_answerAhead_15 : decode cX4_answerAhead 15 = .ok (.iaload, 1) := by decide +kernel
theorem dX4_answerAhead_16 : decode cX4_answerAhead 16 = .ok (.goto 4, 3) := by decide +kernel
theorem dX4_answerAhead_19 : decode cX4_answerAhead 19 = .ok (.iconst 0, 1) := by decide +kernel
theorem dX4_answerAhead_20 : decode cX4_answerAhead 20 = .ok (.ireturn, 1) := by decide +kernel
theorem dX4_answerAhead_4 : decode cX4_answerAhead 4 = .ok (.iload_n 1, 1) := by decide +kernel
theorem dX4_answerAhead_5 : decode cX4_answerAhead 5 = .ok (.bipush 61, 2) := by decide +kernel
theorem dX4_answerAhead_7 : decode cX4_answerAhead 7 = .ok (.if_icmp .ge 12, 3) := by decide +kernel
theorem dX4_firstStepOf_0 : decode cX4_firstStepOf 0 = .ok (.iconst 0, 1) := by decide +kernel
theorem dX4_firstStepOf_1 : decode cX4_firstStepOf 1 = .ok (.istore_n 2, 1) := by decide +kernel
theorem dX4_firstStepOf_12 : decode cX4_firstStepOf 12 = .ok (.iload_n 2, 1) := by decide +kernel
theorem dX4_firstStepOf_13 : decode cX4_firstStepOf 13 = .ok (.iaload, 1) := by decide +kernel
theorem dX4_firstStepOf_14 : decode cX4_firstStepOf 14 = .ok (.iload_n 1, 1) := by decide +kernel
theorem dX4_firstStepOf_15 : decode cX4_firstStepOf 15 = .ok (.if_icmp .ne 5, 3) := by decide +kernel
theorem dX4_firstStepOf_18 : decode cX4_firstStepOf 18 = .ok (.iload_n 2, 1) := by decide +kernel
theorem dX4_firstStepOf_19 : decode cX4_firstStepOf 19 = .ok (.ireturn, 1) := by decide +kernel
theorem dX4_firstStepOf_2 : decode cX4_firstStepOf 2 = .ok (.iload_n 2, 1) := by decide +kernel
theorem dX4_firstStepOf_20 : decode cX4_firstStepOf 20 = .ok (.iinc 2 1, 3) := by decide +kernel
theorem dX4_firstStepOf_23 : decode cX4_firstStepOf 23 = .ok (.goto (-21), 3) := by decide +kernel
theorem dX4_firstStepOf_26 : decode cX4_firstStepOf 26 = .ok (.iconst (-1), 1) := by decide +kernel
theorem dX4_firstStepOf_27 : decode cX4_firstStepOf 27 = .ok (.ireturn, 1) := by decide +kernel
theorem dX4_firstStepOf_3 : decode cX4_firstStepOf 3 = .ok (.bipush 61, 2) := by decide +kernel
theorem dX4_firstStepOf_5 : decode cX4_firstStepOf 5 = .ok (.if_icmp .ge 21, 3) := by decide +kernel
theorem dX4_firstStepOf_8 : decode cX4_firstStepOf 8 = .ok (.aload_n 0, 1) := by decide +kernel
theorem dX4_firstStepOf_9 : decode cX4_firstStepOf 9 = .ok (.getfield 9, 3) := by decide +kernel
theorem dX4_greatestLeap_0 : decode cX4_greatestLeap 0 = .ok (.iconst 0, 1) := by decide +kernel
theorem dX4_greatestLeap_1 : decode cX4_greatestLeap 1 = .ok (.istore_n 1, 1) := by decide +kernel
theorem dX4_greatestLeap_10 : decode cX4_greatestLeap 10 = .ok (.iload_n 1, 1) := by decide +kernel
theorem dX4_greatestLeap_11 : decode cX4_greatestLeap 11 = .ok (.aload_n 0, 1) := by decide +kernel
theorem dX4_greatestLeap_12 : decode cX4_greatestLeap 12 = .ok (.getfield 9, 3) := by decide +kernel
theorem dX4_greatestLeap_15 : decode cX4_greatestLeap 15 = .ok (.iload_n 2, 1) := by decide +kernel
theorem dX4_greatestLeap_16 : decode cX4_greatestLeap 16 = .ok (.iaload, 1) := by decide +kernel
theorem dX4_greatestLeap_17 : decode cX4_greatestLeap 17 = .ok (.aload_n 0, 1) := by decide +kernel
theorem dX4_greatestLeap_18 : decode cX4_greatestLeap 18 = .ok (.getfield 9, 3) := by decide +kernel
theorem dX4_greatestLeap_2 : decode cX4_greatestLeap 2 = .ok (.iconst 1, 1) := by decide +kernel
theorem dX4_greatestLeap_21 : decode cX4_greatestLeap 21 = .ok (.iload_n 2, 1) := by decide +kernel
theorem dX4_greatestLeap_22 : decode cX4_greatestLeap 22 = .ok (.iconst 1, 1) := by decide +kernel
theorem dX4_greatestLeap_23 : decode cX4_greatestLeap 23 = .ok (.isub, 1) := by decide +kernel
theorem dX4_greatestLeap_24 : decode cX4_greatestLeap 24 = .ok (.iaload, 1) := by decide +kernel
theorem dX4_greatestLeap_25 : decode cX4_greatestLeap 25 = .ok (.isub, 1) := by decide +kernel
theorem dX4_greatestLeap_26 : decode cX4_greatestLeap 26 = .ok (.invokestatic 41, 3) := by decide +kernel
theorem dX4_greatestLeap_29 : decode cX4_greatestLeap 29 = .ok (.invokestatic 35, 3) := by decide +kernel
theorem dX4_greatestLeap_3 : decode cX4_greatestLeap 3 = .ok (.istore_n 2, 1) := by decide +kernel
theorem dX4_greatestLeap_32 : decode cX4_greatestLeap 32 = .ok (.istore_n 1, 1) := by decide +kernel
theorem dX4_greatestLeap_33 : decode cX4_greatestLeap 33 = .ok (.iinc 2 1, 3) := by decide +kernel
theorem dX4_greatestLeap_36 : decode cX4_greatestLeap 36 = .ok (.goto (-32), 3) := by decide +kernel
theorem dX4_greatestLeap_39 : decode cX4_greatestLeap 39 = .ok (.iload_n 1, 1) := by decide +kernel
theorem dX4_greatestLeap_4 : decode cX4_greatestLeap 4 = .ok (.iload_n 2, 1) := by decide +kernel
theorem dX4_greatestLeap_40 : decode cX4_greatestLeap 40 = .ok (.ireturn, 1) := by decide +kernel
theorem dX4_greatestLeap_5 : decode cX4_greatestLeap 5 = .ok (.bipush 61, 2) := by decide +kernel
theorem dX4_greatestLeap_7 : decode cX4_greatestLeap 7 = .ok (.if_icmp .ge 32, 3) := by decide +kernel
theorem dX4_isPip_0 : decode cX4_isPip 0 = .ok (.iload_n 1, 1) := by decide +kernel
theorem dX4_isPip_1 : decode cX4_isPip 1 = .ok (.ifCond .lt 22, 3) := by decide +kernel
theorem dX4_isPip_10 : decode cX4_isPip 10 = .ok (.aload_n 0, 1) := by decide +kernel
theorem dX4_isPip_11 : decode cX4_isPip 11 = .ok (.getfield 21, 3) := by decide +kernel
theorem dX4_isPip_14 : decode cX4_isPip 14 = .ok (.iload_n 1, 1) := by decide +kernel
theorem dX4_isPip_15 : decode cX4_isPip 15 = .ok (.baload, 1) := by decide +kernel
theorem dX4_isPip_16 : decode cX4_isPip 16 = .ok (.ifCond .eq 7, 3) := by decide +kernel
theorem dX4_isPip_19 : decode cX4_isPip 19 = .ok (.iconst 1, 1) := by decide +kernel
theorem dX4_isPip_20 : decode cX4_isPip 20 = .ok (.goto 4, 3) := by decide +kernel
theorem dX4_isPip_23 : decode cX4_isPip 23 = .ok (.iconst 0, 1) := by decide +kernel
theorem dX4_isPip_24 : decode cX4_isPip 24 = .ok (.ireturn, 1) := by decide +kernel
theorem dX4_isPip_4 : decode cX4_isPip 4 = .ok (.iload_n 1, 1) := by decide +kernel
theorem dX4_isPip_5 : decode cX4_isPip 5 = .ok (.bipush 61, 2) := by decide +kernel
theorem dX4_isPip_7 : decode cX4_isPip 7 = .ok (.if_icmp .ge 16, 3) := by decide +kernel
theorem dX4_lastAhead_0 : decode cX4_lastAhead 0 = .ok (.iload_n 1, 1) := by decide +kernel
theorem dX4_lastAhead_1 : decode cX4_lastAhead 1 = .ok (.ifCond .lt 18, 3) := by decide +kernel
theorem dX4_lastAhead_10 : decode cX4_lastAhead 10 = .ok (.aload_n 0, 1) := by decide +kernel
theorem dX4_lastAhead_11 : decode cX4_lastAhead 11 = .ok (.getfield 15, 3) := by decide +kernel
theorem dX4_lastAhead_14 : decode cX4_lastAhead 14 = .ok (.iload_n 1, 1) := by decide +kernel
theorem dX4_lastAhead_15 : decode cX4_lastAhead 15 = .ok (.iaload, 1) := by decide +kernel
theorem dX4_lastAhead_16 : decode cX4_lastAhead 16 = .ok (.goto 4, 3) := by decide +kernel
theorem dX4_lastAhead_19 : decode cX4_lastAhead 19 = .ok (.iconst 0, 1) := by decide +kernel
theorem dX4_lastAhead_20 : decode cX4_lastAhead 20 = .ok (.ireturn, 1) := by decide +kernel
theorem dX4_lastAhead_4 : decode cX4_lastAhead 4 = .ok (.iload_n 1, 1) := by decide +kernel
theorem dX4_lastAhead_5 : decode cX4_lastAhead 5 = .ok (.bipush 61, 2) := by decide +kernel
theorem dX4_lastAhead_7 : decode cX4_lastAhead 7 = .ok (.if_icmp .ge 12, 3) := by decide +kernel
theorem dX4_lastStepAlike_0 : decode cX4_lastStepAlike 0 = .ok (.aload_n 0, 1) := by decide +kernel
theorem dX4_lastStepAlike_1 : decode cX4_lastStepAlike 1 = .ok (.iload_n 1, 1) := by decide +kernel
theorem dX4_lastStepAlike_11 : decode cX4_lastStepAlike 11 = .ok (.iconst (-1), 1) := by decide +kernel
theorem dX4_lastStepAlike_12 : decode cX4_lastStepAlike 12 = .ok (.ireturn, 1) := by decide +kernel
theorem dX4_lastStepAlike_13 : decode cX4_lastStepAlike 13 = .ok (.iload_n 1, 1) := by decide +kernel
theorem dX4_lastStepAlike_14 : decode cX4_lastStepAlike 14 = .ok (.iconst 1, 1) := by decide +kernel
theorem dX4_lastStepAlike_15 : decode cX4_lastStepAlike 15 = .ok (.isub, 1) := by decide +kernel
theorem dX4_lastStepAlike_16 : decode cX4_lastStepAlike 16 = .ok (.istore_n 3, 1) := by decide +kernel
theorem dX4_lastStepAlike_17 : decode cX4_lastStepAlike 17 = .ok (.iload_n 3, 1) := by decide +kernel
theorem dX4_lastStepAlike_18 : decode cX4_lastStepAlike 18 = .ok (.ifCond .lt 20, 3) := by decide +kernel
theorem dX4_lastStepAlike_2 : decode cX4_lastStepAlike 2 = .ok (.invokevirtual 45, 3) := by decide +kernel
theorem dX4_lastStepAlike_21 : decode cX4_lastStepAlike 21 = .ok (.aload_n 0, 1) := by decide +kernel
theorem dX4_lastStepAlike_22 : decode cX4_lastStepAlike 22 = .ok (.iload_n 3, 1) := by decide +kernel
theorem dX4_lastStepAlike_23 : decode cX4_lastStepAlike 23 = .ok (.invokevirtual 45, 3) := by decide +kernel
theorem dX4_lastStepAlike_26 : decode cX4_lastStepAlike 26 = .ok (.iload_n 2, 1) := by decide +kernel
theorem dX4_lastStepAlike_27 : decode cX4_lastStepAlike 27 = .ok (.if_icmp .ne 5, 3) := by decide +kernel
theorem dX4_lastStepAlike_30 : decode cX4_lastStepAlike 30 = .ok (.iload_n 3, 1) := by decide +kernel
theorem dX4_lastStepAlike_31 : decode cX4_lastStepAlike 31 = .ok (.ireturn, 1) := by decide +kernel
theorem dX4_lastStepAlike_32 : decode cX4_lastStepAlike 32 = .ok (.iinc 3 (-1), 3) := by decide +kernel
theorem dX4_lastStepAlike_35 : decode cX4_lastStepAlike 35 = .ok (.goto (-18), 3) := by decide +kernel
theorem dX4_lastStepAlike_38 : decode cX4_lastStepAlike 38 = .ok (.iconst (-1), 1) := by decide +kernel
theorem dX4_lastStepAlike_39 : decode cX4_lastStepAlike 39 = .ok (.ireturn, 1) := by decide +kernel
theorem dX4_lastStepAlike_5 : decode cX4_lastStepAlike 5 = .ok (.istore_n 2, 1) := by decide +kernel
theorem dX4_lastStepAlike_6 : decode cX4_lastStepAlike 6 = .ok (.iload_n 2, 1) := by decide +kernel
theorem dX4_lastStepAlike_7 : decode cX4_lastStepAlike 7 = .ok (.iconst (-1), 1) := by decide +kernel
theorem dX4_lastStepAlike_8 : decode cX4_lastStepAlike 8 = .ok (.if_icmp .ne 5, 3) := by decide +kernel
theorem dX4_longestHeld_0 : decode cX4_longestHeld 0 = .ok (.iconst 0, 1) := by decide +kernel
theorem dX4_longestHeld_1 : decode cX4_longestHeld 1 = .ok (.istore_n 1, 1) := by decide +kernel
theorem dX4_longestHeld_12 : decode cX4_longestHeld 12 = .ok (.aload_n 0, 1) := by decide +kernel
theorem dX4_longestHeld_13 : decode cX4_longestHeld 13 = .ok (.getfield 9, 3) := by decide +kernel
theorem dX4_longestHeld_16 : decode cX4_longestHeld 16 = .ok (.iload_n 3, 1) := by decide +kernel
theorem dX4_longestHeld_17 : decode cX4_longestHeld 17 = .ok (.iaload, 1) := by decide +kernel
theorem dX4_longestHeld_18 : decode cX4_longestHeld 18 = .ok (.iconst (-1), 1) := by decide +kernel
theorem dX4_longestHeld_19 : decode cX4_longestHeld 19 = .ok (.if_icmp .ne 8, 3) := by decide +kernel
theorem dX4_longestHeld_2 : decode cX4_longestHeld 2 = .ok (.iconst 0, 1) := by decide +kernel
theorem dX4_longestHeld_22 : decode cX4_longestHeld 22 = .ok (.iconst 0, 1) := by decide +kernel
theorem dX4_longestHeld_23 : decode cX4_longestHeld 23 = .ok (.istore_n 2, 1) := by decide +kernel
theorem dX4_longestHeld_24 : decode cX4_longestHeld 24 = .ok (.goto 32, 3) := by decide +kernel
theorem dX4_longestHeld_27 : decode cX4_longestHeld 27 = .ok (.iload_n 3, 1) := by decide +kernel
theorem dX4_longestHeld_28 : decode cX4_longestHeld 28 = .ok (.ifCond .le 26, 3) := by decide +kernel
theorem dX4_longestHeld_3 : decode cX4_longestHeld 3 = .ok (.istore_n 2, 1) := by decide +kernel
theorem dX4_longestHeld_31 : decode cX4_longestHeld 31 = .ok (.aload_n 0, 1) := by decide +kernel
theorem dX4_longestHeld_32 : decode cX4_longestHeld 32 = .ok (.getfield 9, 3) := by decide +kernel
theorem dX4_longestHeld_35 : decode cX4_longestHeld 35 = .ok (.iload_n 3, 1) := by decide +kernel
theorem dX4_longestHeld_36 : decode cX4_longestHeld 36 = .ok (.iaload, 1) := by decide +kernel
theorem dX4_longestHeld_37 : decode cX4_longestHeld 37 = .ok (.aload_n 0, 1) := by decide +kernel
theorem dX4_longestHeld_38 : decode cX4_longestHeld 38 = .ok (.getfield 9, 3) := by decide +kernel
theorem dX4_longestHeld_4 : decode cX4_longestHeld 4 = .ok (.iconst 0, 1) := by decide +kernel
theorem dX4_longestHeld_41 : decode cX4_longestHeld 41 = .ok (.iload_n 3, 1) := by decide +kernel
theorem dX4_longestHeld_42 : decode cX4_longestHeld 42 = .ok (.iconst 1, 1) := by decide +kernel
theorem dX4_longestHeld_43 : decode cX4_longestHeld 43 = .ok (.isub, 1) := by decide +kernel
theorem dX4_longestHeld_44 : decode cX4_longestHeld 44 = .ok (.iaload, 1) := by decide +kernel
theorem dX4_longestHeld_45 : decode cX4_longestHeld 45 = .ok (.if_icmp .ne 9, 3) := by decide +kernel
theorem dX4_longestHeld_48 : decode cX4_longestHeld 48 = .ok (.iinc 2 1, 3) := by decide +kernel
theorem dX4_longestHeld_5 : decode cX4_longestHeld 5 = .ok (.istore_n 3, 1) := by decide +kernel
theorem dX4_longestHeld_51 : decode cX4_longestHeld 51 = .ok (.goto 5, 3) := by decide +kernel
theorem dX4_longestHeld_54 : decode cX4_longestHeld 54 = .ok (.iconst 1, 1) := by decide +kernel
theorem dX4_longestHeld_55 : decode cX4_longestHeld 55 = .ok (.istore_n 2, 1) := by decide +kernel
theorem dX4_longestHeld_56 : decode cX4_longestHeld 56 = .ok (.iload_n 1, 1) := by decide +kernel
theorem dX4_longestHeld_57 : decode cX4_longestHeld 57 = .ok (.iload_n 2, 1) := by decide +kernel
theorem dX4_longestHeld_58 : decode cX4_longestHeld 58 = .ok (.invokestatic 35, 3) := by decide +kernel
theorem dX4_longestHeld_6 : decode cX4_longestHeld 6 = .ok (.iload_n 3, 1) := by decide +kernel
theorem dX4_longestHeld_61 : decode cX4_longestHeld 61 = .ok (.istore_n 1, 1) := by decide +kernel
theorem dX4_longestHeld_62 : decode cX4_longestHeld 62 = .ok (.iinc 3 1, 3) := by decide +kernel
theorem dX4_longestHeld_65 : decode cX4_longestHeld 65 = .ok (.goto (-59), 3) := by decide +kernel
theorem dX4_longestHeld_68 : decode cX4_longestHeld 68 = .ok (.iload_n 1, 1) := by decide +kernel
theorem dX4_longestHeld_69 : decode cX4_longestHeld 69 = .ok (.ireturn, 1) := by decide +kernel
theorem dX4_longestHeld_7 : decode cX4_longestHeld 7 = .ok (.bipush 61, 2) := by decide +kernel
theorem dX4_longestHeld_9 : decode cX4_longestHeld 9 = .ok (.if_icmp .ge 59, 3) := by decide +kernel
theorem dX4_longestWithoutPip_0 : decode cX4_longestWithoutPip 0 = .ok (.iconst 0, 1) := by decide +kernel
theorem dX4_longestWithoutPip_1 : decode cX4_longestWithoutPip 1 = .ok (.istore_n 1, 1) := by decide +kernel
theorem dX4_longestWithoutPip_12 : decode cX4_longestWithoutPip 12 = .ok (.aload_n 0, 1) := by decide +kernel
theorem dX4_longestWithoutPip_13 : decode cX4_longestWithoutPip 13 = .ok (.getfield 21, 3) := by decide +kernel
theorem dX4_longestWithoutPip_16 : decode cX4_longestWithoutPip 16 = .ok (.iload_n 3, 1) := by decide +kernel
theorem dX4_longestWithoutPip_17 : decode cX4_longestWithoutPip 17 = .ok (.baload, 1) := by decide +kernel
theorem dX4_longestWithoutPip_18 : decode cX4_longestWithoutPip 18 = .ok (.ifCond .eq 7, 3) := by decide +kernel
theorem dX4_longestWithoutPip_2 : decode cX4_longestWithoutPip 2 = .ok (.iconst 0, 1) := by decide +kernel
theorem dX4_longestWithoutPip_21 : decode cX4_longestWithoutPip 21 = .ok (.iconst 0, 1) := by decide +kernel
theorem dX4_longestWithoutPip_22 : decode cX4_longestWithoutPip 22 = .ok (.goto 6, 3) := by decide +kernel
theorem dX4_longestWithoutPip_25 : decode cX4_longestWithoutPip 25 = .ok (.iload_n 2, 1) := by decide +kernel
theorem dX4_longestWithoutPip_26 : decode cX4_longestWithoutPip 26 = .ok (.iconst 1, 1) := by decide +kernel
theorem dX4_longestWithoutPip_27 : decode cX4_longestWithoutPip 27 = .ok (.iadd, 1) := by decide +kernel
theorem dX4_longestWithoutPip_28 : decode cX4_longestWithoutPip 28 = .ok (.istore_n 2, 1) := by decide +kernel
theorem dX4_longestWithoutPip_29 : decode cX4_longestWithoutPip 29 = .ok (.iload_n 1, 1) := by decide +kernel
theorem dX4_longestWithoutPip_3 : decode cX4_longestWithoutPip 3 = .ok (.istore_n 2, 1) := by decide +kernel
theorem dX4_longestWithoutPip_30 : decode cX4_longestWithoutPip 30 = .ok (.iload_n 2, 1) := by decide +kernel
theorem dX4_longestWithoutPip_31 : decode cX4_longestWithoutPip 31 = .ok (.invokestatic 35, 3) := by decide +kernel
theorem dX4_longestWithoutPip_34 : decode cX4_longestWithoutPip 34 = .ok (.istore_n 1, 1) := by decide +kernel
theorem dX4_longestWithoutPip_35 : decode cX4_longestWithoutPip 35 = .ok (.iinc 3 1, 3) := by decide +kernel
theorem dX4_longestWithoutPip_38 : decode cX4_longestWithoutPip 38 = .ok (.goto (-32), 3) := by decide +kernel
theorem dX4_longestWithoutPip_4 : decode cX4_longestWithoutPip 4 = .ok (.iconst 0, 1) := by decide +kernel
theorem dX4_longestWithoutPip_41 : decode cX4_longestWithoutPip 41 = .ok (.iload_n 1, 1) := by decide +kernel
theorem dX4_longestWithoutPip_42 : decode cX4_longestWithoutPip 42 = .ok (.ireturn, 1) := by decide +kernel
theorem dX4_longestWithoutPip_5 : decode cX4_longestWithoutPip 5 = .ok (.istore_n 3, 1) := by decide +kernel
theorem dX4_longestWithoutPip_6 : decode cX4_longestWithoutPip 6 = .ok (.iload_n 3, 1) := by decide +kernel
theorem dX4_longestWithoutPip_7 : decode cX4_longestWithoutPip 7 = .ok (.bipush 61, 2) := by decide +kernel
theorem dX4_longestWithoutPip_9 : decode cX4_longestWithoutPip 9 = .ok (.if_icmp .ge 32, 3) := by decide +kernel
theorem dX4_pairsThatMove_0 : decode cX4_pairsThatMove 0 = .ok (.iconst 0, 1) := by decide +kernel
theorem dX4_pairsThatMove_1 : decode cX4_pairsThatMove 1 = .ok (.istore_n 2, 1) := by decide +kernel
theorem dX4_pairsThatMove_10 : decode cX4_pairsThatMove 10 = .ok (.aload_n 0, 1) := by decide +kernel
theorem dX4_pairsThatMove_11 : decode cX4_pairsThatMove 11 = .ok (.getfield 9, 3) := by decide +kernel
theorem dX4_pairsThatMove_14 : decode cX4_pairsThatMove 14 = .ok (.iload_n 3, 1) := by decide +kernel
theorem dX4_pairsThatMove_15 : decode cX4_pairsThatMove 15 = .ok (.iaload, 1) := by decide +kernel
theorem dX4_pairsThatMove_16 : decode cX4_pairsThatMove 16 = .ok (.aload_n 0, 1) := by decide +kernel
theorem dX4_pairsThatMove_17 : decode cX4_pairsThatMove 17 = .ok (.getfield 9, 3) := by decide +kernel
theorem dX4_pairsThatMove_2 : decode cX4_pairsThatMove 2 = .ok (.iconst 1, 1) := by decide +kernel
theorem dX4_pairsThatMove_20 : decode cX4_pairsThatMove 20 = .ok (.iload_n 3, 1) := by decide +kernel
theorem dX4_pairsThatMove_21 : decode cX4_pairsThatMove 21 = .ok (.iconst 1, 1) := by decide +kernel
theorem dX4_pairsThatMove_22 : decode cX4_pairsThatMove 22 = .ok (.isub, 1) := by decide +kernel
theorem dX4_pairsThatMove_23 : decode cX4_pairsThatMove 23 = .ok (.iaload, 1) := by decide +kernel
theorem dX4_pairsThatMove_24 : decode cX4_pairsThatMove 24 = .ok (.isub, 1) := by decide +kernel
theorem dX4_pairsThatMove_25 : decode cX4_pairsThatMove 25 = .ok (.iload_n 1, 1) := by decide +kernel
theorem dX4_pairsThatMove_26 : decode cX4_pairsThatMove 26 = .ok (.imul, 1) := by decide +kernel
theorem dX4_pairsThatMove_27 : decode cX4_pairsThatMove 27 = .ok (.ifCond .le 6, 3) := by decide +kernel
theorem dX4_pairsThatMove_3 : decode cX4_pairsThatMove 3 = .ok (.istore_n 3, 1) := by decide +kernel
theorem dX4_pairsThatMove_30 : decode cX4_pairsThatMove 30 = .ok (.iinc 2 1, 3) := by decide +kernel
theorem dX4_pairsThatMove_33 : decode cX4_pairsThatMove 33 = .ok (.iinc 3 1, 3) := by decide +kernel
theorem dX4_pairsThatMove_36 : decode cX4_pairsThatMove 36 = .ok (.goto (-32), 3) := by decide +kernel
theorem dX4_pairsThatMove_39 : decode cX4_pairsThatMove 39 = .ok (.iload_n 2, 1) := by decide +kernel
theorem dX4_pairsThatMove_4 : decode cX4_pairsThatMove 4 = .ok (.iload_n 3, 1) := by decide +kernel
theorem dX4_pairsThatMove_40 : decode cX4_pairsThatMove 40 = .ok (.ireturn, 1) := by decide +kernel
theorem dX4_pairsThatMove_5 : decode cX4_pairsThatMove 5 = .ok (.bipush 61, 2) := by decide +kernel
theorem dX4_pairsThatMove_7 : decode cX4_pairsThatMove 7 = .ok (.if_icmp .ge 32, 3) := by decide +kernel
theorem dX4_stepOfPip_0 : decode cX4_stepOfPip 0 = .ok (.iconst 0, 1) := by decide +kernel
theorem dX4_stepOfPip_1 : decode cX4_stepOfPip 1 = .ok (.istore_n 2, 1) := by decide +kernel
theorem dX4_stepOfPip_10 : decode cX4_stepOfPip 10 = .ok (.aload_n 0, 1) := by decide +kernel
theorem dX4_stepOfPip_11 : decode cX4_stepOfPip 11 = .ok (.getfield 21, 3) := by decide +kernel
theorem dX4_stepOfPip_14 : decode cX4_stepOfPip 14 = .ok (.iload_n 3, 1) := by decide +kernel
theorem dX4_stepOfPip_15 : decode cX4_stepOfPip 15 = .ok (.baload, 1) := by decide +kernel
theorem dX4_stepOfPip_16 : decode cX4_stepOfPip 16 = .ok (.ifCond .eq 13, 3) := by decide +kernel
theorem dX4_stepOfPip_19 : decode cX4_stepOfPip 19 = .ok (.iload_n 2, 1) := by decide +kernel
theorem dX4_stepOfPip_2 : decode cX4_stepOfPip 2 = .ok (.iconst 0, 1) := by decide +kernel
theorem dX4_stepOfPip_20 : decode cX4_stepOfPip 20 = .ok (.iload_n 1, 1) := by decide +kernel
theorem dX4_stepOfPip_21 : decode cX4_stepOfPip 21 = .ok (.if_icmp .ne 5, 3) := by decide +kernel
theorem dX4_stepOfPip_24 : decode cX4_stepOfPip 24 = .ok (.iload_n 3, 1) := by decide +kernel
theorem dX4_stepOfPip_25 : decode cX4_stepOfPip 25 = .ok (.ireturn, 1) := by decide +kernel
theorem dX4_stepOfPip_26 : decode cX4_stepOfPip 26 = .ok (.iinc 2 1, 3) := by decide +kernel
theorem dX4_stepOfPip_29 : decode cX4_stepOfPip 29 = .ok (.iinc 3 1, 3) := by decide +kernel
theorem dX4_stepOfPip_3 : decode cX4_stepOfPip 3 = .ok (.istore_n 3, 1) := by decide +kernel
theorem dX4_stepOfPip_32 : decode cX4_stepOfPip 32 = .ok (.goto (-28), 3) := by decide +kernel
theorem dX4_stepOfPip_35 : decode cX4_stepOfPip 35 = .ok (.iconst (-1), 1) := by decide +kernel
theorem dX4_stepOfPip_36 : decode cX4_stepOfPip 36 = .ok (.ireturn, 1) := by decide +kernel
theorem dX4_stepOfPip_4 : decode cX4_stepOfPip 4 = .ok (.iload_n 3, 1) := by decide +kernel
theorem dX4_stepOfPip_5 : decode cX4_stepOfPip 5 = .ok (.bipush 61, 2) := by decide +kernel
theorem dX4_stepOfPip_7 : decode cX4_stepOfPip 7 = .ok (.if_icmp .ge 28, 3) := by decide +kernel
theorem dX4_timesHeard_0 : decode cX4_timesHeard 0 = .ok (.iconst 0, 1) := by decide +kernel
theorem dX4_timesHeard_1 : decode cX4_timesHeard 1 = .ok (.istore_n 3, 1) := by decide +kernel
theorem dX4_timesHeard_11 : decode cX4_timesHeard 11 = .ok (.iload 4, 2) := by decide +kernel
theorem dX4_timesHeard_13 : decode cX4_timesHeard 13 = .ok (.bipush 61, 2) := by decide +kernel
theorem dX4_timesHeard_15 : decode cX4_timesHeard 15 = .ok (.if_icmp .ge 23, 3) := by decide +kernel
theorem dX4_timesHeard_18 : decode cX4_timesHeard 18 = .ok (.aload_n 0, 1) := by decide +kernel
theorem dX4_timesHeard_19 : decode cX4_timesHeard 19 = .ok (.getfield 9, 3) := by decide +kernel
theorem dX4_timesHeard_2 : decode cX4_timesHeard 2 = .ok (.iconst 0, 1) := by decide +kernel
theorem dX4_timesHeard_22 : decode cX4_timesHeard 22 = .ok (.iload 4, 2) := by decide +kernel
theorem dX4_timesHeard_24 : decode cX4_timesHeard 24 = .ok (.iaload, 1) := by decide +kernel
theorem dX4_timesHeard_25 : decode cX4_timesHeard 25 = .ok (.iload_n 1, 1) := by decide +kernel
theorem dX4_timesHeard_26 : decode cX4_timesHeard 26 = .ok (.if_icmp .ne 6, 3) := by decide +kernel
theorem dX4_timesHeard_29 : decode cX4_timesHeard 29 = .ok (.iinc 3 1, 3) := by decide +kernel
theorem dX4_timesHeard_3 : decode cX4_timesHeard 3 = .ok (.istore 4, 2) := by decide +kernel
theorem dX4_timesHeard_32 : decode cX4_timesHeard 32 = .ok (.iinc 4 1, 3) := by decide +kernel
theorem dX4_timesHeard_35 : decode cX4_timesHeard 35 = .ok (.goto (-30), 3) := by decide +kernel
theorem dX4_timesHeard_38 : decode cX4_timesHeard 38 = .ok (.iload_n 3, 1) := by decide +kernel
theorem dX4_timesHeard_39 : decode cX4_timesHeard 39 = .ok (.ireturn, 1) := by decide +kernel
theorem dX4_timesHeard_5 : decode cX4_timesHeard 5 = .ok (.iload 4, 2) := by decide +kernel
theorem dX4_timesHeard_7 : decode cX4_timesHeard 7 = .ok (.iload_n 2, 1) := by decide +kernel
theorem dX4_timesHeard_8 : decode cX4_timesHeard 8 = .ok (.if_icmp .gt 30, 3) := by decide +kernel
theorem dX4_tonesTo_0 : decode cX4_tonesTo 0 = .ok (.iconst 0, 1) := by decide +kernel
theorem dX4_tonesTo_1 : decode cX4_tonesTo 1 = .ok (.istore_n 2, 1) := by decide +kernel
theorem dX4_tonesTo_10 : decode cX4_tonesTo 10 = .ok (.bipush 61, 2) := by decide +kernel
theorem dX4_tonesTo_12 : decode cX4_tonesTo 12 = .ok (.if_icmp .ge 30, 3) := by decide +kernel
theorem dX4_tonesTo_15 : decode cX4_tonesTo 15 = .ok (.aload_n 0, 1) := by decide +kernel
theorem dX4_tonesTo_16 : decode cX4_tonesTo 16 = .ok (.getfield 9, 3) := by decide +kernel
theorem dX4_tonesTo_19 : decode cX4_tonesTo 19 = .ok (.iload_n 3, 1) := by decide +kernel
theorem dX4_tonesTo_2 : decode cX4_tonesTo 2 = .ok (.iconst 0, 1) := by decide +kernel
theorem dX4_tonesTo_20 : decode cX4_tonesTo 20 = .ok (.iaload, 1) := by decide +kernel
theorem dX4_tonesTo_21 : decode cX4_tonesTo 21 = .ok (.iconst (-1), 1) := by decide +kernel
theorem dX4_tonesTo_22 : decode cX4_tonesTo 22 = .ok (.if_icmp .eq 14, 3) := by decide +kernel
theorem dX4_tonesTo_25 : decode cX4_tonesTo 25 = .ok (.iload_n 2, 1) := by decide +kernel
theorem dX4_tonesTo_26 : decode cX4_tonesTo 26 = .ok (.iconst 1, 1) := by decide +kernel
theorem dX4_tonesTo_27 : decode cX4_tonesTo 27 = .ok (.aload_n 0, 1) := by decide +kernel
theorem dX4_tonesTo_28 : decode cX4_tonesTo 28 = .ok (.getfield 9, 3) := by decide +kernel
theorem dX4_tonesTo_3 : decode cX4_tonesTo 3 = .ok (.istore_n 3, 1) := by decide +kernel
theorem dX4_tonesTo_31 : decode cX4_tonesTo 31 = .ok (.iload_n 3, 1) := by decide +kernel
theorem dX4_tonesTo_32 : decode cX4_tonesTo 32 = .ok (.iaload, 1) := by decide +kernel
theorem dX4_tonesTo_33 : decode cX4_tonesTo 33 = .ok (.ishl, 1) := by decide +kernel
theorem dX4_tonesTo_34 : decode cX4_tonesTo 34 = .ok (.ior, 1) := by decide +kernel
theorem dX4_tonesTo_35 : decode cX4_tonesTo 35 = .ok (.istore_n 2, 1) := by decide +kernel
theorem dX4_tonesTo_36 : decode cX4_tonesTo 36 = .ok (.iinc 3 1, 3) := by decide +kernel
theorem dX4_tonesTo_39 : decode cX4_tonesTo 39 = .ok (.goto (-35), 3) := by decide +kernel
theorem dX4_tonesTo_4 : decode cX4_tonesTo 4 = .ok (.iload_n 3, 1) := by decide +kernel
theorem dX4_tonesTo_42 : decode cX4_tonesTo 42 = .ok (.iload_n 2, 1) := by decide +kernel
theorem dX4_tonesTo_43 : decode cX4_tonesTo 43 = .ok (.ireturn, 1) := by decide +kernel
theorem dX4_tonesTo_5 : decode cX4_tonesTo 5 = .ok (.iload_n 1, 1) := by decide +kernel
theorem dX4_tonesTo_6 : decode cX4_tonesTo 6 = .ok (.if_icmp .gt 36, 3) := by decide +kernel
theorem dX4_tonesTo_9 : decode cX4_tonesTo 9 = .ok (.iload_n 3, 1) := by decide +kernel
theorem dX5_countMinute_0 : decode cX5_countMinute 0 = .ok (.iload_n 1, 1) := by decide +kernel
theorem dX5_countMinute_1 : decode cX5_countMinute 1 = .ok (.ifCond .lt 10, 3) := by decide +kernel
theorem dX5_countMinute_11 : decode cX5_countMinute 11 = .ok (.iconst 0, 1) := by decide +kernel
theorem dX5_countMinute_12 : decode cX5_countMinute 12 = .ok (.ireturn, 1) := by decide +kernel
theorem dX5_countMinute_13 : decode cX5_countMinute 13 = .ok (.aload_n 0, 1) := by decide +kernel
theorem dX5_countMinute_14 : decode cX5_countMinute 14 = .ok (.getfield 15, 3) := by decide +kernel
theorem dX5_countMinute_17 : decode cX5_countMinute 17 = .ok (.iload_n 1, 1) := by decide +kernel
theorem dX5_countMinute_18 : decode cX5_countMinute 18 = .ok (.dup2, 1) := by decide +kernel
theorem dX5_countMinute_19 : decode cX5_countMinute 19 = .ok (.iaload, 1) := by decide +kernel
theorem dX5_countMinute_20 : decode cX5_countMinute 20 = .ok (.iconst 1, 1) := by decide +kernel
theorem dX5_countMinute_21 : decode cX5_countMinute 21 = .ok (.iadd, 1) := by decide +kernel
theorem dX5_countMinute_22 : decode cX5_countMinute 22 = .ok (.iastore, 1) := by decide +kernel
theorem dX5_countMinute_23 : decode cX5_countMinute 23 = .ok (.aload_n 0, 1) := by decide +kernel
theorem dX5_countMinute_24 : decode cX5_countMinute 24 = .ok (.getfield 15, 3) := by decide +kernel
theorem dX5_countMinute_27 : decode cX5_countMinute 27 = .ok (.iload_n 1, 1) := by decide +kernel
theorem dX5_countMinute_28 : decode cX5_countMinute 28 = .ok (.iaload, 1) := by decide +kernel
theorem dX5_countMinute_29 : decode cX5_countMinute 29 = .ok (.ireturn, 1) := by decide +kernel
theorem dX5_countMinute_4 : decode cX5_countMinute 4 = .ok (.iload_n 1, 1) := by decide +kernel
theorem dX5_countMinute_5 : decode cX5_countMinute 5 = .ok (.sipush 1099, 3) := by decide +kernel
theorem dX5_countMinute_8 : decode cX5_countMinute 8 = .ok (.if_icmp .lt 5, 3) := by decide +kernel
theorem dX5_greatest_0 : decode cX5_greatest 0 = .ok (.aload_n 0, 1) := by decide +kernel
theorem dX5_greatest_1 : decode cX5_greatest 1 = .ok (.getfield 25, 3) := by decide +kernel
theorem dX5_greatest_4 : decode cX5_greatest 4 = .ok (.ireturn, 1) := by decide +kernel
theorem dX5_howMany_0 : decode cX5_howMany 0 = .ok (.aload_n 0, 1) := by decide +kernel
theorem dX5_howMany_1 : decode cX5_howMany 1 = .ok (.getfield 18, 3) := by decide +kernel
theorem dX5_howMany_4 : decode cX5_howMany 4 = .ok (.ireturn, 1) := by decide +kernel
theorem dX5_least_0 : decode cX5_least 0 = .ok (.aload_n 0, 1) := by decide +kernel
theorem dX5_least_1 : decode cX5_least 1 = .ok (.getfield 22, 3) := by decide +kernel
theorem dX5_least_4 : decode cX5_least 4 = .ok (.ireturn, 1) := by decide +kernel
theorem dX5_leftAtWorst_0 : decode cX5_leftAtWorst 0 = .ok (.aload_n 0, 1) := by decide +kernel
theorem dX5_leftAtWorst_1 : decode cX5_leftAtWorst 1 = .ok (.getfield 15, 3) := by decide +kernel
theorem dX5_leftAtWorst_10 : decode cX5_leftAtWorst 10 = .ok (.aload_n 0, 1) := by decide +kernel
theorem dX5_leftAtWorst_11 : decode cX5_leftAtWorst 11 = .ok (.getfield 22, 3) := by decide +kernel
theorem dX5_leftAtWorst_14 : decode cX5_leftAtWorst 14 = .ok (.istore_n 3, 1) := by decide +kernel
theorem dX5_leftAtWorst_15 : decode cX5_leftAtWorst 15 = .ok (.iload_n 3, 1) := by decide +kernel
theorem dX5_leftAtWorst_16 : decode cX5_leftAtWorst 16 = .ok (.aload_n 0, 1) := by decide +kernel
theorem dX5_leftAtWorst_17 : decode cX5_leftAtWorst 17 = .ok (.getfield 25, 3) := by decide +kernel
theorem dX5_leftAtWorst_20 : decode cX5_leftAtWorst 20 = .ok (.if_icmp .gt 51, 3) := by decide +kernel
theorem dX5_leftAtWorst_23 : decode cX5_leftAtWorst 23 = .ok (.iload_n 3, 1) := by decide +kernel
theorem dX5_leftAtWorst_24 : decode cX5_leftAtWorst 24 = .ok (.bipush 100, 2) := by decide +kernel
theorem dX5_leftAtWorst_26 : decode cX5_leftAtWorst 26 = .ok (.if_icmp .ge 45, 3) := by decide +kernel
theorem dX5_leftAtWorst_29 : decode cX5_leftAtWorst 29 = .ok (.iload_n 3, 1) := by decide +kernel
theorem dX5_leftAtWorst_30 : decode cX5_leftAtWorst 30 = .ok (.ifCond .lt 35, 3) := by decide +kernel
theorem dX5_leftAtWorst_33 : decode cX5_leftAtWorst 33 = .ok (.aload_n 0, 1) := by decide +kernel
theorem dX5_leftAtWorst_34 : decode cX5_leftAtWorst 34 = .ok (.getfield 9, 3) := by decide +kernel
theorem dX5_leftAtWorst_37 : decode cX5_leftAtWorst 37 = .ok (.iload_n 3, 1) := by decide +kernel
theorem dX5_leftAtWorst_38 : decode cX5_leftAtWorst 38 = .ok (.iaload, 1) := by decide +kernel
theorem dX5_leftAtWorst_39 : decode cX5_leftAtWorst 39 = .ok (.iconst (-1), 1) := by decide +kernel
theorem dX5_leftAtWorst_4 : decode cX5_leftAtWorst 4 = .ok (.iconst 0, 1) := by decide +kernel
theorem dX5_leftAtWorst_40 : decode cX5_leftAtWorst 40 = .ok (.if_icmp .eq 25, 3) := by decide +kernel
theorem dX5_leftAtWorst_43 : decode cX5_leftAtWorst 43 = .ok (.iload_n 2, 1) := by decide +kernel
theorem dX5_leftAtWorst_44 : decode cX5_leftAtWorst 44 = .ok (.aload_n 0, 1) := by decide +kernel
theorem dX5_leftAtWorst_45 : decode cX5_leftAtWorst 45 = .ok (.aload_n 0, 1) := by decide +kernel
theorem dX5_leftAtWorst_46 : decode cX5_leftAtWorst 46 = .ok (.getfield 9, 3) := by decide +kernel
theorem dX5_leftAtWorst_49 : decode cX5_leftAtWorst 49 = .ok (.iload_n 3, 1) := by decide +kernel
theorem dX5_leftAtWorst_5 : decode cX5_leftAtWorst 5 = .ok (.invokestatic 52, 3) := by decide +kernel
theorem dX5_leftAtWorst_50 : decode cX5_leftAtWorst 50 = .ok (.iaload, 1) := by decide +kernel
theorem dX5_leftAtWorst_51 : decode cX5_leftAtWorst 51 = .ok (.iload_n 3, 1) := by decide +kernel
theorem dX5_leftAtWorst_52 : decode cX5_leftAtWorst 52 = .ok (.iload_n 1, 1) := by decide +kernel
theorem dX5_leftAtWorst_53 : decode cX5_leftAtWorst 53 = .ok (.isub, 1) := by decide +kernel
theorem dX5_leftAtWorst_54 : decode cX5_leftAtWorst 54 = .ok (.invokestatic 58, 3) := by decide +kernel
theorem dX5_leftAtWorst_57 : decode cX5_leftAtWorst 57 = .ok (.iadd, 1) := by decide +kernel
theorem dX5_leftAtWorst_58 : decode cX5_leftAtWorst 58 = .ok (.invokevirtual 63, 3) := by decide +kernel
theorem dX5_leftAtWorst_61 : decode cX5_leftAtWorst 61 = .ok (.invokestatic 66, 3) := by decide +kernel
theorem dX5_leftAtWorst_64 : decode cX5_leftAtWorst 64 = .ok (.istore_n 2, 1) := by decide +kernel
theorem dX5_leftAtWorst_65 : decode cX5_leftAtWorst 65 = .ok (.iinc 3 1, 3) := by decide +kernel
theorem dX5_leftAtWorst_68 : decode cX5_leftAtWorst 68 = .ok (.goto (-53), 3) := by decide +kernel
theorem dX5_leftAtWorst_71 : decode cX5_leftAtWorst 71 = .ok (.iload_n 2, 1) := by decide +kernel
theorem dX5_leftAtWorst_72 : decode cX5_leftAtWorst 72 = .ok (.ireturn, 1) := by decide +kernel
theorem dX5_leftAtWorst_8 : decode cX5_leftAtWorst 8 = .ok (.iconst 0, 1) := by decide +kernel
theorem dX5_leftAtWorst_9 : decode cX5_leftAtWorst 9 = .ok (.istore_n 2, 1) := by decide +kernel
theorem dX5_minuteSent_0 : decode cX5_minuteSent 0 = .ok (.iconst 0, 1) := by decide +kernel
theorem dX5_minuteSent_1 : decode cX5_minuteSent 1 = .ok (.istore_n 3, 1) := by decide +kernel
theorem dX5_minuteSent_11 : decode cX5_minuteSent 11 = .ok (.if_icmp .ge 54, 3) := by decide +kernel
theorem dX5_minuteSent_14 : decode cX5_minuteSent 14 = .ok (.aload_n 1, 1) := by decide +kernel
theorem dX5_minuteSent_15 : decode cX5_minuteSent 15 = .ok (.iload 4, 2) := by decide +kernel
theorem dX5_minuteSent_17 : decode cX5_minuteSent 17 = .ok (.iconst 1, 1) := by decide +kernel
theorem dX5_minuteSent_18 : decode cX5_minuteSent 18 = .ok (.iadd, 1) := by decide +kernel
theorem dX5_minuteSent_19 : decode cX5_minuteSent 19 = .ok (.invokevirtual 42, 3) := by decide +kernel
theorem dX5_minuteSent_2 : decode cX5_minuteSent 2 = .ok (.iconst 0, 1) := by decide +kernel
theorem dX5_minuteSent_22 : decode cX5_minuteSent 22 = .ok (.l2i, 1) := by decide +kernel
theorem dX5_minuteSent_23 : decode cX5_minuteSent 23 = .ok (.aload_n 0, 1) := by decide +kernel
theorem dX5_minuteSent_24 : decode cX5_minuteSent 24 = .ok (.iload_n 2, 1) := by decide +kernel
theorem dX5_minuteSent_25 : decode cX5_minuteSent 25 = .ok (.aload_n 1, 1) := by decide +kernel
theorem dX5_minuteSent_26 : decode cX5_minuteSent 26 = .ok (.iload 4, 2) := by decide +kernel
theorem dX5_minuteSent_28 : decode cX5_minuteSent 28 = .ok (.invokevirtual 42, 3) := by decide +kernel
theorem dX5_minuteSent_3 : decode cX5_minuteSent 3 = .ok (.istore 4, 2) := by decide +kernel
theorem dX5_minuteSent_31 : decode cX5_minuteSent 31 = .ok (.l2i, 1) := by decide +kernel
theorem dX5_minuteSent_32 : decode cX5_minuteSent 32 = .ok (.invokevirtual 46, 3) := by decide +kernel
theorem dX5_minuteSent_35 : decode cX5_minuteSent 35 = .ok (.isub, 1) := by decide +kernel
theorem dX5_minuteSent_36 : decode cX5_minuteSent 36 = .ok (.istore 5, 2) := by decide +kernel
theorem dX5_minuteSent_38 : decode cX5_minuteSent 38 = .ok (.iload 5, 2) := by decide +kernel
theorem dX5_minuteSent_40 : decode cX5_minuteSent 40 = .ok (.ifCond .lt 14, 3) := by decide +kernel
theorem dX5_minuteSent_43 : decode cX5_minuteSent 43 = .ok (.iload 4, 2) := by decide +kernel
theorem dX5_minuteSent_45 : decode cX5_minuteSent 45 = .ok (.ifCond .le 11, 3) := by decide +kernel
theorem dX5_minuteSent_48 : decode cX5_minuteSent 48 = .ok (.iload 5, 2) := by decide +kernel
theorem dX5_minuteSent_5 : decode cX5_minuteSent 5 = .ok (.iload 4, 2) := by decide +kernel
theorem dX5_minuteSent_50 : decode cX5_minuteSent 50 = .ok (.iload_n 3, 1) := by decide +kernel
theorem dX5_minuteSent_51 : decode cX5_minuteSent 51 = .ok (.if_icmp .eq 5, 3) := by decide +kernel
theorem dX5_minuteSent_54 : decode cX5_minuteSent 54 = .ok (.iconst (-1), 1) := by decide +kernel
theorem dX5_minuteSent_55 : decode cX5_minuteSent 55 = .ok (.ireturn, 1) := by decide +kernel
theorem dX5_minuteSent_56 : decode cX5_minuteSent 56 = .ok (.iload 5, 2) := by decide +kernel
theorem dX5_minuteSent_58 : decode cX5_minuteSent 58 = .ok (.istore_n 3, 1) := by decide +kernel
theorem dX5_minuteSent_59 : decode cX5_minuteSent 59 = .ok (.iinc 4 2, 3) := by decide +kernel
theorem dX5_minuteSent_62 : decode cX5_minuteSent 62 = .ok (.goto (-57), 3) := by decide +kernel
theorem dX5_minuteSent_65 : decode cX5_minuteSent 65 = .ok (.iload_n 3, 1) := by decide +kernel
theorem dX5_minuteSent_66 : decode cX5_minuteSent 66 = .ok (.ireturn, 1) := by decide +kernel
theorem dX5_minuteSent_7 : decode cX5_minuteSent 7 = .ok (.aload_n 1, 1) := by decide +kernel
theorem dX5_minuteSent_8 : decode cX5_minuteSent 8 = .ok (.invokevirtual 36, 3) := by decide +kernel
theorem dX5_searchFitting_0 : decode cX5_searchFitting 0 = .ok (.aload_n 0, 1) := by decide +kernel
theorem dX5_searchFitting_1 : decode cX5_searchFitting 1 = .ok (.iconst 0, 1) := by decide +kernel
theorem dX5_searchFitting_10 : decode cX5_searchFitting 10 = .ok (.aload_n 0, 1) := by decide +kernel
theorem dX5_searchFitting_11 : decode cX5_searchFitting 11 = .ok (.iconst (-1), 1) := by decide +kernel
theorem dX5_searchFitting_12 : decode cX5_searchFitting 12 = .ok (.putfield 25, 3) := by decide +kernel
theorem dX5_searchFitting_15 : decode cX5_searchFitting 15 = .ok (.iconst 0, 1) := by decide +kernel
theorem dX5_searchFitting_16 : decode cX5_searchFitting 16 = .ok (.istore_n 3, 1) := by decide +kernel
theorem dX5_searchFitting_17 : decode cX5_searchFitting 17 = .ok (.iload_n 3, 1) := by decide +kernel
theorem dX5_searchFitting_18 : decode cX5_searchFitting 18 = .ok (.bipush 100, 2) := by decide +kernel
theorem dX5_searchFitting_2 : decode cX5_searchFitting 2 = .ok (.putfield 18, 3) := by decide +kernel
theorem dX5_searchFitting_20 : decode cX5_searchFitting 20 = .ok (.if_icmp .ge 65, 3) := by decide +kernel
theorem dX5_searchFitting_23 : decode cX5_searchFitting 23 = .ok (.aload_n 0, 1) := by decide +kernel
theorem dX5_searchFitting_24 : decode cX5_searchFitting 24 = .ok (.getfield 9, 3) := by decide +kernel
theorem dX5_searchFitting_27 : decode cX5_searchFitting 27 = .ok (.iload_n 3, 1) := by decide +kernel
theorem dX5_searchFitting_28 : decode cX5_searchFitting 28 = .ok (.aload_n 1, 1) := by decide +kernel
theorem dX5_searchFitting_29 : decode cX5_searchFitting 29 = .ok (.aload_n 2, 1) := by decide +kernel
theorem dX5_searchFitting_30 : decode cX5_searchFitting 30 = .ok (.iload_n 3, 1) := by decide +kernel
theorem dX5_searchFitting_31 : decode cX5_searchFitting 31 = .ok (.invokestatic 28, 3) := by decide +kernel
theorem dX5_searchFitting_34 : decode cX5_searchFitting 34 = .ok (.iastore, 1) := by decide +kernel
theorem dX5_searchFitting_35 : decode cX5_searchFitting 35 = .ok (.aload_n 0, 1) := by decide +kernel
theorem dX5_searchFitting_36 : decode cX5_searchFitting 36 = .ok (.getfield 9, 3) := by decide +kernel
theorem dX5_searchFitting_39 : decode cX5_searchFitting 39 = .ok (.iload_n 3, 1) := by decide +kernel
theorem dX5_searchFitting_40 : decode cX5_searchFitting 40 = .ok (.iaload, 1) := by decide +kernel
theorem dX5_searchFitting_41 : decode cX5_searchFitting 41 = .ok (.iconst (-1), 1) := by decide +kernel
theorem dX5_searchFitting_42 : decode cX5_searchFitting 42 = .ok (.if_icmp .eq 37, 3) := by decide +kernel
theorem dX5_searchFitting_45 : decode cX5_searchFitting 45 = .ok (.aload_n 0, 1) := by decide +kernel
theorem dX5_searchFitting_46 : decode cX5_searchFitting 46 = .ok (.aload_n 0, 1) := by decide +kernel
theorem dX5_searchFitting_47 : decode cX5_searchFitting 47 = .ok (.getfield 18, 3) := by decide +kernel
theorem dX5_searchFitting_5 : decode cX5_searchFitting 5 = .ok (.aload_n 0, 1) := by decide +kernel
theorem dX5_searchFitting_50 : decode cX5_searchFitting 50 = .ok (.ifCond .ne 7, 3) := by decide +kernel
theorem dX5_searchFitting_53 : decode cX5_searchFitting 53 = .ok (.iload_n 3, 1) := by decide +kernel
theorem dX5_searchFitting_54 : decode cX5_searchFitting 54 = .ok (.goto 7, 3) := by decide +kernel
theorem dX5_searchFitting_57 : decode cX5_searchFitting 57 = .ok (.aload_n 0, 1) := by decide +kernel
theorem dX5_searchFitting_58 : decode cX5_searchFitting 58 = .ok (.getfield 22, 3) := by decide +kernel
theorem dX5_searchFitting_6 : decode cX5_searchFitting 6 = .ok (.iconst (-1), 1) := by decide +kernel
theorem dX5_searchFitting_61 : decode cX5_searchFitting 61 = .ok (.putfield 22, 3) := by decide +kernel
theorem dX5_searchFitting_64 : decode cX5_searchFitting 64 = .ok (.aload_n 0, 1) := by decide +kernel
theorem dX5_searchFitting_65 : decode cX5_searchFitting 65 = .ok (.iload_n 3, 1) := by decide +kernel
theorem dX5_searchFitting_66 : decode cX5_searchFitting 66 = .ok (.putfield 25, 3) := by decide +kernel
theorem dX5_searchFitting_69 : decode cX5_searchFitting 69 = .ok (.aload_n 0, 1) := by decide +kernel
theorem dX5_searchFitting_7 : decode cX5_searchFitting 7 = .ok (.putfield 22, 3) := by decide +kernel
theorem dX5_searchFitting_70 : decode cX5_searchFitting 70 = .ok (.dup, 1) := by decide +kernel
theorem dX5_searchFitting_71 : decode cX5_searchFitting 71 = .ok (.getfield 18, 3) := by decide +kernel
theorem dX5_searchFitting_74 : decode cX5_searchFitting 74 = .ok (.iconst 1, 1) := by decide +kernel
theorem dX5_searchFitting_75 : decode cX5_searchFitting 75 = .ok (.iadd, 1) := by decide +kernel
theorem dX5_searchFitting_76 : decode cX5_searchFitting 76 = .ok (.putfield 18, 3) := by decide +kernel
theorem dX5_searchFitting_79 : decode cX5_searchFitting 79 = .ok (.iinc 3 1, 3) := by decide +kernel
theorem dX5_searchFitting_82 : decode cX5_searchFitting 82 = .ok (.goto (-65), 3) := by decide +kernel
theorem dX5_searchFitting_85 : decode cX5_searchFitting 85 = .ok (.return_, 1) := by decide +kernel
theorem dX5_whereToSet_0 : decode cX5_whereToSet 0 = .ok (.iconst (-1), 1) := by decide +kernel
theorem dX5_whereToSet_1 : decode cX5_whereToSet 1 = .ok (.istore_n 1, 1) := by decide +kernel
theorem dX5_whereToSet_10 : decode cX5_whereToSet 10 = .ok (.bipush 100, 2) := by decide +kernel
theorem dX5_whereToSet_12 : decode cX5_whereToSet 12 = .ok (.if_icmp .ge 27, 3) := by decide +kernel
theorem dX5_whereToSet_15 : decode cX5_whereToSet 15 = .ok (.aload_n 0, 1) := by decide +kernel
theorem dX5_whereToSet_16 : decode cX5_whereToSet 16 = .ok (.iload_n 3, 1) := by decide +kernel
theorem dX5_whereToSet_17 : decode cX5_whereToSet 17 = .ok (.invokevirtual 32, 3) := by decide +kernel
theorem dX5_whereToSet_2 : decode cX5_whereToSet 2 = .ok (.aload_n 0, 1) := by decide +kernel
theorem dX5_whereToSet_20 : decode cX5_whereToSet 20 = .ok (.istore 4, 2) := by decide +kernel
theorem dX5_whereToSet_22 : decode cX5_whereToSet 22 = .ok (.iload 4, 2) := by decide +kernel
theorem dX5_whereToSet_24 : decode cX5_whereToSet 24 = .ok (.iload_n 2, 1) := by decide +kernel
theorem dX5_whereToSet_25 : decode cX5_whereToSet 25 = .ok (.if_icmp .ge 8, 3) := by decide +kernel
theorem dX5_whereToSet_28 : decode cX5_whereToSet 28 = .ok (.iload_n 3, 1) := by decide +kernel
theorem dX5_whereToSet_29 : decode cX5_whereToSet 29 = .ok (.istore_n 1, 1) := by decide +kernel
theorem dX5_whereToSet_3 : decode cX5_whereToSet 3 = .ok (.getfield 18, 3) := by decide +kernel
theorem dX5_whereToSet_30 : decode cX5_whereToSet 30 = .ok (.iload 4, 2) := by decide +kernel
theorem dX5_whereToSet_32 : decode cX5_whereToSet 32 = .ok (.istore_n 2, 1) := by decide +kernel
theorem dX5_whereToSet_33 : decode cX5_whereToSet 33 = .ok (.iinc 3 1, 3) := by decide +kernel
theorem dX5_whereToSet_36 : decode cX5_whereToSet 36 = .ok (.goto (-27), 3) := by decide +kernel
theorem dX5_whereToSet_39 : decode cX5_whereToSet 39 = .ok (.iload_n 1, 1) := by decide +kernel
theorem dX5_whereToSet_40 : decode cX5_whereToSet 40 = .ok (.ireturn, 1) := by decide +kernel
theorem dX5_whereToSet_6 : decode cX5_whereToSet 6 = .ok (.istore_n 2, 1) := by decide +kernel
theorem dX5_whereToSet_7 : decode cX5_whereToSet 7 = .ok (.iconst 0, 1) := by decide +kernel
theorem dX5_whereToSet_8 : decode cX5_whereToSet 8 = .ok (.istore_n 3, 1) := by decide +kernel
theorem dX5_whereToSet_9 : decode cX5_whereToSet 9 = .ok (.iload_n 3, 1) := by decide +kernel
theorem dX6_draft_0 : decode cX6_draft 0 = .ok (.aload_n 0, 1) := by decide +kernel
theorem dX6_draft_1 : decode cX6_draft 1 = .ok (.getfield 12, 3) := by decide +kernel
theorem dX6_draft_4 : decode cX6_draft 4 = .ok (.areturn, 1) := by decide +kernel
theorem dX6_fail_0 : decode cX6_fail 0 = .ok (.aload_n 0, 1) := by decide +kernel
theorem dX6_fail_1 : decode cX6_fail 1 = .ok (.getfield 22, 3) := by decide +kernel
theorem dX6_fail_12 : decode cX6_fail 12 = .ok (.aload_n 0, 1) := by decide +kernel
theorem dX6_fail_13 : decode cX6_fail 13 = .ok (.aload_n 0, 1) := by decide +kernel
theorem dX6_fail_14 : decode cX6_fail 14 = .ok (.getfield 126, 3) := by decide +kernel
theorem dX6_fail_17 : decode cX6_fail 17 = .ok (.putfield 18, 3) := by decide +kernel
theorem dX6_fail_20 : decode cX6_fail 20 = .ok (.return_, 1) := by decide +kernel
theorem dX6_fail_4 : decode cX6_fail 4 = .ok (.ifCond .ne 16, 3) := by decide +kernel
theorem dX6_fail_7 : decode cX6_fail 7 = .ok (.aload_n 0, 1) := by decide +kernel
theorem dX6_fail_8 : decode cX6_fail 8 = .ok (.iload_n 1, 1) := by decide +kernel
theorem dX6_fail_9 : decode cX6_fail 9 = .ok (.putfield 22, 3) := by decide +kernel
theorem dX6_faultKind_0 : decode cX6_faultKind 0 = .ok (.aload_n 0, 1) := by decide +kernel
theorem dX6_faultKind_1 : decode cX6_faultKind 1 = .ok (.getfield 22, 3) := by decide +kernel
theorem dX6_faultKind_4 : decode cX6_faultKind 4 = .ok (.ireturn, 1) := by decide +kernel
theorem dX6_faultPlace_0 : decode cX6_faultPlace 0 = .ok (.aload_n 0, 1) := by decide +kernel
theorem dX6_faultPlace_1 : decode cX6_faultPlace 1 = .ok (.getfield 18, 3) := by decide +kernel
theorem dX6_faultPlace_4 : decode cX6_faultPlace 4 = .ok (.ireturn, 1) := by decide +kernel
theorem dX6_isBlank_0 : decode cX6_isBlank 0 = .ok (.iload_n 0, 1) := by decide +kernel
theorem dX6_isBlank_1 : decode cX6_isBlank 1 = .ok (.bipush 32, 2) := by decide +kernel
theorem dX6_isBlank_12 : decode cX6_isBlank 12 = .ok (.iconst 1, 1) := by decide +kernel
theorem dX6_isBlank_13 : decode cX6_isBlank 13 = .ok (.goto 4, 3) := by decide +kernel
theorem dX6_isBlank_16 : decode cX6_isBlank 16 = .ok (.iconst 0, 1) := by decide +kernel
theorem dX6_isBlank_17 : decode cX6_isBlank 17 = .ok (.ireturn, 1) := by decide +kernel
theorem dX6_isBlank_3 : decode cX6_isBlank 3 = .ok (.if_icmp .eq 9, 3) := by decide +kernel
theorem dX6_isBlank_6 : decode cX6_isBlank 6 = .ok (.iload_n 0, 1) := by decide +kernel
theorem dX6_isBlank_7 : decode cX6_isBlank 7 = .ok (.bipush 10, 2) := by decide +kernel
theorem dX6_isBlank_9 : decode cX6_isBlank 9 = .ok (.if_icmp .ne 7, 3) := by decide +kernel
theorem dX6_isDigit_0 : decode cX6_isDigit 0 = .ok (.iload_n 0, 1) := by decide +kernel
theorem dX6_isDigit_1 : decode cX6_isDigit 1 = .ok (.bipush 48, 2) := by decide +kernel
theorem dX6_isDigit_12 : decode cX6_isDigit 12 = .ok (.iconst 1, 1) := by decide +kernel
theorem dX6_isDigit_13 : decode cX6_isDigit 13 = .ok (.goto 4, 3) := by decide +kernel
theorem dX6_isDigit_16 : decode cX6_isDigit 16 = .ok (.iconst 0, 1) := by decide +kernel
theorem dX6_isDigit_17 : decode cX6_isDigit 17 = .ok (.ireturn, 1) := by decide +kernel
theorem dX6_isDigit_3 : decode cX6_isDigit 3 = .ok (.if_icmp .lt 13, 3) := by decide +kernel
theorem dX6_isDigit_6 : decode cX6_isDigit 6 = .ok (.iload_n 0, 1) := by decide +kernel
theorem dX6_isDigit_7 : decode cX6_isDigit 7 = .ok (.bipush 57, 2) := by decide +kernel
theorem dX6_isDigit_9 : decode cX6_isDigit 9 = .ok (.if_icmp .gt 7, 3) := by decide +kernel
theorem dX6_isLetter_0 : decode cX6_isLetter 0 = .ok (.iload_n 0, 1) := by decide +kernel
theorem dX6_isLetter_1 : decode cX6_isLetter 1 = .ok (.bipush 97, 2) := by decide +kernel
theorem dX6_isLetter_12 : decode cX6_isLetter 12 = .ok (.iconst 1, 1) := by decide +kernel
theorem dX6_isLetter_13 : decode cX6_isLetter 13 = .ok (.goto 4, 3) := by decide +kernel
theorem dX6_isLetter_16 : decode cX6_isLetter 16 = .ok (.iconst 0, 1) := by decide +kernel
theorem dX6_isLetter_17 : decode cX6_isLetter 17 = .ok (.ireturn, 1) := by decide +kernel
theorem dX6_isLetter_3 : decode cX6_isLetter 3 = .ok (.if_icmp .lt 13, 3) := by decide +kernel
theorem dX6_isLetter_6 : decode cX6_isLetter 6 = .ok (.iload_n 0, 1) := by decide +kernel
theorem dX6_isLetter_7 : decode cX6_isLetter 7 = .ok (.bipush 122, 2) := by decide +kernel
theorem dX6_isLetter_9 : decode cX6_isLetter 9 = .ok (.if_icmp .gt 7, 3) := by decide +kernel
theorem dX6_isWord_0 : decode cX6_isWord 0 = .ok (.aload_n 0, 1) := by decide +kernel
theorem dX6_isWord_1 : decode cX6_isWord 1 = .ok (.getfield 35, 3) := by decide +kernel
theorem dX6_isWord_12 : decode cX6_isWord 12 = .ok (.aload_n 0, 1) := by decide +kernel
theorem dX6_isWord_13 : decode cX6_isWord 13 = .ok (.getfield 126, 3) := by decide +kernel
theorem dX6_isWord_16 : decode cX6_isWord 16 = .ok (.isub, 1) := by decide +kernel
theorem dX6_isWord_17 : decode cX6_isWord 17 = .ok (.aload_n 2, 1) := by decide +kernel
theorem dX6_isWord_18 : decode cX6_isWord 18 = .ok (.invokevirtual 129, 3) := by decide +kernel
theorem dX6_isWord_21 : decode cX6_isWord 21 = .ok (.if_icmp .eq 5, 3) := by decide +kernel
theorem dX6_isWord_24 : decode cX6_isWord 24 = .ok (.iconst 0, 1) := by decide +kernel
theorem dX6_isWord_25 : decode cX6_isWord 25 = .ok (.ireturn, 1) := by decide +kernel
theorem dX6_isWord_26 : decode cX6_isWord 26 = .ok (.iconst 0, 1) := by decide +kernel
theorem dX6_isWord_27 : decode cX6_isWord 27 = .ok (.istore_n 3, 1) := by decide +kernel
theorem dX6_isWord_28 : decode cX6_isWord 28 = .ok (.iload_n 3, 1) := by decide +kernel
theorem dX6_isWord_29 : decode cX6_isWord 29 = .ok (.aload_n 2, 1) := by decide +kernel
theorem dX6_isWord_30 : decode cX6_isWord 30 = .ok (.invokevirtual 129, 3) := by decide +kernel
theorem dX6_isWord_33 : decode cX6_isWord 33 = .ok (.if_icmp .ge 29, 3) := by decide +kernel
theorem dX6_isWord_36 : decode cX6_isWord 36 = .ok (.aload_n 1, 1) := by decide +kernel
theorem dX6_isWord_37 : decode cX6_isWord 37 = .ok (.aload_n 0, 1) := by decide +kernel
theorem dX6_isWord_38 : decode cX6_isWord 38 = .ok (.getfield 126, 3) := by decide +kernel
theorem dX6_isWord_4 : decode cX6_isWord 4 = .ok (.iconst 1, 1) := by decide +kernel
theorem dX6_isWord_41 : decode cX6_isWord 41 = .ok (.iload_n 3, 1) := by decide +kernel
theorem dX6_isWord_42 : decode cX6_isWord 42 = .ok (.iadd, 1) := by decide +kernel
theorem dX6_isWord_43 : decode cX6_isWord 43 = .ok (.invokevirtual 134, 3) := by decide +kernel
theorem dX6_isWord_46 : decode cX6_isWord 46 = .ok (.aload_n 2, 1) := by decide +kernel
theorem dX6_isWord_47 : decode cX6_isWord 47 = .ok (.iload_n 3, 1) := by decide +kernel
theorem dX6_isWord_48 : decode cX6_isWord 48 = .ok (.invokevirtual 140, 3) := by decide +kernel
theorem dX6_isWord_5 : decode cX6_isWord 5 = .ok (.if_icmp .ne 19, 3) := by decide +kernel
theorem dX6_isWord_51 : decode cX6_isWord 51 = .ok (.if_icmp .eq 5, 3) := by decide +kernel
theorem dX6_isWord_54 : decode cX6_isWord 54 = .ok (.iconst 0, 1) := by decide +kernel
theorem dX6_isWord_55 : decode cX6_isWord 55 = .ok (.ireturn, 1) := by decide +kernel
theorem dX6_isWord_56 : decode cX6_isWord 56 = .ok (.iinc 3 1, 3) := by decide +kernel
theorem dX6_isWord_59 : decode cX6_isWord 59 = .ok (.goto (-31), 3) := by decide +kernel
theorem dX6_isWord_62 : decode cX6_isWord 62 = .ok (.iconst 1, 1) := by decide +kernel
theorem dX6_isWord_63 : decode cX6_isWord 63 = .ok (.ireturn, 1) := by decide +kernel
theorem dX6_isWord_8 : decode cX6_isWord 8 = .ok (.aload_n 0, 1) := by decide +kernel
theorem dX6_isWord_9 : decode cX6_isWord 9 = .ok (.getfield 28, 3) := by decide +kernel
theorem dX6_nextToken_0 : decode cX6_nextToken 0 = .ok (.aload_n 0, 1) := by decide +kernel
theorem dX6_nextToken_1 : decode cX6_nextToken 1 = .ok (.aload_n 0, 1) := by decide +kernel
theorem dX6_nextToken_102 : decode cX6_nextToken 102 = .ok (.goto 28, 3) := by decide +kernel
theorem dX6_nextToken_105 : decode cX6_nextToken 105 = .ok (.aload_n 0, 1) := by decide +kernel
theorem dX6_nextToken_106 : decode cX6_nextToken 106 = .ok (.iload_n 2, 1) := by decide +kernel
theorem dX6_nextToken_107 : decode cX6_nextToken 107 = .ok (.bipush 59, 2) := by decide +kernel
theorem dX6_nextToken_109 : decode cX6_nextToken 109 = .ok (.if_icmp .ne 7, 3) := by decide +kernel
theorem dX6_nextToken_112 : decode cX6_nextToken 112 = .ok (.iconst 3, 1) := by decide +kernel
theorem dX6_nextToken_113 : decode cX6_nextToken 113 = .ok (.goto 4, 3) := by decide +kernel
theorem dX6_nextToken_116 : decode cX6_nextToken 116 = .ok (.iconst 4, 1) := by decide +kernel
theorem dX6_nextToken_117 : decode cX6_nextToken 117 = .ok (.putfield 35, 3) := by decide +kernel
theorem dX6_nextToken_12 : decode cX6_nextToken 12 = .ok (.sipush 500, 3) := by decide +kernel
theorem dX6_nextToken_120 : decode cX6_nextToken 120 = .ok (.aload_n 0, 1) := by decide +kernel
theorem dX6_nextToken_121 : decode cX6_nextToken 121 = .ok (.dup, 1) := by decide +kernel
theorem dX6_nextToken_122 : decode cX6_nextToken 122 = .ok (.getfield 28, 3) := by decide +kernel
theorem dX6_nextToken_125 : decode cX6_nextToken 125 = .ok (.iconst 1, 1) := by decide +kernel
theorem dX6_nextToken_126 : decode cX6_nextToken 126 = .ok (.iadd, 1) := by decide +kernel
theorem dX6_nextToken_127 : decode cX6_nextToken 127 = .ok (.putfield 28, 3) := by decide +kernel
theorem dX6_nextToken_130 : decode cX6_nextToken 130 = .ok (.return_, 1) := by decide +kernel
theorem dX6_nextToken_15 : decode cX6_nextToken 15 = .ok (.if_icmp .ge 30, 3) := by decide +kernel
theorem dX6_nextToken_18 : decode cX6_nextToken 18 = .ok (.aload_n 1, 1) := by decide +kernel
theorem dX6_nextToken_19 : decode cX6_nextToken 19 = .ok (.aload_n 0, 1) := by decide +kernel
theorem dX6_nextToken_2 : decode cX6_nextToken 2 = .ok (.getfield 28, 3) := by decide +kernel
theorem dX6_nextToken_20 : decode cX6_nextToken 20 = .ok (.getfield 126, 3) := by decide +kernel
theorem dX6_nextToken_23 : decode cX6_nextToken 23 = .ok (.invokevirtual 134, 3) := by decide +kernel
theorem dX6_nextToken_26 : decode cX6_nextToken 26 = .ok (.invokestatic 144, 3) := by decide +kernel
theorem dX6_nextToken_29 : decode cX6_nextToken 29 = .ok (.ifCond .eq 16, 3) := by decide +kernel
theorem dX6_nextToken_32 : decode cX6_nextToken 32 = .ok (.aload_n 0, 1) := by decide +kernel
theorem dX6_nextToken_33 : decode cX6_nextToken 33 = .ok (.dup, 1) := by decide +kernel
theorem dX6_nextToken_34 : decode cX6_nextToken 34 = .ok (.getfield 126, 3) := by decide +kernel
theorem dX6_nextToken_37 : decode cX6_nextToken 37 = .ok (.iconst 1, 1) := by decide +kernel
theorem dX6_nextToken_38 : decode cX6_nextToken 38 = .ok (.iadd, 1) := by decide +kernel
theorem dX6_nextToken_39 : decode cX6_nextToken 39 = .ok (.putfield 126, 3) := by decide +kernel
theorem dX6_nextToken_42 : decode cX6_nextToken 42 = .ok (.goto (-34), 3) := by decide +kernel
theorem dX6_nextToken_45 : decode cX6_nextToken 45 = .ok (.aload_n 0, 1) := by decide +kernel
theorem dX6_nextToken_46 : decode cX6_nextToken 46 = .ok (.aload_n 0, 1) := by decide +kernel
theorem dX6_nextToken_47 : decode cX6_nextToken 47 = .ok (.getfield 126, 3) := by decide +kernel
theorem dX6_nextToken_5 : decode cX6_nextToken 5 = .ok (.putfield 126, 3) := by decide +kernel
theorem dX6_nextToken_50 : decode cX6_nextToken 50 = .ok (.putfield 28, 3) := by decide +kernel
theorem dX6_nextToken_53 : decode cX6_nextToken 53 = .ok (.aload_n 1, 1) := by decide +kernel
theorem dX6_nextToken_54 : decode cX6_nextToken 54 = .ok (.aload_n 0, 1) := by decide +kernel
theorem dX6_nextToken_55 : decode cX6_nextToken 55 = .ok (.getfield 126, 3) := by decide +kernel
theorem dX6_nextToken_58 : decode cX6_nextToken 58 = .ok (.invokevirtual 134, 3) := by decide +kernel
theorem dX6_nextToken_61 : decode cX6_nextToken 61 = .ok (.istore_n 2, 1) := by decide +kernel
theorem dX6_nextToken_62 : decode cX6_nextToken 62 = .ok (.iload_n 2, 1) := by decide +kernel
theorem dX6_nextToken_63 : decode cX6_nextToken 63 = .ok (.iconst (-1), 1) := by decide +kernel
theorem dX6_nextToken_64 : decode cX6_nextToken 64 = .ok (.if_icmp .ne 11, 3) := by decide +kernel
theorem dX6_nextToken_67 : decode cX6_nextToken 67 = .ok (.aload_n 0, 1) := by decide +kernel
theorem dX6_nextToken_68 : decode cX6_nextToken 68 = .ok (.iconst 0, 1) := by decide +kernel
theorem dX6_nextToken_69 : decode cX6_nextToken 69 = .ok (.putfield 35, 3) := by decide +kernel
theorem dX6_nextToken_72 : decode cX6_nextToken 72 = .ok (.goto 58, 3) := by decide +kernel
theorem dX6_nextToken_75 : decode cX6_nextToken 75 = .ok (.iload_n 2, 1) := by decide +kernel
theorem dX6_nextToken_76 : decode cX6_nextToken 76 = .ok (.invokestatic 148, 3) := by decide +kernel
theorem dX6_nextToken_79 : decode cX6_nextToken 79 = .ok (.ifCond .eq 11, 3) := by decide +kernel
theorem dX6_nextToken_8 : decode cX6_nextToken 8 = .ok (.aload_n 0, 1) := by decide +kernel
theorem dX6_nextToken_82 : decode cX6_nextToken 82 = .ok (.aload_n 0, 1) := by decide +kernel
theorem dX6_nextToken_83 : decode cX6_nextToken 83 = .ok (.aload_n 1, 1) := by decide +kernel
theorem dX6_nextToken_84 : decode cX6_nextToken 84 = .ok (.invokevirtual 151, 3) := by decide +kernel
theorem dX6_nextToken_87 : decode cX6_nextToken 87 = .ok (.goto 43, 3) := by decide +kernel
theorem dX6_nextToken_9 : decode cX6_nextToken 9 = .ok (.getfield 126, 3) := by decide +kernel
theorem dX6_nextToken_90 : decode cX6_nextToken 90 = .ok (.iload_n 2, 1) := by decide +kernel
theorem dX6_nextToken_91 : decode cX6_nextToken 91 = .ok (.invokestatic 154, 3) := by decide +kernel
theorem dX6_nextToken_94 : decode cX6_nextToken 94 = .ok (.ifCond .eq 11, 3) := by decide +kernel
theorem dX6_nextToken_97 : decode cX6_nextToken 97 = .ok (.aload_n 0, 1) := by decide +kernel
theorem dX6_nextToken_98 : decode cX6_nextToken 98 = .ok (.aload_n 1, 1) := by decide +kernel
theorem dX6_nextToken_99 : decode cX6_nextToken 99 = .ok (.invokevirtual 157, 3) := by decide +kernel
theorem dX6_readGap_0 : decode cX6_readGap 0 = .ok (.aload_n 0, 1) := by decide +kernel
theorem dX6_readGap_1 : decode cX6_readGap 1 = .ok (.getfield 12, 3) := by decide +kernel
theorem dX6_readGap_12 : decode cX6_readGap 12 = .ok (.aload_n 0, 1) := by decide +kernel
theorem dX6_readGap_13 : decode cX6_readGap 13 = .ok (.iconst 3, 1) := by decide +kernel
theorem dX6_readGap_14 : decode cX6_readGap 14 = .ok (.invokevirtual 67, 3) := by decide +kernel
theorem dX6_readGap_17 : decode cX6_readGap 17 = .ok (.aload_n 0, 1) := by decide +kernel
theorem dX6_readGap_18 : decode cX6_readGap 18 = .ok (.aload_n 1, 1) := by decide +kernel
theorem dX6_readGap_19 : decode cX6_readGap 19 = .ok (.ldc 57, 2) := by decide +kernel
theorem dX6_readGap_21 : decode cX6_readGap 21 = .ok (.invokevirtual 76, 3) := by decide +kernel
theorem dX6_readGap_24 : decode cX6_readGap 24 = .ok (.aload_n 0, 1) := by decide +kernel
theorem dX6_readGap_25 : decode cX6_readGap 25 = .ok (.getfield 22, 3) := by decide +kernel
theorem dX6_readGap_28 : decode cX6_readGap 28 = .ok (.ifCond .ne 11, 3) := by decide +kernel
theorem dX6_readGap_31 : decode cX6_readGap 31 = .ok (.aload_n 0, 1) := by decide +kernel
theorem dX6_readGap_32 : decode cX6_readGap 32 = .ok (.getfield 12, 3) := by decide +kernel
theorem dX6_readGap_35 : decode cX6_readGap 35 = .ok (.iconst (-1), 1) := by decide +kernel
theorem dX6_readGap_36 : decode cX6_readGap 36 = .ok (.invokevirtual 108, 3) := by decide +kernel
theorem dX6_readGap_39 : decode cX6_readGap 39 = .ok (.return_, 1) := by decide +kernel
theorem dX6_readGap_4 : decode cX6_readGap 4 = .ok (.invokevirtual 103, 3) := by decide +kernel
theorem dX6_readGap_7 : decode cX6_readGap 7 = .ok (.bipush 8, 2) := by decide +kernel
theorem dX6_readGap_9 : decode cX6_readGap 9 = .ok (.if_icmp .lt 8, 3) := by decide +kernel
theorem dX6_readNumber_0 : decode cX6_readNumber 0 = .ok (.aload_n 0, 1) := by decide +kernel
theorem dX6_readNumber_1 : decode cX6_readNumber 1 = .ok (.iconst 2, 1) := by decide +kernel
theorem dX6_readNumber_10 : decode cX6_readNumber 10 = .ok (.aload_n 0, 1) := by decide +kernel
theorem dX6_readNumber_11 : decode cX6_readNumber 11 = .ok (.getfield 28, 3) := by decide +kernel
theorem dX6_readNumber_14 : decode cX6_readNumber 14 = .ok (.sipush 500, 3) := by decide +kernel
theorem dX6_readNumber_17 : decode cX6_readNumber 17 = .ok (.if_icmp .ge 63, 3) := by decide +kernel
theorem dX6_readNumber_2 : decode cX6_readNumber 2 = .ok (.putfield 35, 3) := by decide +kernel
theorem dX6_readNumber_20 : decode cX6_readNumber 20 = .ok (.aload_n 1, 1) := by decide +kernel
theorem dX6_readNumber_21 : decode cX6_readNumber 21 = .ok (.aload_n 0, 1) := by decide +kernel
theorem dX6_readNumber_22 : decode cX6_readNumber 22 = .ok (.getfield 28, 3) := by decide +kernel
theorem dX6_readNumber_25 : decode cX6_readNumber 25 = .ok (.invokevirtual 134, 3) := by decide +kernel
theorem dX6_readNumber_28 : decode cX6_readNumber 28 = .ok (.invokestatic 154, 3) := by decide +kernel
theorem dX6_readNumber_31 : decode cX6_readNumber 31 = .ok (.ifCond .eq 49, 3) := by decide +kernel
theorem dX6_readNumber_34 : decode cX6_readNumber 34 = .ok (.aload_n 0, 1) := by decide +kernel
theorem dX6_readNumber_35 : decode cX6_readNumber 35 = .ok (.getfield 119, 3) := by decide +kernel
theorem dX6_readNumber_38 : decode cX6_readNumber 38 = .ok (.sipush 1000, 3) := by decide +kernel
theorem dX6_readNumber_41 : decode cX6_readNumber 41 = .ok (.if_icmp .ge 26, 3) := by decide +kernel
theorem dX6_readNumber_44 : decode cX6_readNumber 44 = .ok (.aload_n 0, 1) := by decide +kernel
theorem dX6_readNumber_45 : decode cX6_readNumber 45 = .ok (.aload_n 0, 1) := by decide +kernel
theorem dX6_readNumber_46 : decode cX6_readNumber 46 = .ok (.getfield 119, 3) := by decide +kernel
theorem dX6_readNumber_49 : decode cX6_readNumber 49 = .ok (.bipush 10, 2) := by decide +kernel
theorem dX6_readNumber_5 : decode cX6_readNumber 5 = .ok (.aload_n 0, 1) := by decide +kernel
theorem dX6_readNumber_51 : decode cX6_readNumber 51 = .ok (.imul, 1) := by decide +kernel
theorem dX6_readNumber_52 : decode cX6_readNumber 52 = .ok (.aload_n 1, 1) := by decide +kernel
theorem dX6_readNumber_53 : decode cX6_readNumber 53 = .ok (.aload_n 0, 1) := by decide +kernel
theorem dX6_readNumber_54 : decode cX6_readNumber 54 = .ok (.getfield 28, 3) := by decide +kernel
theorem dX6_readNumber_57 : decode cX6_readNumber 57 = .ok (.invokevirtual 134, 3) := by decide +kernel
theorem dX6_readNumber_6 : decode cX6_readNumber 6 = .ok (.iconst 0, 1) := by decide +kernel
theorem dX6_readNumber_60 : decode cX6_readNumber 60 = .ok (.iadd, 1) := by decide +kernel
theorem dX6_readNumber_61 : decode cX6_readNumber 61 = .ok (.bipush 48, 2) := by decide +kernel
theorem dX6_readNumber_63 : decode cX6_readNumber 63 = .ok (.isub, 1) := by decide +kernel
theorem dX6_readNumber_64 : decode cX6_readNumber 64 = .ok (.putfield 119, 3) := by decide +kernel
theorem dX6_readNumber_67 : decode cX6_readNumber 67 = .ok (.aload_n 0, 1) := by decide +kernel
theorem dX6_readNumber_68 : decode cX6_readNumber 68 = .ok (.dup, 1) := by decide +kernel
theorem dX6_readNumber_69 : decode cX6_readNumber 69 = .ok (.getfield 28, 3) := by decide +kernel
theorem dX6_readNumber_7 : decode cX6_readNumber 7 = .ok (.putfield 119, 3) := by decide +kernel
theorem dX6_readNumber_72 : decode cX6_readNumber 72 = .ok (.iconst 1, 1) := by decide +kernel
theorem dX6_readNumber_73 : decode cX6_readNumber 73 = .ok (.iadd, 1) := by decide +kernel
theorem dX6_readNumber_74 : decode cX6_readNumber 74 = .ok (.putfield 28, 3) := by decide +kernel
theorem dX6_readNumber_77 : decode cX6_readNumber 77 = .ok (.goto (-67), 3) := by decide +kernel
theorem dX6_readNumber_80 : decode cX6_readNumber 80 = .ok (.return_, 1) := by decide +kernel
theorem dX6_readWord_0 : decode cX6_readWord 0 = .ok (.aload_n 0, 1) := by decide +kernel
theorem dX6_readWord_1 : decode cX6_readWord 1 = .ok (.iconst 1, 1) := by decide +kernel
theorem dX6_readWord_12 : decode cX6_readWord 12 = .ok (.if_icmp .ge 30, 3) := by decide +kernel
theorem dX6_readWord_15 : decode cX6_readWord 15 = .ok (.aload_n 1, 1) := by decide +kernel
theorem dX6_readWord_16 : decode cX6_readWord 16 = .ok (.aload_n 0, 1) := by decide +kernel
theorem dX6_readWord_17 : decode cX6_readWord 17 = .ok (.getfield 28, 3) := by decide +kernel
theorem dX6_readWord_2 : decode cX6_readWord 2 = .ok (.putfield 35, 3) := by decide +kernel
theorem dX6_readWord_20 : decode cX6_readWord 20 = .ok (.invokevirtual 134, 3) := by decide +kernel
theorem dX6_readWord_23 : decode cX6_readWord 23 = .ok (.invokestatic 148, 3) := by decide +kernel
theorem dX6_readWord_26 : decode cX6_readWord 26 = .ok (.ifCond .eq 16, 3) := by decide +kernel
theorem dX6_readWord_29 : decode cX6_readWord 29 = .ok (.aload_n 0, 1) := by decide +kernel
theorem dX6_readWord_30 : decode cX6_readWord 30 = .ok (.dup, 1) := by decide +kernel
theorem dX6_readWord_31 : decode cX6_readWord 31 = .ok (.getfield 28, 3) := by decide +kernel
theorem dX6_readWord_34 : decode cX6_readWord 34 = .ok (.iconst 1, 1) := by decide +kernel
theorem dX6_readWord_35 : decode cX6_readWord 35 = .ok (.iadd, 1) := by decide +kernel
theorem dX6_readWord_36 : decode cX6_readWord 36 = .ok (.putfield 28, 3) := by decide +kernel
theorem dX6_readWord_39 : decode cX6_readWord 39 = .ok (.goto (-34), 3) := by decide +kernel
theorem dX6_readWord_42 : decode cX6_readWord 42 = .ok (.return_, 1) := by decide +kernel
theorem dX6_readWord_5 : decode cX6_readWord 5 = .ok (.aload_n 0, 1) := by decide +kernel
theorem dX6_readWord_6 : decode cX6_readWord 6 = .ok (.getfield 28, 3) := by decide +kernel
theorem dX6_readWord_9 : decode cX6_readWord 9 = .ok (.sipush 500, 3) := by decide +kernel
theorem dX6_takeWord_0 : decode cX6_takeWord 0 = .ok (.aload_n 0, 1) := by decide +kernel
theorem dX6_takeWord_1 : decode cX6_takeWord 1 = .ok (.aload_n 1, 1) := by decide +kernel
theorem dX6_takeWord_10 : decode cX6_takeWord 10 = .ok (.iconst 1, 1) := by decide +kernel
theorem dX6_takeWord_11 : decode cX6_takeWord 11 = .ok (.invokevirtual 67, 3) := by decide +kernel
theorem dX6_takeWord_14 : decode cX6_takeWord 14 = .ok (.aload_n 0, 1) := by decide +kernel
theorem dX6_takeWord_15 : decode cX6_takeWord 15 = .ok (.getfield 22, 3) := by decide +kernel
theorem dX6_takeWord_18 : decode cX6_takeWord 18 = .ok (.ifCond .ne 8, 3) := by decide +kernel
theorem dX6_takeWord_2 : decode cX6_takeWord 2 = .ok (.aload_n 2, 1) := by decide +kernel
theorem dX6_takeWord_21 : decode cX6_takeWord 21 = .ok (.aload_n 0, 1) := by decide +kernel
theorem dX6_takeWord_22 : decode cX6_takeWord 22 = .ok (.aload_n 1, 1) := by decide +kernel
theorem dX6_takeWord_23 : decode cX6_takeWord 23 = .ok (.invokevirtual 31, 3) := by decide +kernel
theorem dX6_takeWord_26 : decode cX6_takeWord 26 = .ok (.return_, 1) := by decide +kernel
theorem dX6_takeWord_3 : decode cX6_takeWord 3 = .ok (.invokevirtual 50, 3) := by decide +kernel
theorem dX6_takeWord_6 : decode cX6_takeWord 6 = .ok (.ifCond .ne 8, 3) := by decide +kernel
theorem dX6_takeWord_9 : decode cX6_takeWord 9 = .ok (.aload_n 0, 1) := by decide +kernel
theorem dX8_addSign_0 : decode cX8_addSign 0 = .ok (.aload_n 0, 1) := by decide +kernel
theorem dX8_addSign_1 : decode cX8_addSign 1 = .ok (.getfield 47, 3) := by decide +kernel
theorem dX8_addSign_12 : decode cX8_addSign 12 = .ok (.aload_n 0, 1) := by decide +kernel
theorem dX8_addSign_13 : decode cX8_addSign 13 = .ok (.getfield 9, 3) := by decide +kernel
theorem dX8_addSign_16 : decode cX8_addSign 16 = .ok (.aload_n 0, 1) := by decide +kernel
theorem dX8_addSign_17 : decode cX8_addSign 17 = .ok (.getfield 47, 3) := by decide +kernel
theorem dX8_addSign_20 : decode cX8_addSign 20 = .ok (.iload_n 1, 1) := by decide +kernel
theorem dX8_addSign_21 : decode cX8_addSign 21 = .ok (.iastore, 1) := by decide +kernel
theorem dX8_addSign_22 : decode cX8_addSign 22 = .ok (.aload_n 0, 1) := by decide +kernel
theorem dX8_addSign_23 : decode cX8_addSign 23 = .ok (.dup, 1) := by decide +kernel
theorem dX8_addSign_24 : decode cX8_addSign 24 = .ok (.getfield 47, 3) := by decide +kernel
theorem dX8_addSign_27 : decode cX8_addSign 27 = .ok (.iconst 1, 1) := by decide +kernel
theorem dX8_addSign_28 : decode cX8_addSign 28 = .ok (.iadd, 1) := by decide +kernel
theorem dX8_addSign_29 : decode cX8_addSign 29 = .ok (.putfield 47, 3) := by decide +kernel
theorem dX8_addSign_32 : decode cX8_addSign 32 = .ok (.return_, 1) := by decide +kernel
theorem dX8_addSign_4 : decode cX8_addSign 4 = .ok (.aload_n 0, 1) := by decide +kernel
theorem dX8_addSign_5 : decode cX8_addSign 5 = .ok (.getfield 9, 3) := by decide +kernel
theorem dX8_addSign_8 : decode cX8_addSign 8 = .ok (.arraylength, 1) := by decide +kernel
theorem dX8_addSign_9 : decode cX8_addSign 9 = .ok (.if_icmp .ge 23, 3) := by decide +kernel
theorem dX8_postPlace_0 : decode cX8_postPlace 0 = .ok (.iload_n 1, 1) := by decide +kernel
theorem dX8_postPlace_1 : decode cX8_postPlace 1 = .ok (.ifCond .lt 20, 3) := by decide +kernel
theorem dX8_postPlace_12 : decode cX8_postPlace 12 = .ok (.aload_n 0, 1) := by decide +kernel
theorem dX8_postPlace_13 : decode cX8_postPlace 13 = .ok (.getfield 15, 3) := by decide +kernel
theorem dX8_postPlace_16 : decode cX8_postPlace 16 = .ok (.iload_n 1, 1) := by decide +kernel
theorem dX8_postPlace_17 : decode cX8_postPlace 17 = .ok (.iaload, 1) := by decide +kernel
theorem dX8_postPlace_18 : decode cX8_postPlace 18 = .ok (.goto 4, 3) := by decide +kernel
theorem dX8_postPlace_21 : decode cX8_postPlace 21 = .ok (.iconst 0, 1) := by decide +kernel
theorem dX8_postPlace_22 : decode cX8_postPlace 22 = .ok (.ireturn, 1) := by decide +kernel
theorem dX8_postPlace_4 : decode cX8_postPlace 4 = .ok (.iload_n 1, 1) := by decide +kernel
theorem dX8_postPlace_5 : decode cX8_postPlace 5 = .ok (.aload_n 0, 1) := by decide +kernel
theorem dX8_postPlace_6 : decode cX8_postPlace 6 = .ok (.getfield 50, 3) := by decide +kernel
theorem dX8_postPlace_9 : decode cX8_postPlace 9 = .ok (.if_icmp .ge 12, 3) := by decide +kernel
theorem dX8_wayToPost_0 : decode cX8_wayToPost 0 = .ok (.iload_n 1, 1) := by decide +kernel
theorem dX8_wayToPost_1 : decode cX8_wayToPost 1 = .ok (.aload_n 0, 1) := by decide +kernel
theorem dX8_wayToPost_10 : decode cX8_wayToPost 10 = .ok (.ireturn, 1) := by decide +kernel
theorem dX8_wayToPost_2 : decode cX8_wayToPost 2 = .ok (.iload_n 2, 1) := by decide +kernel
theorem dX8_wayToPost_3 : decode cX8_wayToPost 3 = .ok (.invokevirtual 73, 3) := by decide +kernel
theorem dX8_wayToPost_6 : decode cX8_wayToPost 6 = .ok (.isub, 1) := by decide +kernel
theorem dX8_wayToPost_7 : decode cX8_wayToPost 7 = .ok (.invokestatic 77, 3) := by decide +kernel
theorem dX9_byteAt_0 : decode cX9_byteAt 0 = .ok (.iload_n 1, 1) := by decide +kernel
theorem dX9_byteAt_1 : decode cX9_byteAt 1 = .ok (.ifCond .lt 24, 3) := by decide +kernel
theorem dX9_byteAt_12 : decode cX9_byteAt 12 = .ok (.aload_n 0, 1) := by decide +kernel
theorem dX9_byteAt_13 : decode cX9_byteAt 13 = .ok (.getfield 9, 3) := by decide +kernel
theorem dX9_byteAt_16 : decode cX9_byteAt 16 = .ok (.iload_n 1, 1) := by decide +kernel
theorem dX9_byteAt_17 : decode cX9_byteAt 17 = .ok (.baload, 1) := by decide +kernel
theorem dX9_byteAt_18 : decode cX9_byteAt 18 = .ok (.sipush 255, 3) := by decide +kernel
theorem dX9_byteAt_21 : decode cX9_byteAt 21 = .ok (.iand, 1) := by decide +kernel
theorem dX9_byteAt_22 : decode cX9_byteAt 22 = .ok (.goto 4, 3) := by decide +kernel
theorem dX9_byteAt_25 : decode cX9_byteAt 25 = .ok (.iconst (-1), 1) := by decide +kernel
theorem dX9_byteAt_26 : decode cX9_byteAt 26 = .ok (.ireturn, 1) := by decide +kernel
theorem dX9_byteAt_4 : decode cX9_byteAt 4 = .ok (.iload_n 1, 1) := by decide +kernel
theorem dX9_byteAt_5 : decode cX9_byteAt 5 = .ok (.aload_n 0, 1) := by decide +kernel
theorem dX9_byteAt_6 : decode cX9_byteAt 6 = .ok (.getfield 15, 3) := by decide +kernel
theorem dX9_byteAt_9 : decode cX9_byteAt 9 = .ok (.if_icmp .ge 16, 3) := by decide +kernel
set_option maxHeartbeats 4000000 in
set_option maxRecDepth 100000 in
theorem b_X3_leftAtWorst_l19 {p : Program} {l : Launch} {e : Env} {s : State} {m : MethodId} {args : Array Value} {below : List Frame} {meth : Method} {c : Code} {Q : State → Prop} {G : Gho} {D : va_G} {cB cI cJ cZ cS cT : ClassId} (h0 : Nat) (h_trial : Nat) (h_night : Nat) (h_tally : Nat) (v0_found : Int32) (v0_firstFound : Int32) (v0_prettiestLaw : Int32) (v0_mostPips : Int32) (v0_withoutPip : Int32) (f_tally : Nat → Int32) (v1 : Int32) (zv1 : 0 ≤ v1.toInt ∧ v1.toInt ≤ 60) (c_1 : 0 ≤ v1.toInt) (c_2 : v1.toInt < 61) (C : Cx p s m args c RX3 cX3_leftAtWorst 4 G D (tyL cB cI cJ cZ cS cT)) (hP : va_P D vwCl [(h0, .inr (3, [.ref h_trial, .ref h_night, .ref h_tally, .int v0_found, .int v0_firstFound, .int v0_prettiestLaw, .int v0_mostPips, .int v0_withoutPip])), (h_tally, .inl (cI, 610, .inl f_tally))] s.heap) (ret : RroI p l e ({ frames := 1, cells := 0, slots := 0, locals := 13 }) s m args below meth c cX3_leftAtWorst (fun r : Int32 => True) Q) :
    ∀ (N : Nat) (l19_3 : Int32) (l19_2 : Int32) (ls : Array Slot), 0 ≤ l19_3.toInt ∧ l19_3.toInt ≤ 10 → (10 - l19_3.toInt).toNat < N → lv_has ls 4 [(3, .int l19_3), (2, .int l19_2), (0, .ref h0), (1, .int v1)] → W p l e ({ frames := 1, cells := 0, slots := 0, locals := 13 }) s m args below meth c s.heap [] 0 0 Q (F0 m 19 ls []) := by
  obtain ⟨hx, hb, hml, hown, hts, hK, hN, hT⟩ := id C
  intro N
  induction N with
  | zero =>
    intro l19_3 l19_2 ls kl19_3 hM_19 hl
    omega
  | succ N_19 ih_19 =>
    intro l19_3 l19_2 ls kl19_3 hM_19 hl
    have b_l19_3 := i32b l19_3
    refine lv_iload_n hx hb dX3_leftAtWorst_19 rfl (lv_at hl 0 rfl) ?_
    refine lv_bipush (v := 10) hx hb dX3_leftAtWorst_20 (by decide) ?_
    refine lv_icmp_ge (tgt := 47) hx hb dX3_leftAtWorst_22 (by decide) (fun c_3 => ?_) (fun c_3 => ?_)
    · have c_3 : 10 ≤ l19_3.toInt := ci_ge_t c_3
      refine lv_iload_n hx hb dX3_leftAtWorst_47 rfl (lv_at hl 1 rfl) ?_
      exact ret _ _ _ dX3_leftAtWorst_48 trivial
    · have c_3 : l19_3.toInt < 10 := ci_ge_f c_3
      refine lv_iload_n hx hb dX3_leftAtWorst_25 rfl (lv_at hl 1 rfl) ?_
      refine lv_aload_n hx hb dX3_leftAtWorst_26 rfl (lv_at hl 2 rfl) ?_
      refine va_get (D := D) (ci := 3) (v := .ref h_tally) (C := RX3) (T := TX3) (N := 8) hx hb hts inlX3 hown hK hP 0 rfl rfl 2 (by decide) (hts _ (inr6 _ (List.mem_of_getElem? (i := 3) rfl))) (fun _ h9 => h9) rfl dX3_leftAtWorst_27 ?_
      refine lv_iload_n hx hb dX3_leftAtWorst_30 rfl (lv_at hl 3 rfl) ?_
      refine lv_bipush (v := 10) hx hb dX3_leftAtWorst_31 (by decide) ?_
      obtain ⟨t_4, et_4⟩ : ∃ v9 : Int32, v1 * 10 = v9 := ⟨_, rfl⟩
      refine z_imul (v := t_4) hx hb dX3_leftAtWorst_33 et_4 ?_
      have b_v1 := i32b v1
      have ft_4 : t_4.toInt = v1.toInt * 10 := mulT (a := v1.toInt) (b := 10) rfl (by decide) et_4 (by omega) (by omega)
      refine lv_iload_n hx hb dX3_leftAtWorst_34 rfl (lv_at hl 0 rfl) ?_
      obtain ⟨t_5, et_5⟩ : ∃ v9 : Int32, t_4 + l19_3 = v9 := ⟨_, rfl⟩
      refine z_iadd (v := t_5) hx hb dX3_leftAtWorst_35 et_5 ?_
      have b_t_4 := i32b t_4
      have ft_5 : t_5.toInt = t_4.toInt + l19_3.toInt := addT (a := t_4.toInt) (b := l19_3.toInt) rfl rfl et_5 (by omega) (by omega)
      obtain ⟨t_6, et_6⟩ : ∃ v9 : Int32, f_tally (t_5 : Int32).toNatClampNeg = v9 := ⟨_, rfl⟩
      refine z_iald (v := t_6) hx hb hK hP 1 1 rfl rfl (vin_nat (by omega) (by omega)) et_6 dX3_leftAtWorst_36 ?_
      refine va_mmax hx hb (by rw [hml]; exact hl.1.symm) hown (hts _ (inr52 _ (List.mem_of_getElem? (i := 23) rfl))) (hts _ (inr32 _ (List.mem_of_getElem? (i := 5) rfl))) (hts _ (inr18 _ (List.mem_of_getElem? (i := 12) rfl))) (hts _ (inr32 _ (List.mem_of_getElem? (i := 6) rfl))) (Nat.le_of_ble_eq_true rfl) (Nat.le_of_ble_eq_true rfl) (Nat.le_of_ble_eq_true rfl) (Nat.le_of_ble_eq_true rfl) dX3_leftAtWorst_37 ?_
      refine lv_topi (fun t_7 et_7 => ?_)
      have b_l19_2 := i32b l19_2
      have b_t_6 := i32b t_6
      have ft_7 : l19_2.toInt ≤ t_7.toInt ∧ t_6.toInt ≤ t_7.toInt ∧ (t_7.toInt = l19_2.toInt ∨ t_7.toInt = t_6.toInt) := maxT et_7
      refine lv_istore_n (lv' := [(2, .int t_7), (3, .int l19_3), (0, .ref h0), (1, .int v1)]) hx hb dX3_leftAtWorst_40 rfl hl (by decide) rfl (fun ls hl => ?_)
      obtain ⟨t_8, et_8⟩ : ∃ v9 : Int32, l19_3 + 1 = v9 := ⟨_, rfl⟩
      have ft_8 : t_8.toInt = l19_3.toInt + 1 := addT (a := l19_3.toInt) (b := 1) rfl (by decide) et_8 (by omega) (by omega)
      refine lv_iinc (v := t_8) (lv' := [(3, .int t_8), (2, .int t_7), (0, .ref h0), (1, .int v1)]) hx hb dX3_leftAtWorst_41 hl (k := 1) rfl (by rw [← et_8]; rfl) (by decide) rfl (fun ls hl => ?_)
      refine lv_goto (tgt := 19) hx hb dX3_leftAtWorst_44 (by decide) ?_
      exact ih_19 (t_8) (t_7) _ (by first | assumption | omega | decide) (by omega) (lv_sub hl [0, 1, 2, 3] rfl)

set_option maxHeartbeats 4000000 in
set_option maxRecDepth 100000 in
theorem b_X3_leftAtWorst (l : Launch) (G : Gho) (D : va_G) (cB cI cJ cZ cS cT : ClassId) (h0 : Nat) (h_trial : Nat) (h_night : Nat) (h_tally : Nat) (v0_found : Int32) (v0_firstFound : Int32) (v0_prettiestLaw : Int32) (v0_mostPips : Int32) (v0_withoutPip : Int32) (f_tally : Nat → Int32) (v1 : Int32)  : Met l yX3_leftAtWorst (Cond.code yX3_leftAtWorst cX3_leftAtWorst 4 (some .int) :: wsL_law) ({ frames := 1, cells := 0, slots := 0, locals := 13 }) (roP G D (tyL cB cI cJ cZ cS cT) [(h0, .inr (3, [.ref h_trial, .ref h_night, .ref h_tally, .int v0_found, .int v0_firstFound, .int v0_prettiestLaw, .int v0_mostPips, .int v0_withoutPip])), (h_tally, .inl (cI, 610, .inl f_tally))] [.ref h0, .int v1]) (vp_Si (fun r : Int32 => True)) 0 0 (fun _ => False) := by
  refine metRO (own := RX3) (by decide) rfl ?_
  intro p e s m below meth c Q C hP ret
  obtain ⟨hx, hb, hml, hown, hts, hK, hN, hT⟩ := id C
  have hl := lv_entry ([.ref h0, .int v1]) (n := 4) (Nat.le_of_ble_eq_true rfl)
  rw [lg_entry_eq]
  generalize (lg_sl ([.ref h0, .int v1]) ++ List.replicate (4 - (lg_sl ([.ref h0, .int v1])).length) Slot.unset).toArray = ls at hl ⊢
  have hl : lv_has ls 4 [(0, .ref h0), (1, .int v1)] := hl
  have hP : va_P D vwCl [(h0, .inr (3, [.ref h_trial, .ref h_night, .ref h_tally, .int v0_found, .int v0_firstFound, .int v0_prettiestLaw, .int v0_mostPips, .int v0_withoutPip])), (h_tally, .inl (cI, 610, .inl f_tally))] s.heap := hP
  refine lv_iload_n hx hb dX3_leftAtWorst_0 rfl (lv_at hl 1 rfl) ?_
  refine lv_if_lt (tgt := 10) hx hb dX3_leftAtWorst_1 (by decide) (fun c_1 => ?_) (fun c_1 => ?_)
  · have c_1 : v1.toInt < 0 := ci_lt_t c_1
    have b_v1 := i32b v1
    refine lv_aload_n hx hb dX3_leftAtWorst_10 rfl (lv_at hl 0 rfl) ?_
    refine va_get (D := D) (ci := 3) (v := .int v0_found) (C := RX3) (T := TX3) (N := 8) hx hb hts inlX3 hown hK hP 0 rfl rfl 3 (by decide) (hts _ (inr52 _ (List.mem_of_getElem? (i := 17) rfl))) (fun _ h9 => h9) rfl dX3_leftAtWorst_11 ?_
    exact ret _ _ _ dX3_leftAtWorst_14 trivial
  · have c_1 : 0 ≤ v1.toInt := ci_lt_f c_1
    have b_v1 := i32b v1
    refine lv_iload_n hx hb dX3_leftAtWorst_4 rfl (lv_at hl 1 rfl) ?_
    refine lv_bipush (v := 61) hx hb dX3_leftAtWorst_5 (by decide) ?_
    refine lv_icmp_lt (tgt := 15) hx hb dX3_leftAtWorst_7 (by decide) (fun c_2 => ?_) (fun c_2 => ?_)
    · have c_2 : v1.toInt < 61 := ci_lt_t c_2
      refine lv_iconst (v := 0) hx hb dX3_leftAtWorst_15 (by decide) ?_
      refine lv_istore_n (lv' := [(2, .int 0), (0, .ref h0), (1, .int v1)]) hx hb dX3_leftAtWorst_16 rfl hl (by decide) rfl (fun ls hl => ?_)
      refine lv_iconst (v := 0) hx hb dX3_leftAtWorst_17 (by decide) ?_
      refine lv_istore_n (lv' := [(3, .int 0), (2, .int 0), (0, .ref h0), (1, .int v1)]) hx hb dX3_leftAtWorst_18 rfl hl (by decide) rfl (fun ls hl => ?_)
      exact b_X3_leftAtWorst_l19 h0 h_trial h_night h_tally v0_found v0_firstFound v0_prettiestLaw v0_mostPips v0_withoutPip f_tally v1 (by first | assumption | omega | decide) (by first | assumption | omega | decide) (by first | assumption | omega | decide) C (hP.sub [0, 1] rfl) ret _ (0) (0) _ (by first | assumption | omega | decide) (Nat.lt_succ_self _) (lv_sub hl [0, 1, 2, 3] rfl)
    · have c_2 : 61 ≤ v1.toInt := ci_lt_f c_2
      refine lv_aload_n hx hb dX3_leftAtWorst_10 rfl (lv_at hl 0 rfl) ?_
      refine va_get (D := D) (ci := 3) (v := .int v0_found) (C := RX3) (T := TX3) (N := 8) hx hb hts inlX3 hown hK hP 0 rfl rfl 3 (by decide) (hts _ (inr52 _ (List.mem_of_getElem? (i := 17) rfl))) (fun _ h9 => h9) rfl dX3_leftAtWorst_11 ?_
      exact ret _ _ _ dX3_leftAtWorst_14 trivial

set_option maxHeartbeats 4000000 in
set_option maxRecDepth 100000 in
theorem b_X3_stepToAsk_l9 {p : Program} {l : Launch} {e : Env} {s : State} {m : MethodId} {args : Array Value} {below : List Frame} {meth : Method} {c : Code} {Q : State → Prop} {G : Gho} {D : va_G} {cB cI cJ cZ cS cT : ClassId} (h0 : Nat) (h_trial : Nat) (h_night : Nat) (h_tally : Nat) (v0_found : Int32) (v0_firstFound : Int32) (v0_prettiestLaw : Int32) (v0_mostPips : Int32) (v0_withoutPip : Int32) (f_tally : Nat → Int32)  (C : Cx p s m args c RX3 cX3_stepToAsk 5 G D (tyL cB cI cJ cZ cS cT)) (hP : va_P D vwCl [(h0, .inr (3, [.ref h_trial, .ref h_night, .ref h_tally, .int v0_found, .int v0_firstFound, .int v0_prettiestLaw, .int v0_mostPips, .int v0_withoutPip])), (h_tally, .inl (cI, 610, .inl f_tally))] s.heap) (ret : RroI p l e ({ frames := 2, cells := 0, slots := 0, locals := 36 }) s m args below meth c cX3_stepToAsk (fun r : Int32 => True) Q) :
    ∀ (N : Nat) (l9_3 : Int32) (l9_2 : Int32) (l9_1 : Int32) (ls : Array Slot), 0 ≤ l9_3.toInt ∧ l9_3.toInt ≤ 61 → (61 - l9_3.toInt).toNat < N → lv_has ls 5 [(3, .int l9_3), (2, .int l9_2), (1, .int l9_1), (0, .ref h0)] → W p l e ({ frames := 2, cells := 0, slots := 0, locals := 36 }) s m args below meth c s.heap [] 0 0 Q (F0 m 9 ls []) := by
  obtain ⟨hx, hb, hml, hown, hts, hK, hN, hT⟩ := id C
  intro N
  induction N with
  | zero =>
    intro l9_3 l9_2 l9_1 ls kl9_3 hM_9 hl
    omega
  | succ N_9 ih_9 =>
    intro l9_3 l9_2 l9_1 ls kl9_3 hM_9 hl
    have b_l9_3 := i32b l9_3
    refine lv_iload_n hx hb dX3_stepToAsk_9 rfl (lv_at hl 0 rfl) ?_
    refine lv_bipush (v := 61) hx hb dX3_stepToAsk_10 (by decide) ?_
    refine lv_icmp_ge (tgt := 39) hx hb dX3_stepToAsk_12 (by decide) (fun c_1 => ?_) (fun c_1 => ?_)
    · have c_1 : 61 ≤ l9_3.toInt := ci_ge_t c_1
      refine lv_iload_n hx hb dX3_stepToAsk_39 rfl (lv_at hl 2 rfl) ?_
      exact ret _ _ _ dX3_stepToAsk_40 trivial
    · have c_1 : l9_3.toInt < 61 := ci_ge_f c_1
      refine lv_aload_n hx hb dX3_stepToAsk_15 rfl (lv_at hl 3 rfl) ?_
      refine lv_iload_n hx hb dX3_stepToAsk_16 rfl (lv_at hl 0 rfl) ?_
      refine roi (As := [.int l9_3]) (rest := []) ⟨hx, hb, hml, hown, hts⟩ (b_X3_leftAtWorst l G D cB cI cJ cZ cS cT h0 h_trial h_night h_tally v0_found v0_firstFound v0_prettiestLaw v0_mostPips v0_withoutPip f_tally l9_3 ) (cvB (n := 1) (inr55 _ (List.mem_of_getElem? (i := 12) rfl)) (inr55 _ (List.mem_of_getElem? (i := 13) rfl)) (inr55 _ (List.mem_of_getElem? (i := 14) rfl)) (inr3 _ (List.mem_of_getElem? (i := 0) rfl)) (inr55 _ (List.mem_of_getElem? (i := 15) rfl)) (by decide +kernel) hts rfl rfl ⟨Nat.le_of_ble_eq_true rfl, Nat.le_of_ble_eq_true rfl⟩) 0 3 rfl rfl rfl (hP.sub [0, 1] rfl) hK hN hT rfl hl.1 rfl (Nat.le_of_ble_eq_true rfl) ⟨Nat.le_of_ble_eq_true rfl, Nat.le_of_ble_eq_true rfl⟩ dX3_stepToAsk_17 (fun r_2 h_3 => ?_)
      refine lv_istore (lv' := [(4, .int r_2), (3, .int l9_3), (2, .int l9_2), (1, .int l9_1), (0, .ref h0)]) hx hb dX3_stepToAsk_20 hl (by decide) rfl (fun ls hl => ?_)
      refine lv_iload hx hb dX3_stepToAsk_22 (lv_at hl 0 rfl) ?_
      refine lv_iload_n hx hb dX3_stepToAsk_24 rfl (lv_at hl 2 rfl) ?_
      refine lv_icmp_ge (tgt := 33) hx hb dX3_stepToAsk_25 (by decide) (fun c_4 => ?_) (fun c_4 => ?_)
      · have c_4 : l9_2.toInt ≤ r_2.toInt := ci_ge_t c_4
        have b_r_2 := i32b r_2
        have b_l9_2 := i32b l9_2
        obtain ⟨t_5, et_5⟩ : ∃ v9 : Int32, l9_3 + 1 = v9 := ⟨_, rfl⟩
        have ft_5 : t_5.toInt = l9_3.toInt + 1 := addT (a := l9_3.toInt) (b := 1) rfl (by decide) et_5 (by omega) (by omega)
        refine lv_iinc (v := t_5) (lv' := [(3, .int t_5), (4, .int r_2), (2, .int l9_2), (1, .int l9_1), (0, .ref h0)]) hx hb dX3_stepToAsk_33 hl (k := 1) rfl (by rw [← et_5]; rfl) (by decide) rfl (fun ls hl => ?_)
        refine lv_goto (tgt := 9) hx hb dX3_stepToAsk_36 (by decide) ?_
        exact ih_9 (t_5) (l9_2) (l9_1) _ (by first | assumption | omega | decide) (by omega) (lv_sub hl [0, 2, 3, 4] rfl)
      · have c_4 : r_2.toInt < l9_2.toInt := ci_ge_f c_4
        have b_r_2 := i32b r_2
        have b_l9_2 := i32b l9_2
        refine lv_iload_n hx hb dX3_stepToAsk_28 rfl (lv_at hl 1 rfl) ?_
        refine lv_istore_n (lv' := [(1, .int l9_3), (4, .int r_2), (3, .int l9_3), (2, .int l9_2), (0, .ref h0)]) hx hb dX3_stepToAsk_29 rfl hl (by decide) rfl (fun ls hl => ?_)
        refine lv_iload hx hb dX3_stepToAsk_30 (lv_at hl 1 rfl) ?_
        refine lv_istore_n (lv' := [(2, .int r_2), (1, .int l9_3), (4, .int r_2), (3, .int l9_3), (0, .ref h0)]) hx hb dX3_stepToAsk_32 rfl hl (by decide) rfl (fun ls hl => ?_)
        obtain ⟨t_6, et_6⟩ : ∃ v9 : Int32, l9_3 + 1 = v9 := ⟨_, rfl⟩
        have ft_6 : t_6.toInt = l9_3.toInt + 1 := addT (a := l9_3.toInt) (b := 1) rfl (by decide) et_6 (by omega) (by omega)
        refine lv_iinc (v := t_6) (lv' := [(3, .int t_6), (2, .int r_2), (1, .int l9_3), (4, .int r_2), (0, .ref h0)]) hx hb dX3_stepToAsk_33 hl (k := 3) rfl (by rw [← et_6]; rfl) (by decide) rfl (fun ls hl => ?_)
        refine lv_goto (tgt := 9) hx hb dX3_stepToAsk_36 (by decide) ?_
        exact ih_9 (t_6) (r_2) (l9_3) _ (by first | assumption | omega | decide) (by omega) (lv_sub hl [0, 1, 2, 4] rfl)

set_option maxHeartbeats 4000000 in
set_option maxRecDepth 100000 in
theorem b_X3_stepToAsk (l : Launch) (G : Gho) (D : va_G) (cB cI cJ cZ cS cT : ClassId) (h0 : Nat) (h_trial : Nat) (h_night : Nat) (h_tally : Nat) (v0_found : Int32) (v0_firstFound : Int32) (v0_prettiestLaw : Int32) (v0_mostPips : Int32) (v0_withoutPip : Int32) (f_tally : Nat → Int32)  : Met l yX3_stepToAsk (Cond.code yX3_stepToAsk cX3_stepToAsk 5 (some .int) :: wsL_law) ({ frames := 2, cells := 0, slots := 0, locals := 36 }) (roP G D (tyL cB cI cJ cZ cS cT) [(h0, .inr (3, [.ref h_trial, .ref h_night, .ref h_tally, .int v0_found, .int v0_firstFound, .int v0_prettiestLaw, .int v0_mostPips, .int v0_withoutPip])), (h_tally, .inl (cI, 610, .inl f_tally))] [.ref h0]) (vp_Si (fun r : Int32 => True)) 0 0 (fun _ => False) := by
  refine metRO (own := RX3) (by decide) rfl ?_
  intro p e s m below meth c Q C hP ret
  obtain ⟨hx, hb, hml, hown, hts, hK, hN, hT⟩ := id C
  have hl := lv_entry ([.ref h0]) (n := 5) (Nat.le_of_ble_eq_true rfl)
  rw [lg_entry_eq]
  generalize (lg_sl ([.ref h0]) ++ List.replicate (5 - (lg_sl ([.ref h0])).length) Slot.unset).toArray = ls at hl ⊢
  have hl : lv_has ls 5 [(0, .ref h0)] := hl
  have hP : va_P D vwCl [(h0, .inr (3, [.ref h_trial, .ref h_night, .ref h_tally, .int v0_found, .int v0_firstFound, .int v0_prettiestLaw, .int v0_mostPips, .int v0_withoutPip])), (h_tally, .inl (cI, 610, .inl f_tally))] s.heap := hP
  refine lv_iconst (v := (-1)) hx hb dX3_stepToAsk_0 (by decide) ?_
  refine lv_istore_n (lv' := [(1, .int (-1)), (0, .ref h0)]) hx hb dX3_stepToAsk_1 rfl hl (by decide) rfl (fun ls hl => ?_)
  refine lv_aload_n hx hb dX3_stepToAsk_2 rfl (lv_at hl 1 rfl) ?_
  refine va_get (D := D) (ci := 3) (v := .int v0_found) (C := RX3) (T := TX3) (N := 8) hx hb hts inlX3 hown hK hP 0 rfl rfl 3 (by decide) (hts _ (inr52 _ (List.mem_of_getElem? (i := 17) rfl))) (fun _ h9 => h9) rfl dX3_stepToAsk_3 ?_
  refine lv_istore_n (lv' := [(2, .int v0_found), (1, .int (-1)), (0, .ref h0)]) hx hb dX3_stepToAsk_6 rfl hl (by decide) rfl (fun ls hl => ?_)
  refine lv_iconst (v := 0) hx hb dX3_stepToAsk_7 (by decide) ?_
  refine lv_istore_n (lv' := [(3, .int 0), (2, .int v0_found), (1, .int (-1)), (0, .ref h0)]) hx hb dX3_stepToAsk_8 rfl hl (by decide) rfl (fun ls hl => ?_)
  exact b_X3_stepToAsk_l9 h0 h_trial h_night h_tally v0_found v0_firstFound v0_prettiestLaw v0_mostPips v0_withoutPip f_tally  C (hP.sub [0, 1] rfl) ret _ (0) (v0_found) ((-1)) _ (by first | assumption | omega | decide) (Nat.lt_succ_self _) (lv_sub hl [0, 1, 2, 3] rfl)

set_option maxHeartbeats 4000000 in
set_option maxRecDepth 100000 in
theorem b_X4_lastAhead (l : Launch) (G : Gho) (D : va_G) (cB cI cJ cZ cS cT : ClassId) (h0 : Nat) (h_tones : Nat) (h_lasts : Nat) (h_answers : Nat) (h_pip : Nat) (f_lasts : Nat → Int32) (v1 : Int32)  : Met l yX4_lastAhead (Cond.code yX4_lastAhead cX4_lastAhead 2 (some .int) :: wsL_law) ({ frames := 0, cells := 0, slots := 0, locals := 0 }) (roP G D (tyL cB cI cJ cZ cS cT) [(h0, .inr (4, [.ref h_tones, .ref h_lasts, .ref h_answers, .ref h_pip])), (h_lasts, .inl (cI, 61, .inl f_lasts))] [.ref h0, .int v1]) (vp_Si (fun r : Int32 => True)) 0 0 (fun _ => False) := by
  refine metRO (own := RX4) (by decide) rfl ?_
  intro p e s m below meth c Q C hP ret
  obtain ⟨hx, hb, hml, hown, hts, hK, hN, hT⟩ := id C
  have hl := lv_entry ([.ref h0, .int v1]) (n := 2) (Nat.le_of_ble_eq_true rfl)
  rw [lg_entry_eq]
  generalize (lg_sl ([.ref h0, .int v1]) ++ List.replicate (2 - (lg_sl ([.ref h0, .int v1])).length) Slot.unset).toArray = ls at hl ⊢
  have hl : lv_has ls 2 [(0, .ref h0), (1, .int v1)] := hl
  have hP : va_P D vwCl [(h0, .inr (4, [.ref h_tones, .ref h_lasts, .ref h_answers, .ref h_pip])), (h_lasts, .inl (cI, 61, .inl f_lasts))] s.heap := hP
  refine lv_iload_n hx hb dX4_lastAhead_0 rfl (lv_at hl 1 rfl) ?_
  refine lv_if_lt (tgt := 19) hx hb dX4_lastAhead_1 (by decide) (fun c_1 => ?_) (fun c_1 => ?_)
  · have c_1 : v1.toInt < 0 := ci_lt_t c_1
    have b_v1 := i32b v1
    refine lv_iconst (v := 0) hx hb dX4_lastAhead_19 (by decide) ?_
    exact ret _ _ _ dX4_lastAhead_20 trivial
  · have c_1 : 0 ≤ v1.toInt := ci_lt_f c_1
    have b_v1 := i32b v1
    refine lv_iload_n hx hb dX4_lastAhead_4 rfl (lv_at hl 1 rfl) ?_
    refine lv_bipush (v := 61) hx hb dX4_lastAhead_5 (by decide) ?_
    refine lv_icmp_ge (tgt := 19) hx hb dX4_lastAhead_7 (by decide) (fun c_2 => ?_) (fun c_2 => ?_)
    · have c_2 : 61 ≤ v1.toInt := ci_ge_t c_2
      refine lv_iconst (v := 0) hx hb dX4_lastAhead_19 (by decide) ?_
      exact ret _ _ _ dX4_lastAhead_20 trivial
    · have c_2 : v1.toInt < 61 := ci_ge_f c_2
      refine lv_aload_n hx hb dX4_lastAhead_10 rfl (lv_at hl 0 rfl) ?_
      refine va_get (D := D) (ci := 4) (v := .ref h_lasts) (C := RX4) (T := TX4) (N := 4) hx hb hts inlX4 hown hK hP 0 rfl rfl 1 (by decide) (hts _ (inr5 _ (List.mem_of_getElem? (i := 3) rfl))) (fun _ h9 => h9) rfl dX4_lastAhead_11 ?_
      refine lv_iload_n hx hb dX4_lastAhead_14 rfl (lv_at hl 1 rfl) ?_
      obtain ⟨t_3, et_3⟩ : ∃ v9 : Int32, f_lasts (v1 : Int32).toNatClampNeg = v9 := ⟨_, rfl⟩
      refine z_iald (v := t_3) hx hb hK hP 1 1 rfl rfl (vin_nat (by omega) (by omega)) et_3 dX4_lastAhead_15 ?_
      refine lv_goto (tgt := 20) hx hb dX4_lastAhead_16 (by decide) ?_
      exact ret _ _ _ dX4_lastAhead_20 trivial

set_option maxHeartbeats 4000000 in
set_option maxRecDepth 100000 in
theorem b_X4_answerAhead (l : Launch) (G : Gho) (D : va_G) (cB cI cJ cZ cS cT : ClassId) (h0 : Nat) (h_tones : Nat) (h_lasts : Nat) (h_answers : Nat) (h_pip : Nat) (f_answers : Nat → Int32) (v1 : Int32)  : Met l yX4_answerAhead (Cond.code yX4_answerAhead cX4_answerAhead 2 (some .int) :: wsL_law) ({ frames := 0, cells := 0, slots := 0, locals := 0 }) (roP G D (tyL cB cI cJ cZ cS cT) [(h0, .inr (4, [.ref h_tones, .ref h_lasts, .ref h_answers, .ref h_pip])), (h_answers, .inl (cI, 61, .inl f_answers))] [.ref h0, .int v1]) (vp_Si (fun r : Int32 => True)) 0 0 (fun _ => False) := by
  refine metRO (own := RX4) (by decide) rfl ?_
  intro p e s m below meth c Q C hP ret
  obtain ⟨hx, hb, hml, hown, hts, hK, hN, hT⟩ := id C
  have hl := lv_entry ([.ref h0, .int v1]) (n := 2) (Nat.le_of_ble_eq_true rfl)
  rw [lg_entry_eq]
  generalize (lg_sl ([.ref h0, .int v1]) ++ List.replicate (2 - (lg_sl ([.ref h0, .int v1])).length) Slot.unset).toArray = ls at hl ⊢
  have hl : lv_has ls 2 [(0, .ref h0), (1, .int v1)] := hl
  have hP : va_P D vwCl [(h0, .inr (4, [.ref h_tones, .ref h_lasts, .ref h_answers, .ref h_pip])), (h_answers, .inl (cI, 61, .inl f_answers))] s.heap := hP
  refine lv_iload_n hx hb dX4_answerAhead_0 rfl (lv_at hl 1 rfl) ?_
  refine lv_if_lt (tgt := 19) hx hb dX4_answerAhead_1 (by decide) (fun c_1 => ?_) (fun c_1 => ?_)
  · have c_1 : v1.toInt < 0 := ci_lt_t c_1
    have b_v1 := i32b v1
    refine lv_iconst (v := 0) hx hb dX4_answerAhead_19 (by decide) ?_
    exact ret _ _ _ dX4_answerAhead_20 trivial
  · have c_1 : 0 ≤ v1.toInt := ci_lt_f c_1
    have b_v1 := i32b v1
    refine lv_iload_n hx hb dX4_answerAhead_4 rfl (lv_at hl 1 rfl) ?_
    refine lv_bipush (v := 61) hx hb dX4_answerAhead_5 (by decide) ?_
    refine lv_icmp_ge (tgt := 19) hx hb dX4_answerAhead_7 (by decide) (fun c_2 => ?_) (fun c_2 => ?_)
    · have c_2 : 61 ≤ v1.toInt := ci_ge_t c_2
      refine lv_iconst (v := 0) hx hb dX4_answerAhead_19 (by decide) ?_
      exact ret _ _ _ dX4_answerAhead_20 trivial
    · have c_2 : v1.toInt < 61 := ci_ge_f c_2
      refine lv_aload_n hx hb dX4_answerAhead_10 rfl (lv_at hl 0 rfl) ?_
      refine va_get (D := D) (ci := 4) (v := .ref h_answers) (C := RX4) (T := TX4) (N := 4) hx hb hts inlX4 hown hK hP 0 rfl rfl 2 (by decide) (hts _ (inr5 _ (List.mem_of_getElem? (i := 4) rfl))) (fun _ h9 => h9) rfl dX4_answerAhead_11 ?_
      refine lv_iload_n hx hb dX4_answerAhead_14 rfl (lv_at hl 1 rfl) ?_
      obtain ⟨t_3, et_3⟩ : ∃ v9 : Int32, f_answers (v1 : Int32).toNatClampNeg = v9 := ⟨_, rfl⟩
      refine z_iald (v := t_3) hx hb hK hP 1 1 rfl rfl (vin_nat (by omega) (by omega)) et_3 dX4_answerAhead_15 ?_
      refine lv_goto (tgt := 20) hx hb dX4_answerAhead_16 (by decide) ?_
      exact ret _ _ _ dX4_answerAhead_20 trivial

set_option maxHeartbeats 4000000 in
set_option maxRecDepth 100000 in
theorem b_X4_isPip (l : Launch) (G : Gho) (D : va_G) (cB cI cJ cZ cS cT : ClassId) (h0 : Nat) (h_tones : Nat) (h_lasts : Nat) (h_answers : Nat) (h_pip : Nat) (f_pip : Nat → Int32) (v1 : Int32)  : Met l yX4_isPip (Cond.code yX4_isPip cX4_isPip 2 (some .boolean) :: wsL_law) ({ frames := 0, cells := 0, slots := 0, locals := 0 }) (roP G D (tyL cB cI cJ cZ cS cT) [(h0, .inr (4, [.ref h_tones, .ref h_lasts, .ref h_answers, .ref h_pip])), (h_pip, .inl (cZ, 61, .inl f_pip))] [.ref h0, .int v1]) (vp_Si (fun r : Int32 => (r = 0 ∨ r = 1))) 0 0 (fun _ => False) := by
  refine metROZ (own := RX4) (by decide) rfl (fun r h => h) ?_
  intro p e s m below meth c Q C hP ret
  obtain ⟨hx, hb, hml, hown, hts, hK, hN, hT⟩ := id C
  have hl := lv_entry ([.ref h0, .int v1]) (n := 2) (Nat.le_of_ble_eq_true rfl)
  rw [lg_entry_eq]
  generalize (lg_sl ([.ref h0, .int v1]) ++ List.replicate (2 - (lg_sl ([.ref h0, .int v1])).length) Slot.unset).toArray = ls at hl ⊢
  have hl : lv_has ls 2 [(0, .ref h0), (1, .int v1)] := hl
  have hP : va_P D vwCl [(h0, .inr (4, [.ref h_tones, .ref h_lasts, .ref h_answers, .ref h_pip])), (h_pip, .inl (cZ, 61, .inl f_pip))] s.heap := hP
  refine lv_iload_n hx hb dX4_isPip_0 rfl (lv_at hl 1 rfl) ?_
  refine lv_if_lt (tgt := 23) hx hb dX4_isPip_1 (by decide) (fun c_1 => ?_) (fun c_1 => ?_)
  · have c_1 : v1.toInt < 0 := ci_lt_t c_1
    have b_v1 := i32b v1
    refine lv_iconst (v := 0) hx hb dX4_isPip_23 (by decide) ?_
    have hr9 : (0 : Int32).toInt = 0 := by decide
    exact ret _ _ _ dX4_isPip_24 (show ((0 : Int32) = 0 ∨ (0 : Int32) = 1) from (Or.inl rfl))
  · have c_1 : 0 ≤ v1.toInt := ci_lt_f c_1
    have b_v1 := i32b v1
    refine lv_iload_n hx hb dX4_isPip_4 rfl (lv_at hl 1 rfl) ?_
    refine lv_bipush (v := 61) hx hb dX4_isPip_5 (by decide) ?_
    refine lv_icmp_ge (tgt := 23) hx hb dX4_isPip_7 (by decide) (fun c_2 => ?_) (fun c_2 => ?_)
    · have c_2 : 61 ≤ v1.toInt := ci_ge_t c_2
      refine lv_iconst (v := 0) hx hb dX4_isPip_23 (by decide) ?_
      have hr9 : (0 : Int32).toInt = 0 := by decide
      exact ret _ _ _ dX4_isPip_24 (show ((0 : Int32) = 0 ∨ (0 : Int32) = 1) from (Or.inl rfl))
    · have c_2 : v1.toInt < 61 := ci_ge_f c_2
      refine lv_aload_n hx hb dX4_isPip_10 rfl (lv_at hl 0 rfl) ?_
      refine va_get (D := D) (ci := 4) (v := .ref h_pip) (C := RX4) (T := TX4) (N := 4) hx hb hts inlX4 hown hK hP 0 rfl rfl 3 (by decide) (hts _ (inr5 _ (List.mem_of_getElem? (i := 5) rfl))) (fun _ h9 => h9) rfl dX4_isPip_11 ?_
      refine lv_iload_n hx hb dX4_isPip_14 rfl (lv_at hl 1 rfl) ?_
      obtain ⟨t_3, et_3⟩ : ∃ v9 : Int32, f_pip (v1 : Int32).toNatClampNeg = v9 := ⟨_, rfl⟩
      refine z_zald (v := t_3) hx hb hK hP 1 3 rfl rfl (vin_nat (by omega) (by omega)) et_3 dX4_isPip_15 ?_
      refine lv_if_eq (tgt := 23) hx hb dX4_isPip_16 (by decide) (fun c_4 => ?_) (fun c_4 => ?_)
      · have c_4 : t_3.toInt = 0 := ci_eq_t c_4
        have b_t_3 := i32b t_3
        refine lv_iconst (v := 0) hx hb dX4_isPip_23 (by decide) ?_
        have hr9 : (0 : Int32).toInt = 0 := by decide
        exact ret _ _ _ dX4_isPip_24 (show ((0 : Int32) = 0 ∨ (0 : Int32) = 1) from (Or.inl rfl))
      · have c_4 : ¬ t_3.toInt = 0 := ci_eq_f c_4
        have b_t_3 := i32b t_3
        refine lv_iconst (v := 1) hx hb dX4_isPip_19 (by decide) ?_
        refine lv_goto (tgt := 24) hx hb dX4_isPip_20 (by decide) ?_
        have hr9 : (1 : Int32).toInt = 1 := by decide
        exact ret _ _ _ dX4_isPip_24 (show ((1 : Int32) = 0 ∨ (1 : Int32) = 1) from (Or.inr rfl))

set_option maxHeartbeats 4000000 in
set_option maxRecDepth 100000 in
theorem b_X4_stepOfPip_l4 {p : Program} {l : Launch} {e : Env} {s : State} {m : MethodId} {args : Array Value} {below : List Frame} {meth : Method} {c : Code} {Q : State → Prop} {G : Gho} {D : va_G} {cB cI cJ cZ cS cT : ClassId} (h0 : Nat) (h_tones : Nat) (h_lasts : Nat) (h_answers : Nat) (h_pip : Nat) (f_pip : Nat → Int32) (v1 : Int32)  (C : Cx p s m args c RX4 cX4_stepOfPip 4 G D (tyL cB cI cJ cZ cS cT)) (hP : va_P D vwCl [(h0, .inr (4, [.ref h_tones, .ref h_lasts, .ref h_answers, .ref h_pip])), (h_pip, .inl (cZ, 61, .inl f_pip))] s.heap) (ret : RroI p l e ({ frames := 0, cells := 0, slots := 0, locals := 0 }) s m args below meth c cX4_stepOfPip (fun r : Int32 => True) Q) :
    ∀ (N : Nat) (l4_3 : Int32) (l4_2 : Int32) (ls : Array Slot), 0 ≤ l4_3.toInt ∧ l4_3.toInt ≤ 61 → (61 - l4_3.toInt).toNat < N → lv_has ls 4 [(3, .int l4_3), (2, .int l4_2), (0, .ref h0), (1, .int v1)] → W p l e ({ frames := 0, cells := 0, slots := 0, locals := 0 }) s m args below meth c s.heap [] 0 0 Q (F0 m 4 ls []) := by
  obtain ⟨hx, hb, hml, hown, hts, hK, hN, hT⟩ := id C
  intro N
  induction N with
  | zero =>
    intro l4_3 l4_2 ls kl4_3 hM_4 hl
    omega
  | succ N_4 ih_4 =>
    intro l4_3 l4_2 ls kl4_3 hM_4 hl
    have b_l4_3 := i32b l4_3
    refine lv_iload_n hx hb dX4_stepOfPip_4 rfl (lv_at hl 0 rfl) ?_
    refine lv_bipush (v := 61) hx hb dX4_stepOfPip_5 (by decide) ?_
    refine lv_icmp_ge (tgt := 35) hx hb dX4_stepOfPip_7 (by decide) (fun c_1 => ?_) (fun c_1 => ?_)
    · have c_1 : 61 ≤ l4_3.toInt := ci_ge_t c_1
      refine lv_iconst (v := (-1)) hx hb dX4_stepOfPip_35 (by decide) ?_
      exact ret _ _ _ dX4_stepOfPip_36 trivial
    · have c_1 : l4_3.toInt < 61 := ci_ge_f c_1
      refine lv_aload_n hx hb dX4_stepOfPip_10 rfl (lv_at hl 2 rfl) ?_
      refine va_get (D := D) (ci := 4) (v := .ref h_pip) (C := RX4) (T := TX4) (N := 4) hx hb hts inlX4 hown hK hP 0 rfl rfl 3 (by decide) (hts _ (inr5 _ (List.mem_of_getElem? (i := 5) rfl))) (fun _ h9 => h9) rfl dX4_stepOfPip_11 ?_
      refine lv_iload_n hx hb dX4_stepOfPip_14 rfl (lv_at hl 0 rfl) ?_
      obtain ⟨t_2, et_2⟩ : ∃ v9 : Int32, f_pip (l4_3 : Int32).toNatClampNeg = v9 := ⟨_, rfl⟩
      refine z_zald (v := t_2) hx hb hK hP 1 3 rfl rfl (vin_nat (by omega) (by omega)) et_2 dX4_stepOfPip_15 ?_
      refine lv_if_eq (tgt := 29) hx hb dX4_stepOfPip_16 (by decide) (fun c_3 => ?_) (fun c_3 => ?_)
      · have c_3 : t_2.toInt = 0 := ci_eq_t c_3
        have b_t_2 := i32b t_2
        obtain ⟨t_4, et_4⟩ : ∃ v9 : Int32, l4_3 + 1 = v9 := ⟨_, rfl⟩
        have ft_4 : t_4.toInt = l4_3.toInt + 1 := addT (a := l4_3.toInt) (b := 1) rfl (by decide) et_4 (by omega) (by omega)
        refine lv_iinc (v := t_4) (lv' := [(3, .int t_4), (2, .int l4_2), (0, .ref h0), (1, .int v1)]) hx hb dX4_stepOfPip_29 hl (k := 0) rfl (by rw [← et_4]; rfl) (by decide) rfl (fun ls hl => ?_)
        refine lv_goto (tgt := 4) hx hb dX4_stepOfPip_32 (by decide) ?_
        exact ih_4 (t_4) (l4_2) _ (by first | assumption | omega | decide) (by omega) (lv_sub hl [0, 1, 2, 3] rfl)
      · have c_3 : ¬ t_2.toInt = 0 := ci_eq_f c_3
        have b_t_2 := i32b t_2
        refine lv_iload_n hx hb dX4_stepOfPip_19 rfl (lv_at hl 1 rfl) ?_
        refine lv_iload_n hx hb dX4_stepOfPip_20 rfl (lv_at hl 3 rfl) ?_
        refine lv_icmp_ne (tgt := 26) hx hb dX4_stepOfPip_21 (by decide) (fun c_5 => ?_) (fun c_5 => ?_)
        · have c_5 : ¬ l4_2.toInt = v1.toInt := ci_ne_t c_5
          have b_l4_2 := i32b l4_2
          have b_v1 := i32b v1
          obtain ⟨t_6, et_6⟩ : ∃ v9 : Int32, l4_2 + 1 = v9 := ⟨_, rfl⟩
          refine lv_iinc (v := t_6) (lv' := [(2, .int t_6), (3, .int l4_3), (0, .ref h0), (1, .int v1)]) hx hb dX4_stepOfPip_26 hl (k := 1) rfl (by rw [← et_6]; rfl) (by decide) rfl (fun ls hl => ?_)
          obtain ⟨t_7, et_7⟩ : ∃ v9 : Int32, l4_3 + 1 = v9 := ⟨_, rfl⟩
          have ft_7 : t_7.toInt = l4_3.toInt + 1 := addT (a := l4_3.toInt) (b := 1) rfl (by decide) et_7 (by omega) (by omega)
          refine lv_iinc (v := t_7) (lv' := [(3, .int t_7), (2, .int t_6), (0, .ref h0), (1, .int v1)]) hx hb dX4_stepOfPip_29 hl (k := 1) rfl (by rw [← et_7]; rfl) (by decide) rfl (fun ls hl => ?_)
          refine lv_goto (tgt := 4) hx hb dX4_stepOfPip_32 (by decide) ?_
          exact ih_4 (t_7) (t_6) _ (by first | assumption | omega | decide) (by omega) (lv_sub hl [0, 1, 2, 3] rfl)
        · have c_5 : l4_2.toInt = v1.toInt := ci_ne_f c_5
          have b_l4_2 := i32b l4_2
          have b_v1 := i32b v1
          refine lv_iload_n hx hb dX4_stepOfPip_24 rfl (lv_at hl 0 rfl) ?_
          exact ret _ _ _ dX4_stepOfPip_25 trivial

set_option maxHeartbeats 4000000 in
set_option maxRecDepth 100000 in
theorem b_X4_stepOfPip (l : Launch) (G : Gho) (D : va_G) (cB cI cJ cZ cS cT : ClassId) (h0 : Nat) (h_tones : Nat) (h_lasts : Nat) (h_answers : Nat) (h_pip : Nat) (f_pip : Nat → Int32) (v1 : Int32)  : Met l yX4_stepOfPip (Cond.code yX4_stepOfPip cX4_stepOfPip 4 (some .int) :: wsL_law) ({ frames := 0, cells := 0, slots := 0, locals := 0 }) (roP G D (tyL cB cI cJ cZ cS cT) [(h0, .inr (4, [.ref h_tones, .ref h_lasts, .ref h_answers, .ref h_pip])), (h_pip, .inl (cZ, 61, .inl f_pip))] [.ref h0, .int v1]) (vp_Si (fun r : Int32 => True)) 0 0 (fun _ => False) := by
  refine metRO (own := RX4) (by decide) rfl ?_
  intro p e s m below meth c Q C hP ret
  obtain ⟨hx, hb, hml, hown, hts, hK, hN, hT⟩ := id C
  have hl := lv_entry ([.ref h0, .int v1]) (n := 4) (Nat.le_of_ble_eq_true rfl)
  rw [lg_entry_eq]
  generalize (lg_sl ([.ref h0, .int v1]) ++ List.replicate (4 - (lg_sl ([.ref h0, .int v1])).length) Slot.unset).toArray = ls at hl ⊢
  have hl : lv_has ls 4 [(0, .ref h0), (1, .int v1)] := hl
  have hP : va_P D vwCl [(h0, .inr (4, [.ref h_tones, .ref h_lasts, .ref h_answers, .ref h_pip])), (h_pip, .inl (cZ, 61, .inl f_pip))] s.heap := hP
  refine lv_iconst (v := 0) hx hb dX4_stepOfPip_0 (by decide) ?_
  refine lv_istore_n (lv' := [(2, .int 0), (0, .ref h0), (1, .int v1)]) hx hb dX4_stepOfPip_1 rfl hl (by decide) rfl (fun ls hl => ?_)
  refine lv_iconst (v := 0) hx hb dX4_stepOfPip_2 (by decide) ?_
  refine lv_istore_n (lv' := [(3, .int 0), (2, .int 0), (0, .ref h0), (1, .int v1)]) hx hb dX4_stepOfPip_3 rfl hl (by decide) rfl (fun ls hl => ?_)
  exact b_X4_stepOfPip_l4 h0 h_tones h_lasts h_answers h_pip f_pip v1  C (hP.sub [0, 1] rfl) ret _ (0) (0) _ (by first | assumption | omega | decide) (Nat.lt_succ_self _) (lv_sub hl [0, 1, 2, 3] rfl)

set_option maxHeartbeats 4000000 in
set_option maxRecDepth 100000 in
theorem b_X4_firstStepOf_l2 {p : Program} {l : Launch} {e : Env} {s : State} {m : MethodId} {args : Array Value} {below : List Frame} {meth : Method} {c : Code} {Q : State → Prop} {G : Gho} {D : va_G} {cB cI cJ cZ cS cT : ClassId} (h0 : Nat) (h_tones : Nat) (h_lasts : Nat) (h_answers : Nat) (h_pip : Nat) (f_tones : Nat → Int32) (v1 : Int32)  (C : Cx p s m args c RX4 cX4_firstStepOf 3 G D (tyL cB cI cJ cZ cS cT)) (hP : va_P D vwCl [(h0, .inr (4, [.ref h_tones, .ref h_lasts, .ref h_answers, .ref h_pip])), (h_tones, .inl (cI, 61, .inl f_tones))] s.heap) (ret : RroI p l e ({ frames := 0, cells := 0, slots := 0, locals := 0 }) s m args below meth c cX4_firstStepOf (fun r : Int32 => True) Q) :
    ∀ (N : Nat) (l2_2 : Int32) (ls : Array Slot), 0 ≤ l2_2.toInt ∧ l2_2.toInt ≤ 61 → (61 - l2_2.toInt).toNat < N → lv_has ls 3 [(2, .int l2_2), (0, .ref h0), (1, .int v1)] → W p l e ({ frames := 0, cells := 0, slots := 0, locals := 0 }) s m args below meth c s.heap [] 0 0 Q (F0 m 2 ls []) := by
  obtain ⟨hx, hb, hml, hown, hts, hK, hN, hT⟩ := id C
  intro N
  induction N with
  | zero =>
    intro l2_2 ls kl2_2 hM_2 hl
    omega
  | succ N_2 ih_2 =>
    intro l2_2 ls kl2_2 hM_2 hl
    have b_l2_2 := i32b l2_2
    refine lv_iload_n hx hb dX4_firstStepOf_2 rfl (lv_at hl 0 rfl) ?_
    refine lv_bipush (v := 61) hx hb dX4_firstStepOf_3 (by decide) ?_
    refine lv_icmp_ge (tgt := 26) hx hb dX4_firstStepOf_5 (by decide) (fun c_1 => ?_) (fun c_1 => ?_)
    · have c_1 : 61 ≤ l2_2.toInt := ci_ge_t c_1
      refine lv_iconst (v := (-1)) hx hb dX4_firstStepOf_26 (by decide) ?_
      exact ret _ _ _ dX4_firstStepOf_27 trivial
    · have c_1 : l2_2.toInt < 61 := ci_ge_f c_1
      refine lv_aload_n hx hb dX4_firstStepOf_8 rfl (lv_at hl 1 rfl) ?_
      refine va_get (D := D) (ci := 4) (v := .ref h_tones) (C := RX4) (T := TX4) (N := 4) hx hb hts inlX4 hown hK hP 0 rfl rfl 0 (by decide) (hts _ (inr5 _ (List.mem_of_getElem? (i := 2) rfl))) (fun _ h9 => h9) rfl dX4_firstStepOf_9 ?_
      refine lv_iload_n hx hb dX4_firstStepOf_12 rfl (lv_at hl 0 rfl) ?_
      obtain ⟨t_2, et_2⟩ : ∃ v9 : Int32, f_tones (l2_2 : Int32).toNatClampNeg = v9 := ⟨_, rfl⟩
      refine z_iald (v := t_2) hx hb hK hP 1 1 rfl rfl (vin_nat (by omega) (by omega)) et_2 dX4_firstStepOf_13 ?_
      refine lv_iload_n hx hb dX4_firstStepOf_14 rfl (lv_at hl 2 rfl) ?_
      refine lv_icmp_ne (tgt := 20) hx hb dX4_firstStepOf_15 (by decide) (fun c_3 => ?_) (fun c_3 => ?_)
      · have c_3 : ¬ t_2.toInt = v1.toInt := ci_ne_t c_3
        have b_t_2 := i32b t_2
        have b_v1 := i32b v1
        obtain ⟨t_4, et_4⟩ : ∃ v9 : Int32, l2_2 + 1 = v9 := ⟨_, rfl⟩
        have ft_4 : t_4.toInt = l2_2.toInt + 1 := addT (a := l2_2.toInt) (b := 1) rfl (by decide) et_4 (by omega) (by omega)
        refine lv_iinc (v := t_4) (lv' := [(2, .int t_4), (0, .ref h0), (1, .int v1)]) hx hb dX4_firstStepOf_20 hl (k := 0) rfl (by rw [← et_4]; rfl) (by decide) rfl (fun ls hl => ?_)
        refine lv_goto (tgt := 2) hx hb dX4_firstStepOf_23 (by decide) ?_
        exact ih_2 (t_4) _ (by first | assumption | omega | decide) (by omega) (lv_sub hl [0, 1, 2] rfl)
      · have c_3 : t_2.toInt = v1.toInt := ci_ne_f c_3
        have b_t_2 := i32b t_2
        have b_v1 := i32b v1
        refine lv_iload_n hx hb dX4_firstStepOf_18 rfl (lv_at hl 0 rfl) ?_
        exact ret _ _ _ dX4_firstStepOf_19 trivial

set_option maxHeartbeats 4000000 in
set_option maxRecDepth 100000 in
theorem b_X4_firstStepOf (l : Launch) (G : Gho) (D : va_G) (cB cI cJ cZ cS cT : ClassId) (h0 : Nat) (h_tones : Nat) (h_lasts : Nat) (h_answers : Nat) (h_pip : Nat) (f_tones : Nat → Int32) (v1 : Int32)  : Met l yX4_firstStepOf (Cond.code yX4_firstStepOf cX4_firstStepOf 3 (some .int) :: wsL_law) ({ frames := 0, cells := 0, slots := 0, locals := 0 }) (roP G D (tyL cB cI cJ cZ cS cT) [(h0, .inr (4, [.ref h_tones, .ref h_lasts, .ref h_answers, .ref h_pip])), (h_tones, .inl (cI, 61, .inl f_tones))] [.ref h0, .int v1]) (vp_Si (fun r : Int32 => True)) 0 0 (fun _ => False) := by
  refine metRO (own := RX4) (by decide) rfl ?_
  intro p e s m below meth c Q C hP ret
  obtain ⟨hx, hb, hml, hown, hts, hK, hN, hT⟩ := id C
  have hl := lv_entry ([.ref h0, .int v1]) (n := 3) (Nat.le_of_ble_eq_true rfl)
  rw [lg_entry_eq]
  generalize (lg_sl ([.ref h0, .int v1]) ++ List.replicate (3 - (lg_sl ([.ref h0, .int v1])).length) Slot.unset).toArray = ls at hl ⊢
  have hl : lv_has ls 3 [(0, .ref h0), (1, .int v1)] := hl
  have hP : va_P D vwCl [(h0, .inr (4, [.ref h_tones, .ref h_lasts, .ref h_answers, .ref h_pip])), (h_tones, .inl (cI, 61, .inl f_tones))] s.heap := hP
  refine lv_iconst (v := 0) hx hb dX4_firstStepOf_0 (by decide) ?_
  refine lv_istore_n (lv' := [(2, .int 0), (0, .ref h0), (1, .int v1)]) hx hb dX4_firstStepOf_1 rfl hl (by decide) rfl (fun ls hl => ?_)
  exact b_X4_firstStepOf_l2 h0 h_tones h_lasts h_answers h_pip f_tones v1  C (hP.sub [0, 1] rfl) ret _ (0) _ (by first | assumption | omega | decide) (Nat.lt_succ_self _) (lv_sub hl [0, 1, 2] rfl)

set_option maxHeartbeats 4000000 in
set_option maxRecDepth 100000 in
theorem b_X4_timesHeard_l5 {p : Program} {l : Launch} {e : Env} {s : State} {m : MethodId} {args : Array Value} {below : List Frame} {meth : Method} {c : Code} {Q : State → Prop} {G : Gho} {D : va_G} {cB cI cJ cZ cS cT : ClassId} (h0 : Nat) (h_tones : Nat) (h_lasts : Nat) (h_answers : Nat) (h_pip : Nat) (f_tones : Nat → Int32) (v1 : Int32) (v2 : Int32)  (C : Cx p s m args c RX4 cX4_timesHeard 5 G D (tyL cB cI cJ cZ cS cT)) (hP : va_P D vwCl [(h0, .inr (4, [.ref h_tones, .ref h_lasts, .ref h_answers, .ref h_pip])), (h_tones, .inl (cI, 61, .inl f_tones))] s.heap) (ret : RroI p l e ({ frames := 0, cells := 0, slots := 0, locals := 0 }) s m args below meth c cX4_timesHeard (fun r : Int32 => True) Q) :
    ∀ (N : Nat) (l5_4 : Int32) (l5_3 : Int32) (ls : Array Slot), 0 ≤ l5_4.toInt → (v2.toInt - l5_4.toInt + 1).toNat < N → lv_has ls 5 [(4, .int l5_4), (3, .int l5_3), (0, .ref h0), (1, .int v1), (2, .int v2)] → W p l e ({ frames := 0, cells := 0, slots := 0, locals := 0 }) s m args below meth c s.heap [] 0 0 Q (F0 m 5 ls []) := by
  obtain ⟨hx, hb, hml, hown, hts, hK, hN, hT⟩ := id C
  intro N
  induction N with
  | zero =>
    intro l5_4 l5_3 ls kl5_4 hM_5 hl
    omega
  | succ N_5 ih_5 =>
    intro l5_4 l5_3 ls kl5_4 hM_5 hl
    have b_l5_4 := i32b l5_4
    refine lv_iload hx hb dX4_timesHeard_5 (lv_at hl 0 rfl) ?_
    refine lv_iload_n hx hb dX4_timesHeard_7 rfl (lv_at hl 4 rfl) ?_
    refine lv_icmp_gt (tgt := 38) hx hb dX4_timesHeard_8 (by decide) (fun c_1 => ?_) (fun c_1 => ?_)
    · have c_1 : v2.toInt < l5_4.toInt := ci_gt_t c_1
      have b_v2 := i32b v2
      refine lv_iload_n hx hb dX4_timesHeard_38 rfl (lv_at hl 1 rfl) ?_
      exact ret _ _ _ dX4_timesHeard_39 trivial
    · have c_1 : l5_4.toInt ≤ v2.toInt := ci_gt_f c_1
      have b_v2 := i32b v2
      refine lv_iload hx hb dX4_timesHeard_11 (lv_at hl 0 rfl) ?_
      refine lv_bipush (v := 61) hx hb dX4_timesHeard_13 (by decide) ?_
      refine lv_icmp_ge (tgt := 38) hx hb dX4_timesHeard_15 (by decide) (fun c_2 => ?_) (fun c_2 => ?_)
      · have c_2 : 61 ≤ l5_4.toInt := ci_ge_t c_2
        refine lv_iload_n hx hb dX4_timesHeard_38 rfl (lv_at hl 1 rfl) ?_
        exact ret _ _ _ dX4_timesHeard_39 trivial
      · have c_2 : l5_4.toInt < 61 := ci_ge_f c_2
        refine lv_aload_n hx hb dX4_timesHeard_18 rfl (lv_at hl 2 rfl) ?_
        refine va_get (D := D) (ci := 4) (v := .ref h_tones) (C := RX4) (T := TX4) (N := 4) hx hb hts inlX4 hown hK hP 0 rfl rfl 0 (by decide) (hts _ (inr5 _ (List.mem_of_getElem? (i := 2) rfl))) (fun _ h9 => h9) rfl dX4_timesHeard_19 ?_
        refine lv_iload hx hb dX4_timesHeard_22 (lv_at hl 0 rfl) ?_
        obtain ⟨t_3, et_3⟩ : ∃ v9 : Int32, f_tones (l5_4 : Int32).toNatClampNeg = v9 := ⟨_, rfl⟩
        refine z_iald (v := t_3) hx hb hK hP 1 1 rfl rfl (vin_nat (by omega) (by omega)) et_3 dX4_timesHeard_24 ?_
        refine lv_iload_n hx hb dX4_timesHeard_25 rfl (lv_at hl 3 rfl) ?_
        refine lv_icmp_ne (tgt := 32) hx hb dX4_timesHeard_26 (by decide) (fun c_4 => ?_) (fun c_4 => ?_)
        · have c_4 : ¬ t_3.toInt = v1.toInt := ci_ne_t c_4
          have b_t_3 := i32b t_3
          have b_v1 := i32b v1
          obtain ⟨t_5, et_5⟩ : ∃ v9 : Int32, l5_4 + 1 = v9 := ⟨_, rfl⟩
          have ft_5 : t_5.toInt = l5_4.toInt + 1 := addT (a := l5_4.toInt) (b := 1) rfl (by decide) et_5 (by omega) (by omega)
          refine lv_iinc (v := t_5) (lv' := [(4, .int t_5), (3, .int l5_3), (0, .ref h0), (1, .int v1), (2, .int v2)]) hx hb dX4_timesHeard_32 hl (k := 0) rfl (by rw [← et_5]; rfl) (by decide) rfl (fun ls hl => ?_)
          refine lv_goto (tgt := 5) hx hb dX4_timesHeard_35 (by decide) ?_
          exact ih_5 (t_5) (l5_3) _ (by first | assumption | omega | decide) (by omega) (lv_sub hl [0, 1, 2, 3, 4] rfl)
        · have c_4 : t_3.toInt = v1.toInt := ci_ne_f c_4
          have b_t_3 := i32b t_3
          have b_v1 := i32b v1
          obtain ⟨t_6, et_6⟩ : ∃ v9 : Int32, l5_3 + 1 = v9 := ⟨_, rfl⟩
          refine lv_iinc (v := t_6) (lv' := [(3, .int t_6), (4, .int l5_4), (0, .ref h0), (1, .int v1), (2, .int v2)]) hx hb dX4_timesHeard_29 hl (k := 1) rfl (by rw [← et_6]; rfl) (by decide) rfl (fun ls hl => ?_)
          obtain ⟨t_7, et_7⟩ : ∃ v9 : Int32, l5_4 + 1 = v9 := ⟨_, rfl⟩
          have ft_7 : t_7.toInt = l5_4.toInt + 1 := addT (a := l5_4.toInt) (b := 1) rfl (by decide) et_7 (by omega) (by omega)
          refine lv_iinc (v := t_7) (lv' := [(4, .int t_7), (3, .int t_6), (0, .ref h0), (1, .int v1), (2, .int v2)]) hx hb dX4_timesHeard_32 hl (k := 1) rfl (by rw [← et_7]; rfl) (by decide) rfl (fun ls hl => ?_)
          refine lv_goto (tgt := 5) hx hb dX4_timesHeard_35 (by decide) ?_
          exact ih_5 (t_7) (t_6) _ (by first | assumption | omega | decide) (by omega) (lv_sub hl [0, 1, 2, 3, 4] rfl)

set_option maxHeartbeats 4000000 in
set_option maxRecDepth 100000 in
theorem b_X4_timesHeard (l : Launch) (G : Gho) (D : va_G) (cB cI cJ cZ cS cT : ClassId) (h0 : Nat) (h_tones : Nat) (h_lasts : Nat) (h_answers : Nat) (h_pip : Nat) (f_tones : Nat → Int32) (v1 : Int32) (v2 : Int32)  : Met l yX4_timesHeard (Cond.code yX4_timesHeard cX4_timesHeard 5 (some .int) :: wsL_law) ({ frames := 0, cells := 0, slots := 0, locals := 0 }) (roP G D (tyL cB cI cJ cZ cS cT) [(h0, .inr (4, [.ref h_tones, .ref h_lasts, .ref h_answers, .ref h_pip])), (h_tones, .inl (cI, 61, .inl f_tones))] [.ref h0, .int v1, .int v2]) (vp_Si (fun r : Int32 => True)) 0 0 (fun _ => False) := by
  refine metRO (own := RX4) (by decide) rfl ?_
  intro p e s m below meth c Q C hP ret
  obtain ⟨hx, hb, hml, hown, hts, hK, hN, hT⟩ := id C
  have hl := lv_entry ([.ref h0, .int v1, .int v2]) (n := 5) (Nat.le_of_ble_eq_true rfl)
  rw [lg_entry_eq]
  generalize (lg_sl ([.ref h0, .int v1, .int v2]) ++ List.replicate (5 - (lg_sl ([.ref h0, .int v1, .int v2])).length) Slot.unset).toArray = ls at hl ⊢
  have hl : lv_has ls 5 [(0, .ref h0), (1, .int v1), (2, .int v2)] := hl
  have hP : va_P D vwCl [(h0, .inr (4, [.ref h_tones, .ref h_lasts, .ref h_answers, .ref h_pip])), (h_tones, .inl (cI, 61, .inl f_tones))] s.heap := hP
  refine lv_iconst (v := 0) hx hb dX4_timesHeard_0 (by decide) ?_
  refine lv_istore_n (lv' := [(3, .int 0), (0, .ref h0), (1, .int v1), (2, .int v2)]) hx hb dX4_timesHeard_1 rfl hl (by decide) rfl (fun ls hl => ?_)
  refine lv_iconst (v := 0) hx hb dX4_timesHeard_2 (by decide) ?_
  refine lv_istore (lv' := [(4, .int 0), (3, .int 0), (0, .ref h0), (1, .int v1), (2, .int v2)]) hx hb dX4_timesHeard_3 hl (by decide) rfl (fun ls hl => ?_)
  exact b_X4_timesHeard_l5 h0 h_tones h_lasts h_answers h_pip f_tones v1 v2  C (hP.sub [0, 1] rfl) ret _ (0) (0) _ (by first | assumption | omega | decide) (Nat.lt_succ_self _) (lv_sub hl [0, 1, 2, 3, 4] rfl)

set_option maxHeartbeats 4000000 in
set_option maxRecDepth 100000 in
theorem b_X4_tonesTo_l4 {p : Program} {l : Launch} {e : Env} {s : State} {m : MethodId} {args : Array Value} {below : List Frame} {meth : Method} {c : Code} {Q : State → Prop} {G : Gho} {D : va_G} {cB cI cJ cZ cS cT : ClassId} (h0 : Nat) (h_tones : Nat) (h_lasts : Nat) (h_answers : Nat) (h_pip : Nat) (f_tones : Nat → Int32) (v1 : Int32)  (C : Cx p s m args c RX4 cX4_tonesTo 4 G D (tyL cB cI cJ cZ cS cT)) (hP : va_P D vwCl [(h0, .inr (4, [.ref h_tones, .ref h_lasts, .ref h_answers, .ref h_pip])), (h_tones, .inl (cI, 61, .inl f_tones))] s.heap) (ret : RroI p l e ({ frames := 0, cells := 0, slots := 0, locals := 0 }) s m args below meth c cX4_tonesTo (fun r : Int32 => True) Q) :
    ∀ (N : Nat) (l4_3 : Int32) (l4_2 : Int32) (ls : Array Slot), 0 ≤ l4_3.toInt → (v1.toInt - l4_3.toInt + 1).toNat < N → lv_has ls 4 [(3, .int l4_3), (2, .int l4_2), (0, .ref h0), (1, .int v1)] → W p l e ({ frames := 0, cells := 0, slots := 0, locals := 0 }) s m args below meth c s.heap [] 0 0 Q (F0 m 4 ls []) := by
  obtain ⟨hx, hb, hml, hown, hts, hK, hN, hT⟩ := id C
  intro N
  induction N with
  | zero =>
    intro l4_3 l4_2 ls kl4_3 hM_4 hl
    omega
  | succ N_4 ih_4 =>
    intro l4_3 l4_2 ls kl4_3 hM_4 hl
    have b_l4_3 := i32b l4_3
    refine lv_iload_n hx hb dX4_tonesTo_4 rfl (lv_at hl 0 rfl) ?_
    refine lv_iload_n hx hb dX4_tonesTo_5 rfl (lv_at hl 3 rfl) ?_
    refine lv_icmp_gt (tgt := 42) hx hb dX4_tonesTo_6 (by decide) (fun c_1 => ?_) (fun c_1 => ?_)
    · have c_1 : v1.toInt < l4_3.toInt := ci_gt_t c_1
      have b_v1 := i32b v1
      refine lv_iload_n hx hb dX4_tonesTo_42 rfl (lv_at hl 1 rfl) ?_
      exact ret _ _ _ dX4_tonesTo_43 trivial
    · have c_1 : l4_3.toInt ≤ v1.toInt := ci_gt_f c_1
      have b_v1 := i32b v1
      refine lv_iload_n hx hb dX4_tonesTo_9 rfl (lv_at hl 0 rfl) ?_
      refine lv_bipush (v := 61) hx hb dX4_tonesTo_10 (by decide) ?_
      refine lv_icmp_ge (tgt := 42) hx hb dX4_tonesTo_12 (by decide) (fun c_2 => ?_) (fun c_2 => ?_)
      · have c_2 : 61 ≤ l4_3.toInt := ci_ge_t c_2
        refine lv_iload_n hx hb dX4_tonesTo_42 rfl (lv_at hl 1 rfl) ?_
        exact ret _ _ _ dX4_tonesTo_43 trivial
      · have c_2 : l4_3.toInt < 61 := ci_ge_f c_2
        refine lv_aload_n hx hb dX4_tonesTo_15 rfl (lv_at hl 2 rfl) ?_
        refine va_get (D := D) (ci := 4) (v := .ref h_tones) (C := RX4) (T := TX4) (N := 4) hx hb hts inlX4 hown hK hP 0 rfl rfl 0 (by decide) (hts _ (inr5 _ (List.mem_of_getElem? (i := 2) rfl))) (fun _ h9 => h9) rfl dX4_tonesTo_16 ?_
        refine lv_iload_n hx hb dX4_tonesTo_19 rfl (lv_at hl 0 rfl) ?_
        obtain ⟨t_3, et_3⟩ : ∃ v9 : Int32, f_tones (l4_3 : Int32).toNatClampNeg = v9 := ⟨_, rfl⟩
        refine z_iald (v := t_3) hx hb hK hP 1 1 rfl rfl (vin_nat (by omega) (by omega)) et_3 dX4_tonesTo_20 ?_
        refine lv_iconst (v := (-1)) hx hb dX4_tonesTo_21 (by decide) ?_
        refine lv_icmp_eq (tgt := 36) hx hb dX4_tonesTo_22 (by decide) (fun c_4 => ?_) (fun c_4 => ?_)
        · have c_4 : t_3.toInt = (-1) := ci_eq_t c_4
          have b_t_3 := i32b t_3
          obtain ⟨t_5, et_5⟩ : ∃ v9 : Int32, l4_3 + 1 = v9 := ⟨_, rfl⟩
          have ft_5 : t_5.toInt = l4_3.toInt + 1 := addT (a := l4_3.toInt) (b := 1) rfl (by decide) et_5 (by omega) (by omega)
          refine lv_iinc (v := t_5) (lv' := [(3, .int t_5), (2, .int l4_2), (0, .ref h0), (1, .int v1)]) hx hb dX4_tonesTo_36 hl (k := 0) rfl (by rw [← et_5]; rfl) (by decide) rfl (fun ls hl => ?_)
          refine lv_goto (tgt := 4) hx hb dX4_tonesTo_39 (by decide) ?_
          exact ih_4 (t_5) (l4_2) _ (by first | assumption | omega | decide) (by omega) (lv_sub hl [0, 1, 2, 3] rfl)
        · have c_4 : ¬ t_3.toInt = (-1) := ci_eq_f c_4
          have b_t_3 := i32b t_3
          refine lv_iload_n hx hb dX4_tonesTo_25 rfl (lv_at hl 1 rfl) ?_
          refine lv_iconst (v := 1) hx hb dX4_tonesTo_26 (by decide) ?_
          refine lv_aload_n hx hb dX4_tonesTo_27 rfl (lv_at hl 2 rfl) ?_
          refine va_get (D := D) (ci := 4) (v := .ref h_tones) (C := RX4) (T := TX4) (N := 4) hx hb hts inlX4 hown hK hP 0 rfl rfl 0 (by decide) (hts _ (inr5 _ (List.mem_of_getElem? (i := 2) rfl))) (fun _ h9 => h9) rfl dX4_tonesTo_28 ?_
          refine lv_iload_n hx hb dX4_tonesTo_31 rfl (lv_at hl 0 rfl) ?_
          obtain ⟨t_6, et_6⟩ : ∃ v9 : Int32, f_tones (l4_3 : Int32).toNatClampNeg = v9 := ⟨_, rfl⟩
          refine z_iald (v := t_6) hx hb hK hP 1 1 rfl rfl (vin_nat (by omega) (by omega)) et_6 dX4_tonesTo_32 ?_
          obtain ⟨t_7, et_7⟩ : ∃ v9 : Int32, 1 <<< (t_6 &&& 31) = v9 := ⟨_, rfl⟩
          refine z_ishl (v := t_7) hx hb dX4_tonesTo_33 et_7 ?_
          obtain ⟨t_8, et_8⟩ : ∃ v9 : Int32, l4_2 ||| t_7 = v9 := ⟨_, rfl⟩
          refine z_ior (v := t_8) hx hb dX4_tonesTo_34 et_8 ?_
          refine lv_istore_n (lv' := [(2, .int t_8), (3, .int l4_3), (0, .ref h0), (1, .int v1)]) hx hb dX4_tonesTo_35 rfl hl (by decide) rfl (fun ls hl => ?_)
          obtain ⟨t_9, et_9⟩ : ∃ v9 : Int32, l4_3 + 1 = v9 := ⟨_, rfl⟩
          have ft_9 : t_9.toInt = l4_3.toInt + 1 := addT (a := l4_3.toInt) (b := 1) rfl (by decide) et_9 (by omega) (by omega)
          refine lv_iinc (v := t_9) (lv' := [(3, .int t_9), (2, .int t_8), (0, .ref h0), (1, .int v1)]) hx hb dX4_tonesTo_36 hl (k := 1) rfl (by rw [← et_9]; rfl) (by decide) rfl (fun ls hl => ?_)
          refine lv_goto (tgt := 4) hx hb dX4_tonesTo_39 (by decide) ?_
          exact ih_4 (t_9) (t_8) _ (by first | assumption | omega | decide) (by omega) (lv_sub hl [0, 1, 2, 3] rfl)

set_option maxHeartbeats 4000000 in
set_option maxRecDepth 100000 in
theorem b_X4_tonesTo (l : Launch) (G : Gho) (D : va_G) (cB cI cJ cZ cS cT : ClassId) (h0 : Nat) (h_tones : Nat) (h_lasts : Nat) (h_answers : Nat) (h_pip : Nat) (f_tones : Nat → Int32) (v1 : Int32)  : Met l yX4_tonesTo (Cond.code yX4_tonesTo cX4_tonesTo 4 (some .int) :: wsL_law) ({ frames := 0, cells := 0, slots := 0, locals := 0 }) (roP G D (tyL cB cI cJ cZ cS cT) [(h0, .inr (4, [.ref h_tones, .ref h_lasts, .ref h_answers, .ref h_pip])), (h_tones, .inl (cI, 61, .inl f_tones))] [.ref h0, .int v1]) (vp_Si (fun r : Int32 => True)) 0 0 (fun _ => False) := by
  refine metRO (own := RX4) (by decide) rfl ?_
  intro p e s m below meth c Q C hP ret
  obtain ⟨hx, hb, hml, hown, hts, hK, hN, hT⟩ := id C
  have hl := lv_entry ([.ref h0, .int v1]) (n := 4) (Nat.le_of_ble_eq_true rfl)
  rw [lg_entry_eq]
  generalize (lg_sl ([.ref h0, .int v1]) ++ List.replicate (4 - (lg_sl ([.ref h0, .int v1])).length) Slot.unset).toArray = ls at hl ⊢
  have hl : lv_has ls 4 [(0, .ref h0), (1, .int v1)] := hl
  have hP : va_P D vwCl [(h0, .inr (4, [.ref h_tones, .ref h_lasts, .ref h_answers, .ref h_pip])), (h_tones, .inl (cI, 61, .inl f_tones))] s.heap := hP
  refine lv_iconst (v := 0) hx hb dX4_tonesTo_0 (by decide) ?_
  refine lv_istore_n (lv' := [(2, .int 0), (0, .ref h0), (1, .int v1)]) hx hb dX4_tonesTo_1 rfl hl (by decide) rfl (fun ls hl => ?_)
  refine lv_iconst (v := 0) hx hb dX4_tonesTo_2 (by decide) ?_
  refine lv_istore_n (lv' := [(3, .int 0), (2, .int 0), (0, .ref h0), (1, .int v1)]) hx hb dX4_tonesTo_3 rfl hl (by decide) rfl (fun ls hl => ?_)
  exact b_X4_tonesTo_l4 h0 h_tones h_lasts h_answers h_pip f_tones v1  C (hP.sub [0, 1] rfl) ret _ (0) (0) _ (by first | assumption | omega | decide) (Nat.lt_succ_self _) (lv_sub hl [0, 1, 2, 3] rfl)

set_option maxHeartbeats 4000000 in
set_option maxRecDepth 100000 in
theorem b_X4_longestHeld_l6 {p : Program} {l : Launch} {e : Env} {s : State} {m : MethodId} {args : Array Value} {below : List Frame} {meth : Method} {c : Code} {Q : State → Prop} {G : Gho} {D : va_G} {cB cI cJ cZ cS cT : ClassId} (h0 : Nat) (h_tones : Nat) (h_lasts : Nat) (h_answers : Nat) (h_pip : Nat) (f_tones : Nat → Int32)  (C : Cx p s m args c RX4 cX4_longestHeld 4 G D (tyL cB cI cJ cZ cS cT)) (hP : va_P D vwCl [(h0, .inr (4, [.ref h_tones, .ref h_lasts, .ref h_answers, .ref h_pip])), (h_tones, .inl (cI, 61, .inl f_tones))] s.heap) (ret : RroI p l e ({ frames := 1, cells := 0, slots := 0, locals := 13 }) s m args below meth c cX4_longestHeld (fun r : Int32 => True) Q) :
    ∀ (N : Nat) (l6_3 : Int32) (l6_2 : Int32) (l6_1 : Int32) (ls : Array Slot), 0 ≤ l6_3.toInt ∧ l6_3.toInt ≤ 61 → (61 - l6_3.toInt).toNat < N → lv_has ls 4 [(3, .int l6_3), (2, .int l6_2), (1, .int l6_1), (0, .ref h0)] → W p l e ({ frames := 1, cells := 0, slots := 0, locals := 13 }) s m args below meth c s.heap [] 0 0 Q (F0 m 6 ls []) := by
  obtain ⟨hx, hb, hml, hown, hts, hK, hN, hT⟩ := id C
  intro N
  induction N with
  | zero =>
    intro l6_3 l6_2 l6_1 ls kl6_3 hM_6 hl
    omega
  | succ N_6 ih_6 =>
    intro l6_3 l6_2 l6_1 ls kl6_3 hM_6 hl
    have b_l6_3 := i32b l6_3
    refine lv_iload_n hx hb dX4_longestHeld_6 rfl (lv_at hl 0 rfl) ?_
    refine lv_bipush (v := 61) hx hb dX4_longestHeld_7 (by decide) ?_
    refine lv_icmp_ge (tgt := 68) hx hb dX4_longestHeld_9 (by decide) (fun c_1 => ?_) (fun c_1 => ?_)
    · have c_1 : 61 ≤ l6_3.toInt := ci_ge_t c_1
      refine lv_iload_n hx hb dX4_longestHeld_68 rfl (lv_at hl 2 rfl) ?_
      exact ret _ _ _ dX4_longestHeld_69 trivial
    · have c_1 : l6_3.toInt < 61 := ci_ge_f c_1
      refine lv_aload_n hx hb dX4_longestHeld_12 rfl (lv_at hl 3 rfl) ?_
      refine va_get (D := D) (ci := 4) (v := .ref h_tones) (C := RX4) (T := TX4) (N := 4) hx hb hts inlX4 hown hK hP 0 rfl rfl 0 (by decide) (hts _ (inr5 _ (List.mem_of_getElem? (i := 2) rfl))) (fun _ h9 => h9) rfl dX4_longestHeld_13 ?_
      refine lv_iload_n hx hb dX4_longestHeld_16 rfl (lv_at hl 0 rfl) ?_
      obtain ⟨t_2, et_2⟩ : ∃ v9 : Int32, f_tones (l6_3 : Int32).toNatClampNeg = v9 := ⟨_, rfl⟩
      refine z_iald (v := t_2) hx hb hK hP 1 1 rfl rfl (vin_nat (by omega) (by omega)) et_2 dX4_longestHeld_17 ?_
      refine lv_iconst (v := (-1)) hx hb dX4_longestHeld_18 (by decide) ?_
      refine lv_icmp_ne (tgt := 27) hx hb dX4_longestHeld_19 (by decide) (fun c_3 => ?_) (fun c_3 => ?_)
      · have c_3 : ¬ t_2.toInt = (-1) := ci_ne_t c_3
        have b_t_2 := i32b t_2
        refine lv_iload_n hx hb dX4_longestHeld_27 rfl (lv_at hl 0 rfl) ?_
        refine lv_if_le (tgt := 54) hx hb dX4_longestHeld_28 (by decide) (fun c_4 => ?_) (fun c_4 => ?_)
        · have c_4 : l6_3.toInt ≤ 0 := ci_le_t c_4
          refine lv_iconst (v := 1) hx hb dX4_longestHeld_54 (by decide) ?_
          refine lv_istore_n (lv' := [(2, .int 1), (3, .int l6_3), (1, .int l6_1), (0, .ref h0)]) hx hb dX4_longestHeld_55 rfl hl (by decide) rfl (fun ls hl => ?_)
          refine lv_iload_n hx hb dX4_longestHeld_56 rfl (lv_at hl 2 rfl) ?_
          refine lv_iload_n hx hb dX4_longestHeld_57 rfl (lv_at hl 0 rfl) ?_
          refine va_mmax hx hb (by rw [hml]; exact hl.1.symm) hown (hts _ (inr32 _ (List.mem_of_getElem? (i := 4) rfl))) (hts _ (inr32 _ (List.mem_of_getElem? (i := 5) rfl))) (hts _ (inr18 _ (List.mem_of_getElem? (i := 12) rfl))) (hts _ (inr32 _ (List.mem_of_getElem? (i := 6) rfl))) (Nat.le_of_ble_eq_true rfl) (Nat.le_of_ble_eq_true rfl) (Nat.le_of_ble_eq_true rfl) (Nat.le_of_ble_eq_true rfl) dX4_longestHeld_58 ?_
          refine lv_topi (fun t_5 et_5 => ?_)
          have b_l6_1 := i32b l6_1
          have ft_5 : l6_1.toInt ≤ t_5.toInt ∧ 1 ≤ t_5.toInt ∧ (t_5.toInt = l6_1.toInt ∨ t_5.toInt = 1) := maxT et_5
          refine lv_istore_n (lv' := [(1, .int t_5), (2, .int 1), (3, .int l6_3), (0, .ref h0)]) hx hb dX4_longestHeld_61 rfl hl (by decide) rfl (fun ls hl => ?_)
          obtain ⟨t_6, et_6⟩ : ∃ v9 : Int32, l6_3 + 1 = v9 := ⟨_, rfl⟩
          have ft_6 : t_6.toInt = l6_3.toInt + 1 := addT (a := l6_3.toInt) (b := 1) rfl (by decide) et_6 (by omega) (by omega)
          refine lv_iinc (v := t_6) (lv' := [(3, .int t_6), (1, .int t_5), (2, .int 1), (0, .ref h0)]) hx hb dX4_longestHeld_62 hl (k := 2) rfl (by rw [← et_6]; rfl) (by decide) rfl (fun ls hl => ?_)
          refine lv_goto (tgt := 6) hx hb dX4_longestHeld_65 (by decide) ?_
          exact ih_6 (t_6) (1) (t_5) _ (by first | assumption | omega | decide) (by omega) (lv_sub hl [0, 2, 1, 3] rfl)
        · have c_4 : 0 < l6_3.toInt := ci_le_f c_4
          refine lv_aload_n hx hb dX4_longestHeld_31 rfl (lv_at hl 3 rfl) ?_
          refine va_get (D := D) (ci := 4) (v := .ref h_tones) (C := RX4) (T := TX4) (N := 4) hx hb hts inlX4 hown hK hP 0 rfl rfl 0 (by decide) (hts _ (inr5 _ (List.mem_of_getElem? (i := 2) rfl))) (fun _ h9 => h9) rfl dX4_longestHeld_32 ?_
          refine lv_iload_n hx hb dX4_longestHeld_35 rfl (lv_at hl 0 rfl) ?_
          obtain ⟨t_7, et_7⟩ : ∃ v9 : Int32, f_tones (l6_3 : Int32).toNatClampNeg = v9 := ⟨_, rfl⟩
          refine z_iald (v := t_7) hx hb hK hP 1 1 rfl rfl (vin_nat (by omega) (by omega)) et_7 dX4_longestHeld_36 ?_
          refine lv_aload_n hx hb dX4_longestHeld_37 rfl (lv_at hl 3 rfl) ?_
          refine va_get (D := D) (ci := 4) (v := .ref h_tones) (C := RX4) (T := TX4) (N := 4) hx hb hts inlX4 hown hK hP 0 rfl rfl 0 (by decide) (hts _ (inr5 _ (List.mem_of_getElem? (i := 2) rfl))) (fun _ h9 => h9) rfl dX4_longestHeld_38 ?_
          refine lv_iload_n hx hb dX4_longestHeld_41 rfl (lv_at hl 0 rfl) ?_
          refine lv_iconst (v := 1) hx hb dX4_longestHeld_42 (by decide) ?_
          obtain ⟨t_8, et_8⟩ : ∃ v9 : Int32, l6_3 - 1 = v9 := ⟨_, rfl⟩
          refine z_isub (v := t_8) hx hb dX4_longestHeld_43 et_8 ?_
          have ft_8 : t_8.toInt = l6_3.toInt - 1 := subT (a := l6_3.toInt) (b := 1) rfl (by decide) et_8 (by omega) (by omega)
          obtain ⟨t_9, et_9⟩ : ∃ v9 : Int32, f_tones (t_8 : Int32).toNatClampNeg = v9 := ⟨_, rfl⟩
          refine z_iald (v := t_9) hx hb hK hP 1 1 rfl rfl (vin_nat (by omega) (by omega)) et_9 dX4_longestHeld_44 ?_
          refine lv_icmp_ne (tgt := 54) hx hb dX4_longestHeld_45 (by decide) (fun c_10 => ?_) (fun c_10 => ?_)
          · have c_10 : ¬ t_7.toInt = t_9.toInt := ci_ne_t c_10
            have b_t_7 := i32b t_7
            have b_t_9 := i32b t_9
            refine lv_iconst (v := 1) hx hb dX4_longestHeld_54 (by decide) ?_
            refine lv_istore_n (lv' := [(2, .int 1), (3, .int l6_3), (1, .int l6_1), (0, .ref h0)]) hx hb dX4_longestHeld_55 rfl hl (by decide) rfl (fun ls hl => ?_)
            refine lv_iload_n hx hb dX4_longestHeld_56 rfl (lv_at hl 2 rfl) ?_
            refine lv_iload_n hx hb dX4_longestHeld_57 rfl (lv_at hl 0 rfl) ?_
            refine va_mmax hx hb (by rw [hml]; exact hl.1.symm) hown (hts _ (inr32 _ (List.mem_of_getElem? (i := 4) rfl))) (hts _ (inr32 _ (List.mem_of_getElem? (i := 5) rfl))) (hts _ (inr18 _ (List.mem_of_getElem? (i := 12) rfl))) (hts _ (inr32 _ (List.mem_of_getElem? (i := 6) rfl))) (Nat.le_of_ble_eq_true rfl) (Nat.le_of_ble_eq_true rfl) (Nat.le_of_ble_eq_true rfl) (Nat.le_of_ble_eq_true rfl) dX4_longestHeld_58 ?_
            refine lv_topi (fun t_11 et_11 => ?_)
            have b_l6_1 := i32b l6_1
            have ft_11 : l6_1.toInt ≤ t_11.toInt ∧ 1 ≤ t_11.toInt ∧ (t_11.toInt = l6_1.toInt ∨ t_11.toInt = 1) := maxT et_11
            refine lv_istore_n (lv' := [(1, .int t_11), (2, .int 1), (3, .int l6_3), (0, .ref h0)]) hx hb dX4_longestHeld_61 rfl hl (by decide) rfl (fun ls hl => ?_)
            obtain ⟨t_12, et_12⟩ : ∃ v9 : Int32, l6_3 + 1 = v9 := ⟨_, rfl⟩
            have ft_12 : t_12.toInt = l6_3.toInt + 1 := addT (a := l6_3.toInt) (b := 1) rfl (by decide) et_12 (by omega) (by omega)
            refine lv_iinc (v := t_12) (lv' := [(3, .int t_12), (1, .int t_11), (2, .int 1), (0, .ref h0)]) hx hb dX4_longestHeld_62 hl (k := 2) rfl (by rw [← et_12]; rfl) (by decide) rfl (fun ls hl => ?_)
            refine lv_goto (tgt := 6) hx hb dX4_longestHeld_65 (by decide) ?_
            exact ih_6 (t_12) (1) (t_11) _ (by first | assumption | omega | decide) (by omega) (lv_sub hl [0, 2, 1, 3] rfl)
          · have c_10 : t_7.toInt = t_9.toInt := ci_ne_f c_10
            have b_t_7 := i32b t_7
            have b_t_9 := i32b t_9
            obtain ⟨t_13, et_13⟩ : ∃ v9 : Int32, l6_2 + 1 = v9 := ⟨_, rfl⟩
            refine lv_iinc (v := t_13) (lv' := [(2, .int t_13), (3, .int l6_3), (1, .int l6_1), (0, .ref h0)]) hx hb dX4_longestHeld_48 hl (k := 1) rfl (by rw [← et_13]; rfl) (by decide) rfl (fun ls hl => ?_)
            refine lv_goto (tgt := 56) hx hb dX4_longestHeld_51 (by decide) ?_
            refine lv_iload_n hx hb dX4_longestHeld_56 rfl (lv_at hl 2 rfl) ?_
            refine lv_iload_n hx hb dX4_longestHeld_57 rfl (lv_at hl 0 rfl) ?_
            refine va_mmax hx hb (by rw [hml]; exact hl.1.symm) hown (hts _ (inr32 _ (List.mem_of_getElem? (i := 4) rfl))) (hts _ (inr32 _ (List.mem_of_getElem? (i := 5) rfl))) (hts _ (inr18 _ (List.mem_of_getElem? (i := 12) rfl))) (hts _ (inr32 _ (List.mem_of_getElem? (i := 6) rfl))) (Nat.le_of_ble_eq_true rfl) (Nat.le_of_ble_eq_true rfl) (Nat.le_of_ble_eq_true rfl) (Nat.le_of_ble_eq_true rfl) dX4_longestHeld_58 ?_
            refine lv_topi (fun t_14 et_14 => ?_)
            have b_l6_1 := i32b l6_1
            have b_t_13 := i32b t_13
            have ft_14 : l6_1.toInt ≤ t_14.toInt ∧ t_13.toInt ≤ t_14.toInt ∧ (t_14.toInt = l6_1.toInt ∨ t_14.toInt = t_13.toInt) := maxT et_14
            refine lv_istore_n (lv' := [(1, .int t_14), (2, .int t_13), (3, .int l6_3), (0, .ref h0)]) hx hb dX4_longestHeld_61 rfl hl (by decide) rfl (fun ls hl => ?_)
            obtain ⟨t_15, et_15⟩ : ∃ v9 : Int32, l6_3 + 1 = v9 := ⟨_, rfl⟩
            have ft_15 : t_15.toInt = l6_3.toInt + 1 := addT (a := l6_3.toInt) (b := 1) rfl (by decide) et_15 (by omega) (by omega)
            refine lv_iinc (v := t_15) (lv' := [(3, .int t_15), (1, .int t_14), (2, .int t_13), (0, .ref h0)]) hx hb dX4_longestHeld_62 hl (k := 2) rfl (by rw [← et_15]; rfl) (by decide) rfl (fun ls hl => ?_)
            refine lv_goto (tgt := 6) hx hb dX4_longestHeld_65 (by decide) ?_
            exact ih_6 (t_15) (t_13) (t_14) _ (by first | assumption | omega | decide) (by omega) (lv_sub hl [0, 2, 1, 3] rfl)
      · have c_3 : t_2.toInt = (-1) := ci_ne_f c_3
        have b_t_2 := i32b t_2
        refine lv_iconst (v := 0) hx hb dX4_longestHeld_22 (by decide) ?_
        refine lv_istore_n (lv' := [(2, .int 0), (3, .int l6_3), (1, .int l6_1), (0, .ref h0)]) hx hb dX4_longestHeld_23 rfl hl (by decide) rfl (fun ls hl => ?_)
        refine lv_goto (tgt := 56) hx hb dX4_longestHeld_24 (by decide) ?_
        refine lv_iload_n hx hb dX4_longestHeld_56 rfl (lv_at hl 2 rfl) ?_
        refine lv_iload_n hx hb dX4_longestHeld_57 rfl (lv_at hl 0 rfl) ?_
        refine va_mmax hx hb (by rw [hml]; exact hl.1.symm) hown (hts _ (inr32 _ (List.mem_of_getElem? (i := 4) rfl))) (hts _ (inr32 _ (List.mem_of_getElem? (i := 5) rfl))) (hts _ (inr18 _ (List.mem_of_getElem? (i := 12) rfl))) (hts _ (inr32 _ (List.mem_of_getElem? (i := 6) rfl))) (Nat.le_of_ble_eq_true rfl) (Nat.le_of_ble_eq_true rfl) (Nat.le_of_ble_eq_true rfl) (Nat.le_of_ble_eq_true rfl) dX4_longestHeld_58 ?_
        refine lv_topi (fun t_16 et_16 => ?_)
        have b_l6_1 := i32b l6_1
        have ft_16 : l6_1.toInt ≤ t_16.toInt ∧ 0 ≤ t_16.toInt ∧ (t_16.toInt = l6_1.toInt ∨ t_16.toInt = 0) := maxT et_16
        refine lv_istore_n (lv' := [(1, .int t_16), (2, .int 0), (3, .int l6_3), (0, .ref h0)]) hx hb dX4_longestHeld_61 rfl hl (by decide) rfl (fun ls hl => ?_)
        obtain ⟨t_17, et_17⟩ : ∃ v9 : Int32, l6_3 + 1 = v9 := ⟨_, rfl⟩
        have ft_17 : t_17.toInt = l6_3.toInt + 1 := addT (a := l6_3.toInt) (b := 1) rfl (by decide) et_17 (by omega) (by omega)
        refine lv_iinc (v := t_17) (lv' := [(3, .int t_17), (1, .int t_16), (2, .int 0), (0, .ref h0)]) hx hb dX4_longestHeld_62 hl (k := 2) rfl (by rw [← et_17]; rfl) (by decide) rfl (fun ls hl => ?_)
        refine lv_goto (tgt := 6) hx hb dX4_longestHeld_65 (by decide) ?_
        exact ih_6 (t_17) (0) (t_16) _ (by first | assumption | omega | decide) (by omega) (lv_sub hl [0, 2, 1, 3] rfl)

set_option maxHeartbeats 4000000 in
set_option maxRecDepth 100000 in
theorem b_X4_longestHeld (l : Launch) (G : Gho) (D : va_G) (cB cI cJ cZ cS cT : ClassId) (h0 : Nat) (h_tones : Nat) (h_lasts : Nat) (h_answers : Nat) (h_pip : Nat) (f_tones : Nat → Int32)  : Met l yX4_longestHeld (Cond.code yX4_longestHeld cX4_longestHeld 4 (some .int) :: wsL_law) ({ frames := 1, cells := 0, slots := 0, locals := 13 }) (roP G D (tyL cB cI cJ cZ cS cT) [(h0, .inr (4, [.ref h_tones, .ref h_lasts, .ref h_answers, .ref h_pip])), (h_tones, .inl (cI, 61, .inl f_tones))] [.ref h0]) (vp_Si (fun r : Int32 => True)) 0 0 (fun _ => False) := by
  refine metRO (own := RX4) (by decide) rfl ?_
  intro p e s m below meth c Q C hP ret
  obtain ⟨hx, hb, hml, hown, hts, hK, hN, hT⟩ := id C
  have hl := lv_entry ([.ref h0]) (n := 4) (Nat.le_of_ble_eq_true rfl)
  rw [lg_entry_eq]
  generalize (lg_sl ([.ref h0]) ++ List.replicate (4 - (lg_sl ([.ref h0])).length) Slot.unset).toArray = ls at hl ⊢
  have hl : lv_has ls 4 [(0, .ref h0)] := hl
  have hP : va_P D vwCl [(h0, .inr (4, [.ref h_tones, .ref h_lasts, .ref h_answers, .ref h_pip])), (h_tones, .inl (cI, 61, .inl f_tones))] s.heap := hP
  refine lv_iconst (v := 0) hx hb dX4_longestHeld_0 (by decide) ?_
  refine lv_istore_n (lv' := [(1, .int 0), (0, .ref h0)]) hx hb dX4_longestHeld_1 rfl hl (by decide) rfl (fun ls hl => ?_)
  refine lv_iconst (v := 0) hx hb dX4_longestHeld_2 (by decide) ?_
  refine lv_istore_n (lv' := [(2, .int 0), (1, .int 0), (0, .ref h0)]) hx hb dX4_longestHeld_3 rfl hl (by decide) rfl (fun ls hl => ?_)
  refine lv_iconst (v := 0) hx hb dX4_longestHeld_4 (by decide) ?_
  refine lv_istore_n (lv' := [(3, .int 0), (2, .int 0), (1, .int 0), (0, .ref h0)]) hx hb dX4_longestHeld_5 rfl hl (by decide) rfl (fun ls hl => ?_)
  exact b_X4_longestHeld_l6 h0 h_tones h_lasts h_answers h_pip f_tones  C (hP.sub [0, 1] rfl) ret _ (0) (0) (0) _ (by first | assumption | omega | decide) (Nat.lt_succ_self _) (lv_sub hl [0, 1, 2, 3] rfl)

set_option maxHeartbeats 4000000 in
set_option maxRecDepth 100000 in
theorem b_X4_longestWithoutPip_l6 {p : Program} {l : Launch} {e : Env} {s : State} {m : MethodId} {args : Array Value} {below : List Frame} {meth : Method} {c : Code} {Q : State → Prop} {G : Gho} {D : va_G} {cB cI cJ cZ cS cT : ClassId} (h0 : Nat) (h_tones : Nat) (h_lasts : Nat) (h_answers : Nat) (h_pip : Nat) (f_pip : Nat → Int32)  (C : Cx p s m args c RX4 cX4_longestWithoutPip 4 G D (tyL cB cI cJ cZ cS cT)) (hP : va_P D vwCl [(h0, .inr (4, [.ref h_tones, .ref h_lasts, .ref h_answers, .ref h_pip])), (h_pip, .inl (cZ, 61, .inl f_pip))] s.heap) (ret : RroI p l e ({ frames := 1, cells := 0, slots := 0, locals := 13 }) s m args below meth c cX4_longestWithoutPip (fun r : Int32 => True) Q) :
    ∀ (N : Nat) (l6_3 : Int32) (l6_2 : Int32) (l6_1 : Int32) (ls : Array Slot), 0 ≤ l6_3.toInt ∧ l6_3.toInt ≤ 61 → (61 - l6_3.toInt).toNat < N → lv_has ls 4 [(3, .int l6_3), (2, .int l6_2), (1, .int l6_1), (0, .ref h0)] → W p l e ({ frames := 1, cells := 0, slots := 0, locals := 13 }) s m args below meth c s.heap [] 0 0 Q (F0 m 6 ls []) := by
  obtain ⟨hx, hb, hml, hown, hts, hK, hN, hT⟩ := id C
  intro N
  induction N with
  | zero =>
    intro l6_3 l6_2 l6_1 ls kl6_3 hM_6 hl
    omega
  | succ N_6 ih_6 =>
    intro l6_3 l6_2 l6_1 ls kl6_3 hM_6 hl
    have b_l6_3 := i32b l6_3
    refine lv_iload_n hx hb dX4_longestWithoutPip_6 rfl (lv_at hl 0 rfl) ?_
    refine lv_bipush (v := 61) hx hb dX4_longestWithoutPip_7 (by decide) ?_
    refine lv_icmp_ge (tgt := 41) hx hb dX4_longestWithoutPip_9 (by decide) (fun c_1 => ?_) (fun c_1 => ?_)
    · have c_1 : 61 ≤ l6_3.toInt := ci_ge_t c_1
      refine lv_iload_n hx hb dX4_longestWithoutPip_41 rfl (lv_at hl 2 rfl) ?_
      exact ret _ _ _ dX4_longestWithoutPip_42 trivial
    · have c_1 : l6_3.toInt < 61 := ci_ge_f c_1
      refine lv_aload_n hx hb dX4_longestWithoutPip_12 rfl (lv_at hl 3 rfl) ?_
      refine va_get (D := D) (ci := 4) (v := .ref h_pip) (C := RX4) (T := TX4) (N := 4) hx hb hts inlX4 hown hK hP 0 rfl rfl 3 (by decide) (hts _ (inr5 _ (List.mem_of_getElem? (i := 5) rfl))) (fun _ h9 => h9) rfl dX4_longestWithoutPip_13 ?_
      refine lv_iload_n hx hb dX4_longestWithoutPip_16 rfl (lv_at hl 0 rfl) ?_
      obtain ⟨t_2, et_2⟩ : ∃ v9 : Int32, f_pip (l6_3 : Int32).toNatClampNeg = v9 := ⟨_, rfl⟩
      refine z_zald (v := t_2) hx hb hK hP 1 3 rfl rfl (vin_nat (by omega) (by omega)) et_2 dX4_longestWithoutPip_17 ?_
      refine lv_if_eq (tgt := 25) hx hb dX4_longestWithoutPip_18 (by decide) (fun c_3 => ?_) (fun c_3 => ?_)
      · have c_3 : t_2.toInt = 0 := ci_eq_t c_3
        have b_t_2 := i32b t_2
        refine lv_iload_n hx hb dX4_longestWithoutPip_25 rfl (lv_at hl 1 rfl) ?_
        refine lv_iconst (v := 1) hx hb dX4_longestWithoutPip_26 (by decide) ?_
        obtain ⟨t_4, et_4⟩ : ∃ v9 : Int32, l6_2 + 1 = v9 := ⟨_, rfl⟩
        refine z_iadd (v := t_4) hx hb dX4_longestWithoutPip_27 et_4 ?_
        refine lv_istore_n (lv' := [(2, .int t_4), (3, .int l6_3), (1, .int l6_1), (0, .ref h0)]) hx hb dX4_longestWithoutPip_28 rfl hl (by decide) rfl (fun ls hl => ?_)
        refine lv_iload_n hx hb dX4_longestWithoutPip_29 rfl (lv_at hl 2 rfl) ?_
        refine lv_iload_n hx hb dX4_longestWithoutPip_30 rfl (lv_at hl 0 rfl) ?_
        refine va_mmax hx hb (by rw [hml]; exact hl.1.symm) hown (hts _ (inr32 _ (List.mem_of_getElem? (i := 4) rfl))) (hts _ (inr32 _ (List.mem_of_getElem? (i := 5) rfl))) (hts _ (inr18 _ (List.mem_of_getElem? (i := 12) rfl))) (hts _ (inr32 _ (List.mem_of_getElem? (i := 6) rfl))) (Nat.le_of_ble_eq_true rfl) (Nat.le_of_ble_eq_true rfl) (Nat.le_of_ble_eq_true rfl) (Nat.le_of_ble_eq_true rfl) dX4_longestWithoutPip_31 ?_
        refine lv_topi (fun t_5 et_5 => ?_)
        have b_l6_1 := i32b l6_1
        have b_t_4 := i32b t_4
        have ft_5 : l6_1.toInt ≤ t_5.toInt ∧ t_4.toInt ≤ t_5.toInt ∧ (t_5.toInt = l6_1.toInt ∨ t_5.toInt = t_4.toInt) := maxT et_5
        refine lv_istore_n (lv' := [(1, .int t_5), (2, .int t_4), (3, .int l6_3), (0, .ref h0)]) hx hb dX4_longestWithoutPip_34 rfl hl (by decide) rfl (fun ls hl => ?_)
        obtain ⟨t_6, et_6⟩ : ∃ v9 : Int32, l6_3 + 1 = v9 := ⟨_, rfl⟩
        have ft_6 : t_6.toInt = l6_3.toInt + 1 := addT (a := l6_3.toInt) (b := 1) rfl (by decide) et_6 (by omega) (by omega)
        refine lv_iinc (v := t_6) (lv' := [(3, .int t_6), (1, .int t_5), (2, .int t_4), (0, .ref h0)]) hx hb dX4_longestWithoutPip_35 hl (k := 2) rfl (by rw [← et_6]; rfl) (by decide) rfl (fun ls hl => ?_)
        refine lv_goto (tgt := 6) hx hb dX4_longestWithoutPip_38 (by decide) ?_
        exact ih_6 (t_6) (t_4) (t_5) _ (by first | assumption | omega | decide) (by omega) (lv_sub hl [0, 2, 1, 3] rfl)
      · have c_3 : ¬ t_2.toInt = 0 := ci_eq_f c_3
        have b_t_2 := i32b t_2
        refine lv_iconst (v := 0) hx hb dX4_longestWithoutPip_21 (by decide) ?_
        refine lv_goto (tgt := 28) hx hb dX4_longestWithoutPip_22 (by decide) ?_
        refine lv_istore_n (lv' := [(2, .int 0), (3, .int l6_3), (1, .int l6_1), (0, .ref h0)]) hx hb dX4_longestWithoutPip_28 rfl hl (by decide) rfl (fun ls hl => ?_)
        refine lv_iload_n hx hb dX4_longestWithoutPip_29 rfl (lv_at hl 2 rfl) ?_
        refine lv_iload_n hx hb dX4_longestWithoutPip_30 rfl (lv_at hl 0 rfl) ?_
        refine va_mmax hx hb (by rw [hml]; exact hl.1.symm) hown (hts _ (inr32 _ (List.mem_of_getElem? (i := 4) rfl))) (hts _ (inr32 _ (List.mem_of_getElem? (i := 5) rfl))) (hts _ (inr18 _ (List.mem_of_getElem? (i := 12) rfl))) (hts _ (inr32 _ (List.mem_of_getElem? (i := 6) rfl))) (Nat.le_of_ble_eq_true rfl) (Nat.le_of_ble_eq_true rfl) (Nat.le_of_ble_eq_true rfl) (Nat.le_of_ble_eq_true rfl) dX4_longestWithoutPip_31 ?_
        refine lv_topi (fun t_7 et_7 => ?_)
        have b_l6_1 := i32b l6_1
        have ft_7 : l6_1.toInt ≤ t_7.toInt ∧ 0 ≤ t_7.toInt ∧ (t_7.toInt = l6_1.toInt ∨ t_7.toInt = 0) := maxT et_7
        refine lv_istore_n (lv' := [(1, .int t_7), (2, .int 0), (3, .int l6_3), (0, .ref h0)]) hx hb dX4_longestWithoutPip_34 rfl hl (by decide) rfl (fun ls hl => ?_)
        obtain ⟨t_8, et_8⟩ : ∃ v9 : Int32, l6_3 + 1 = v9 := ⟨_, rfl⟩
        have ft_8 : t_8.toInt = l6_3.toInt + 1 := addT (a := l6_3.toInt) (b := 1) rfl (by decide) et_8 (by omega) (by omega)
        refine lv_iinc (v := t_8) (lv' := [(3, .int t_8), (1, .int t_7), (2, .int 0), (0, .ref h0)]) hx hb dX4_longestWithoutPip_35 hl (k := 2) rfl (by rw [← et_8]; rfl) (by decide) rfl (fun ls hl => ?_)
        refine lv_goto (tgt := 6) hx hb dX4_longestWithoutPip_38 (by decide) ?_
        exact ih_6 (t_8) (0) (t_7) _ (by first | assumption | omega | decide) (by omega) (lv_sub hl [0, 2, 1, 3] rfl)

set_option maxHeartbeats 4000000 in
set_option maxRecDepth 100000 in
theorem b_X4_longestWithoutPip (l : Launch) (G : Gho) (D : va_G) (cB cI cJ cZ cS cT : ClassId) (h0 : Nat) (h_tones : Nat) (h_lasts : Nat) (h_answers : Nat) (h_pip : Nat) (f_pip : Nat → Int32)  : Met l yX4_longestWithoutPip (Cond.code yX4_longestWithoutPip cX4_longestWithoutPip 4 (some .int) :: wsL_law) ({ frames := 1, cells := 0, slots := 0, locals := 13 }) (roP G D (tyL cB cI cJ cZ cS cT) [(h0, .inr (4, [.ref h_tones, .ref h_lasts, .ref h_answers, .ref h_pip])), (h_pip, .inl (cZ, 61, .inl f_pip))] [.ref h0]) (vp_Si (fun r : Int32 => True)) 0 0 (fun _ => False) := by
  refine metRO (own := RX4) (by decide) rfl ?_
  intro p e s m below meth c Q C hP ret
  obtain ⟨hx, hb, hml, hown, hts, hK, hN, hT⟩ := id C
  have hl := lv_entry ([.ref h0]) (n := 4) (Nat.le_of_ble_eq_true rfl)
  rw [lg_entry_eq]
  generalize (lg_sl ([.ref h0]) ++ List.replicate (4 - (lg_sl ([.ref h0])).length) Slot.unset).toArray = ls at hl ⊢
  have hl : lv_has ls 4 [(0, .ref h0)] := hl
  have hP : va_P D vwCl [(h0, .inr (4, [.ref h_tones, .ref h_lasts, .ref h_answers, .ref h_pip])), (h_pip, .inl (cZ, 61, .inl f_pip))] s.heap := hP
  refine lv_iconst (v := 0) hx hb dX4_longestWithoutPip_0 (by decide) ?_
  refine lv_istore_n (lv' := [(1, .int 0), (0, .ref h0)]) hx hb dX4_longestWithoutPip_1 rfl hl (by decide) rfl (fun ls hl => ?_)
  refine lv_iconst (v := 0) hx hb dX4_longestWithoutPip_2 (by decide) ?_
  refine lv_istore_n (lv' := [(2, .int 0), (1, .int 0), (0, .ref h0)]) hx hb dX4_longestWithoutPip_3 rfl hl (by decide) rfl (fun ls hl => ?_)
  refine lv_iconst (v := 0) hx hb dX4_longestWithoutPip_4 (by decide) ?_
  refine lv_istore_n (lv' := [(3, .int 0), (2, .int 0), (1, .int 0), (0, .ref h0)]) hx hb dX4_longestWithoutPip_5 rfl hl (by decide) rfl (fun ls hl => ?_)
  exact b_X4_longestWithoutPip_l6 h0 h_tones h_lasts h_answers h_pip f_pip  C (hP.sub [0, 1] rfl) ret _ (0) (0) (0) _ (by first | assumption | omega | decide) (Nat.lt_succ_self _) (lv_sub hl [0, 1, 2, 3] rfl)

set_option maxHeartbeats 4000000 in
set_option maxRecDepth 100000 in
theorem b_X4_pairsThatMove_l4 {p : Program} {l : Launch} {e : Env} {s : State} {m : MethodId} {args : Array Value} {below : List Frame} {meth : Method} {c : Code} {Q : State → Prop} {G : Gho} {D : va_G} {cB cI cJ cZ cS cT : ClassId} (h0 : Nat) (h_tones : Nat) (h_lasts : Nat) (h_answers : Nat) (h_pip : Nat) (f_tones : Nat → Int32) (v1 : Int32)  (C : Cx p s m args c RX4 cX4_pairsThatMove 4 G D (tyL cB cI cJ cZ cS cT)) (hP : va_P D vwCl [(h0, .inr (4, [.ref h_tones, .ref h_lasts, .ref h_answers, .ref h_pip])), (h_tones, .inl (cI, 61, .inl f_tones))] s.heap) (ret : RroI p l e ({ frames := 0, cells := 0, slots := 0, locals := 0 }) s m args below meth c cX4_pairsThatMove (fun r : Int32 => True) Q) :
    ∀ (N : Nat) (l4_3 : Int32) (l4_2 : Int32) (ls : Array Slot), 1 ≤ l4_3.toInt ∧ l4_3.toInt ≤ 61 → (61 - l4_3.toInt).toNat < N → lv_has ls 4 [(3, .int l4_3), (2, .int l4_2), (0, .ref h0), (1, .int v1)] → W p l e ({ frames := 0, cells := 0, slots := 0, locals := 0 }) s m args below meth c s.heap [] 0 0 Q (F0 m 4 ls []) := by
  obtain ⟨hx, hb, hml, hown, hts, hK, hN, hT⟩ := id C
  intro N
  induction N with
  | zero =>
    intro l4_3 l4_2 ls kl4_3 hM_4 hl
    omega
  | succ N_4 ih_4 =>
    intro l4_3 l4_2 ls kl4_3 hM_4 hl
    have b_l4_3 := i32b l4_3
    refine lv_iload_n hx hb dX4_pairsThatMove_4 rfl (lv_at hl 0 rfl) ?_
    refine lv_bipush (v := 61) hx hb dX4_pairsThatMove_5 (by decide) ?_
    refine lv_icmp_ge (tgt := 39) hx hb dX4_pairsThatMove_7 (by decide) (fun c_1 => ?_) (fun c_1 => ?_)
    · have c_1 : 61 ≤ l4_3.toInt := ci_ge_t c_1
      refine lv_iload_n hx hb dX4_pairsThatMove_39 rfl (lv_at hl 1 rfl) ?_
      exact ret _ _ _ dX4_pairsThatMove_40 trivial
    · have c_1 : l4_3.toInt < 61 := ci_ge_f c_1
      refine lv_aload_n hx hb dX4_pairsThatMove_10 rfl (lv_at hl 2 rfl) ?_
      refine va_get (D := D) (ci := 4) (v := .ref h_tones) (C := RX4) (T := TX4) (N := 4) hx hb hts inlX4 hown hK hP 0 rfl rfl 0 (by decide) (hts _ (inr5 _ (List.mem_of_getElem? (i := 2) rfl))) (fun _ h9 => h9) rfl dX4_pairsThatMove_11 ?_
      refine lv_iload_n hx hb dX4_pairsThatMove_14 rfl (lv_at hl 0 rfl) ?_
      obtain ⟨t_2, et_2⟩ : ∃ v9 : Int32, f_tones (l4_3 : Int32).toNatClampNeg = v9 := ⟨_, rfl⟩
      refine z_iald (v := t_2) hx hb hK hP 1 1 rfl rfl (vin_nat (by omega) (by omega)) et_2 dX4_pairsThatMove_15 ?_
      refine lv_aload_n hx hb dX4_pairsThatMove_16 rfl (lv_at hl 2 rfl) ?_
      refine va_get (D := D) (ci := 4) (v := .ref h_tones) (C := RX4) (T := TX4) (N := 4) hx hb hts inlX4 hown hK hP 0 rfl rfl 0 (by decide) (hts _ (inr5 _ (List.mem_of_getElem? (i := 2) rfl))) (fun _ h9 => h9) rfl dX4_pairsThatMove_17 ?_
      refine lv_iload_n hx hb dX4_pairsThatMove_20 rfl (lv_at hl 0 rfl) ?_
      refine lv_iconst (v := 1) hx hb dX4_pairsThatMove_21 (by decide) ?_
      obtain ⟨t_3, et_3⟩ : ∃ v9 : Int32, l4_3 - 1 = v9 := ⟨_, rfl⟩
      refine z_isub (v := t_3) hx hb dX4_pairsThatMove_22 et_3 ?_
      have ft_3 : t_3.toInt = l4_3.toInt - 1 := subT (a := l4_3.toInt) (b := 1) rfl (by decide) et_3 (by omega) (by omega)
      obtain ⟨t_4, et_4⟩ : ∃ v9 : Int32, f_tones (t_3 : Int32).toNatClampNeg = v9 := ⟨_, rfl⟩
      refine z_iald (v := t_4) hx hb hK hP 1 1 rfl rfl (vin_nat (by omega) (by omega)) et_4 dX4_pairsThatMove_23 ?_
      obtain ⟨t_5, et_5⟩ : ∃ v9 : Int32, t_2 - t_4 = v9 := ⟨_, rfl⟩
      refine z_isub (v := t_5) hx hb dX4_pairsThatMove_24 et_5 ?_
      refine lv_iload_n hx hb dX4_pairsThatMove_25 rfl (lv_at hl 3 rfl) ?_
      obtain ⟨t_6, et_6⟩ : ∃ v9 : Int32, t_5 * v1 = v9 := ⟨_, rfl⟩
      refine z_imul (v := t_6) hx hb dX4_pairsThatMove_26 et_6 ?_
      refine lv_if_le (tgt := 33) hx hb dX4_pairsThatMove_27 (by decide) (fun c_7 => ?_) (fun c_7 => ?_)
      · have c_7 : t_6.toInt ≤ 0 := ci_le_t c_7
        have b_t_6 := i32b t_6
        obtain ⟨t_8, et_8⟩ : ∃ v9 : Int32, l4_3 + 1 = v9 := ⟨_, rfl⟩
        have ft_8 : t_8.toInt = l4_3.toInt + 1 := addT (a := l4_3.toInt) (b := 1) rfl (by decide) et_8 (by omega) (by omega)
        refine lv_iinc (v := t_8) (lv' := [(3, .int t_8), (2, .int l4_2), (0, .ref h0), (1, .int v1)]) hx hb dX4_pairsThatMove_33 hl (k := 0) rfl (by rw [← et_8]; rfl) (by decide) rfl (fun ls hl => ?_)
        refine lv_goto (tgt := 4) hx hb dX4_pairsThatMove_36 (by decide) ?_
        exact ih_4 (t_8) (l4_2) _ (by first | assumption | omega | decide) (by omega) (lv_sub hl [0, 1, 2, 3] rfl)
      · have c_7 : 0 < t_6.toInt := ci_le_f c_7
        have b_t_6 := i32b t_6
        obtain ⟨t_9, et_9⟩ : ∃ v9 : Int32, l4_2 + 1 = v9 := ⟨_, rfl⟩
        refine lv_iinc (v := t_9) (lv' := [(2, .int t_9), (3, .int l4_3), (0, .ref h0), (1, .int v1)]) hx hb dX4_pairsThatMove_30 hl (k := 1) rfl (by rw [← et_9]; rfl) (by decide) rfl (fun ls hl => ?_)
        obtain ⟨t_10, et_10⟩ : ∃ v9 : Int32, l4_3 + 1 = v9 := ⟨_, rfl⟩
        have ft_10 : t_10.toInt = l4_3.toInt + 1 := addT (a := l4_3.toInt) (b := 1) rfl (by decide) et_10 (by omega) (by omega)
        refine lv_iinc (v := t_10) (lv' := [(3, .int t_10), (2, .int t_9), (0, .ref h0), (1, .int v1)]) hx hb dX4_pairsThatMove_33 hl (k := 1) rfl (by rw [← et_10]; rfl) (by decide) rfl (fun ls hl => ?_)
        refine lv_goto (tgt := 4) hx hb dX4_pairsThatMove_36 (by decide) ?_
        exact ih_4 (t_10) (t_9) _ (by first | assumption | omega | decide) (by omega) (lv_sub hl [0, 1, 2, 3] rfl)

set_option maxHeartbeats 4000000 in
set_option maxRecDepth 100000 in
theorem b_X4_pairsThatMove (l : Launch) (G : Gho) (D : va_G) (cB cI cJ cZ cS cT : ClassId) (h0 : Nat) (h_tones : Nat) (h_lasts : Nat) (h_answers : Nat) (h_pip : Nat) (f_tones : Nat → Int32) (v1 : Int32)  : Met l yX4_pairsThatMove (Cond.code yX4_pairsThatMove cX4_pairsThatMove 4 (some .int) :: wsL_law) ({ frames := 0, cells := 0, slots := 0, locals := 0 }) (roP G D (tyL cB cI cJ cZ cS cT) [(h0, .inr (4, [.ref h_tones, .ref h_lasts, .ref h_answers, .ref h_pip])), (h_tones, .inl (cI, 61, .inl f_tones))] [.ref h0, .int v1]) (vp_Si (fun r : Int32 => True)) 0 0 (fun _ => False) := by
  refine metRO (own := RX4) (by decide) rfl ?_
  intro p e s m below meth c Q C hP ret
  obtain ⟨hx, hb, hml, hown, hts, hK, hN, hT⟩ := id C
  have hl := lv_entry ([.ref h0, .int v1]) (n := 4) (Nat.le_of_ble_eq_true rfl)
  rw [lg_entry_eq]
  generalize (lg_sl ([.ref h0, .int v1]) ++ List.replicate (4 - (lg_sl ([.ref h0, .int v1])).length) Slot.unset).toArray = ls at hl ⊢
  have hl : lv_has ls 4 [(0, .ref h0), (1, .int v1)] := hl
  have hP : va_P D vwCl [(h0, .inr (4, [.ref h_tones, .ref h_lasts, .ref h_answers, .ref h_pip])), (h_tones, .inl (cI, 61, .inl f_tones))] s.heap := hP
  refine lv_iconst (v := 0) hx hb dX4_pairsThatMove_0 (by decide) ?_
  refine lv_istore_n (lv' := [(2, .int 0), (0, .ref h0), (1, .int v1)]) hx hb dX4_pairsThatMove_1 rfl hl (by decide) rfl (fun ls hl => ?_)
  refine lv_iconst (v := 1) hx hb dX4_pairsThatMove_2 (by decide) ?_
  refine lv_istore_n (lv' := [(3, .int 1), (2, .int 0), (0, .ref h0), (1, .int v1)]) hx hb dX4_pairsThatMove_3 rfl hl (by decide) rfl (fun ls hl => ?_)
  exact b_X4_pairsThatMove_l4 h0 h_tones h_lasts h_answers h_pip f_tones v1  C (hP.sub [0, 1] rfl) ret _ (1) (0) _ (by first | assumption | omega | decide) (Nat.lt_succ_self _) (lv_sub hl [0, 1, 2, 3] rfl)

set_option maxHeartbeats 4000000 in
set_option maxRecDepth 100000 in
theorem b_X4_greatestLeap_l4 {p : Program} {l : Launch} {e : Env} {s : State} {m : MethodId} {args : Array Value} {below : List Frame} {meth : Method} {c : Code} {Q : State → Prop} {G : Gho} {D : va_G} {cB cI cJ cZ cS cT : ClassId} (h0 : Nat) (h_tones : Nat) (h_lasts : Nat) (h_answers : Nat) (h_pip : Nat) (f_tones : Nat → Int32)  (C : Cx p s m args c RX4 cX4_greatestLeap 3 G D (tyL cB cI cJ cZ cS cT)) (hP : va_P D vwCl [(h0, .inr (4, [.ref h_tones, .ref h_lasts, .ref h_answers, .ref h_pip])), (h_tones, .inl (cI, 61, .inl f_tones))] s.heap) (ret : RroI p l e ({ frames := 1, cells := 0, slots := 0, locals := 14 }) s m args below meth c cX4_greatestLeap (fun r : Int32 => True) Q) :
    ∀ (N : Nat) (l4_2 : Int32) (l4_1 : Int32) (ls : Array Slot), 1 ≤ l4_2.toInt ∧ l4_2.toInt ≤ 61 → (61 - l4_2.toInt).toNat < N → lv_has ls 3 [(2, .int l4_2), (1, .int l4_1), (0, .ref h0)] → W p l e ({ frames := 1, cells := 0, slots := 0, locals := 14 }) s m args below meth c s.heap [] 0 0 Q (F0 m 4 ls []) := by
  obtain ⟨hx, hb, hml, hown, hts, hK, hN, hT⟩ := id C
  intro N
  induction N with
  | zero =>
    intro l4_2 l4_1 ls kl4_2 hM_4 hl
    omega
  | succ N_4 ih_4 =>
    intro l4_2 l4_1 ls kl4_2 hM_4 hl
    have b_l4_2 := i32b l4_2
    refine lv_iload_n hx hb dX4_greatestLeap_4 rfl (lv_at hl 0 rfl) ?_
    refine lv_bipush (v := 61) hx hb dX4_greatestLeap_5 (by decide) ?_
    refine lv_icmp_ge (tgt := 39) hx hb dX4_greatestLeap_7 (by decide) (fun c_1 => ?_) (fun c_1 => ?_)
    · have c_1 : 61 ≤ l4_2.toInt := ci_ge_t c_1
      refine lv_iload_n hx hb dX4_greatestLeap_39 rfl (lv_at hl 1 rfl) ?_
      exact ret _ _ _ dX4_greatestLeap_40 trivial
    · have c_1 : l4_2.toInt < 61 := ci_ge_f c_1
      refine lv_iload_n hx hb dX4_greatestLeap_10 rfl (lv_at hl 1 rfl) ?_
      refine lv_aload_n hx hb dX4_greatestLeap_11 rfl (lv_at hl 2 rfl) ?_
      refine va_get (D := D) (ci := 4) (v := .ref h_tones) (C := RX4) (T := TX4) (N := 4) hx hb hts inlX4 hown hK hP 0 rfl rfl 0 (by decide) (hts _ (inr5 _ (List.mem_of_getElem? (i := 2) rfl))) (fun _ h9 => h9) rfl dX4_greatestLeap_12 ?_
      refine lv_iload_n hx hb dX4_greatestLeap_15 rfl (lv_at hl 0 rfl) ?_
      obtain ⟨t_2, et_2⟩ : ∃ v9 : Int32, f_tones (l4_2 : Int32).toNatClampNeg = v9 := ⟨_, rfl⟩
      refine z_iald (v := t_2) hx hb hK hP 1 1 rfl rfl (vin_nat (by omega) (by omega)) et_2 dX4_greatestLeap_16 ?_
      refine lv_aload_n hx hb dX4_greatestLeap_17 rfl (lv_at hl 2 rfl) ?_
      refine va_get (D := D) (ci := 4) (v := .ref h_tones) (C := RX4) (T := TX4) (N := 4) hx hb hts inlX4 hown hK hP 0 rfl rfl 0 (by decide) (hts _ (inr5 _ (List.mem_of_getElem? (i := 2) rfl))) (fun _ h9 => h9) rfl dX4_greatestLeap_18 ?_
      refine lv_iload_n hx hb dX4_greatestLeap_21 rfl (lv_at hl 0 rfl) ?_
      refine lv_iconst (v := 1) hx hb dX4_greatestLeap_22 (by decide) ?_
      obtain ⟨t_3, et_3⟩ : ∃ v9 : Int32, l4_2 - 1 = v9 := ⟨_, rfl⟩
      refine z_isub (v := t_3) hx hb dX4_greatestLeap_23 et_3 ?_
      have ft_3 : t_3.toInt = l4_2.toInt - 1 := subT (a := l4_2.toInt) (b := 1) rfl (by decide) et_3 (by omega) (by omega)
      obtain ⟨t_4, et_4⟩ : ∃ v9 : Int32, f_tones (t_3 : Int32).toNatClampNeg = v9 := ⟨_, rfl⟩
      refine z_iald (v := t_4) hx hb hK hP 1 1 rfl rfl (vin_nat (by omega) (by omega)) et_4 dX4_greatestLeap_24 ?_
      obtain ⟨t_5, et_5⟩ : ∃ v9 : Int32, t_2 - t_4 = v9 := ⟨_, rfl⟩
      refine z_isub (v := t_5) hx hb dX4_greatestLeap_25 et_5 ?_
      refine va_mabs hx hb (by rw [hml]; exact hl.1.symm) hown (hts _ (inr34 _ (List.mem_of_getElem? (i := 10) rfl))) (hts _ (inr34 _ (List.mem_of_getElem? (i := 11) rfl))) (hts _ (inr18 _ (List.mem_of_getElem? (i := 12) rfl))) (hts _ (inr34 _ (List.mem_of_getElem? (i := 12) rfl))) (Nat.le_of_ble_eq_true rfl) (Nat.le_of_ble_eq_true rfl) (Nat.le_of_ble_eq_true rfl) (Nat.le_of_ble_eq_true rfl) dX4_greatestLeap_26 ?_
      refine lv_topi (fun t_6 et_6 => ?_)
      refine va_mmax hx hb (by rw [hml]; exact hl.1.symm) hown (hts _ (inr32 _ (List.mem_of_getElem? (i := 4) rfl))) (hts _ (inr32 _ (List.mem_of_getElem? (i := 5) rfl))) (hts _ (inr18 _ (List.mem_of_getElem? (i := 12) rfl))) (hts _ (inr32 _ (List.mem_of_getElem? (i := 6) rfl))) (Nat.le_of_ble_eq_true rfl) (Nat.le_of_ble_eq_true rfl) (Nat.le_of_ble_eq_true rfl) (Nat.le_of_ble_eq_true rfl) dX4_greatestLeap_29 ?_
      refine lv_topi (fun t_7 et_7 => ?_)
      have b_l4_1 := i32b l4_1
      have b_t_6 := i32b t_6
      have ft_7 : l4_1.toInt ≤ t_7.toInt ∧ t_6.toInt ≤ t_7.toInt ∧ (t_7.toInt = l4_1.toInt ∨ t_7.toInt = t_6.toInt) := maxT et_7
      refine lv_istore_n (lv' := [(1, .int t_7), (2, .int l4_2), (0, .ref h0)]) hx hb dX4_greatestLeap_32 rfl hl (by decide) rfl (fun ls hl => ?_)
      obtain ⟨t_8, et_8⟩ : ∃ v9 : Int32, l4_2 + 1 = v9 := ⟨_, rfl⟩
      have ft_8 : t_8.toInt = l4_2.toInt + 1 := addT (a := l4_2.toInt) (b := 1) rfl (by decide) et_8 (by omega) (by omega)
      refine lv_iinc (v := t_8) (lv' := [(2, .int t_8), (1, .int t_7), (0, .ref h0)]) hx hb dX4_greatestLeap_33 hl (k := 1) rfl (by rw [← et_8]; rfl) (by decide) rfl (fun ls hl => ?_)
      refine lv_goto (tgt := 4) hx hb dX4_greatestLeap_36 (by decide) ?_
      exact ih_4 (t_8) (t_7) _ (by first | assumption | omega | decide) (by omega) (lv_sub hl [0, 1, 2] rfl)

set_option maxHeartbeats 4000000 in
set_option maxRecDepth 100000 in
theorem b_X4_greatestLeap (l : Launch) (G : Gho) (D : va_G) (cB cI cJ cZ cS cT : ClassId) (h0 : Nat) (h_tones : Nat) (h_lasts : Nat) (h_answers : Nat) (h_pip : Nat) (f_tones : Nat → Int32)  : Met l yX4_greatestLeap (Cond.code yX4_greatestLeap cX4_greatestLeap 3 (some .int) :: wsL_law) ({ frames := 1, cells := 0, slots := 0, locals := 14 }) (roP G D (tyL cB cI cJ cZ cS cT) [(h0, .inr (4, [.ref h_tones, .ref h_lasts, .ref h_answers, .ref h_pip])), (h_tones, .inl (cI, 61, .inl f_tones))] [.ref h0]) (vp_Si (fun r : Int32 => True)) 0 0 (fun _ => False) := by
  refine metRO (own := RX4) (by decide) rfl ?_
  intro p e s m below meth c Q C hP ret
  obtain ⟨hx, hb, hml, hown, hts, hK, hN, hT⟩ := id C
  have hl := lv_entry ([.ref h0]) (n := 3) (Nat.le_of_ble_eq_true rfl)
  rw [lg_entry_eq]
  generalize (lg_sl ([.ref h0]) ++ List.replicate (3 - (lg_sl ([.ref h0])).length) Slot.unset).toArray = ls at hl ⊢
  have hl : lv_has ls 3 [(0, .ref h0)] := hl
  have hP : va_P D vwCl [(h0, .inr (4, [.ref h_tones, .ref h_lasts, .ref h_answers, .ref h_pip])), (h_tones, .inl (cI, 61, .inl f_tones))] s.heap := hP
  refine lv_iconst (v := 0) hx hb dX4_greatestLeap_0 (by decide) ?_
  refine lv_istore_n (lv' := [(1, .int 0), (0, .ref h0)]) hx hb dX4_greatestLeap_1 rfl hl (by decide) rfl (fun ls hl => ?_)
  refine lv_iconst (v := 1) hx hb dX4_greatestLeap_2 (by decide) ?_
  refine lv_istore_n (lv' := [(2, .int 1), (1, .int 0), (0, .ref h0)]) hx hb dX4_greatestLeap_3 rfl hl (by decide) rfl (fun ls hl => ?_)
  exact b_X4_greatestLeap_l4 h0 h_tones h_lasts h_answers h_pip f_tones  C (hP.sub [0, 1] rfl) ret _ (1) (0) _ (by first | assumption | omega | decide) (Nat.lt_succ_self _) (lv_sub hl [0, 1, 2] rfl)

set_option maxHeartbeats 4000000 in
set_option maxRecDepth 100000 in
theorem b_X4_lastStepAlike_l17 {p : Program} {l : Launch} {e : Env} {s : State} {m : MethodId} {args : Array Value} {below : List Frame} {meth : Method} {c : Code} {Q : State → Prop} {G : Gho} {D : va_G} {cB cI cJ cZ cS cT : ClassId} (h0 : Nat) (h_tones : Nat) (h_lasts : Nat) (h_answers : Nat) (h_pip : Nat) (f_tones : Nat → Int32) (r_1 : Int32) (c_3 : ¬ r_1.toInt = (-1)) (C : Cx p s m args c RX4 cX4_lastStepAlike 4 G D (tyL cB cI cJ cZ cS cT)) (hP : va_P D vwCl [(h0, .inr (4, [.ref h_tones, .ref h_lasts, .ref h_answers, .ref h_pip])), (h_tones, .inl (cI, 61, .inl f_tones))] s.heap) (ret : RroI p l e ({ frames := 1, cells := 0, slots := 0, locals := 21 }) s m args below meth c cX4_lastStepAlike (fun r : Int32 => True) Q) :
    ∀ (N : Nat) (l17_3 : Int32) (ls : Array Slot), (l17_3.toInt - 0 + 1).toNat < N → lv_has ls 4 [(3, .int l17_3), (2, .int r_1), (0, .ref h0)] → W p l e ({ frames := 1, cells := 0, slots := 0, locals := 21 }) s m args below meth c s.heap [] 0 0 Q (F0 m 17 ls []) := by
  obtain ⟨hx, hb, hml, hown, hts, hK, hN, hT⟩ := id C
  intro N
  induction N with
  | zero =>
    intro l17_3 ls  hM_17 hl
    omega
  | succ N_17 ih_17 =>
    intro l17_3 ls  hM_17 hl
    have b_l17_3 := i32b l17_3
    refine lv_iload_n hx hb dX4_lastStepAlike_17 rfl (lv_at hl 0 rfl) ?_
    refine lv_if_lt (tgt := 38) hx hb dX4_lastStepAlike_18 (by decide) (fun c_5 => ?_) (fun c_5 => ?_)
    · have c_5 : l17_3.toInt < 0 := ci_lt_t c_5
      refine lv_iconst (v := (-1)) hx hb dX4_lastStepAlike_38 (by decide) ?_
      exact ret _ _ _ dX4_lastStepAlike_39 trivial
    · have c_5 : 0 ≤ l17_3.toInt := ci_lt_f c_5
      refine lv_aload_n hx hb dX4_lastStepAlike_21 rfl (lv_at hl 2 rfl) ?_
      refine lv_iload_n hx hb dX4_lastStepAlike_22 rfl (lv_at hl 0 rfl) ?_
      refine roi (As := [.int l17_3]) (rest := []) ⟨hx, hb, hml, hown, hts⟩ (b_X4_heardAt l G D cB cI cJ cZ cS cT h0 h_tones h_lasts h_answers h_pip f_tones l17_3 ) (cvB (n := 1) (inr35 _ (List.mem_of_getElem? (i := 10) rfl)) (inr23 _ (List.mem_of_getElem? (i := 16) rfl)) (inr23 _ (List.mem_of_getElem? (i := 17) rfl)) (inr2 _ (List.mem_of_getElem? (i := 11) rfl)) (inr23 _ (List.mem_of_getElem? (i := 18) rfl)) (by decide +kernel) hts rfl rfl ⟨Nat.le_of_ble_eq_true rfl, Nat.le_of_ble_eq_true rfl⟩) 0 4 rfl rfl rfl (hP.sub [0, 1] rfl) hK hN hT rfl hl.1 rfl (Nat.le_of_ble_eq_true rfl) ⟨Nat.le_of_ble_eq_true rfl, Nat.le_of_ble_eq_true rfl⟩ dX4_lastStepAlike_23 (fun r_6 h_7 => ?_)
      refine lv_iload_n hx hb dX4_lastStepAlike_26 rfl (lv_at hl 1 rfl) ?_
      refine lv_icmp_ne (tgt := 32) hx hb dX4_lastStepAlike_27 (by decide) (fun c_8 => ?_) (fun c_8 => ?_)
      · have c_8 : ¬ r_6.toInt = r_1.toInt := ci_ne_t c_8
        have b_r_6 := i32b r_6
        have b_r_1 := i32b r_1
        obtain ⟨t_9, et_9⟩ : ∃ v9 : Int32, l17_3 + (-1) = v9 := ⟨_, rfl⟩
        have ft_9 : t_9.toInt = l17_3.toInt + (-1) := addT (a := l17_3.toInt) (b := (-1)) rfl (by decide) et_9 (by omega) (by omega)
        refine lv_iinc (v := t_9) (lv' := [(3, .int t_9), (2, .int r_1), (0, .ref h0)]) hx hb dX4_lastStepAlike_32 hl (k := 0) rfl (by rw [← et_9]; rfl) (by decide) rfl (fun ls hl => ?_)
        refine lv_goto (tgt := 17) hx hb dX4_lastStepAlike_35 (by decide) ?_
        exact ih_17 (t_9) _  (by omega) (lv_sub hl [0, 1, 2] rfl)
      · have c_8 : r_6.toInt = r_1.toInt := ci_ne_f c_8
        have b_r_6 := i32b r_6
        have b_r_1 := i32b r_1
        refine lv_iload_n hx hb dX4_lastStepAlike_30 rfl (lv_at hl 0 rfl) ?_
        exact ret _ _ _ dX4_lastStepAlike_31 trivial

set_option maxHeartbeats 4000000 in
set_option maxRecDepth 100000 in
theorem b_X4_lastStepAlike (l : Launch) (G : Gho) (D : va_G) (cB cI cJ cZ cS cT : ClassId) (h0 : Nat) (h_tones : Nat) (h_lasts : Nat) (h_answers : Nat) (h_pip : Nat) (f_tones : Nat → Int32) (v1 : Int32)  : Met l yX4_lastStepAlike (Cond.code yX4_lastStepAlike cX4_lastStepAlike 4 (some .int) :: wsL_law) ({ frames := 1, cells := 0, slots := 0, locals := 21 }) (roP G D (tyL cB cI cJ cZ cS cT) [(h0, .inr (4, [.ref h_tones, .ref h_lasts, .ref h_answers, .ref h_pip])), (h_tones, .inl (cI, 61, .inl f_tones))] [.ref h0, .int v1]) (vp_Si (fun r : Int32 => True)) 0 0 (fun _ => False) := by
  refine metRO (own := RX4) (by decide) rfl ?_
  intro p e s m below meth c Q C hP ret
  obtain ⟨hx, hb, hml, hown, hts, hK, hN, hT⟩ := id C
  have hl := lv_entry ([.ref h0, .int v1]) (n := 4) (Nat.le_of_ble_eq_true rfl)
  rw [lg_entry_eq]
  generalize (lg_sl ([.ref h0, .int v1]) ++ List.replicate (4 - (lg_sl ([.ref h0, .int v1])).length) Slot.unset).toArray = ls at hl ⊢
  have hl : lv_has ls 4 [(0, .ref h0), (1, .int v1)] := hl
  have hP : va_P D vwCl [(h0, .inr (4, [.ref h_tones, .ref h_lasts, .ref h_answers, .ref h_pip])), (h_tones, .inl (cI, 61, .inl f_tones))] s.heap := hP
  refine lv_aload_n hx hb dX4_lastStepAlike_0 rfl (lv_at hl 0 rfl) ?_
  refine lv_iload_n hx hb dX4_lastStepAlike_1 rfl (lv_at hl 1 rfl) ?_
  refine roi (As := [.int v1]) (rest := []) ⟨hx, hb, hml, hown, hts⟩ (b_X4_heardAt l G D cB cI cJ cZ cS cT h0 h_tones h_lasts h_answers h_pip f_tones v1 ) (cvB (n := 1) (inr35 _ (List.mem_of_getElem? (i := 10) rfl)) (inr23 _ (List.mem_of_getElem? (i := 16) rfl)) (inr23 _ (List.mem_of_getElem? (i := 17) rfl)) (inr2 _ (List.mem_of_getElem? (i := 11) rfl)) (inr23 _ (List.mem_of_getElem? (i := 18) rfl)) (by decide +kernel) hts rfl rfl ⟨Nat.le_of_ble_eq_true rfl, Nat.le_of_ble_eq_true rfl⟩) 0 4 rfl rfl rfl (hP.sub [0, 1] rfl) hK hN hT rfl hl.1 rfl (Nat.le_of_ble_eq_true rfl) ⟨Nat.le_of_ble_eq_true rfl, Nat.le_of_ble_eq_true rfl⟩ dX4_lastStepAlike_2 (fun r_1 h_2 => ?_)
  refine lv_istore_n (lv' := [(2, .int r_1), (0, .ref h0), (1, .int v1)]) hx hb dX4_lastStepAlike_5 rfl hl (by decide) rfl (fun ls hl => ?_)
  refine lv_iload_n hx hb dX4_lastStepAlike_6 rfl (lv_at hl 0 rfl) ?_
  refine lv_iconst (v := (-1)) hx hb dX4_lastStepAlike_7 (by decide) ?_
  refine lv_icmp_ne (tgt := 13) hx hb dX4_lastStepAlike_8 (by decide) (fun c_3 => ?_) (fun c_3 => ?_)
  · have c_3 : ¬ r_1.toInt = (-1) := ci_ne_t c_3
    have b_r_1 := i32b r_1
    refine lv_iload_n hx hb dX4_lastStepAlike_13 rfl (lv_at hl 2 rfl) ?_
    refine lv_iconst (v := 1) hx hb dX4_lastStepAlike_14 (by decide) ?_
    obtain ⟨t_4, et_4⟩ : ∃ v9 : Int32, v1 - 1 = v9 := ⟨_, rfl⟩
    refine z_isub (v := t_4) hx hb dX4_lastStepAlike_15 et_4 ?_
    refine lv_istore_n (lv' := [(3, .int t_4), (2, .int r_1), (0, .ref h0), (1, .int v1)]) hx hb dX4_lastStepAlike_16 rfl hl (by decide) rfl (fun ls hl => ?_)
    exact b_X4_lastStepAlike_l17 h0 h_tones h_lasts h_answers h_pip f_tones r_1 (by first | assumption | omega | decide) C (hP.sub [0, 1] rfl) ret _ (t_4) _  (Nat.lt_succ_self _) (lv_sub hl [0, 1, 2] rfl)
  · have c_3 : r_1.toInt = (-1) := ci_ne_f c_3
    have b_r_1 := i32b r_1
    refine lv_iconst (v := (-1)) hx hb dX4_lastStepAlike_11 (by decide) ?_
    exact ret _ _ _ dX4_lastStepAlike_12 trivial

set_option maxHeartbeats 4000000 in
set_option maxRecDepth 100000 in
theorem b_X5_howMany (l : Launch) (G : Gho) (D : va_G) (cB cI cJ cZ cS cT : ClassId) (h0 : Nat) (h_sentAt : Nat) (h_tally : Nat) (v0_found : Int32) (v0_leastPlace : Int32) (v0_greatestPlace : Int32)  : Met l yX5_howMany (Cond.code yX5_howMany cX5_howMany 1 (some .int) :: wsL_law) ({ frames := 0, cells := 0, slots := 0, locals := 0 }) (roP G D (tyL cB cI cJ cZ cS cT) [(h0, .inr (5, [.ref h_sentAt, .ref h_tally, .int v0_found, .int v0_leastPlace, .int v0_greatestPlace]))] [.ref h0]) (vp_Si (fun r : Int32 => (r = v0_found))) 0 0 (fun _ => False) := by
  refine metRO (own := RX5) (by decide) rfl ?_
  intro p e s m below meth c Q C hP ret
  obtain ⟨hx, hb, hml, hown, hts, hK, hN, hT⟩ := id C
  have hl := lv_entry ([.ref h0]) (n := 1) (Nat.le_of_ble_eq_true rfl)
  rw [lg_entry_eq]
  generalize (lg_sl ([.ref h0]) ++ List.replicate (1 - (lg_sl ([.ref h0])).length) Slot.unset).toArray = ls at hl ⊢
  have hl : lv_has ls 1 [(0, .ref h0)] := hl
  have hP : va_P D vwCl [(h0, .inr (5, [.ref h_sentAt, .ref h_tally, .int v0_found, .int v0_leastPlace, .int v0_greatestPlace]))] s.heap := hP
  refine lv_aload_n hx hb dX5_howMany_0 rfl (lv_at hl 0 rfl) ?_
  refine va_get (D := D) (ci := 5) (v := .int v0_found) (C := RX5) (T := TX5) (N := 5) hx hb hts inlX5 hown hK hP 0 rfl rfl 2 (by decide) (hts _ (inr56 _ (List.mem_of_getElem? (i := 22) rfl))) (fun _ h9 => h9) rfl dX5_howMany_1 ?_
  exact ret _ _ _ dX5_howMany_4 (show (v0_found = v0_found) from rfl)

set_option maxHeartbeats 4000000 in
set_option maxRecDepth 100000 in
theorem b_X5_least (l : Launch) (G : Gho) (D : va_G) (cB cI cJ cZ cS cT : ClassId) (h0 : Nat) (h_sentAt : Nat) (h_tally : Nat) (v0_found : Int32) (v0_leastPlace : Int32) (v0_greatestPlace : Int32)  : Met l yX5_least (Cond.code yX5_least cX5_least 1 (some .int) :: wsL_law) ({ frames := 0, cells := 0, slots := 0, locals := 0 }) (roP G D (tyL cB cI cJ cZ cS cT) [(h0, .inr (5, [.ref h_sentAt, .ref h_tally, .int v0_found, .int v0_leastPlace, .int v0_greatestPlace]))] [.ref h0]) (vp_Si (fun r : Int32 => (r = v0_leastPlace))) 0 0 (fun _ => False) := by
  refine metRO (own := RX5) (by decide) rfl ?_
  intro p e s m below meth c Q C hP ret
  obtain ⟨hx, hb, hml, hown, hts, hK, hN, hT⟩ := id C
  have hl := lv_entry ([.ref h0]) (n := 1) (Nat.le_of_ble_eq_true rfl)
  rw [lg_entry_eq]
  generalize (lg_sl ([.ref h0]) ++ List.replicate (1 - (lg_sl ([.ref h0])).length) Slot.unset).toArray = ls at hl ⊢
  have hl : lv_has ls 1 [(0, .ref h0)] := hl
  have hP : va_P D vwCl [(h0, .inr (5, [.ref h_sentAt, .ref h_tally, .int v0_found, .int v0_leastPlace, .int v0_greatestPlace]))] s.heap := hP
  refine lv_aload_n hx hb dX5_least_0 rfl (lv_at hl 0 rfl) ?_
  refine va_get (D := D) (ci := 5) (v := .int v0_leastPlace) (C := RX5) (T := TX5) (N := 5) hx hb hts inlX5 hown hK hP 0 rfl rfl 3 (by decide) (hts _ (inr56 _ (List.mem_of_getElem? (i := 23) rfl))) (fun _ h9 => h9) rfl dX5_least_1 ?_
  exact ret _ _ _ dX5_least_4 (show (v0_leastPlace = v0_leastPlace) from rfl)

set_option maxHeartbeats 4000000 in
set_option maxRecDepth 100000 in
theorem b_X5_greatest (l : Launch) (G : Gho) (D : va_G) (cB cI cJ cZ cS cT : ClassId) (h0 : Nat) (h_sentAt : Nat) (h_tally : Nat) (v0_found : Int32) (v0_leastPlace : Int32) (v0_greatestPlace : Int32)  : Met l yX5_greatest (Cond.code yX5_greatest cX5_greatest 1 (some .int) :: wsL_law) ({ frames := 0, cells := 0, slots := 0, locals := 0 }) (roP G D (tyL cB cI cJ cZ cS cT) [(h0, .inr (5, [.ref h_sentAt, .ref h_tally, .int v0_found, .int v0_leastPlace, .int v0_greatestPlace]))] [.ref h0]) (vp_Si (fun r : Int32 => (r = v0_greatestPlace))) 0 0 (fun _ => False) := by
  refine metRO (own := RX5) (by decide) rfl ?_
  intro p e s m below meth c Q C hP ret
  obtain ⟨hx, hb, hml, hown, hts, hK, hN, hT⟩ := id C
  have hl := lv_entry ([.ref h0]) (n := 1) (Nat.le_of_ble_eq_true rfl)
  rw [lg_entry_eq]
  generalize (lg_sl ([.ref h0]) ++ List.replicate (1 - (lg_sl ([.ref h0])).length) Slot.unset).toArray = ls at hl ⊢
  have hl : lv_has ls 1 [(0, .ref h0)] := hl
  have hP : va_P D vwCl [(h0, .inr (5, [.ref h_sentAt, .ref h_tally, .int v0_found, .int v0_leastPlace, .int v0_greatestPlace]))] s.heap := hP
  refine lv_aload_n hx hb dX5_greatest_0 rfl (lv_at hl 0 rfl) ?_
  refine va_get (D := D) (ci := 5) (v := .int v0_greatestPlace) (C := RX5) (T := TX5) (N := 5) hx hb hts inlX5 hown hK hP 0 rfl rfl 4 (by decide) (hts _ (inr57 _ (List.mem_of_getElem? (i := 0) rfl))) (fun _ h9 => h9) rfl dX5_greatest_1 ?_
  exact ret _ _ _ dX5_greatest_4 (show (v0_greatestPlace = v0_greatestPlace) from rfl)

set_option maxHeartbeats 4000000 in
set_option maxRecDepth 100000 in
theorem b_X8_postPlace (l : Launch) (G : Gho) (D : va_G) (cB cI cJ cZ cS cT : ClassId) (h0 : Nat) (v0_tones : Int32) (v0_a : Int32) (v0_b : Int32) (v0_c : Int32) (v0_d : Int32) (v0_odds : Int32) (v0_lines : Int32) (h_signs : Nat) (v0_signCount : Int32) (h_posts : Nat) (v0_postCount : Int32) (h_acts : Nat) (f_posts : Nat → Int32) (v1 : Int32) (iv0_signCount : 0 ≤ v0_signCount.toInt ∧ v0_signCount.toInt ≤ 8) (iv0_postCount : 0 ≤ v0_postCount.toInt ∧ v0_postCount.toInt ≤ 5) : Met l yX8_postPlace (Cond.code yX8_postPlace cX8_postPlace 2 (some .int) :: wsL_law) ({ frames := 0, cells := 0, slots := 0, locals := 0 }) (roP G D (tyL cB cI cJ cZ cS cT) [(h0, .inr (8, [.int v0_tones, .int v0_a, .int v0_b, .int v0_c, .int v0_d, .int v0_odds, .int v0_lines, .ref h_signs, .int v0_signCount, .ref h_posts, .int v0_postCount, .ref h_acts])), (h_posts, .inl (cI, 5, .inl f_posts))] [.ref h0, .int v1]) (vp_Si (fun r : Int32 => True)) 0 0 (fun _ => False) := by
  refine metRO (own := RX8) (by decide) rfl ?_
  intro p e s m below meth c Q C hP ret
  obtain ⟨hx, hb, hml, hown, hts, hK, hN, hT⟩ := id C
  have hl := lv_entry ([.ref h0, .int v1]) (n := 2) (Nat.le_of_ble_eq_true rfl)
  rw [lg_entry_eq]
  generalize (lg_sl ([.ref h0, .int v1]) ++ List.replicate (2 - (lg_sl ([.ref h0, .int v1])).length) Slot.unset).toArray = ls at hl ⊢
  have hl : lv_has ls 2 [(0, .ref h0), (1, .int v1)] := hl
  have hP : va_P D vwCl [(h0, .inr (8, [.int v0_tones, .int v0_a, .int v0_b, .int v0_c, .int v0_d, .int v0_odds, .int v0_lines, .ref h_signs, .int v0_signCount, .ref h_posts, .int v0_postCount, .ref h_acts])), (h_posts, .inl (cI, 5, .inl f_posts))] s.heap := hP
  refine lv_iload_n hx hb dX8_postPlace_0 rfl (lv_at hl 1 rfl) ?_
  refine lv_if_lt (tgt := 21) hx hb dX8_postPlace_1 (by decide) (fun c_1 => ?_) (fun c_1 => ?_)
  · have c_1 : v1.toInt < 0 := ci_lt_t c_1
    have b_v1 := i32b v1
    refine lv_iconst (v := 0) hx hb dX8_postPlace_21 (by decide) ?_
    exact ret _ _ _ dX8_postPlace_22 trivial
  · have c_1 : 0 ≤ v1.toInt := ci_lt_f c_1
    have b_v1 := i32b v1
    refine lv_iload_n hx hb dX8_postPlace_4 rfl (lv_at hl 1 rfl) ?_
    refine lv_aload_n hx hb dX8_postPlace_5 rfl (lv_at hl 0 rfl) ?_
    refine va_get (D := D) (ci := 8) (v := .int v0_postCount) (C := RX8) (T := TX8) (N := 12) hx hb hts inlX8 hown hK hP 0 rfl rfl 10 (by decide) (hts _ (inr9 _ (List.mem_of_getElem? (i := 23) rfl))) (fun _ h9 => h9) rfl dX8_postPlace_6 ?_
    refine lv_icmp_ge (tgt := 21) hx hb dX8_postPlace_9 (by decide) (fun c_2 => ?_) (fun c_2 => ?_)
    · have c_2 : v0_postCount.toInt ≤ v1.toInt := ci_ge_t c_2
      have b_v0_postCount := i32b v0_postCount
      refine lv_iconst (v := 0) hx hb dX8_postPlace_21 (by decide) ?_
      exact ret _ _ _ dX8_postPlace_22 trivial
    · have c_2 : v1.toInt < v0_postCount.toInt := ci_ge_f c_2
      have b_v0_postCount := i32b v0_postCount
      refine lv_aload_n hx hb dX8_postPlace_12 rfl (lv_at hl 0 rfl) ?_
      refine va_get (D := D) (ci := 8) (v := .ref h_posts) (C := RX8) (T := TX8) (N := 12) hx hb hts inlX8 hown hK hP 0 rfl rfl 9 (by decide) (hts _ (inr4 _ (List.mem_of_getElem? (i := 2) rfl))) (fun _ h9 => h9) rfl dX8_postPlace_13 ?_
      refine lv_iload_n hx hb dX8_postPlace_16 rfl (lv_at hl 1 rfl) ?_
      obtain ⟨t_3, et_3⟩ : ∃ v9 : Int32, f_posts (v1 : Int32).toNatClampNeg = v9 := ⟨_, rfl⟩
      refine z_iald (v := t_3) hx hb hK hP 1 1 rfl rfl (vin_nat (by omega) (by omega)) et_3 dX8_postPlace_17 ?_
      refine lv_goto (tgt := 22) hx hb dX8_postPlace_18 (by decide) ?_
      exact ret _ _ _ dX8_postPlace_22 trivial

set_option maxHeartbeats 4000000 in
set_option maxRecDepth 100000 in
theorem b_X8_wayToPost (l : Launch) (G : Gho) (D : va_G) (cB cI cJ cZ cS cT : ClassId) (h0 : Nat) (v0_tones : Int32) (v0_a : Int32) (v0_b : Int32) (v0_c : Int32) (v0_d : Int32) (v0_odds : Int32) (v0_lines : Int32) (h_signs : Nat) (v0_signCount : Int32) (h_posts : Nat) (v0_postCount : Int32) (h_acts : Nat) (f_posts : Nat → Int32) (v1 : Int32) (v2 : Int32) (iv0_signCount : 0 ≤ v0_signCount.toInt ∧ v0_signCount.toInt ≤ 8) (iv0_postCount : 0 ≤ v0_postCount.toInt ∧ v0_postCount.toInt ≤ 5) : Met l yX8_wayToPost (Cond.code yX8_wayToPost cX8_wayToPost 3 (some .int) :: wsL_law) ({ frames := 1, cells := 0, slots := 0, locals := 21 }) (roP G D (tyL cB cI cJ cZ cS cT) [(h0, .inr (8, [.int v0_tones, .int v0_a, .int v0_b, .int v0_c, .int v0_d, .int v0_odds, .int v0_lines, .ref h_signs, .int v0_signCount, .ref h_posts, .int v0_postCount, .ref h_acts])), (h_posts, .inl (cI, 5, .inl f_posts))] [.ref h0, .int v1, .int v2]) (vp_Si (fun r : Int32 => True)) 0 0 (fun _ => False) := by
  refine metRO (own := RX8) (by decide) rfl ?_
  intro p e s m below meth c Q C hP ret
  obtain ⟨hx, hb, hml, hown, hts, hK, hN, hT⟩ := id C
  have hl := lv_entry ([.ref h0, .int v1, .int v2]) (n := 3) (Nat.le_of_ble_eq_true rfl)
  rw [lg_entry_eq]
  generalize (lg_sl ([.ref h0, .int v1, .int v2]) ++ List.replicate (3 - (lg_sl ([.ref h0, .int v1, .int v2])).length) Slot.unset).toArray = ls at hl ⊢
  have hl : lv_has ls 3 [(0, .ref h0), (1, .int v1), (2, .int v2)] := hl
  have hP : va_P D vwCl [(h0, .inr (8, [.int v0_tones, .int v0_a, .int v0_b, .int v0_c, .int v0_d, .int v0_odds, .int v0_lines, .ref h_signs, .int v0_signCount, .ref h_posts, .int v0_postCount, .ref h_acts])), (h_posts, .inl (cI, 5, .inl f_posts))] s.heap := hP
  refine lv_iload_n hx hb dX8_wayToPost_0 rfl (lv_at hl 1 rfl) ?_
  refine lv_aload_n hx hb dX8_wayToPost_1 rfl (lv_at hl 0 rfl) ?_
  refine lv_iload_n hx hb dX8_wayToPost_2 rfl (lv_at hl 2 rfl) ?_
  refine roi (As := [.int v2]) (rest := [.int v1]) ⟨hx, hb, hml, hown, hts⟩ (b_X8_postPlace l G D cB cI cJ cZ cS cT h0 v0_tones v0_a v0_b v0_c v0_d v0_odds v0_lines h_signs v0_signCount h_posts v0_postCount h_acts f_posts v2 (by first | assumption | omega | decide) (by first | assumption | omega | decide)) (cvB (n := 1) (inr43 _ (List.mem_of_getElem? (i := 17) rfl)) (inr21 _ (List.mem_of_getElem? (i := 19) rfl)) (inr21 _ (List.mem_of_getElem? (i := 20) rfl)) (inr1 _ (List.mem_of_getElem? (i := 23) rfl)) (inr21 _ (List.mem_of_getElem? (i := 21) rfl)) (by decide +kernel) hts rfl rfl ⟨Nat.le_of_ble_eq_true rfl, Nat.le_of_ble_eq_true rfl⟩) 0 8 rfl rfl rfl (hP.sub [0, 1] rfl) hK hN hT rfl hl.1 rfl (Nat.le_of_ble_eq_true rfl) ⟨Nat.le_of_ble_eq_true rfl, Nat.le_of_ble_eq_true rfl⟩ dX8_wayToPost_3 (fun r_1 h_2 => ?_)
  obtain ⟨t_3, et_3⟩ : ∃ v9 : Int32, v1 - r_1 = v9 := ⟨_, rfl⟩
  refine z_isub (v := t_3) hx hb dX8_wayToPost_6 et_3 ?_
  refine va_mabs hx hb (by rw [hml]; exact hl.1.symm) hown (hts _ (inr43 _ (List.mem_of_getElem? (i := 16) rfl))) (hts _ (inr34 _ (List.mem_of_getElem? (i := 11) rfl))) (hts _ (inr18 _ (List.mem_of_getElem? (i := 12) rfl))) (hts _ (inr34 _ (List.mem_of_getElem? (i := 12) rfl))) (Nat.le_of_ble_eq_true rfl) (Nat.le_of_ble_eq_true rfl) (Nat.le_of_ble_eq_true rfl) (Nat.le_of_ble_eq_true rfl) dX8_wayToPost_7 ?_
  refine lv_topi (fun t_4 et_4 => ?_)
  exact ret _ _ _ dX8_wayToPost_10 trivial

set_option maxHeartbeats 4000000 in
set_option maxRecDepth 100000 in
theorem b_X5_minuteSent_l5 {p : Program} {l : Launch} {e : Env} {s : State} {m : MethodId} {args : Array Value} {below : List Frame} {meth : Method} {c : Code} {Q : State → Prop} {G : Gho} {D : va_G} {cB cI cJ cZ cS cT : ClassId} (h_a0 : Nat) (v_a0_tones : Int32) (v_a0_a : Int32) (v_a0_b : Int32) (v_a0_c : Int32) (v_a0_d : Int32) (v_a0_odds : Int32) (v_a0_lines : Int32) (h_a0_signs : Nat) (v_a0_signCount : Int32) (h_a0_posts : Nat) (v_a0_postCount : Int32) (h_a0_acts : Nat) (f_a0_posts : Nat → Int32) (h_a1 : Nat) (h_a1_numbers : Nat) (v_a1_width : Int32) (v_a1_size : Int32) (v_a1_made : Int32) (f_a1_numbers : Nat → Int64) (v2 : Int32) (iv_a0_signCount : 0 ≤ v_a0_signCount.toInt ∧ v_a0_signCount.toInt ≤ 8) (iv_a0_postCount : 0 ≤ v_a0_postCount.toInt ∧ v_a0_postCount.toInt ≤ 5) (iv_a1_size : 0 ≤ v_a1_size.toInt ∧ v_a1_size.toInt ≤ 60) (iv_a1_made : 0 ≤ v_a1_made.toInt ∧ v_a1_made.toInt ≤ 1) (C : Cx p s m args c RX5 cX5_minuteSent 6 G D (tyL cB cI cJ cZ cS cT)) (hP : va_P D vwCl [(h_a0, .inr (8, [.int v_a0_tones, .int v_a0_a, .int v_a0_b, .int v_a0_c, .int v_a0_d, .int v_a0_odds, .int v_a0_lines, .ref h_a0_signs, .int v_a0_signCount, .ref h_a0_posts, .int v_a0_postCount, .ref h_a0_acts])), (h_a0_posts, .inl (cI, 5, .inl f_a0_posts)), (h_a1, .inr (7, [.ref h_a1_numbers, .int v_a1_width, .int v_a1_size, .int v_a1_made])), (h_a1_numbers, .inl (cJ, 60, .inr (.inl f_a1_numbers)))] s.heap) (ret : RroI p l e ({ frames := 2, cells := 0, slots := 0, locals := 43 }) s m args below meth c cX5_minuteSent (fun r : Int32 => True) Q) :
    ∀ (N : Nat) (l5_4 : Int32) (l5_3 : Int32) (ls : Array Slot), 0 ≤ l5_4.toInt → (v_a1_size.toInt - l5_4.toInt).toNat < N → lv_has ls 6 [(4, .int l5_4), (3, .int l5_3), (0, .ref h_a0), (1, .ref h_a1), (2, .int v2)] → W p l e ({ frames := 2, cells := 0, slots := 0, locals := 43 }) s m args below meth c s.heap [] 0 0 Q (F0 m 5 ls []) := by
  obtain ⟨hx, hb, hml, hown, hts, hK, hN, hT⟩ := id C
  intro N
  induction N with
  | zero =>
    intro l5_4 l5_3 ls kl5_4 hM_5 hl
    omega
  | succ N_5 ih_5 =>
    intro l5_4 l5_3 ls kl5_4 hM_5 hl
    have b_l5_4 := i32b l5_4
    refine lv_iload hx hb dX5_minuteSent_5 (lv_at hl 0 rfl) ?_
    refine lv_aload_n hx hb dX5_minuteSent_7 rfl (lv_at hl 3 rfl) ?_
    refine roi (As := []) (rest := [.int l5_4]) ⟨hx, hb, hml, hown, hts⟩ (b_X7_size l G D cB cI cJ cZ cS cT h_a1 h_a1_numbers v_a1_width v_a1_size v_a1_made (by first | assumption | omega | decide) (by first | assumption | omega | decide)) (cvB (n := 0) (inr57 _ (List.mem_of_getElem? (i := 4) rfl)) (inr52 _ (List.mem_of_getElem? (i := 5) rfl)) (inr52 _ (List.mem_of_getElem? (i := 6) rfl)) (inr2 _ (List.mem_of_getElem? (i := 8) rfl)) (inr52 _ (List.mem_of_getElem? (i := 7) rfl)) (by decide +kernel) hts rfl rfl ⟨Nat.le_of_ble_eq_true rfl, Nat.le_of_ble_eq_true rfl⟩) 0 7 rfl rfl rfl (hP.sub [2] rfl) hK hN hT rfl hl.1 rfl (Nat.le_of_ble_eq_true rfl) ⟨Nat.le_of_ble_eq_true rfl, Nat.le_of_ble_eq_true rfl⟩ dX5_minuteSent_8 (fun r_1 h_2 => ?_)
    have h_2 : (r_1 = v_a1_size) := h_2
    have i_3 := h_2
    obtain rfl := i_3.symm
    refine lv_icmp_ge (tgt := 65) hx hb dX5_minuteSent_11 (by decide) (fun c_4 => ?_) (fun c_4 => ?_)
    · have c_4 : v_a1_size.toInt ≤ l5_4.toInt := ci_ge_t c_4
      have b_v_a1_size := i32b v_a1_size
      refine lv_iload_n hx hb dX5_minuteSent_65 rfl (lv_at hl 1 rfl) ?_
      exact ret _ _ _ dX5_minuteSent_66 trivial
    · have c_4 : l5_4.toInt < v_a1_size.toInt := ci_ge_f c_4
      have b_v_a1_size := i32b v_a1_size
      refine lv_aload_n hx hb dX5_minuteSent_14 rfl (lv_at hl 3 rfl) ?_
      refine lv_iload hx hb dX5_minuteSent_15 (lv_at hl 0 rfl) ?_
      refine lv_iconst (v := 1) hx hb dX5_minuteSent_17 (by decide) ?_
      obtain ⟨t_5, et_5⟩ : ∃ v9 : Int32, l5_4 + 1 = v9 := ⟨_, rfl⟩
      refine z_iadd (v := t_5) hx hb dX5_minuteSent_18 et_5 ?_
      have ft_5 : t_5.toInt = l5_4.toInt + 1 := addT (a := l5_4.toInt) (b := 1) rfl (by decide) et_5 (by omega) (by omega)
      refine rol (As := [.int t_5]) (rest := []) ⟨hx, hb, hml, hown, hts⟩ (b_X7_at l G D cB cI cJ cZ cS cT h_a1 h_a1_numbers v_a1_width v_a1_size v_a1_made f_a1_numbers t_5 (by first | assumption | omega | decide) (by first | assumption | omega | decide)) (cvB (n := 1) (inr57 _ (List.mem_of_getElem? (i := 5) rfl)) (inr52 _ (List.mem_of_getElem? (i := 10) rfl)) (inr52 _ (List.mem_of_getElem? (i := 11) rfl)) (inr2 _ (List.mem_of_getElem? (i := 8) rfl)) (inr52 _ (List.mem_of_getElem? (i := 12) rfl)) (by decide +kernel) hts rfl rfl ⟨Nat.le_of_ble_eq_true rfl, Nat.le_of_ble_eq_true rfl⟩) 0 7 rfl rfl rfl (hP.sub [2, 3] rfl) hK hN hT rfl hl.1 rfl (Nat.le_of_ble_eq_true rfl) ⟨Nat.le_of_ble_eq_true rfl, Nat.le_of_ble_eq_true rfl⟩ dX5_minuteSent_19 (fun r_6 h_7 => ?_)
      obtain ⟨t_8, et_8⟩ : ∃ v9 : Int32, (r_6 : Int64).toInt32 = v9 := ⟨_, rfl⟩
      refine lv_l2i (v := t_8) hx hb dX5_minuteSent_22 et_8 ?_
      refine lv_aload_n hx hb dX5_minuteSent_23 rfl (lv_at hl 2 rfl) ?_
      refine lv_iload_n hx hb dX5_minuteSent_24 rfl (lv_at hl 4 rfl) ?_
      refine lv_aload_n hx hb dX5_minuteSent_25 rfl (lv_at hl 3 rfl) ?_
      refine lv_iload hx hb dX5_minuteSent_26 (lv_at hl 0 rfl) ?_
      refine rol (As := [.int l5_4]) (rest := [.int v2, .ref h_a0, .int t_8]) ⟨hx, hb, hml, hown, hts⟩ (b_X7_at l G D cB cI cJ cZ cS cT h_a1 h_a1_numbers v_a1_width v_a1_size v_a1_made f_a1_numbers l5_4 (by first | assumption | omega | decide) (by first | assumption | omega | decide)) (cvB (n := 1) (inr57 _ (List.mem_of_getElem? (i := 5) rfl)) (inr52 _ (List.mem_of_getElem? (i := 10) rfl)) (inr52 _ (List.mem_of_getElem? (i := 11) rfl)) (inr2 _ (List.mem_of_getElem? (i := 8) rfl)) (inr52 _ (List.mem_of_getElem? (i := 12) rfl)) (by decide +kernel) hts rfl rfl ⟨Nat.le_of_ble_eq_true rfl, Nat.le_of_ble_eq_true rfl⟩) 0 7 rfl rfl rfl (hP.sub [2, 3] rfl) hK hN hT rfl hl.1 rfl (Nat.le_of_ble_eq_true rfl) ⟨Nat.le_of_ble_eq_true rfl, Nat.le_of_ble_eq_true rfl⟩ dX5_minuteSent_28 (fun r_9 h_10 => ?_)
      obtain ⟨t_11, et_11⟩ : ∃ v9 : Int32, (r_9 : Int64).toInt32 = v9 := ⟨_, rfl⟩
      refine lv_l2i (v := t_11) hx hb dX5_minuteSent_31 et_11 ?_
      refine roi (As := [.int v2, .int t_11]) (rest := [.int t_8]) ⟨hx, hb, hml, hown, hts⟩ (b_X8_wayToPost l G D cB cI cJ cZ cS cT h_a0 v_a0_tones v_a0_a v_a0_b v_a0_c v_a0_d v_a0_odds v_a0_lines h_a0_signs v_a0_signCount h_a0_posts v_a0_postCount h_a0_acts f_a0_posts v2 t_11 (by first | assumption | omega | decide) (by first | assumption | omega | decide)) (cvB (n := 2) (inr57 _ (List.mem_of_getElem? (i := 6) rfl)) (inr43 _ (List.mem_of_getElem? (i := 13) rfl)) (inr43 _ (List.mem_of_getElem? (i := 14) rfl)) (inr1 _ (List.mem_of_getElem? (i := 23) rfl)) (inr43 _ (List.mem_of_getElem? (i := 15) rfl)) (by decide +kernel) hts rfl rfl ⟨Nat.le_of_ble_eq_true rfl, Nat.le_of_ble_eq_true rfl⟩) 0 8 rfl rfl rfl (hP.sub [0, 1] rfl) hK hN hT rfl hl.1 rfl (Nat.le_of_ble_eq_true rfl) ⟨Nat.le_of_ble_eq_true rfl, Nat.le_of_ble_eq_true rfl⟩ dX5_minuteSent_32 (fun r_12 h_13 => ?_)
      obtain ⟨t_14, et_14⟩ : ∃ v9 : Int32, t_8 - r_12 = v9 := ⟨_, rfl⟩
      refine z_isub (v := t_14) hx hb dX5_minuteSent_35 et_14 ?_
      refine lv_istore (lv' := [(5, .int t_14), (4, .int l5_4), (3, .int l5_3), (0, .ref h_a0), (1, .ref h_a1), (2, .int v2)]) hx hb dX5_minuteSent_36 hl (by decide) rfl (fun ls hl => ?_)
      refine lv_iload hx hb dX5_minuteSent_38 (lv_at hl 0 rfl) ?_
      refine lv_if_lt (tgt := 54) hx hb dX5_minuteSent_40 (by decide) (fun c_15 => ?_) (fun c_15 => ?_)
      · have c_15 : t_14.toInt < 0 := ci_lt_t c_15
        have b_t_14 := i32b t_14
        refine lv_iconst (v := (-1)) hx hb dX5_minuteSent_54 (by decide) ?_
        exact ret _ _ _ dX5_minuteSent_55 trivial
      · have c_15 : 0 ≤ t_14.toInt := ci_lt_f c_15
        have b_t_14 := i32b t_14
        refine lv_iload hx hb dX5_minuteSent_43 (lv_at hl 1 rfl) ?_
        refine lv_if_le (tgt := 56) hx hb dX5_minuteSent_45 (by decide) (fun c_16 => ?_) (fun c_16 => ?_)
        · have c_16 : l5_4.toInt ≤ 0 := ci_le_t c_16
          refine lv_iload hx hb dX5_minuteSent_56 (lv_at hl 0 rfl) ?_
          refine lv_istore_n (lv' := [(3, .int t_14), (5, .int t_14), (4, .int l5_4), (0, .ref h_a0), (1, .ref h_a1), (2, .int v2)]) hx hb dX5_minuteSent_58 rfl hl (by decide) rfl (fun ls hl => ?_)
          obtain ⟨t_17, et_17⟩ : ∃ v9 : Int32, l5_4 + 2 = v9 := ⟨_, rfl⟩
          have ft_17 : t_17.toInt = l5_4.toInt + 2 := addT (a := l5_4.toInt) (b := 2) rfl (by decide) et_17 (by omega) (by omega)
          refine lv_iinc (v := t_17) (lv' := [(4, .int t_17), (3, .int t_14), (5, .int t_14), (0, .ref h_a0), (1, .ref h_a1), (2, .int v2)]) hx hb dX5_minuteSent_59 hl (k := 2) rfl (by rw [← et_17]; rfl) (by decide) rfl (fun ls hl => ?_)
          refine lv_goto (tgt := 5) hx hb dX5_minuteSent_62 (by decide) ?_
          exact ih_5 (t_17) (t_14) _ (by first | assumption | omega | decide) (by omega) (lv_sub hl [0, 1, 3, 4, 5] rfl)
        · have c_16 : 0 < l5_4.toInt := ci_le_f c_16
          refine lv_iload hx hb dX5_minuteSent_48 (lv_at hl 0 rfl) ?_
          refine lv_iload_n hx hb dX5_minuteSent_50 rfl (lv_at hl 2 rfl) ?_
          refine lv_icmp_eq (tgt := 56) hx hb dX5_minuteSent_51 (by decide) (fun c_18 => ?_) (fun c_18 => ?_)
          · have c_18 : t_14.toInt = l5_3.toInt := ci_eq_t c_18
            have b_l5_3 := i32b l5_3
            refine lv_iload hx hb dX5_minuteSent_56 (lv_at hl 0 rfl) ?_
            refine lv_istore_n (lv' := [(3, .int t_14), (5, .int t_14), (4, .int l5_4), (0, .ref h_a0), (1, .ref h_a1), (2, .int v2)]) hx hb dX5_minuteSent_58 rfl hl (by decide) rfl (fun ls hl => ?_)
            obtain ⟨t_19, et_19⟩ : ∃ v9 : Int32, l5_4 + 2 = v9 := ⟨_, rfl⟩
            have ft_19 : t_19.toInt = l5_4.toInt + 2 := addT (a := l5_4.toInt) (b := 2) rfl (by decide) et_19 (by omega) (by omega)
            refine lv_iinc (v := t_19) (lv' := [(4, .int t_19), (3, .int t_14), (5, .int t_14), (0, .ref h_a0), (1, .ref h_a1), (2, .int v2)]) hx hb dX5_minuteSent_59 hl (k := 2) rfl (by rw [← et_19]; rfl) (by decide) rfl (fun ls hl => ?_)
            refine lv_goto (tgt := 5) hx hb dX5_minuteSent_62 (by decide) ?_
            exact ih_5 (t_19) (t_14) _ (by first | assumption | omega | decide) (by omega) (lv_sub hl [0, 1, 3, 4, 5] rfl)
          · have c_18 : ¬ t_14.toInt = l5_3.toInt := ci_eq_f c_18
            have b_l5_3 := i32b l5_3
            refine lv_iconst (v := (-1)) hx hb dX5_minuteSent_54 (by decide) ?_
            exact ret _ _ _ dX5_minuteSent_55 trivial

set_option maxHeartbeats 4000000 in
set_option maxRecDepth 100000 in
theorem b_X5_minuteSent (l : Launch) (G : Gho) (D : va_G) (cB cI cJ cZ cS cT : ClassId) (h_a0 : Nat) (v_a0_tones : Int32) (v_a0_a : Int32) (v_a0_b : Int32) (v_a0_c : Int32) (v_a0_d : Int32) (v_a0_odds : Int32) (v_a0_lines : Int32) (h_a0_signs : Nat) (v_a0_signCount : Int32) (h_a0_posts : Nat) (v_a0_postCount : Int32) (h_a0_acts : Nat) (f_a0_posts : Nat → Int32) (h_a1 : Nat) (h_a1_numbers : Nat) (v_a1_width : Int32) (v_a1_size : Int32) (v_a1_made : Int32) (f_a1_numbers : Nat → Int64) (v2 : Int32) (iv_a0_signCount : 0 ≤ v_a0_signCount.toInt ∧ v_a0_signCount.toInt ≤ 8) (iv_a0_postCount : 0 ≤ v_a0_postCount.toInt ∧ v_a0_postCount.toInt ≤ 5) (iv_a1_size : 0 ≤ v_a1_size.toInt ∧ v_a1_size.toInt ≤ 60) (iv_a1_made : 0 ≤ v_a1_made.toInt ∧ v_a1_made.toInt ≤ 1) : Met l yX5_minuteSent (Cond.code yX5_minuteSent cX5_minuteSent 6 (some .int) :: wsL_law) ({ frames := 2, cells := 0, slots := 0, locals := 43 }) (roP G D (tyL cB cI cJ cZ cS cT) [(h_a0, .inr (8, [.int v_a0_tones, .int v_a0_a, .int v_a0_b, .int v_a0_c, .int v_a0_d, .int v_a0_odds, .int v_a0_lines, .ref h_a0_signs, .int v_a0_signCount, .ref h_a0_posts, .int v_a0_postCount, .ref h_a0_acts])), (h_a0_posts, .inl (cI, 5, .inl f_a0_posts)), (h_a1, .inr (7, [.ref h_a1_numbers, .int v_a1_width, .int v_a1_size, .int v_a1_made])), (h_a1_numbers, .inl (cJ, 60, .inr (.inl f_a1_numbers)))] [.ref h_a0, .ref h_a1, .int v2]) (vp_Si (fun r : Int32 => True)) 0 0 (fun _ => False) := by
  refine metRO (own := RX5) (by decide) rfl ?_
  intro p e s m below meth c Q C hP ret
  obtain ⟨hx, hb, hml, hown, hts, hK, hN, hT⟩ := id C
  have hl := lv_entry ([.ref h_a0, .ref h_a1, .int v2]) (n := 6) (Nat.le_of_ble_eq_true rfl)
  rw [lg_entry_eq]
  generalize (lg_sl ([.ref h_a0, .ref h_a1, .int v2]) ++ List.replicate (6 - (lg_sl ([.ref h_a0, .ref h_a1, .int v2])).length) Slot.unset).toArray = ls at hl ⊢
  have hl : lv_has ls 6 [(0, .ref h_a0), (1, .ref h_a1), (2, .int v2)] := hl
  have hP : va_P D vwCl [(h_a0, .inr (8, [.int v_a0_tones, .int v_a0_a, .int v_a0_b, .int v_a0_c, .int v_a0_d, .int v_a0_odds, .int v_a0_lines, .ref h_a0_signs, .int v_a0_signCount, .ref h_a0_posts, .int v_a0_postCount, .ref h_a0_acts])), (h_a0_posts, .inl (cI, 5, .inl f_a0_posts)), (h_a1, .inr (7, [.ref h_a1_numbers, .int v_a1_width, .int v_a1_size, .int v_a1_made])), (h_a1_numbers, .inl (cJ, 60, .inr (.inl f_a1_numbers)))] s.heap := hP
  refine lv_iconst (v := 0) hx hb dX5_minuteSent_0 (by decide) ?_
  refine lv_istore_n (lv' := [(3, .int 0), (0, .ref h_a0), (1, .ref h_a1), (2, .int v2)]) hx hb dX5_minuteSent_1 rfl hl (by decide) rfl (fun ls hl => ?_)
  refine lv_iconst (v := 0) hx hb dX5_minuteSent_2 (by decide) ?_
  refine lv_istore (lv' := [(4, .int 0), (3, .int 0), (0, .ref h_a0), (1, .ref h_a1), (2, .int v2)]) hx hb dX5_minuteSent_3 hl (by decide) rfl (fun ls hl => ?_)
  exact b_X5_minuteSent_l5 h_a0 v_a0_tones v_a0_a v_a0_b v_a0_c v_a0_d v_a0_odds v_a0_lines h_a0_signs v_a0_signCount h_a0_posts v_a0_postCount h_a0_acts f_a0_posts h_a1 h_a1_numbers v_a1_width v_a1_size v_a1_made f_a1_numbers v2 (by first | assumption | omega | decide) (by first | assumption | omega | decide) (by first | assumption | omega | decide) (by first | assumption | omega | decide) C (hP.sub [0, 1, 2, 3] rfl) ret _ (0) (0) _ (by first | assumption | omega | decide) (Nat.lt_succ_self _) (lv_sub hl [0, 1, 2, 3, 4] rfl)

set_option maxHeartbeats 4000000 in
set_option maxRecDepth 100000 in
theorem b_X5_searchFitting_l17 {p : Program} {l : Launch} {e : Env} {s : State} {m : MethodId} {args : Array Value} {below : List Frame} {meth : Method} {c : Code} {Q : State → Prop} {G : Gho} {D : va_G} {cB cI cJ cZ cS cT : ClassId} {A : Nat → Prop} (h0 : Nat) (h_sentAt : Nat) (h_tally : Nat) (h_a1 : Nat) (v_a1_tones : Int32) (v_a1_a : Int32) (v_a1_b : Int32) (v_a1_c : Int32) (v_a1_d : Int32) (v_a1_odds : Int32) (v_a1_lines : Int32) (h_a1_signs : Nat) (v_a1_signCount : Int32) (h_a1_posts : Nat) (v_a1_postCount : Int32) (h_a1_acts : Nat) (f_a1_posts : Nat → Int32) (h_a2 : Nat) (h_a2_numbers : Nat) (v_a2_width : Int32) (v_a2_size : Int32) (v_a2_made : Int32) (f_a2_numbers : Nat → Int64) (iv_a1_signCount : 0 ≤ v_a1_signCount.toInt ∧ v_a1_signCount.toInt ≤ 8) (iv_a1_postCount : 0 ≤ v_a1_postCount.toInt ∧ v_a1_postCount.toInt ≤ 5) (iv_a2_size : 0 ≤ v_a2_size.toInt ∧ v_a2_size.toInt ≤ 60) (iv_a2_made : 0 ≤ v_a2_made.toInt ∧ v_a2_made.toInt ≤ 1) (C : Cx p s m args c RX5 cX5_searchFitting 4 G D (tyL cB cI cJ cZ cS cT)) (hG : G.1 ≤ s.heap.size) (hAB : ∀ q, A q → G.1 ≤ q) (hA : ∀ q : Nat, s.heap.size ≤ q → A q) (ret : RetV p l e ({ frames := 3, cells := 0, slots := 0, locals := 68 }) s m args below meth c cX5_searchFitting D A (fun x : Int32 × Int32 × Int32 × (Nat → Int32) => [(h0, .inr (5, [.ref h_sentAt, .ref h_tally, .int x.1, .int x.2.1, .int x.2.2.1])), (h_sentAt, .inl (cI, 100, .inl x.2.2.2)), (h_a1, .inr (8, [.int v_a1_tones, .int v_a1_a, .int v_a1_b, .int v_a1_c, .int v_a1_d, .int v_a1_odds, .int v_a1_lines, .ref h_a1_signs, .int v_a1_signCount, .ref h_a1_posts, .int v_a1_postCount, .ref h_a1_acts])), (h_a1_posts, .inl (cI, 5, .inl f_a1_posts)), (h_a2, .inr (7, [.ref h_a2_numbers, .int v_a2_width, .int v_a2_size, .int v_a2_made])), (h_a2_numbers, .inl (cJ, 60, .inr (.inl f_a2_numbers)))]) (fun x : Int32 × Int32 × Int32 × (Nat → Int32) => True) Q) :
    ∀ (N : Nat) (u17_0_found : Int32) (u17_0_leastPlace : Int32) (u17_0_greatestPlace : Int32) (g17_sentAt : Nat → Int32) (l17_3 : Int32) (H : Heap) (locs : List Loc) (ls : Array Slot), 0 ≤ l17_3.toInt ∧ l17_3.toInt ≤ 100 → (100 - l17_3.toInt).toNat < N → va_P D vwCl [(h0, .inr (5, [.ref h_sentAt, .ref h_tally, .int u17_0_found, .int u17_0_leastPlace, .int u17_0_greatestPlace])), (h_sentAt, .inl (cI, 100, .inl g17_sentAt)), (h_a1, .inr (8, [.int v_a1_tones, .int v_a1_a, .int v_a1_b, .int v_a1_c, .int v_a1_d, .int v_a1_odds, .int v_a1_lines, .ref h_a1_signs, .int v_a1_signCount, .ref h_a1_posts, .int v_a1_postCount, .ref h_a1_acts])), (h_a1_posts, .inl (cI, 5, .inl f_a1_posts)), (h_a2, .inr (7, [.ref h_a2_numbers, .int v_a2_width, .int v_a2_size, .int v_a2_made])), (h_a2_numbers, .inl (cJ, 60, .inr (.inl f_a2_numbers)))] H → va_D A [(h0, .inr (5, [.ref h_sentAt, .ref h_tally, .int u17_0_found, .int u17_0_leastPlace, .int u17_0_greatestPlace])), (h_sentAt, .inl (cI, 100, .inl g17_sentAt)), (h_a1, .inr (8, [.int v_a1_tones, .int v_a1_a, .int v_a1_b, .int v_a1_c, .int v_a1_d, .int v_a1_odds, .int v_a1_lines, .ref h_a1_signs, .int v_a1_signCount, .ref h_a1_posts, .int v_a1_postCount, .ref h_a1_acts])), (h_a1_posts, .inl (cI, 5, .inl f_a1_posts)), (h_a2, .inr (7, [.ref h_a2_numbers, .int v_a2_width, .int v_a2_size, .int v_a2_made])), (h_a2_numbers, .inl (cJ, 60, .inr (.inl f_a2_numbers)))] → va_S A s.heap H locs → lv_has ls 4 [(3, .int l17_3), (0, .ref h0), (1, .ref h_a1), (2, .ref h_a2)] → W p l e ({ frames := 3, cells := 0, slots := 0, locals := 68 }) s m args below meth c H locs 0 0 Q (F0 m 17 ls []) := by
  obtain ⟨hx, hb, hml, hown, hts, hK, hN, hT⟩ := id C
  intro N
  induction N with
  | zero =>
    intro u17_0_found u17_0_leastPlace u17_0_greatestPlace g17_sentAt l17_3 H locs ls kl17_3 hM_17 hP hD hS hl
    omega
  | succ N_17 ih_17 =>
    intro u17_0_found u17_0_leastPlace u17_0_greatestPlace g17_sentAt l17_3 H locs ls kl17_3 hM_17 hP hD hS hl
    have b_l17_3 := i32b l17_3
    refine lv_iload_n hx hb dX5_searchFitting_17 rfl (lv_at hl 0 rfl) ?_
    refine lv_bipush (v := 100) hx hb dX5_searchFitting_18 (by decide) ?_
    refine lv_icmp_ge (tgt := 85) hx hb dX5_searchFitting_20 (by decide) (fun c_1 => ?_) (fun c_1 => ?_)
    · have c_1 : 100 ≤ l17_3.toInt := ci_ge_t c_1
      exact ret _ _ _ _ (u17_0_found, u17_0_leastPlace, u17_0_greatestPlace, g17_sentAt) dX5_searchFitting_85 trivial (hP.sub [0, 1, 2, 3, 4, 5] rfl) (hD.sub [0, 1, 2, 3, 4, 5] (by decide) rfl) hS
    · have c_1 : l17_3.toInt < 100 := ci_ge_f c_1
      refine lv_aload_n hx hb dX5_searchFitting_23 rfl (lv_at hl 1 rfl) ?_
      refine va_get (D := D) (ci := 5) (v := .ref h_sentAt) (C := RX5) (T := TX5) (N := 5) hx hb hts inlX5 hown hK hP 0 rfl rfl 0 (by decide) (hts _ (inr6 _ (List.mem_of_getElem? (i := 7) rfl))) (fun _ h9 => h9) rfl dX5_searchFitting_24 ?_
      refine lv_iload_n hx hb dX5_searchFitting_27 rfl (lv_at hl 0 rfl) ?_
      refine lv_aload_n hx hb dX5_searchFitting_28 rfl (lv_at hl 2 rfl) ?_
      refine lv_aload_n hx hb dX5_searchFitting_29 rfl (lv_at hl 3 rfl) ?_
      refine lv_iload_n hx hb dX5_searchFitting_30 rfl (lv_at hl 0 rfl) ?_
      refine rosi (As := [.ref h_a1, .ref h_a2, .int l17_3]) (rest := [.int l17_3, .ref h_sentAt]) ⟨hx, hb, hml, hown, hts⟩ (b_X5_minuteSent l G D cB cI cJ cZ cS cT h_a1 v_a1_tones v_a1_a v_a1_b v_a1_c v_a1_d v_a1_odds v_a1_lines h_a1_signs v_a1_signCount h_a1_posts v_a1_postCount h_a1_acts f_a1_posts h_a2 h_a2_numbers v_a2_width v_a2_size v_a2_made f_a2_numbers l17_3 (by first | assumption | omega | decide) (by first | assumption | omega | decide) (by first | assumption | omega | decide) (by first | assumption | omega | decide)) (csB (n := 3) (inr57 _ (List.mem_of_getElem? (i := 1) rfl)) (inr57 _ (List.mem_of_getElem? (i := 2) rfl)) (inr3 _ (List.mem_of_getElem? (i := 4) rfl)) (inr57 _ (List.mem_of_getElem? (i := 3) rfl)) (by decide +kernel) hts rfl rfl ⟨Nat.le_of_ble_eq_true rfl, Nat.le_of_ble_eq_true rfl⟩) (hP.sub [2, 3, 4, 5] rfl) hK hN (kT.to hT hS hAB) rfl hl.1 rfl (Nat.le_of_ble_eq_true rfl) ⟨Nat.le_of_ble_eq_true rfl, Nat.le_of_ble_eq_true rfl⟩ dX5_searchFitting_31 (fun r_2 h_3 => ?_)
      refine va_iast hx hb hK hP hD hS 1 1 rfl rfl (vin_nat (by omega) (by omega)) dX5_searchFitting_34 (fun H locs hP hD hS => ?_)
      have hP : va_P D vwCl [(h0, .inr (5, [.ref h_sentAt, .ref h_tally, .int u17_0_found, .int u17_0_leastPlace, .int u17_0_greatestPlace])), (h_sentAt, .inl (cI, 100, .inl (upd g17_sentAt (l17_3 : Int32).toNatClampNeg r_2))), (h_a1, .inr (8, [.int v_a1_tones, .int v_a1_a, .int v_a1_b, .int v_a1_c, .int v_a1_d, .int v_a1_odds, .int v_a1_lines, .ref h_a1_signs, .int v_a1_signCount, .ref h_a1_posts, .int v_a1_postCount, .ref h_a1_acts])), (h_a1_posts, .inl (cI, 5, .inl f_a1_posts)), (h_a2, .inr (7, [.ref h_a2_numbers, .int v_a2_width, .int v_a2_size, .int v_a2_made])), (h_a2_numbers, .inl (cJ, 60, .inr (.inl f_a2_numbers)))] H := hP
      have hD : va_D A [(h0, .inr (5, [.ref h_sentAt, .ref h_tally, .int u17_0_found, .int u17_0_leastPlace, .int u17_0_greatestPlace])), (h_sentAt, .inl (cI, 100, .inl (upd g17_sentAt (l17_3 : Int32).toNatClampNeg r_2))), (h_a1, .inr (8, [.int v_a1_tones, .int v_a1_a, .int v_a1_b, .int v_a1_c, .int v_a1_d, .int v_a1_odds, .int v_a1_lines, .ref h_a1_signs, .int v_a1_signCount, .ref h_a1_posts, .int v_a1_postCount, .ref h_a1_acts])), (h_a1_posts, .inl (cI, 5, .inl f_a1_posts)), (h_a2, .inr (7, [.ref h_a2_numbers, .int v_a2_width, .int v_a2_size, .int v_a2_made])), (h_a2_numbers, .inl (cJ, 60, .inr (.inl f_a2_numbers)))] := hD
      obtain ⟨g_4, eg_4⟩ : ∃ v9 : Nat → Int32, (upd g17_sentAt (l17_3 : Int32).toNatClampNeg r_2) = v9 := ⟨_, rfl⟩
      rw [eg_4] at hP hD
      have hP : va_P D vwCl [(h0, .inr (5, [.ref h_sentAt, .ref h_tally, .int u17_0_found, .int u17_0_leastPlace, .int u17_0_greatestPlace])), (h_sentAt, .inl (cI, 100, .inl g_4)), (h_a1, .inr (8, [.int v_a1_tones, .int v_a1_a, .int v_a1_b, .int v_a1_c, .int v_a1_d, .int v_a1_odds, .int v_a1_lines, .ref h_a1_signs, .int v_a1_signCount, .ref h_a1_posts, .int v_a1_postCount, .ref h_a1_acts])), (h_a1_posts, .inl (cI, 5, .inl f_a1_posts)), (h_a2, .inr (7, [.ref h_a2_numbers, .int v_a2_width, .int v_a2_size, .int v_a2_made])), (h_a2_numbers, .inl (cJ, 60, .inr (.inl f_a2_numbers)))] H := hP
      have hD : va_D A [(h0, .inr (5, [.ref h_sentAt, .ref h_tally, .int u17_0_found, .int u17_0_leastPlace, .int u17_0_greatestPlace])), (h_sentAt, .inl (cI, 100, .inl g_4)), (h_a1, .inr (8, [.int v_a1_tones, .int v_a1_a, .int v_a1_b, .int v_a1_c, .int v_a1_d, .int v_a1_odds, .int v_a1_lines, .ref h_a1_signs, .int v_a1_signCount, .ref h_a1_posts, .int v_a1_postCount, .ref h_a1_acts])), (h_a1_posts, .inl (cI, 5, .inl f_a1_posts)), (h_a2, .inr (7, [.ref h_a2_numbers, .int v_a2_width, .int v_a2_size, .int v_a2_made])), (h_a2_numbers, .inl (cJ, 60, .inr (.inl f_a2_numbers)))] := hD
      refine lv_aload_n hx hb dX5_searchFitting_35 rfl (lv_at hl 1 rfl) ?_
      refine va_get (D := D) (ci := 5) (v := .ref h_sentAt) (C := RX5) (T := TX5) (N := 5) hx hb hts inlX5 hown hK hP 0 rfl rfl 0 (by decide) (hts _ (inr6 _ (List.mem_of_getElem? (i := 7) rfl))) (fun _ h9 => h9) rfl dX5_searchFitting_36 ?_
      refine lv_iload_n hx hb dX5_searchFitting_39 rfl (lv_at hl 0 rfl) ?_
      obtain ⟨t_5, et_5⟩ : ∃ v9 : Int32, g_4 (l17_3 : Int32).toNatClampNeg = v9 := ⟨_, rfl⟩
      refine z_iald (v := t_5) hx hb hK hP 1 1 rfl rfl (vin_nat (by omega) (by omega)) et_5 dX5_searchFitting_40 ?_
      have qt_5 : t_5.toInt = r_2.toInt := (upd9S (v := r_2) eg_4 et_5)
      refine lv_iconst (v := (-1)) hx hb dX5_searchFitting_41 (by decide) ?_
      refine lv_icmp_eq (tgt := 79) hx hb dX5_searchFitting_42 (by decide) (fun c_6 => ?_) (fun c_6 => ?_)
      · have c_6 : t_5.toInt = (-1) := ci_eq_t c_6
        have b_t_5 := i32b t_5
        obtain ⟨t_7, et_7⟩ : ∃ v9 : Int32, l17_3 + 1 = v9 := ⟨_, rfl⟩
        have ft_7 : t_7.toInt = l17_3.toInt + 1 := addT (a := l17_3.toInt) (b := 1) rfl (by decide) et_7 (by omega) (by omega)
        refine lv_iinc (v := t_7) (lv' := [(3, .int t_7), (0, .ref h0), (1, .ref h_a1), (2, .ref h_a2)]) hx hb dX5_searchFitting_79 hl (k := 0) rfl (by rw [← et_7]; rfl) (by decide) rfl (fun ls hl => ?_)
        refine lv_goto (tgt := 17) hx hb dX5_searchFitting_82 (by decide) ?_
        exact ih_17 (u17_0_found) (u17_0_leastPlace) (u17_0_greatestPlace) (g_4) (t_7) _ _ _ (by first | assumption | omega | decide) (by omega) (hP.sub [0, 1, 2, 3, 4, 5] rfl) (hD.sub [0, 1, 2, 3, 4, 5] (by decide) rfl) hS (lv_sub hl [0, 1, 2, 3] rfl)
      · have c_6 : ¬ t_5.toInt = (-1) := ci_eq_f c_6
        have b_t_5 := i32b t_5
        refine lv_aload_n hx hb dX5_searchFitting_45 rfl (lv_at hl 1 rfl) ?_
        refine lv_aload_n hx hb dX5_searchFitting_46 rfl (lv_at hl 1 rfl) ?_
        refine va_get (D := D) (ci := 5) (v := .int u17_0_found) (C := RX5) (T := TX5) (N := 5) hx hb hts inlX5 hown hK hP 0 rfl rfl 2 (by decide) (hts _ (inr56 _ (List.mem_of_getElem? (i := 22) rfl))) (fun _ h9 => h9) rfl dX5_searchFitting_47 ?_
        refine lv_if_ne (tgt := 57) hx hb dX5_searchFitting_50 (by decide) (fun c_8 => ?_) (fun c_8 => ?_)
        · have c_8 : ¬ u17_0_found.toInt = 0 := ci_ne_t c_8
          have b_u17_0_found := i32b u17_0_found
          refine lv_aload_n hx hb dX5_searchFitting_57 rfl (lv_at hl 1 rfl) ?_
          refine va_get (D := D) (ci := 5) (v := .int u17_0_leastPlace) (C := RX5) (T := TX5) (N := 5) hx hb hts inlX5 hown hK hP 0 rfl rfl 3 (by decide) (hts _ (inr56 _ (List.mem_of_getElem? (i := 23) rfl))) (fun _ h9 => h9) rfl dX5_searchFitting_58 ?_
          refine va_put (D := D) (ci := 5) (v := .int u17_0_leastPlace) (ty := .int) (C := RX5) (T := TX5) (N := 5) hx hb hts inlX5 tyX5 tyX5_ok nmX5 hown hK hP hD hS 0 rfl rfl 3 (by decide) (hts _ (inr56 _ (List.mem_of_getElem? (i := 23) rfl))) (fun _ h9 => h9) rfl (by decide +kernel) rfl rfl (Nat.le_of_ble_eq_true rfl) dX5_searchFitting_61 (fun H locs hP hD hS => ?_)
          have hP : va_P D vwCl [(h0, .inr (5, [.ref h_sentAt, .ref h_tally, .int u17_0_found, .int u17_0_leastPlace, .int u17_0_greatestPlace])), (h_sentAt, .inl (cI, 100, .inl g_4)), (h_a1, .inr (8, [.int v_a1_tones, .int v_a1_a, .int v_a1_b, .int v_a1_c, .int v_a1_d, .int v_a1_odds, .int v_a1_lines, .ref h_a1_signs, .int v_a1_signCount, .ref h_a1_posts, .int v_a1_postCount, .ref h_a1_acts])), (h_a1_posts, .inl (cI, 5, .inl f_a1_posts)), (h_a2, .inr (7, [.ref h_a2_numbers, .int v_a2_width, .int v_a2_size, .int v_a2_made])), (h_a2_numbers, .inl (cJ, 60, .inr (.inl f_a2_numbers)))] H := hP
          have hD : va_D A [(h0, .inr (5, [.ref h_sentAt, .ref h_tally, .int u17_0_found, .int u17_0_leastPlace, .int u17_0_greatestPlace])), (h_sentAt, .inl (cI, 100, .inl g_4)), (h_a1, .inr (8, [.int v_a1_tones, .int v_a1_a, .int v_a1_b, .int v_a1_c, .int v_a1_d, .int v_a1_odds, .int v_a1_lines, .ref h_a1_signs, .int v_a1_signCount, .ref h_a1_posts, .int v_a1_postCount, .ref h_a1_acts])), (h_a1_posts, .inl (cI, 5, .inl f_a1_posts)), (h_a2, .inr (7, [.ref h_a2_numbers, .int v_a2_width, .int v_a2_size, .int v_a2_made])), (h_a2_numbers, .inl (cJ, 60, .inr (.inl f_a2_numbers)))] := hD
          refine lv_aload_n hx hb dX5_searchFitting_64 rfl (lv_at hl 1 rfl) ?_
          refine lv_iload_n hx hb dX5_searchFitting_65 rfl (lv_at hl 0 rfl) ?_
          refine va_put (D := D) (ci := 5) (v := .int l17_3) (ty := .int) (C := RX5) (T := TX5) (N := 5) hx hb hts inlX5 tyX5 tyX5_ok nmX5 hown hK hP hD hS 0 rfl rfl 4 (by decide) (hts _ (inr57 _ (List.mem_of_getElem? (i := 0) rfl))) (fun _ h9 => h9) rfl (by decide +kernel) rfl rfl (Nat.le_of_ble_eq_true rfl) dX5_searchFitting_66 (fun H locs hP hD hS => ?_)
          have hP : va_P D vwCl [(h0, .inr (5, [.ref h_sentAt, .ref h_tally, .int u17_0_found, .int u17_0_leastPlace, .int l17_3])), (h_sentAt, .inl (cI, 100, .inl g_4)), (h_a1, .inr (8, [.int v_a1_tones, .int v_a1_a, .int v_a1_b, .int v_a1_c, .int v_a1_d, .int v_a1_odds, .int v_a1_lines, .ref h_a1_signs, .int v_a1_signCount, .ref h_a1_posts, .int v_a1_postCount, .ref h_a1_acts])), (h_a1_posts, .inl (cI, 5, .inl f_a1_posts)), (h_a2, .inr (7, [.ref h_a2_numbers, .int v_a2_width, .int v_a2_size, .int v_a2_made])), (h_a2_numbers, .inl (cJ, 60, .inr (.inl f_a2_numbers)))] H := hP
          have hD : va_D A [(h0, .inr (5, [.ref h_sentAt, .ref h_tally, .int u17_0_found, .int u17_0_leastPlace, .int l17_3])), (h_sentAt, .inl (cI, 100, .inl g_4)), (h_a1, .inr (8, [.int v_a1_tones, .int v_a1_a, .int v_a1_b, .int v_a1_c, .int v_a1_d, .int v_a1_odds, .int v_a1_lines, .ref h_a1_signs, .int v_a1_signCount, .ref h_a1_posts, .int v_a1_postCount, .ref h_a1_acts])), (h_a1_posts, .inl (cI, 5, .inl f_a1_posts)), (h_a2, .inr (7, [.ref h_a2_numbers, .int v_a2_width, .int v_a2_size, .int v_a2_made])), (h_a2_numbers, .inl (cJ, 60, .inr (.inl f_a2_numbers)))] := hD
          refine lv_aload_n hx hb dX5_searchFitting_69 rfl (lv_at hl 1 rfl) ?_
          refine lv_dup hx hb dX5_searchFitting_70 rfl ?_
          refine va_get (D := D) (ci := 5) (v := .int u17_0_found) (C := RX5) (T := TX5) (N := 5) hx hb hts inlX5 hown hK hP 0 rfl rfl 2 (by decide) (hts _ (inr56 _ (List.mem_of_getElem? (i := 22) rfl))) (fun _ h9 => h9) rfl dX5_searchFitting_71 ?_
          refine lv_iconst (v := 1) hx hb dX5_searchFitting_74 (by decide) ?_
          obtain ⟨t_9, et_9⟩ : ∃ v9 : Int32, u17_0_found + 1 = v9 := ⟨_, rfl⟩
          refine z_iadd (v := t_9) hx hb dX5_searchFitting_75 et_9 ?_
          refine va_put (D := D) (ci := 5) (v := .int t_9) (ty := .int) (C := RX5) (T := TX5) (N := 5) hx hb hts inlX5 tyX5 tyX5_ok nmX5 hown hK hP hD hS 0 rfl rfl 2 (by decide) (hts _ (inr56 _ (List.mem_of_getElem? (i := 22) rfl))) (fun _ h9 => h9) rfl (by decide +kernel) rfl rfl (Nat.le_of_ble_eq_true rfl) dX5_searchFitting_76 (fun H locs hP hD hS => ?_)
          have hP : va_P D vwCl [(h0, .inr (5, [.ref h_sentAt, .ref h_tally, .int t_9, .int u17_0_leastPlace, .int l17_3])), (h_sentAt, .inl (cI, 100, .inl g_4)), (h_a1, .inr (8, [.int v_a1_tones, .int v_a1_a, .int v_a1_b, .int v_a1_c, .int v_a1_d, .int v_a1_odds, .int v_a1_lines, .ref h_a1_signs, .int v_a1_signCount, .ref h_a1_posts, .int v_a1_postCount, .ref h_a1_acts])), (h_a1_posts, .inl (cI, 5, .inl f_a1_posts)), (h_a2, .inr (7, [.ref h_a2_numbers, .int v_a2_width, .int v_a2_size, .int v_a2_made])), (h_a2_numbers, .inl (cJ, 60, .inr (.inl f_a2_numbers)))] H := hP
          have hD : va_D A [(h0, .inr (5, [.ref h_sentAt, .ref h_tally, .int t_9, .int u17_0_leastPlace, .int l17_3])), (h_sentAt, .inl (cI, 100, .inl g_4)), (h_a1, .inr (8, [.int v_a1_tones, .int v_a1_a, .int v_a1_b, .int v_a1_c, .int v_a1_d, .int v_a1_odds, .int v_a1_lines, .ref h_a1_signs, .int v_a1_signCount, .ref h_a1_posts, .int v_a1_postCount, .ref h_a1_acts])), (h_a1_posts, .inl (cI, 5, .inl f_a1_posts)), (h_a2, .inr (7, [.ref h_a2_numbers, .int v_a2_width, .int v_a2_size, .int v_a2_made])), (h_a2_numbers, .inl (cJ, 60, .inr (.inl f_a2_numbers)))] := hD
          obtain ⟨t_10, et_10⟩ : ∃ v9 : Int32, l17_3 + 1 = v9 := ⟨_, rfl⟩
          have ft_10 : t_10.toInt = l17_3.toInt + 1 := addT (a := l17_3.toInt) (b := 1) rfl (by decide) et_10 (by omega) (by omega)
          refine lv_iinc (v := t_10) (lv' := [(3, .int t_10), (0, .ref h0), (1, .ref h_a1), (2, .ref h_a2)]) hx hb dX5_searchFitting_79 hl (k := 0) rfl (by rw [← et_10]; rfl) (by decide) rfl (fun ls hl => ?_)
          refine lv_goto (tgt := 17) hx hb dX5_searchFitting_82 (by decide) ?_
          exact ih_17 (t_9) (u17_0_leastPlace) (l17_3) (g_4) (t_10) _ _ _ (by first | assumption | omega | decide) (by omega) (hP.sub [0, 1, 2, 3, 4, 5] rfl) (hD.sub [0, 1, 2, 3, 4, 5] (by decide) rfl) hS (lv_sub hl [0, 1, 2, 3] rfl)
        · have c_8 : u17_0_found.toInt = 0 := ci_ne_f c_8
          have b_u17_0_found := i32b u17_0_found
          refine lv_iload_n hx hb dX5_searchFitting_53 rfl (lv_at hl 0 rfl) ?_
          refine lv_goto (tgt := 61) hx hb dX5_searchFitting_54 (by decide) ?_
          refine va_put (D := D) (ci := 5) (v := .int l17_3) (ty := .int) (C := RX5) (T := TX5) (N := 5) hx hb hts inlX5 tyX5 tyX5_ok nmX5 hown hK hP hD hS 0 rfl rfl 3 (by decide) (hts _ (inr56 _ (List.mem_of_getElem? (i := 23) rfl))) (fun _ h9 => h9) rfl (by decide +kernel) rfl rfl (Nat.le_of_ble_eq_true rfl) dX5_searchFitting_61 (fun H locs hP hD hS => ?_)
          have hP : va_P D vwCl [(h0, .inr (5, [.ref h_sentAt, .ref h_tally, .int u17_0_found, .int l17_3, .int u17_0_greatestPlace])), (h_sentAt, .inl (cI, 100, .inl g_4)), (h_a1, .inr (8, [.int v_a1_tones, .int v_a1_a, .int v_a1_b, .int v_a1_c, .int v_a1_d, .int v_a1_odds, .int v_a1_lines, .ref h_a1_signs, .int v_a1_signCount, .ref h_a1_posts, .int v_a1_postCount, .ref h_a1_acts])), (h_a1_posts, .inl (cI, 5, .inl f_a1_posts)), (h_a2, .inr (7, [.ref h_a2_numbers, .int v_a2_width, .int v_a2_size, .int v_a2_made])), (h_a2_numbers, .inl (cJ, 60, .inr (.inl f_a2_numbers)))] H := hP
          have hD : va_D A [(h0, .inr (5, [.ref h_sentAt, .ref h_tally, .int u17_0_found, .int l17_3, .int u17_0_greatestPlace])), (h_sentAt, .inl (cI, 100, .inl g_4)), (h_a1, .inr (8, [.int v_a1_tones, .int v_a1_a, .int v_a1_b, .int v_a1_c, .int v_a1_d, .int v_a1_odds, .int v_a1_lines, .ref h_a1_signs, .int v_a1_signCount, .ref h_a1_posts, .int v_a1_postCount, .ref h_a1_acts])), (h_a1_posts, .inl (cI, 5, .inl f_a1_posts)), (h_a2, .inr (7, [.ref h_a2_numbers, .int v_a2_width, .int v_a2_size, .int v_a2_made])), (h_a2_numbers, .inl (cJ, 60, .inr (.inl f_a2_numbers)))] := hD
          refine lv_aload_n hx hb dX5_searchFitting_64 rfl (lv_at hl 1 rfl) ?_
          refine lv_iload_n hx hb dX5_searchFitting_65 rfl (lv_at hl 0 rfl) ?_
          refine va_put (D := D) (ci := 5) (v := .int l17_3) (ty := .int) (C := RX5) (T := TX5) (N := 5) hx hb hts inlX5 tyX5 tyX5_ok nmX5 hown hK hP hD hS 0 rfl rfl 4 (by decide) (hts _ (inr57 _ (List.mem_of_getElem? (i := 0) rfl))) (fun _ h9 => h9) rfl (by decide +kernel) rfl rfl (Nat.le_of_ble_eq_true rfl) dX5_searchFitting_66 (fun H locs hP hD hS => ?_)
          have hP : va_P D vwCl [(h0, .inr (5, [.ref h_sentAt, .ref h_tally, .int u17_0_found, .int l17_3, .int l17_3])), (h_sentAt, .inl (cI, 100, .inl g_4)), (h_a1, .inr (8, [.int v_a1_tones, .int v_a1_a, .int v_a1_b, .int v_a1_c, .int v_a1_d, .int v_a1_odds, .int v_a1_lines, .ref h_a1_signs, .int v_a1_signCount, .ref h_a1_posts, .int v_a1_postCount, .ref h_a1_acts])), (h_a1_posts, .inl (cI, 5, .inl f_a1_posts)), (h_a2, .inr (7, [.ref h_a2_numbers, .int v_a2_width, .int v_a2_size, .int v_a2_made])), (h_a2_numbers, .inl (cJ, 60, .inr (.inl f_a2_numbers)))] H := hP
          have hD : va_D A [(h0, .inr (5, [.ref h_sentAt, .ref h_tally, .int u17_0_found, .int l17_3, .int l17_3])), (h_sentAt, .inl (cI, 100, .inl g_4)), (h_a1, .inr (8, [.int v_a1_tones, .int v_a1_a, .int v_a1_b, .int v_a1_c, .int v_a1_d, .int v_a1_odds, .int v_a1_lines, .ref h_a1_signs, .int v_a1_signCount, .ref h_a1_posts, .int v_a1_postCount, .ref h_a1_acts])), (h_a1_posts, .inl (cI, 5, .inl f_a1_posts)), (h_a2, .inr (7, [.ref h_a2_numbers, .int v_a2_width, .int v_a2_size, .int v_a2_made])), (h_a2_numbers, .inl (cJ, 60, .inr (.inl f_a2_numbers)))] := hD
          refine lv_aload_n hx hb dX5_searchFitting_69 rfl (lv_at hl 1 rfl) ?_
          refine lv_dup hx hb dX5_searchFitting_70 rfl ?_
          refine va_get (D := D) (ci := 5) (v := .int u17_0_found) (C := RX5) (T := TX5) (N := 5) hx hb hts inlX5 hown hK hP 0 rfl rfl 2 (by decide) (hts _ (inr56 _ (List.mem_of_getElem? (i := 22) rfl))) (fun _ h9 => h9) rfl dX5_searchFitting_71 ?_
          refine lv_iconst (v := 1) hx hb dX5_searchFitting_74 (by decide) ?_
          obtain ⟨t_11, et_11⟩ : ∃ v9 : Int32, u17_0_found + 1 = v9 := ⟨_, rfl⟩
          refine z_iadd (v := t_11) hx hb dX5_searchFitting_75 et_11 ?_
          have ft_11 : t_11.toInt = u17_0_found.toInt + 1 := addT (a := u17_0_found.toInt) (b := 1) rfl (by decide) et_11 (by omega) (by omega)
          refine va_put (D := D) (ci := 5) (v := .int t_11) (ty := .int) (C := RX5) (T := TX5) (N := 5) hx hb hts inlX5 tyX5 tyX5_ok nmX5 hown hK hP hD hS 0 rfl rfl 2 (by decide) (hts _ (inr56 _ (List.mem_of_getElem? (i := 22) rfl))) (fun _ h9 => h9) rfl (by decide +kernel) rfl rfl (Nat.le_of_ble_eq_true rfl) dX5_searchFitting_76 (fun H locs hP hD hS => ?_)
          have hP : va_P D vwCl [(h0, .inr (5, [.ref h_sentAt, .ref h_tally, .int t_11, .int l17_3, .int l17_3])), (h_sentAt, .inl (cI, 100, .inl g_4)), (h_a1, .inr (8, [.int v_a1_tones, .int v_a1_a, .int v_a1_b, .int v_a1_c, .int v_a1_d, .int v_a1_odds, .int v_a1_lines, .ref h_a1_signs, .int v_a1_signCount, .ref h_a1_posts, .int v_a1_postCount, .ref h_a1_acts])), (h_a1_posts, .inl (cI, 5, .inl f_a1_posts)), (h_a2, .inr (7, [.ref h_a2_numbers, .int v_a2_width, .int v_a2_size, .int v_a2_made])), (h_a2_numbers, .inl (cJ, 60, .inr (.inl f_a2_numbers)))] H := hP
          have hD : va_D A [(h0, .inr (5, [.ref h_sentAt, .ref h_tally, .int t_11, .int l17_3, .int l17_3])), (h_sentAt, .inl (cI, 100, .inl g_4)), (h_a1, .inr (8, [.int v_a1_tones, .int v_a1_a, .int v_a1_b, .int v_a1_c, .int v_a1_d, .int v_a1_odds, .int v_a1_lines, .ref h_a1_signs, .int v_a1_signCount, .ref h_a1_posts, .int v_a1_postCount, .ref h_a1_acts])), (h_a1_posts, .inl (cI, 5, .inl f_a1_posts)), (h_a2, .inr (7, [.ref h_a2_numbers, .int v_a2_width, .int v_a2_size, .int v_a2_made])), (h_a2_numbers, .inl (cJ, 60, .inr (.inl f_a2_numbers)))] := hD
          obtain ⟨t_12, et_12⟩ : ∃ v9 : Int32, l17_3 + 1 = v9 := ⟨_, rfl⟩
          have ft_12 : t_12.toInt = l17_3.toInt + 1 := addT (a := l17_3.toInt) (b := 1) rfl (by decide) et_12 (by omega) (by omega)
          refine lv_iinc (v := t_12) (lv' := [(3, .int t_12), (0, .ref h0), (1, .ref h_a1), (2, .ref h_a2)]) hx hb dX5_searchFitting_79 hl (k := 0) rfl (by rw [← et_12]; rfl) (by decide) rfl (fun ls hl => ?_)
          refine lv_goto (tgt := 17) hx hb dX5_searchFitting_82 (by decide) ?_
          exact ih_17 (t_11) (l17_3) (l17_3) (g_4) (t_12) _ _ _ (by first | assumption | omega | decide) (by omega) (hP.sub [0, 1, 2, 3, 4, 5] rfl) (hD.sub [0, 1, 2, 3, 4, 5] (by decide) rfl) hS (lv_sub hl [0, 1, 2, 3] rfl)

set_option maxHeartbeats 4000000 in
set_option maxRecDepth 100000 in
theorem b_X5_searchFitting (l : Launch) (G : Gho) (D : va_G) (cB cI cJ cZ cS cT : ClassId) (sz : Nat) (h0 : Nat) (h_sentAt : Nat) (h_tally : Nat) (v0_found : Int32) (v0_leastPlace : Int32) (v0_greatestPlace : Int32) (f_sentAt : Nat → Int32) (h_a1 : Nat) (v_a1_tones : Int32) (v_a1_a : Int32) (v_a1_b : Int32) (v_a1_c : Int32) (v_a1_d : Int32) (v_a1_odds : Int32) (v_a1_lines : Int32) (h_a1_signs : Nat) (v_a1_signCount : Int32) (h_a1_posts : Nat) (v_a1_postCount : Int32) (h_a1_acts : Nat) (f_a1_posts : Nat → Int32) (h_a2 : Nat) (h_a2_numbers : Nat) (v_a2_width : Int32) (v_a2_size : Int32) (v_a2_made : Int32) (f_a2_numbers : Nat → Int64) (iv_a1_signCount : 0 ≤ v_a1_signCount.toInt ∧ v_a1_signCount.toInt ≤ 8) (iv_a1_postCount : 0 ≤ v_a1_postCount.toInt ∧ v_a1_postCount.toInt ≤ 5) (iv_a2_size : 0 ≤ v_a2_size.toInt ∧ v_a2_size.toInt ≤ 60) (iv_a2_made : 0 ≤ v_a2_made.toInt ∧ v_a2_made.toInt ≤ 1) : Met l yX5_searchFitting (Cond.code yX5_searchFitting cX5_searchFitting 4 none :: wsL_law) ({ frames := 3, cells := 0, slots := 0, locals := 68 }) (wrP G D (tyL cB cI cJ cZ cS cT) [(h0, .inr (5, [.ref h_sentAt, .ref h_tally, .int v0_found, .int v0_leastPlace, .int v0_greatestPlace])), (h_sentAt, .inl (cI, 100, .inl f_sentAt)), (h_a1, .inr (8, [.int v_a1_tones, .int v_a1_a, .int v_a1_b, .int v_a1_c, .int v_a1_d, .int v_a1_odds, .int v_a1_lines, .ref h_a1_signs, .int v_a1_signCount, .ref h_a1_posts, .int v_a1_postCount, .ref h_a1_acts])), (h_a1_posts, .inl (cI, 5, .inl f_a1_posts)), (h_a2, .inr (7, [.ref h_a2_numbers, .int v_a2_width, .int v_a2_size, .int v_a2_made])), (h_a2_numbers, .inl (cJ, 60, .inr (.inl f_a2_numbers)))] sz [.ref h0, .ref h_a1, .ref h_a2]) (va_Qv (fun x : Int32 × Int32 × Int32 × (Nat → Int32) => True) (atW D (tyL cB cI cJ cZ cS cT) (va_A [(h0, .inr (5, [.ref h_sentAt, .ref h_tally, .int v0_found, .int v0_leastPlace, .int v0_greatestPlace])), (h_sentAt, .inl (cI, 100, .inl f_sentAt)), (h_a1, .inr (8, [.int v_a1_tones, .int v_a1_a, .int v_a1_b, .int v_a1_c, .int v_a1_d, .int v_a1_odds, .int v_a1_lines, .ref h_a1_signs, .int v_a1_signCount, .ref h_a1_posts, .int v_a1_postCount, .ref h_a1_acts])), (h_a1_posts, .inl (cI, 5, .inl f_a1_posts)), (h_a2, .inr (7, [.ref h_a2_numbers, .int v_a2_width, .int v_a2_size, .int v_a2_made])), (h_a2_numbers, .inl (cJ, 60, .inr (.inl f_a2_numbers)))] sz) (fun x : Int32 × Int32 × Int32 × (Nat → Int32) => [(h0, .inr (5, [.ref h_sentAt, .ref h_tally, .int x.1, .int x.2.1, .int x.2.2.1])), (h_sentAt, .inl (cI, 100, .inl x.2.2.2)), (h_a1, .inr (8, [.int v_a1_tones, .int v_a1_a, .int v_a1_b, .int v_a1_c, .int v_a1_d, .int v_a1_odds, .int v_a1_lines, .ref h_a1_signs, .int v_a1_signCount, .ref h_a1_posts, .int v_a1_postCount, .ref h_a1_acts])), (h_a1_posts, .inl (cI, 5, .inl f_a1_posts)), (h_a2, .inr (7, [.ref h_a2_numbers, .int v_a2_width, .int v_a2_size, .int v_a2_made])), (h_a2_numbers, .inl (cJ, 60, .inr (.inl f_a2_numbers)))])) (va_A [(h0, .inr (5, [.ref h_sentAt, .ref h_tally, .int v0_found, .int v0_leastPlace, .int v0_greatestPlace])), (h_sentAt, .inl (cI, 100, .inl f_sentAt)), (h_a1, .inr (8, [.int v_a1_tones, .int v_a1_a, .int v_a1_b, .int v_a1_c, .int v_a1_d, .int v_a1_odds, .int v_a1_lines, .ref h_a1_signs, .int v_a1_signCount, .ref h_a1_posts, .int v_a1_postCount, .ref h_a1_acts])), (h_a1_posts, .inl (cI, 5, .inl f_a1_posts)), (h_a2, .inr (7, [.ref h_a2_numbers, .int v_a2_width, .int v_a2_size, .int v_a2_made])), (h_a2_numbers, .inl (cJ, 60, .inr (.inl f_a2_numbers)))] sz)) 0 0 (va_A [(h0, .inr (5, [.ref h_sentAt, .ref h_tally, .int v0_found, .int v0_leastPlace, .int v0_greatestPlace])), (h_sentAt, .inl (cI, 100, .inl f_sentAt)), (h_a1, .inr (8, [.int v_a1_tones, .int v_a1_a, .int v_a1_b, .int v_a1_c, .int v_a1_d, .int v_a1_odds, .int v_a1_lines, .ref h_a1_signs, .int v_a1_signCount, .ref h_a1_posts, .int v_a1_postCount, .ref h_a1_acts])), (h_a1_posts, .inl (cI, 5, .inl f_a1_posts)), (h_a2, .inr (7, [.ref h_a2_numbers, .int v_a2_width, .int v_a2_size, .int v_a2_made])), (h_a2_numbers, .inl (cJ, 60, .inr (.inl f_a2_numbers)))] sz) := by
  refine metV (own := RX5) (by decide) rfl ?_
  intro p e s m below meth c Q hsz C hG hP hD hAB ret
  obtain ⟨hx, hb, hml, hown, hts, hK, hN, hT⟩ := id C
  subst hsz
  generalize hAe : va_A [(h0, .inr (5, [.ref h_sentAt, .ref h_tally, .int v0_found, .int v0_leastPlace, .int v0_greatestPlace])), (h_sentAt, .inl (cI, 100, .inl f_sentAt)), (h_a1, .inr (8, [.int v_a1_tones, .int v_a1_a, .int v_a1_b, .int v_a1_c, .int v_a1_d, .int v_a1_odds, .int v_a1_lines, .ref h_a1_signs, .int v_a1_signCount, .ref h_a1_posts, .int v_a1_postCount, .ref h_a1_acts])), (h_a1_posts, .inl (cI, 5, .inl f_a1_posts)), (h_a2, .inr (7, [.ref h_a2_numbers, .int v_a2_width, .int v_a2_size, .int v_a2_made])), (h_a2_numbers, .inl (cJ, 60, .inr (.inl f_a2_numbers)))] s.heap.size = A at hD hAB ret ⊢
  have hA : ∀ q : Nat, s.heap.size ≤ q → A q := fun q h => by rw [← hAe]; exact Or.inr h
  have hS : va_S A s.heap s.heap [] := va_S.rf
  have hl := lv_entry ([.ref h0, .ref h_a1, .ref h_a2]) (n := 4) (Nat.le_of_ble_eq_true rfl)
  rw [lg_entry_eq]
  generalize (lg_sl ([.ref h0, .ref h_a1, .ref h_a2]) ++ List.replicate (4 - (lg_sl ([.ref h0, .ref h_a1, .ref h_a2])).length) Slot.unset).toArray = ls at hl ⊢
  have hl : lv_has ls 4 [(0, .ref h0), (1, .ref h_a1), (2, .ref h_a2)] := hl
  have hP : va_P D vwCl [(h0, .inr (5, [.ref h_sentAt, .ref h_tally, .int v0_found, .int v0_leastPlace, .int v0_greatestPlace])), (h_sentAt, .inl (cI, 100, .inl f_sentAt)), (h_a1, .inr (8, [.int v_a1_tones, .int v_a1_a, .int v_a1_b, .int v_a1_c, .int v_a1_d, .int v_a1_odds, .int v_a1_lines, .ref h_a1_signs, .int v_a1_signCount, .ref h_a1_posts, .int v_a1_postCount, .ref h_a1_acts])), (h_a1_posts, .inl (cI, 5, .inl f_a1_posts)), (h_a2, .inr (7, [.ref h_a2_numbers, .int v_a2_width, .int v_a2_size, .int v_a2_made])), (h_a2_numbers, .inl (cJ, 60, .inr (.inl f_a2_numbers)))] s.heap := hP
  refine lv_aload_n hx hb dX5_searchFitting_0 rfl (lv_at hl 0 rfl) ?_
  refine lv_iconst (v := 0) hx hb dX5_searchFitting_1 (by decide) ?_
  refine va_put (D := D) (ci := 5) (v := .int 0) (ty := .int) (C := RX5) (T := TX5) (N := 5) hx hb hts inlX5 tyX5 tyX5_ok nmX5 hown hK hP hD hS 0 rfl rfl 2 (by decide) (hts _ (inr56 _ (List.mem_of_getElem? (i := 22) rfl))) (fun _ h9 => h9) rfl (by decide +kernel) rfl rfl (Nat.le_of_ble_eq_true rfl) dX5_searchFitting_2 (fun H locs hP hD hS => ?_)
  have hP : va_P D vwCl [(h0, .inr (5, [.ref h_sentAt, .ref h_tally, .int 0, .int v0_leastPlace, .int v0_greatestPlace])), (h_sentAt, .inl (cI, 100, .inl f_sentAt)), (h_a1, .inr (8, [.int v_a1_tones, .int v_a1_a, .int v_a1_b, .int v_a1_c, .int v_a1_d, .int v_a1_odds, .int v_a1_lines, .ref h_a1_signs, .int v_a1_signCount, .ref h_a1_posts, .int v_a1_postCount, .ref h_a1_acts])), (h_a1_posts, .inl (cI, 5, .inl f_a1_posts)), (h_a2, .inr (7, [.ref h_a2_numbers, .int v_a2_width, .int v_a2_size, .int v_a2_made])), (h_a2_numbers, .inl (cJ, 60, .inr (.inl f_a2_numbers)))] H := hP
  have hD : va_D A [(h0, .inr (5, [.ref h_sentAt, .ref h_tally, .int 0, .int v0_leastPlace, .int v0_greatestPlace])), (h_sentAt, .inl (cI, 100, .inl f_sentAt)), (h_a1, .inr (8, [.int v_a1_tones, .int v_a1_a, .int v_a1_b, .int v_a1_c, .int v_a1_d, .int v_a1_odds, .int v_a1_lines, .ref h_a1_signs, .int v_a1_signCount, .ref h_a1_posts, .int v_a1_postCount, .ref h_a1_acts])), (h_a1_posts, .inl (cI, 5, .inl f_a1_posts)), (h_a2, .inr (7, [.ref h_a2_numbers, .int v_a2_width, .int v_a2_size, .int v_a2_made])), (h_a2_numbers, .inl (cJ, 60, .inr (.inl f_a2_numbers)))] := hD
  refine lv_aload_n hx hb dX5_searchFitting_5 rfl (lv_at hl 0 rfl) ?_
  refine lv_iconst (v := (-1)) hx hb dX5_searchFitting_6 (by decide) ?_
  refine va_put (D := D) (ci := 5) (v := .int (-1)) (ty := .int) (C := RX5) (T := TX5) (N := 5) hx hb hts inlX5 tyX5 tyX5_ok nmX5 hown hK hP hD hS 0 rfl rfl 3 (by decide) (hts _ (inr56 _ (List.mem_of_getElem? (i := 23) rfl))) (fun _ h9 => h9) rfl (by decide +kernel) rfl rfl (Nat.le_of_ble_eq_true rfl) dX5_searchFitting_7 (fun H locs hP hD hS => ?_)
  have hP : va_P D vwCl [(h0, .inr (5, [.ref h_sentAt, .ref h_tally, .int 0, .int (-1), .int v0_greatestPlace])), (h_sentAt, .inl (cI, 100, .inl f_sentAt)), (h_a1, .inr (8, [.int v_a1_tones, .int v_a1_a, .int v_a1_b, .int v_a1_c, .int v_a1_d, .int v_a1_odds, .int v_a1_lines, .ref h_a1_signs, .int v_a1_signCount, .ref h_a1_posts, .int v_a1_postCount, .ref h_a1_acts])), (h_a1_posts, .inl (cI, 5, .inl f_a1_posts)), (h_a2, .inr (7, [.ref h_a2_numbers, .int v_a2_width, .int v_a2_size, .int v_a2_made])), (h_a2_numbers, .inl (cJ, 60, .inr (.inl f_a2_numbers)))] H := hP
  have hD : va_D A [(h0, .inr (5, [.ref h_sentAt, .ref h_tally, .int 0, .int (-1), .int v0_greatestPlace])), (h_sentAt, .inl (cI, 100, .inl f_sentAt)), (h_a1, .inr (8, [.int v_a1_tones, .int v_a1_a, .int v_a1_b, .int v_a1_c, .int v_a1_d, .int v_a1_odds, .int v_a1_lines, .ref h_a1_signs, .int v_a1_signCount, .ref h_a1_posts, .int v_a1_postCount, .ref h_a1_acts])), (h_a1_posts, .inl (cI, 5, .inl f_a1_posts)), (h_a2, .inr (7, [.ref h_a2_numbers, .int v_a2_width, .int v_a2_size, .int v_a2_made])), (h_a2_numbers, .inl (cJ, 60, .inr (.inl f_a2_numbers)))] := hD
  refine lv_aload_n hx hb dX5_searchFitting_10 rfl (lv_at hl 0 rfl) ?_
  refine lv_iconst (v := (-1)) hx hb dX5_searchFitting_11 (by decide) ?_
  refine va_put (D := D) (ci := 5) (v := .int (-1)) (ty := .int) (C := RX5) (T := TX5) (N := 5) hx hb hts inlX5 tyX5 tyX5_ok nmX5 hown hK hP hD hS 0 rfl rfl 4 (by decide) (hts _ (inr57 _ (List.mem_of_getElem? (i := 0) rfl))) (fun _ h9 => h9) rfl (by decide +kernel) rfl rfl (Nat.le_of_ble_eq_true rfl) dX5_searchFitting_12 (fun H locs hP hD hS => ?_)
  have hP : va_P D vwCl [(h0, .inr (5, [.ref h_sentAt, .ref h_tally, .int 0, .int (-1), .int (-1)])), (h_sentAt, .inl (cI, 100, .inl f_sentAt)), (h_a1, .inr (8, [.int v_a1_tones, .int v_a1_a, .int v_a1_b, .int v_a1_c, .int v_a1_d, .int v_a1_odds, .int v_a1_lines, .ref h_a1_signs, .int v_a1_signCount, .ref h_a1_posts, .int v_a1_postCount, .ref h_a1_acts])), (h_a1_posts, .inl (cI, 5, .inl f_a1_posts)), (h_a2, .inr (7, [.ref h_a2_numbers, .int v_a2_width, .int v_a2_size, .int v_a2_made])), (h_a2_numbers, .inl (cJ, 60, .inr (.inl f_a2_numbers)))] H := hP
  have hD : va_D A [(h0, .inr (5, [.ref h_sentAt, .ref h_tally, .int 0, .int (-1), .int (-1)])), (h_sentAt, .inl (cI, 100, .inl f_sentAt)), (h_a1, .inr (8, [.int v_a1_tones, .int v_a1_a, .int v_a1_b, .int v_a1_c, .int v_a1_d, .int v_a1_odds, .int v_a1_lines, .ref h_a1_signs, .int v_a1_signCount, .ref h_a1_posts, .int v_a1_postCount, .ref h_a1_acts])), (h_a1_posts, .inl (cI, 5, .inl f_a1_posts)), (h_a2, .inr (7, [.ref h_a2_numbers, .int v_a2_width, .int v_a2_size, .int v_a2_made])), (h_a2_numbers, .inl (cJ, 60, .inr (.inl f_a2_numbers)))] := hD
  refine lv_iconst (v := 0) hx hb dX5_searchFitting_15 (by decide) ?_
  refine lv_istore_n (lv' := [(3, .int 0), (0, .ref h0), (1, .ref h_a1), (2, .ref h_a2)]) hx hb dX5_searchFitting_16 rfl hl (by decide) rfl (fun ls hl => ?_)
  exact b_X5_searchFitting_l17 h0 h_sentAt h_tally h_a1 v_a1_tones v_a1_a v_a1_b v_a1_c v_a1_d v_a1_odds v_a1_lines h_a1_signs v_a1_signCount h_a1_posts v_a1_postCount h_a1_acts f_a1_posts h_a2 h_a2_numbers v_a2_width v_a2_size v_a2_made f_a2_numbers (by first | assumption | omega | decide) (by first | assumption | omega | decide) (by first | assumption | omega | decide) (by first | assumption | omega | decide) C hG hAB hA ret _ (0) ((-1)) ((-1)) (f_sentAt) (0) _ _ _ (by first | assumption | omega | decide) (Nat.lt_succ_self _) (hP.sub [0, 1, 2, 3, 4, 5] rfl) (hD.sub [0, 1, 2, 3, 4, 5] (by decide) rfl) hS (lv_sub hl [0, 1, 2, 3] rfl)

set_option maxHeartbeats 4000000 in
set_option maxRecDepth 100000 in
theorem b_X5_countMinute (l : Launch) (G : Gho) (D : va_G) (cB cI cJ cZ cS cT : ClassId) (sz : Nat) (h0 : Nat) (h_sentAt : Nat) (h_tally : Nat) (v0_found : Int32) (v0_leastPlace : Int32) (v0_greatestPlace : Int32) (f_tally : Nat → Int32) (v1 : Int32)  : Met l yX5_countMinute (Cond.code yX5_countMinute cX5_countMinute 2 (some .int) :: wsL_law) ({ frames := 0, cells := 0, slots := 0, locals := 0 }) (wrP G D (tyL cB cI cJ cZ cS cT) [(h0, .inr (5, [.ref h_sentAt, .ref h_tally, .int v0_found, .int v0_leastPlace, .int v0_greatestPlace])), (h_tally, .inl (cI, 1099, .inl f_tally))] sz [.ref h0, .int v1]) (va_Qi (fun (r : Int32) (x : (Nat → Int32)) => True) (atW D (tyL cB cI cJ cZ cS cT) (va_A [(h0, .inr (5, [.ref h_sentAt, .ref h_tally, .int v0_found, .int v0_leastPlace, .int v0_greatestPlace])), (h_tally, .inl (cI, 1099, .inl f_tally))] sz) (fun x : (Nat → Int32) => [(h0, .inr (5, [.ref h_sentAt, .ref h_tally, .int v0_found, .int v0_leastPlace, .int v0_greatestPlace])), (h_tally, .inl (cI, 1099, .inl x))])) (va_A [(h0, .inr (5, [.ref h_sentAt, .ref h_tally, .int v0_found, .int v0_leastPlace, .int v0_greatestPlace])), (h_tally, .inl (cI, 1099, .inl f_tally))] sz)) 0 0 (va_A [(h0, .inr (5, [.ref h_sentAt, .ref h_tally, .int v0_found, .int v0_leastPlace, .int v0_greatestPlace])), (h_tally, .inl (cI, 1099, .inl f_tally))] sz) := by
  refine metI (own := RX5) (by decide) rfl ?_
  intro p e s m below meth c Q hsz C hG hP hD hAB ret
  obtain ⟨hx, hb, hml, hown, hts, hK, hN, hT⟩ := id C
  subst hsz
  generalize hAe : va_A [(h0, .inr (5, [.ref h_sentAt, .ref h_tally, .int v0_found, .int v0_leastPlace, .int v0_greatestPlace])), (h_tally, .inl (cI, 1099, .inl f_tally))] s.heap.size = A at hD hAB ret ⊢
  have hA : ∀ q : Nat, s.heap.size ≤ q → A q := fun q h => by rw [← hAe]; exact Or.inr h
  have hS : va_S A s.heap s.heap [] := va_S.rf
  have hl := lv_entry ([.ref h0, .int v1]) (n := 2) (Nat.le_of_ble_eq_true rfl)
  rw [lg_entry_eq]
  generalize (lg_sl ([.ref h0, .int v1]) ++ List.replicate (2 - (lg_sl ([.ref h0, .int v1])).length) Slot.unset).toArray = ls at hl ⊢
  have hl : lv_has ls 2 [(0, .ref h0), (1, .int v1)] := hl
  have hP : va_P D vwCl [(h0, .inr (5, [.ref h_sentAt, .ref h_tally, .int v0_found, .int v0_leastPlace, .int v0_greatestPlace])), (h_tally, .inl (cI, 1099, .inl f_tally))] s.heap := hP
  refine lv_iload_n hx hb dX5_countMinute_0 rfl (lv_at hl 1 rfl) ?_
  refine lv_if_lt (tgt := 11) hx hb dX5_countMinute_1 (by decide) (fun c_1 => ?_) (fun c_1 => ?_)
  · have c_1 : v1.toInt < 0 := ci_lt_t c_1
    have b_v1 := i32b v1
    refine lv_iconst (v := 0) hx hb dX5_countMinute_11 (by decide) ?_
    exact ret _ _ _ _ _ f_tally dX5_countMinute_12 trivial (hP.sub [0, 1] rfl) (hD.sub [0, 1] (by decide) rfl) hS
  · have c_1 : 0 ≤ v1.toInt := ci_lt_f c_1
    have b_v1 := i32b v1
    refine lv_iload_n hx hb dX5_countMinute_4 rfl (lv_at hl 1 rfl) ?_
    refine lv_sipush (v := 1099) hx hb dX5_countMinute_5 (by decide) ?_
    refine lv_icmp_lt (tgt := 13) hx hb dX5_countMinute_8 (by decide) (fun c_2 => ?_) (fun c_2 => ?_)
    · have c_2 : v1.toInt < 1099 := ci_lt_t c_2
      refine lv_aload_n hx hb dX5_countMinute_13 rfl (lv_at hl 0 rfl) ?_
      refine va_get (D := D) (ci := 5) (v := .ref h_tally) (C := RX5) (T := TX5) (N := 5) hx hb hts inlX5 hown hK hP 0 rfl rfl 1 (by decide) (hts _ (inr6 _ (List.mem_of_getElem? (i := 8) rfl))) (fun _ h9 => h9) rfl dX5_countMinute_14 ?_
      refine lv_iload_n hx hb dX5_countMinute_17 rfl (lv_at hl 1 rfl) ?_
      refine lv_dup2_11 hx hb dX5_countMinute_18 rfl rfl ?_
      obtain ⟨t_3, et_3⟩ : ∃ v9 : Int32, f_tally (v1 : Int32).toNatClampNeg = v9 := ⟨_, rfl⟩
      refine z_iald (v := t_3) hx hb hK hP 1 1 rfl rfl (vin_nat (by omega) (by omega)) et_3 dX5_countMinute_19 ?_
      refine lv_iconst (v := 1) hx hb dX5_countMinute_20 (by decide) ?_
      obtain ⟨t_4, et_4⟩ : ∃ v9 : Int32, t_3 + 1 = v9 := ⟨_, rfl⟩
      refine z_iadd (v := t_4) hx hb dX5_countMinute_21 et_4 ?_
      refine va_iast hx hb hK hP hD hS 1 1 rfl rfl (vin_nat (by omega) (by omega)) dX5_countMinute_22 (fun H locs hP hD hS => ?_)
      have hP : va_P D vwCl [(h0, .inr (5, [.ref h_sentAt, .ref h_tally, .int v0_found, .int v0_leastPlace, .int v0_greatestPlace])), (h_tally, .inl (cI, 1099, .inl (upd f_tally (v1 : Int32).toNatClampNeg t_4)))] H := hP
      have hD : va_D A [(h0, .inr (5, [.ref h_sentAt, .ref h_tally, .int v0_found, .int v0_leastPlace, .int v0_greatestPlace])), (h_tally, .inl (cI, 1099, .inl (upd f_tally (v1 : Int32).toNatClampNeg t_4)))] := hD
      obtain ⟨g_5, eg_5⟩ : ∃ v9 : Nat → Int32, (upd f_tally (v1 : Int32).toNatClampNeg t_4) = v9 := ⟨_, rfl⟩
      rw [eg_5] at hP hD
      have hP : va_P D vwCl [(h0, .inr (5, [.ref h_sentAt, .ref h_tally, .int v0_found, .int v0_leastPlace, .int v0_greatestPlace])), (h_tally, .inl (cI, 1099, .inl g_5))] H := hP
      have hD : va_D A [(h0, .inr (5, [.ref h_sentAt, .ref h_tally, .int v0_found, .int v0_leastPlace, .int v0_greatestPlace])), (h_tally, .inl (cI, 1099, .inl g_5))] := hD
      refine lv_aload_n hx hb dX5_countMinute_23 rfl (lv_at hl 0 rfl) ?_
      refine va_get (D := D) (ci := 5) (v := .ref h_tally) (C := RX5) (T := TX5) (N := 5) hx hb hts inlX5 hown hK hP 0 rfl rfl 1 (by decide) (hts _ (inr6 _ (List.mem_of_getElem? (i := 8) rfl))) (fun _ h9 => h9) rfl dX5_countMinute_24 ?_
      refine lv_iload_n hx hb dX5_countMinute_27 rfl (lv_at hl 1 rfl) ?_
      obtain ⟨t_6, et_6⟩ : ∃ v9 : Int32, g_5 (v1 : Int32).toNatClampNeg = v9 := ⟨_, rfl⟩
      refine z_iald (v := t_6) hx hb hK hP 1 1 rfl rfl (vin_nat (by omega) (by omega)) et_6 dX5_countMinute_28 ?_
      have qt_6 : t_6.toInt = t_4.toInt := (upd9S (v := t_4) eg_5 et_6)
      exact ret _ _ _ _ _ g_5 dX5_countMinute_29 trivial (hP.sub [0, 1] rfl) (hD.sub [0, 1] (by decide) rfl) hS
    · have c_2 : 1099 ≤ v1.toInt := ci_lt_f c_2
      refine lv_iconst (v := 0) hx hb dX5_countMinute_11 (by decide) ?_
      exact ret _ _ _ _ _ f_tally dX5_countMinute_12 trivial (hP.sub [0, 1] rfl) (hD.sub [0, 1] (by decide) rfl) hS

set_option maxHeartbeats 4000000 in
set_option maxRecDepth 100000 in
theorem b_X5_leftAtWorst_l15 {p : Program} {l : Launch} {e : Env} {s : State} {m : MethodId} {args : Array Value} {below : List Frame} {meth : Method} {c : Code} {Q : State → Prop} {G : Gho} {D : va_G} {cB cI cJ cZ cS cT : ClassId} {A : Nat → Prop} (h0 : Nat) (h_sentAt : Nat) (h_tally : Nat) (v0_found : Int32) (v0_leastPlace : Int32) (v0_greatestPlace : Int32) (f_sentAt : Nat → Int32) (v1 : Int32)  (C : Cx p s m args c RX5 cX5_leftAtWorst 4 G D (tyL cB cI cJ cZ cS cT)) (hG : G.1 ≤ s.heap.size) (hAB : ∀ q, A q → G.1 ≤ q) (hA : ∀ q : Nat, s.heap.size ≤ q → A q) (ret : RetI p l e ({ frames := 1, cells := 0, slots := 0, locals := 23 }) s m args below meth c cX5_leftAtWorst D A (fun x : (Nat → Int32) => [(h0, .inr (5, [.ref h_sentAt, .ref h_tally, .int v0_found, .int v0_leastPlace, .int v0_greatestPlace])), (h_sentAt, .inl (cI, 100, .inl f_sentAt)), (h_tally, .inl (cI, 1099, .inl x))]) (fun (r : Int32) (x : (Nat → Int32)) => True) Q) :
    ∀ (N : Nat) (g15_tally : Nat → Int32) (l15_3 : Int32) (l15_2 : Int32) (H : Heap) (locs : List Loc) (ls : Array Slot), (v0_greatestPlace.toInt - l15_3.toInt + 1).toNat < N → va_P D vwCl [(h0, .inr (5, [.ref h_sentAt, .ref h_tally, .int v0_found, .int v0_leastPlace, .int v0_greatestPlace])), (h_sentAt, .inl (cI, 100, .inl f_sentAt)), (h_tally, .inl (cI, 1099, .inl g15_tally))] H → va_D A [(h0, .inr (5, [.ref h_sentAt, .ref h_tally, .int v0_found, .int v0_leastPlace, .int v0_greatestPlace])), (h_sentAt, .inl (cI, 100, .inl f_sentAt)), (h_tally, .inl (cI, 1099, .inl g15_tally))] → va_S A s.heap H locs → lv_has ls 4 [(3, .int l15_3), (2, .int l15_2), (0, .ref h0), (1, .int v1)] → W p l e ({ frames := 1, cells := 0, slots := 0, locals := 23 }) s m args below meth c H locs 0 0 Q (F0 m 15 ls []) := by
  obtain ⟨hx, hb, hml, hown, hts, hK, hN, hT⟩ := id C
  intro N
  induction N with
  | zero =>
    intro g15_tally l15_3 l15_2 H locs ls  hM_15 hP hD hS hl
    omega
  | succ N_15 ih_15 =>
    intro g15_tally l15_3 l15_2 H locs ls  hM_15 hP hD hS hl
    have b_l15_3 := i32b l15_3
    refine lv_iload_n hx hb dX5_leftAtWorst_15 rfl (lv_at hl 0 rfl) ?_
    refine lv_aload_n hx hb dX5_leftAtWorst_16 rfl (lv_at hl 2 rfl) ?_
    refine va_get (D := D) (ci := 5) (v := .int v0_greatestPlace) (C := RX5) (T := TX5) (N := 5) hx hb hts inlX5 hown hK hP 0 rfl rfl 4 (by decide) (hts _ (inr57 _ (List.mem_of_getElem? (i := 0) rfl))) (fun _ h9 => h9) rfl dX5_leftAtWorst_17 ?_
    refine lv_icmp_gt (tgt := 71) hx hb dX5_leftAtWorst_20 (by decide) (fun c_5 => ?_) (fun c_5 => ?_)
    · have c_5 : v0_greatestPlace.toInt < l15_3.toInt := ci_gt_t c_5
      have b_v0_greatestPlace := i32b v0_greatestPlace
      refine lv_iload_n hx hb dX5_leftAtWorst_71 rfl (lv_at hl 1 rfl) ?_
      exact ret _ _ _ _ _ g15_tally dX5_leftAtWorst_72 trivial (hP.sub [0, 1, 2] rfl) (hD.sub [0, 1, 2] (by decide) rfl) hS
    · have c_5 : l15_3.toInt ≤ v0_greatestPlace.toInt := ci_gt_f c_5
      have b_v0_greatestPlace := i32b v0_greatestPlace
      refine lv_iload_n hx hb dX5_leftAtWorst_23 rfl (lv_at hl 0 rfl) ?_
      refine lv_bipush (v := 100) hx hb dX5_leftAtWorst_24 (by decide) ?_
      refine lv_icmp_ge (tgt := 71) hx hb dX5_leftAtWorst_26 (by decide) (fun c_6 => ?_) (fun c_6 => ?_)
      · have c_6 : 100 ≤ l15_3.toInt := ci_ge_t c_6
        refine lv_iload_n hx hb dX5_leftAtWorst_71 rfl (lv_at hl 1 rfl) ?_
        exact ret _ _ _ _ _ g15_tally dX5_leftAtWorst_72 trivial (hP.sub [0, 1, 2] rfl) (hD.sub [0, 1, 2] (by decide) rfl) hS
      · have c_6 : l15_3.toInt < 100 := ci_ge_f c_6
        refine lv_iload_n hx hb dX5_leftAtWorst_29 rfl (lv_at hl 0 rfl) ?_
        refine lv_if_lt (tgt := 65) hx hb dX5_leftAtWorst_30 (by decide) (fun c_7 => ?_) (fun c_7 => ?_)
        · have c_7 : l15_3.toInt < 0 := ci_lt_t c_7
          obtain ⟨t_8, et_8⟩ : ∃ v9 : Int32, l15_3 + 1 = v9 := ⟨_, rfl⟩
          have ft_8 : t_8.toInt = l15_3.toInt + 1 := addT (a := l15_3.toInt) (b := 1) rfl (by decide) et_8 (by omega) (by omega)
          refine lv_iinc (v := t_8) (lv' := [(3, .int t_8), (2, .int l15_2), (0, .ref h0), (1, .int v1)]) hx hb dX5_leftAtWorst_65 hl (k := 0) rfl (by rw [← et_8]; rfl) (by decide) rfl (fun ls hl => ?_)
          refine lv_goto (tgt := 15) hx hb dX5_leftAtWorst_68 (by decide) ?_
          exact ih_15 (g15_tally) (t_8) (l15_2) _ _ _  (by omega) (hP.sub [0, 1, 2] rfl) (hD.sub [0, 1, 2] (by decide) rfl) hS (lv_sub hl [0, 1, 2, 3] rfl)
        · have c_7 : 0 ≤ l15_3.toInt := ci_lt_f c_7
          refine lv_aload_n hx hb dX5_leftAtWorst_33 rfl (lv_at hl 2 rfl) ?_
          refine va_get (D := D) (ci := 5) (v := .ref h_sentAt) (C := RX5) (T := TX5) (N := 5) hx hb hts inlX5 hown hK hP 0 rfl rfl 0 (by decide) (hts _ (inr6 _ (List.mem_of_getElem? (i := 7) rfl))) (fun _ h9 => h9) rfl dX5_leftAtWorst_34 ?_
          refine lv_iload_n hx hb dX5_leftAtWorst_37 rfl (lv_at hl 0 rfl) ?_
          obtain ⟨t_9, et_9⟩ : ∃ v9 : Int32, f_sentAt (l15_3 : Int32).toNatClampNeg = v9 := ⟨_, rfl⟩
          refine z_iald (v := t_9) hx hb hK hP 1 1 rfl rfl (vin_nat (by omega) (by omega)) et_9 dX5_leftAtWorst_38 ?_
          refine lv_iconst (v := (-1)) hx hb dX5_leftAtWorst_39 (by decide) ?_
          refine lv_icmp_eq (tgt := 65) hx hb dX5_leftAtWorst_40 (by decide) (fun c_10 => ?_) (fun c_10 => ?_)
          · have c_10 : t_9.toInt = (-1) := ci_eq_t c_10
            have b_t_9 := i32b t_9
            obtain ⟨t_11, et_11⟩ : ∃ v9 : Int32, l15_3 + 1 = v9 := ⟨_, rfl⟩
            have ft_11 : t_11.toInt = l15_3.toInt + 1 := addT (a := l15_3.toInt) (b := 1) rfl (by decide) et_11 (by omega) (by omega)
            refine lv_iinc (v := t_11) (lv' := [(3, .int t_11), (2, .int l15_2), (0, .ref h0), (1, .int v1)]) hx hb dX5_leftAtWorst_65 hl (k := 0) rfl (by rw [← et_11]; rfl) (by decide) rfl (fun ls hl => ?_)
            refine lv_goto (tgt := 15) hx hb dX5_leftAtWorst_68 (by decide) ?_
            exact ih_15 (g15_tally) (t_11) (l15_2) _ _ _  (by omega) (hP.sub [0, 1, 2] rfl) (hD.sub [0, 1, 2] (by decide) rfl) hS (lv_sub hl [0, 1, 2, 3] rfl)
          · have c_10 : ¬ t_9.toInt = (-1) := ci_eq_f c_10
            have b_t_9 := i32b t_9
            refine lv_iload_n hx hb dX5_leftAtWorst_43 rfl (lv_at hl 1 rfl) ?_
            refine lv_aload_n hx hb dX5_leftAtWorst_44 rfl (lv_at hl 2 rfl) ?_
            refine lv_aload_n hx hb dX5_leftAtWorst_45 rfl (lv_at hl 2 rfl) ?_
            refine va_get (D := D) (ci := 5) (v := .ref h_sentAt) (C := RX5) (T := TX5) (N := 5) hx hb hts inlX5 hown hK hP 0 rfl rfl 0 (by decide) (hts _ (inr6 _ (List.mem_of_getElem? (i := 7) rfl))) (fun _ h9 => h9) rfl dX5_leftAtWorst_46 ?_
            refine lv_iload_n hx hb dX5_leftAtWorst_49 rfl (lv_at hl 0 rfl) ?_
            obtain ⟨t_12, et_12⟩ : ∃ v9 : Int32, f_sentAt (l15_3 : Int32).toNatClampNeg = v9 := ⟨_, rfl⟩
            refine z_iald (v := t_12) hx hb hK hP 1 1 rfl rfl (vin_nat (by omega) (by omega)) et_12 dX5_leftAtWorst_50 ?_
            refine lv_iload_n hx hb dX5_leftAtWorst_51 rfl (lv_at hl 0 rfl) ?_
            refine lv_iload_n hx hb dX5_leftAtWorst_52 rfl (lv_at hl 3 rfl) ?_
            obtain ⟨t_13, et_13⟩ : ∃ v9 : Int32, l15_3 - v1 = v9 := ⟨_, rfl⟩
            refine z_isub (v := t_13) hx hb dX5_leftAtWorst_53 et_13 ?_
            refine va_mabs hx hb (by rw [hml]; exact hl.1.symm) hown (hts _ (inr59 _ (List.mem_of_getElem? (i := 9) rfl))) (hts _ (inr34 _ (List.mem_of_getElem? (i := 11) rfl))) (hts _ (inr18 _ (List.mem_of_getElem? (i := 12) rfl))) (hts _ (inr34 _ (List.mem_of_getElem? (i := 12) rfl))) (Nat.le_of_ble_eq_true rfl) (Nat.le_of_ble_eq_true rfl) (Nat.le_of_ble_eq_true rfl) (Nat.le_of_ble_eq_true rfl) dX5_leftAtWorst_54 ?_
            refine lv_topi (fun t_14 et_14 => ?_)
            obtain ⟨t_15, et_15⟩ : ∃ v9 : Int32, t_12 + t_14 = v9 := ⟨_, rfl⟩
            refine z_iadd (v := t_15) hx hb dX5_leftAtWorst_57 et_15 ?_
            refine wrVi (As := [.int t_15]) (rest := [.int l15_2]) (wr := [(h_sentAt, .inl (cI, 100, .inl f_sentAt))]) ⟨hx, hb, hml, hown, hts⟩ (b_X5_countMinute l G D cB cI cJ cZ cS cT H.size h0 h_sentAt h_tally v0_found v0_leastPlace v0_greatestPlace g15_tally t_15 ) hP hD hS hA hK hN hT hAB hG [0, 2] [1] rfl rfl (by decide) (by decide) (by decide) (cvB (n := 1) (inr59 _ (List.mem_of_getElem? (i := 12) rfl)) (inr59 _ (List.mem_of_getElem? (i := 13) rfl)) (inr59 _ (List.mem_of_getElem? (i := 14) rfl)) (inr3 _ (List.mem_of_getElem? (i := 4) rfl)) (inr59 _ (List.mem_of_getElem? (i := 15) rfl)) (by decide +kernel) hts rfl rfl ⟨Nat.le_of_ble_eq_true rfl, Nat.le_of_ble_eq_true rfl⟩) 0 5 rfl rfl rfl rfl hl.1 rfl (Nat.le_of_ble_eq_true rfl) ⟨Nat.le_of_ble_eq_true rfl, Nat.le_of_ble_eq_true rfl⟩ dX5_leftAtWorst_58 (fun r_16 x9 H locs h_17 hP hD hS => ?_)
            obtain ⟨g_18, rfl⟩ : ∃ z, z = x9 := ⟨_, rfl⟩
            have hP : va_P D vwCl [(h_sentAt, .inl (cI, 100, .inl f_sentAt)), (h0, .inr (5, [.ref h_sentAt, .ref h_tally, .int v0_found, .int v0_leastPlace, .int v0_greatestPlace])), (h_tally, .inl (cI, 1099, .inl g_18))] H := hP
            have hD : va_D A [(h_sentAt, .inl (cI, 100, .inl f_sentAt)), (h0, .inr (5, [.ref h_sentAt, .ref h_tally, .int v0_found, .int v0_leastPlace, .int v0_greatestPlace])), (h_tally, .inl (cI, 1099, .inl g_18))] := hD
            refine va_mmax hx hb (by rw [hml]; exact hl.1.symm) hown (hts _ (inr59 _ (List.mem_of_getElem? (i := 10) rfl))) (hts _ (inr32 _ (List.mem_of_getElem? (i := 5) rfl))) (hts _ (inr18 _ (List.mem_of_getElem? (i := 12) rfl))) (hts _ (inr32 _ (List.mem_of_getElem? (i := 6) rfl))) (Nat.le_of_ble_eq_true rfl) (Nat.le_of_ble_eq_true rfl) (Nat.le_of_ble_eq_true rfl) (Nat.le_of_ble_eq_true rfl) dX5_leftAtWorst_61 ?_
            refine lv_topi (fun t_19 et_19 => ?_)
            have b_l15_2 := i32b l15_2
            have b_r_16 := i32b r_16
            have ft_19 : l15_2.toInt ≤ t_19.toInt ∧ r_16.toInt ≤ t_19.toInt ∧ (t_19.toInt = l15_2.toInt ∨ t_19.toInt = r_16.toInt) := maxT et_19
            refine lv_istore_n (lv' := [(2, .int t_19), (3, .int l15_3), (0, .ref h0), (1, .int v1)]) hx hb dX5_leftAtWorst_64 rfl hl (by decide) rfl (fun ls hl => ?_)
            obtain ⟨t_20, et_20⟩ : ∃ v9 : Int32, l15_3 + 1 = v9 := ⟨_, rfl⟩
            have ft_20 : t_20.toInt = l15_3.toInt + 1 := addT (a := l15_3.toInt) (b := 1) rfl (by decide) et_20 (by omega) (by omega)
            refine lv_iinc (v := t_20) (lv' := [(3, .int t_20), (2, .int t_19), (0, .ref h0), (1, .int v1)]) hx hb dX5_leftAtWorst_65 hl (k := 1) rfl (by rw [← et_20]; rfl) (by decide) rfl (fun ls hl => ?_)
            refine lv_goto (tgt := 15) hx hb dX5_leftAtWorst_68 (by decide) ?_
            exact ih_15 (g_18) (t_20) (t_19) _ _ _  (by omega) (hP.sub [1, 0, 2] rfl) (hD.sub [1, 0, 2] (by decide) rfl) hS (lv_sub hl [0, 1, 2, 3] rfl)

set_option maxHeartbeats 4000000 in
set_option maxRecDepth 100000 in
theorem b_X5_leftAtWorst (l : Launch) (G : Gho) (D : va_G) (cB cI cJ cZ cS cT : ClassId) (sz : Nat) (h0 : Nat) (h_sentAt : Nat) (h_tally : Nat) (v0_found : Int32) (v0_leastPlace : Int32) (v0_greatestPlace : Int32) (f_sentAt : Nat → Int32) (f_tally : Nat → Int32) (v1 : Int32)  : Met l yX5_leftAtWorst (Cond.code yX5_leftAtWorst cX5_leftAtWorst 4 (some .int) :: wsL_law) ({ frames := 1, cells := 0, slots := 0, locals := 23 }) (wrP G D (tyL cB cI cJ cZ cS cT) [(h0, .inr (5, [.ref h_sentAt, .ref h_tally, .int v0_found, .int v0_leastPlace, .int v0_greatestPlace])), (h_sentAt, .inl (cI, 100, .inl f_sentAt)), (h_tally, .inl (cI, 1099, .inl f_tally))] sz [.ref h0, .int v1]) (va_Qi (fun (r : Int32) (x : (Nat → Int32)) => True) (atW D (tyL cB cI cJ cZ cS cT) (va_A [(h0, .inr (5, [.ref h_sentAt, .ref h_tally, .int v0_found, .int v0_leastPlace, .int v0_greatestPlace])), (h_sentAt, .inl (cI, 100, .inl f_sentAt)), (h_tally, .inl (cI, 1099, .inl f_tally))] sz) (fun x : (Nat → Int32) => [(h0, .inr (5, [.ref h_sentAt, .ref h_tally, .int v0_found, .int v0_leastPlace, .int v0_greatestPlace])), (h_sentAt, .inl (cI, 100, .inl f_sentAt)), (h_tally, .inl (cI, 1099, .inl x))])) (va_A [(h0, .inr (5, [.ref h_sentAt, .ref h_tally, .int v0_found, .int v0_leastPlace, .int v0_greatestPlace])), (h_sentAt, .inl (cI, 100, .inl f_sentAt)), (h_tally, .inl (cI, 1099, .inl f_tally))] sz)) 0 0 (va_A [(h0, .inr (5, [.ref h_sentAt, .ref h_tally, .int v0_found, .int v0_leastPlace, .int v0_greatestPlace])), (h_sentAt, .inl (cI, 100, .inl f_sentAt)), (h_tally, .inl (cI, 1099, .inl f_tally))] sz) := by
  refine metI (own := RX5) (by decide) rfl ?_
  intro p e s m below meth c Q hsz C hG hP hD hAB ret
  obtain ⟨hx, hb, hml, hown, hts, hK, hN, hT⟩ := id C
  subst hsz
  generalize hAe : va_A [(h0, .inr (5, [.ref h_sentAt, .ref h_tally, .int v0_found, .int v0_leastPlace, .int v0_greatestPlace])), (h_sentAt, .inl (cI, 100, .inl f_sentAt)), (h_tally, .inl (cI, 1099, .inl f_tally))] s.heap.size = A at hD hAB ret ⊢
  have hA : ∀ q : Nat, s.heap.size ≤ q → A q := fun q h => by rw [← hAe]; exact Or.inr h
  have hS : va_S A s.heap s.heap [] := va_S.rf
  have hl := lv_entry ([.ref h0, .int v1]) (n := 4) (Nat.le_of_ble_eq_true rfl)
  rw [lg_entry_eq]
  generalize (lg_sl ([.ref h0, .int v1]) ++ List.replicate (4 - (lg_sl ([.ref h0, .int v1])).length) Slot.unset).toArray = ls at hl ⊢
  have hl : lv_has ls 4 [(0, .ref h0), (1, .int v1)] := hl
  have hP : va_P D vwCl [(h0, .inr (5, [.ref h_sentAt, .ref h_tally, .int v0_found, .int v0_leastPlace, .int v0_greatestPlace])), (h_sentAt, .inl (cI, 100, .inl f_sentAt)), (h_tally, .inl (cI, 1099, .inl f_tally))] s.heap := hP
  refine lv_aload_n hx hb dX5_leftAtWorst_0 rfl (lv_at hl 0 rfl) ?_
  refine va_get (D := D) (ci := 5) (v := .ref h_tally) (C := RX5) (T := TX5) (N := 5) hx hb hts inlX5 hown hK hP 0 rfl rfl 1 (by decide) (hts _ (inr6 _ (List.mem_of_getElem? (i := 8) rfl))) (fun _ h9 => h9) rfl dX5_leftAtWorst_1 ?_
  refine lv_iconst (v := 0) hx hb dX5_leftAtWorst_4 (by decide) ?_
  refine wrSv (As := [.ref h_tally, .int 0]) (rest := []) (wr := [(h0, .inr (5, [.ref h_sentAt, .ref h_tally, .int v0_found, .int v0_leastPlace, .int v0_greatestPlace])), (h_sentAt, .inl (cI, 100, .inl f_sentAt))]) ⟨hx, hb, hml, hown, hts⟩ (b_fillI l G D cB cI cJ cZ cS cT s.heap.size h_tally 1099 f_tally 0 (by first | assumption | omega | decide)) hP hD hS hA hK hN hT hAB hG [2] [0, 1] rfl rfl (by decide) (by decide) (by decide) (csX (n := 2) (inr59 _ (List.mem_of_getElem? (i := 11) rfl)) (inr4 _ (List.mem_of_getElem? (i := 15) rfl)) (inr4 _ (List.mem_of_getElem? (i := 16) rfl)) (inr4 _ (List.mem_of_getElem? (i := 17) rfl)) (by decide +kernel) hts rfl rfl ⟨Nat.le_of_ble_eq_true rfl, Nat.le_of_ble_eq_true rfl⟩) rfl hl.1 rfl (Nat.le_of_ble_eq_true rfl) ⟨Nat.le_of_ble_eq_true rfl, Nat.le_of_ble_eq_true rfl⟩ dX5_leftAtWorst_5 (fun x9 H locs h_2 hP hD hS => ?_)
  obtain ⟨g_3, rfl⟩ : ∃ z, z = x9 := ⟨_, rfl⟩
  have hP : va_P D vwCl [(h0, .inr (5, [.ref h_sentAt, .ref h_tally, .int v0_found, .int v0_leastPlace, .int v0_greatestPlace])), (h_sentAt, .inl (cI, 100, .inl f_sentAt)), (h_tally, .inl (cI, 1099, .inl g_3))] H := hP
  have hD : va_D A [(h0, .inr (5, [.ref h_sentAt, .ref h_tally, .int v0_found, .int v0_leastPlace, .int v0_greatestPlace])), (h_sentAt, .inl (cI, 100, .inl f_sentAt)), (h_tally, .inl (cI, 1099, .inl g_3))] := hD
  have h_2 : (∀ j, j < 1099 → g_3 j = 0) := h_2
  have i_4 := h_2
  refine lv_iconst (v := 0) hx hb dX5_leftAtWorst_8 (by decide) ?_
  refine lv_istore_n (lv' := [(2, .int 0), (0, .ref h0), (1, .int v1)]) hx hb dX5_leftAtWorst_9 rfl hl (by decide) rfl (fun ls hl => ?_)
  refine lv_aload_n hx hb dX5_leftAtWorst_10 rfl (lv_at hl 1 rfl) ?_
  refine va_get (D := D) (ci := 5) (v := .int v0_leastPlace) (C := RX5) (T := TX5) (N := 5) hx hb hts inlX5 hown hK hP 0 rfl rfl 3 (by decide) (hts _ (inr56 _ (List.mem_of_getElem? (i := 23) rfl))) (fun _ h9 => h9) rfl dX5_leftAtWorst_11 ?_
  refine lv_istore_n (lv' := [(3, .int v0_leastPlace), (2, .int 0), (0, .ref h0), (1, .int v1)]) hx hb dX5_leftAtWorst_14 rfl hl (by decide) rfl (fun ls hl => ?_)
  exact b_X5_leftAtWorst_l15 h0 h_sentAt h_tally v0_found v0_leastPlace v0_greatestPlace f_sentAt v1  C hG hAB hA ret _ (g_3) (v0_leastPlace) (0) _ _ _  (Nat.lt_succ_self _) (hP.sub [0, 1, 2] rfl) (hD.sub [0, 1, 2] (by decide) rfl) hS (lv_sub hl [0, 1, 2, 3] rfl)

set_option maxHeartbeats 4000000 in
set_option maxRecDepth 100000 in
theorem b_X5_whereToSet_l9 {p : Program} {l : Launch} {e : Env} {s : State} {m : MethodId} {args : Array Value} {below : List Frame} {meth : Method} {c : Code} {Q : State → Prop} {G : Gho} {D : va_G} {cB cI cJ cZ cS cT : ClassId} {A : Nat → Prop} (h0 : Nat) (h_sentAt : Nat) (h_tally : Nat) (v0_found : Int32) (v0_leastPlace : Int32) (v0_greatestPlace : Int32) (f_sentAt : Nat → Int32)  (C : Cx p s m args c RX5 cX5_whereToSet 5 G D (tyL cB cI cJ cZ cS cT)) (hG : G.1 ≤ s.heap.size) (hAB : ∀ q, A q → G.1 ≤ q) (hA : ∀ q : Nat, s.heap.size ≤ q → A q) (ret : RetI p l e ({ frames := 2, cells := 0, slots := 0, locals := 46 }) s m args below meth c cX5_whereToSet D A (fun x : (Nat → Int32) => [(h0, .inr (5, [.ref h_sentAt, .ref h_tally, .int v0_found, .int v0_leastPlace, .int v0_greatestPlace])), (h_sentAt, .inl (cI, 100, .inl f_sentAt)), (h_tally, .inl (cI, 1099, .inl x))]) (fun (r : Int32) (x : (Nat → Int32)) => True) Q) :
    ∀ (N : Nat) (g9_tally : Nat → Int32) (l9_3 : Int32) (l9_2 : Int32) (l9_1 : Int32) (H : Heap) (locs : List Loc) (ls : Array Slot), 0 ≤ l9_3.toInt ∧ l9_3.toInt ≤ 100 → (100 - l9_3.toInt).toNat < N → va_P D vwCl [(h0, .inr (5, [.ref h_sentAt, .ref h_tally, .int v0_found, .int v0_leastPlace, .int v0_greatestPlace])), (h_sentAt, .inl (cI, 100, .inl f_sentAt)), (h_tally, .inl (cI, 1099, .inl g9_tally))] H → va_D A [(h0, .inr (5, [.ref h_sentAt, .ref h_tally, .int v0_found, .int v0_leastPlace, .int v0_greatestPlace])), (h_sentAt, .inl (cI, 100, .inl f_sentAt)), (h_tally, .inl (cI, 1099, .inl g9_tally))] → va_S A s.heap H locs → lv_has ls 5 [(3, .int l9_3), (2, .int l9_2), (1, .int l9_1), (0, .ref h0)] → W p l e ({ frames := 2, cells := 0, slots := 0, locals := 46 }) s m args below meth c H locs 0 0 Q (F0 m 9 ls []) := by
  obtain ⟨hx, hb, hml, hown, hts, hK, hN, hT⟩ := id C
  intro N
  induction N with
  | zero =>
    intro g9_tally l9_3 l9_2 l9_1 H locs ls kl9_3 hM_9 hP hD hS hl
    omega
  | succ N_9 ih_9 =>
    intro g9_tally l9_3 l9_2 l9_1 H locs ls kl9_3 hM_9 hP hD hS hl
    have b_l9_3 := i32b l9_3
    refine lv_iload_n hx hb dX5_whereToSet_9 rfl (lv_at hl 0 rfl) ?_
    refine lv_bipush (v := 100) hx hb dX5_whereToSet_10 (by decide) ?_
    refine lv_icmp_ge (tgt := 39) hx hb dX5_whereToSet_12 (by decide) (fun c_1 => ?_) (fun c_1 => ?_)
    · have c_1 : 100 ≤ l9_3.toInt := ci_ge_t c_1
      refine lv_iload_n hx hb dX5_whereToSet_39 rfl (lv_at hl 2 rfl) ?_
      exact ret _ _ _ _ _ g9_tally dX5_whereToSet_40 trivial (hP.sub [0, 1, 2] rfl) (hD.sub [0, 1, 2] (by decide) rfl) hS
    · have c_1 : l9_3.toInt < 100 := ci_ge_f c_1
      refine lv_aload_n hx hb dX5_whereToSet_15 rfl (lv_at hl 3 rfl) ?_
      refine lv_iload_n hx hb dX5_whereToSet_16 rfl (lv_at hl 0 rfl) ?_
      refine wrVi (As := [.int l9_3]) (rest := []) (wr := []) ⟨hx, hb, hml, hown, hts⟩ (b_X5_leftAtWorst l G D cB cI cJ cZ cS cT H.size h0 h_sentAt h_tally v0_found v0_leastPlace v0_greatestPlace f_sentAt g9_tally l9_3 ) hP hD hS hA hK hN hT hAB hG [0, 1, 2] [] rfl rfl (by decide) (by decide) (by decide) (cvB (n := 1) (inr59 _ (List.mem_of_getElem? (i := 5) rfl)) (inr59 _ (List.mem_of_getElem? (i := 6) rfl)) (inr59 _ (List.mem_of_getElem? (i := 7) rfl)) (inr3 _ (List.mem_of_getElem? (i := 4) rfl)) (inr59 _ (List.mem_of_getElem? (i := 8) rfl)) (by decide +kernel) hts rfl rfl ⟨Nat.le_of_ble_eq_true rfl, Nat.le_of_ble_eq_true rfl⟩) 0 5 rfl rfl rfl rfl hl.1 rfl (Nat.le_of_ble_eq_true rfl) ⟨Nat.le_of_ble_eq_true rfl, Nat.le_of_ble_eq_true rfl⟩ dX5_whereToSet_17 (fun r_2 x9 H locs h_3 hP hD hS => ?_)
      obtain ⟨g_4, rfl⟩ : ∃ z, z = x9 := ⟨_, rfl⟩
      have hP : va_P D vwCl [(h0, .inr (5, [.ref h_sentAt, .ref h_tally, .int v0_found, .int v0_leastPlace, .int v0_greatestPlace])), (h_sentAt, .inl (cI, 100, .inl f_sentAt)), (h_tally, .inl (cI, 1099, .inl g_4))] H := hP
      have hD : va_D A [(h0, .inr (5, [.ref h_sentAt, .ref h_tally, .int v0_found, .int v0_leastPlace, .int v0_greatestPlace])), (h_sentAt, .inl (cI, 100, .inl f_sentAt)), (h_tally, .inl (cI, 1099, .inl g_4))] := hD
      refine lv_istore (lv' := [(4, .int r_2), (3, .int l9_3), (2, .int l9_2), (1, .int l9_1), (0, .ref h0)]) hx hb dX5_whereToSet_20 hl (by decide) rfl (fun ls hl => ?_)
      refine lv_iload hx hb dX5_whereToSet_22 (lv_at hl 0 rfl) ?_
      refine lv_iload_n hx hb dX5_whereToSet_24 rfl (lv_at hl 2 rfl) ?_
      refine lv_icmp_ge (tgt := 33) hx hb dX5_whereToSet_25 (by decide) (fun c_5 => ?_) (fun c_5 => ?_)
      · have c_5 : l9_2.toInt ≤ r_2.toInt := ci_ge_t c_5
        have b_r_2 := i32b r_2
        have b_l9_2 := i32b l9_2
        obtain ⟨t_6, et_6⟩ : ∃ v9 : Int32, l9_3 + 1 = v9 := ⟨_, rfl⟩
        have ft_6 : t_6.toInt = l9_3.toInt + 1 := addT (a := l9_3.toInt) (b := 1) rfl (by decide) et_6 (by omega) (by omega)
        refine lv_iinc (v := t_6) (lv' := [(3, .int t_6), (4, .int r_2), (2, .int l9_2), (1, .int l9_1), (0, .ref h0)]) hx hb dX5_whereToSet_33 hl (k := 1) rfl (by rw [← et_6]; rfl) (by decide) rfl (fun ls hl => ?_)
        refine lv_goto (tgt := 9) hx hb dX5_whereToSet_36 (by decide) ?_
        exact ih_9 (g_4) (t_6) (l9_2) (l9_1) _ _ _ (by first | assumption | omega | decide) (by omega) (hP.sub [0, 1, 2] rfl) (hD.sub [0, 1, 2] (by decide) rfl) hS (lv_sub hl [0, 2, 3, 4] rfl)
      · have c_5 : r_2.toInt < l9_2.toInt := ci_ge_f c_5
        have b_r_2 := i32b r_2
        have b_l9_2 := i32b l9_2
        refine lv_iload_n hx hb dX5_whereToSet_28 rfl (lv_at hl 1 rfl) ?_
        refine lv_istore_n (lv' := [(1, .int l9_3), (4, .int r_2), (3, .int l9_3), (2, .int l9_2), (0, .ref h0)]) hx hb dX5_whereToSet_29 rfl hl (by decide) rfl (fun ls hl => ?_)
        refine lv_iload hx hb dX5_whereToSet_30 (lv_at hl 1 rfl) ?_
        refine lv_istore_n (lv' := [(2, .int r_2), (1, .int l9_3), (4, .int r_2), (3, .int l9_3), (0, .ref h0)]) hx hb dX5_whereToSet_32 rfl hl (by decide) rfl (fun ls hl => ?_)
        obtain ⟨t_7, et_7⟩ : ∃ v9 : Int32, l9_3 + 1 = v9 := ⟨_, rfl⟩
        have ft_7 : t_7.toInt = l9_3.toInt + 1 := addT (a := l9_3.toInt) (b := 1) rfl (by decide) et_7 (by omega) (by omega)
        refine lv_iinc (v := t_7) (lv' := [(3, .int t_7), (2, .int r_2), (1, .int l9_3), (4, .int r_2), (0, .ref h0)]) hx hb dX5_whereToSet_33 hl (k := 3) rfl (by rw [← et_7]; rfl) (by decide) rfl (fun ls hl => ?_)
        refine lv_goto (tgt := 9) hx hb dX5_whereToSet_36 (by decide) ?_
        exact ih_9 (g_4) (t_7) (r_2) (l9_3) _ _ _ (by first | assumption | omega | decide) (by omega) (hP.sub [0, 1, 2] rfl) (hD.sub [0, 1, 2] (by decide) rfl) hS (lv_sub hl [0, 1, 2, 4] rfl)

set_option maxHeartbeats 4000000 in
set_option maxRecDepth 100000 in
theorem b_X5_whereToSet (l : Launch) (G : Gho) (D : va_G) (cB cI cJ cZ cS cT : ClassId) (sz : Nat) (h0 : Nat) (h_sentAt : Nat) (h_tally : Nat) (v0_found : Int32) (v0_leastPlace : Int32) (v0_greatestPlace : Int32) (f_sentAt : Nat → Int32) (f_tally : Nat → Int32)  : Met l yX5_whereToSet (Cond.code yX5_whereToSet cX5_whereToSet 5 (some .int) :: wsL_law) ({ frames := 2, cells := 0, slots := 0, locals := 46 }) (wrP G D (tyL cB cI cJ cZ cS cT) [(h0, .inr (5, [.ref h_sentAt, .ref h_tally, .int v0_found, .int v0_leastPlace, .int v0_greatestPlace])), (h_sentAt, .inl (cI, 100, .inl f_sentAt)), (h_tally, .inl (cI, 1099, .inl f_tally))] sz [.ref h0]) (va_Qi (fun (r : Int32) (x : (Nat → Int32)) => True) (atW D (tyL cB cI cJ cZ cS cT) (va_A [(h0, .inr (5, [.ref h_sentAt, .ref h_tally, .int v0_found, .int v0_leastPlace, .int v0_greatestPlace])), (h_sentAt, .inl (cI, 100, .inl f_sentAt)), (h_tally, .inl (cI, 1099, .inl f_tally))] sz) (fun x : (Nat → Int32) => [(h0, .inr (5, [.ref h_sentAt, .ref h_tally, .int v0_found, .int v0_leastPlace, .int v0_greatestPlace])), (h_sentAt, .inl (cI, 100, .inl f_sentAt)), (h_tally, .inl (cI, 1099, .inl x))])) (va_A [(h0, .inr (5, [.ref h_sentAt, .ref h_tally, .int v0_found, .int v0_leastPlace, .int v0_greatestPlace])), (h_sentAt, .inl (cI, 100, .inl f_sentAt)), (h_tally, .inl (cI, 1099, .inl f_tally))] sz)) 0 0 (va_A [(h0, .inr (5, [.ref h_sentAt, .ref h_tally, .int v0_found, .int v0_leastPlace, .int v0_greatestPlace])), (h_sentAt, .inl (cI, 100, .inl f_sentAt)), (h_tally, .inl (cI, 1099, .inl f_tally))] sz) := by
  refine metI (own := RX5) (by decide) rfl ?_
  intro p e s m below meth c Q hsz C hG hP hD hAB ret
  obtain ⟨hx, hb, hml, hown, hts, hK, hN, hT⟩ := id C
  subst hsz
  generalize hAe : va_A [(h0, .inr (5, [.ref h_sentAt, .ref h_tally, .int v0_found, .int v0_leastPlace, .int v0_greatestPlace])), (h_sentAt, .inl (cI, 100, .inl f_sentAt)), (h_tally, .inl (cI, 1099, .inl f_tally))] s.heap.size = A at hD hAB ret ⊢
  have hA : ∀ q : Nat, s.heap.size ≤ q → A q := fun q h => by rw [← hAe]; exact Or.inr h
  have hS : va_S A s.heap s.heap [] := va_S.rf
  have hl := lv_entry ([.ref h0]) (n := 5) (Nat.le_of_ble_eq_true rfl)
  rw [lg_entry_eq]
  generalize (lg_sl ([.ref h0]) ++ List.replicate (5 - (lg_sl ([.ref h0])).length) Slot.unset).toArray = ls at hl ⊢
  have hl : lv_has ls 5 [(0, .ref h0)] := hl
  have hP : va_P D vwCl [(h0, .inr (5, [.ref h_sentAt, .ref h_tally, .int v0_found, .int v0_leastPlace, .int v0_greatestPlace])), (h_sentAt, .inl (cI, 100, .inl f_sentAt)), (h_tally, .inl (cI, 1099, .inl f_tally))] s.heap := hP
  refine lv_iconst (v := (-1)) hx hb dX5_whereToSet_0 (by decide) ?_
  refine lv_istore_n (lv' := [(1, .int (-1)), (0, .ref h0)]) hx hb dX5_whereToSet_1 rfl hl (by decide) rfl (fun ls hl => ?_)
  refine lv_aload_n hx hb dX5_whereToSet_2 rfl (lv_at hl 1 rfl) ?_
  refine va_get (D := D) (ci := 5) (v := .int v0_found) (C := RX5) (T := TX5) (N := 5) hx hb hts inlX5 hown hK hP 0 rfl rfl 2 (by decide) (hts _ (inr56 _ (List.mem_of_getElem? (i := 22) rfl))) (fun _ h9 => h9) rfl dX5_whereToSet_3 ?_
  refine lv_istore_n (lv' := [(2, .int v0_found), (1, .int (-1)), (0, .ref h0)]) hx hb dX5_whereToSet_6 rfl hl (by decide) rfl (fun ls hl => ?_)
  refine lv_iconst (v := 0) hx hb dX5_whereToSet_7 (by decide) ?_
  refine lv_istore_n (lv' := [(3, .int 0), (2, .int v0_found), (1, .int (-1)), (0, .ref h0)]) hx hb dX5_whereToSet_8 rfl hl (by decide) rfl (fun ls hl => ?_)
  exact b_X5_whereToSet_l9 h0 h_sentAt h_tally v0_found v0_leastPlace v0_greatestPlace f_sentAt  C hG hAB hA ret _ (f_tally) (0) (v0_found) ((-1)) _ _ _ (by first | assumption | omega | decide) (Nat.lt_succ_self _) (hP.sub [0, 1, 2] rfl) (hD.sub [0, 1, 2] (by decide) rfl) hS (lv_sub hl [0, 1, 2, 3] rfl)

set_option maxHeartbeats 4000000 in
set_option maxRecDepth 100000 in
theorem b_X6_faultKind (l : Launch) (G : Gho) (D : va_G) (cB cI cJ cZ cS cT : ClassId) (h0 : Nat) (h_draft : Nat) (v0_kind : Int32) (v0_start : Int32) (v0_behind : Int32) (v0_number : Int32) (v0_fault : Int32) (v0_faultAt : Int32)  : Met l yX6_faultKind (Cond.code yX6_faultKind cX6_faultKind 1 (some .int) :: wsL_law) ({ frames := 0, cells := 0, slots := 0, locals := 0 }) (roP G D (tyL cB cI cJ cZ cS cT) [(h0, .inr (6, [.ref h_draft, .int v0_kind, .int v0_start, .int v0_behind, .int v0_number, .int v0_fault, .int v0_faultAt]))] [.ref h0]) (vp_Si (fun r : Int32 => (r = v0_fault))) 0 0 (fun _ => False) := by
  refine metRO (own := RX6) (by decide) rfl ?_
  intro p e s m below meth c Q C hP ret
  obtain ⟨hx, hb, hml, hown, hts, hK, hN, hT⟩ := id C
  have hl := lv_entry ([.ref h0]) (n := 1) (Nat.le_of_ble_eq_true rfl)
  rw [lg_entry_eq]
  generalize (lg_sl ([.ref h0]) ++ List.replicate (1 - (lg_sl ([.ref h0])).length) Slot.unset).toArray = ls at hl ⊢
  have hl : lv_has ls 1 [(0, .ref h0)] := hl
  have hP : va_P D vwCl [(h0, .inr (6, [.ref h_draft, .int v0_kind, .int v0_start, .int v0_behind, .int v0_number, .int v0_fault, .int v0_faultAt]))] s.heap := hP
  refine lv_aload_n hx hb dX6_faultKind_0 rfl (lv_at hl 0 rfl) ?_
  refine va_get (D := D) (ci := 6) (v := .int v0_fault) (C := RX6) (T := TX6) (N := 7) hx hb hts inlX6 hown hK hP 0 rfl rfl 5 (by decide) (hts _ (inr9 _ (List.mem_of_getElem? (i := 14) rfl))) (fun _ h9 => h9) rfl dX6_faultKind_1 ?_
  exact ret _ _ _ dX6_faultKind_4 (show (v0_fault = v0_fault) from rfl)

set_option maxHeartbeats 4000000 in
set_option maxRecDepth 100000 in
theorem b_X6_faultPlace (l : Launch) (G : Gho) (D : va_G) (cB cI cJ cZ cS cT : ClassId) (h0 : Nat) (h_draft : Nat) (v0_kind : Int32) (v0_start : Int32) (v0_behind : Int32) (v0_number : Int32) (v0_fault : Int32) (v0_faultAt : Int32)  : Met l yX6_faultPlace (Cond.code yX6_faultPlace cX6_faultPlace 1 (some .int) :: wsL_law) ({ frames := 0, cells := 0, slots := 0, locals := 0 }) (roP G D (tyL cB cI cJ cZ cS cT) [(h0, .inr (6, [.ref h_draft, .int v0_kind, .int v0_start, .int v0_behind, .int v0_number, .int v0_fault, .int v0_faultAt]))] [.ref h0]) (vp_Si (fun r : Int32 => (r = v0_faultAt))) 0 0 (fun _ => False) := by
  refine metRO (own := RX6) (by decide) rfl ?_
  intro p e s m below meth c Q C hP ret
  obtain ⟨hx, hb, hml, hown, hts, hK, hN, hT⟩ := id C
  have hl := lv_entry ([.ref h0]) (n := 1) (Nat.le_of_ble_eq_true rfl)
  rw [lg_entry_eq]
  generalize (lg_sl ([.ref h0]) ++ List.replicate (1 - (lg_sl ([.ref h0])).length) Slot.unset).toArray = ls at hl ⊢
  have hl : lv_has ls 1 [(0, .ref h0)] := hl
  have hP : va_P D vwCl [(h0, .inr (6, [.ref h_draft, .int v0_kind, .int v0_start, .int v0_behind, .int v0_number, .int v0_fault, .int v0_faultAt]))] s.heap := hP
  refine lv_aload_n hx hb dX6_faultPlace_0 rfl (lv_at hl 0 rfl) ?_
  refine va_get (D := D) (ci := 6) (v := .int v0_faultAt) (C := RX6) (T := TX6) (N := 7) hx hb hts inlX6 hown hK hP 0 rfl rfl 6 (by decide) (hts _ (inr3 _ (List.mem_of_getElem? (i := 20) rfl))) (fun _ h9 => h9) rfl dX6_faultPlace_1 ?_
  exact ret _ _ _ dX6_faultPlace_4 (show (v0_faultAt = v0_faultAt) from rfl)

set_option maxHeartbeats 4000000 in
set_option maxRecDepth 100000 in
theorem b_X6_draft (l : Launch) (G : Gho) (D : va_G) (cB cI cJ cZ cS cT : ClassId) (h0 : Nat) (h_draft : Nat) (v0_kind : Int32) (v0_start : Int32) (v0_behind : Int32) (v0_number : Int32) (v0_fault : Int32) (v0_faultAt : Int32)  : Met l yX6_draft (Cond.code yX6_draft cX6_draft 1 (some (.object "IntervalSignal$Station")) :: wsL_law) ({ frames := 0, cells := 0, slots := 0, locals := 0 }) (roP G D (tyL cB cI cJ cZ cS cT) [(h0, .inr (6, [.ref h_draft, .int v0_kind, .int v0_start, .int v0_behind, .int v0_number, .int v0_fault, .int v0_faultAt]))] [.ref h0]) (va_Sq (fun r : Option Nat => (r = some h_draft))) 0 0 (fun _ => False) := by
  refine metROQ (own := RX6) (by decide) rfl ?_
  intro p e s m below meth c Q C hP ret
  obtain ⟨hx, hb, hml, hown, hts, hK, hN, hT⟩ := id C
  have hl := lv_entry ([.ref h0]) (n := 1) (Nat.le_of_ble_eq_true rfl)
  rw [lg_entry_eq]
  generalize (lg_sl ([.ref h0]) ++ List.replicate (1 - (lg_sl ([.ref h0])).length) Slot.unset).toArray = ls at hl ⊢
  have hl : lv_has ls 1 [(0, .ref h0)] := hl
  have hP : va_P D vwCl [(h0, .inr (6, [.ref h_draft, .int v0_kind, .int v0_start, .int v0_behind, .int v0_number, .int v0_fault, .int v0_faultAt]))] s.heap := hP
  refine lv_aload_n hx hb dX6_draft_0 rfl (lv_at hl 0 rfl) ?_
  refine va_get (D := D) (ci := 6) (v := .ref h_draft) (C := RX6) (T := TX6) (N := 7) hx hb hts inlX6 hown hK hP 0 rfl rfl 0 (by decide) (hts _ (inr3 _ (List.mem_of_getElem? (i := 19) rfl))) (fun _ h9 => h9) rfl dX6_draft_1 ?_
  exact ret _ _ _ dX6_draft_4 (show ((some h_draft) = some h_draft) from rfl)

set_option maxHeartbeats 4000000 in
set_option maxRecDepth 100000 in
theorem b_X6_isBlank (l : Launch) (G : Gho) (D : va_G) (cB cI cJ cZ cS cT : ClassId) (v0 : Int32)  : Met l yX6_isBlank (Cond.code yX6_isBlank cX6_isBlank 1 (some .boolean) :: wsL_law) ({ frames := 0, cells := 0, slots := 0, locals := 0 }) (roP G D (tyL cB cI cJ cZ cS cT) [] [.int v0]) (vp_Si (fun r : Int32 => (r = 0 ∨ r = 1))) 0 0 (fun _ => False) := by
  refine metROZ (own := RX6) (by decide) rfl (fun r h => h) ?_
  intro p e s m below meth c Q C hP ret
  obtain ⟨hx, hb, hml, hown, hts, hK, hN, hT⟩ := id C
  have hl := lv_entry ([.int v0]) (n := 1) (Nat.le_of_ble_eq_true rfl)
  rw [lg_entry_eq]
  generalize (lg_sl ([.int v0]) ++ List.replicate (1 - (lg_sl ([.int v0])).length) Slot.unset).toArray = ls at hl ⊢
  have hl : lv_has ls 1 [(0, .int v0)] := hl
  have hP : va_P D vwCl [] s.heap := hP
  refine lv_iload_n hx hb dX6_isBlank_0 rfl (lv_at hl 0 rfl) ?_
  refine lv_bipush (v := 32) hx hb dX6_isBlank_1 (by decide) ?_
  refine lv_icmp_eq (tgt := 12) hx hb dX6_isBlank_3 (by decide) (fun c_1 => ?_) (fun c_1 => ?_)
  · have c_1 : v0.toInt = 32 := ci_eq_t c_1
    have b_v0 := i32b v0
    refine lv_iconst (v := 1) hx hb dX6_isBlank_12 (by decide) ?_
    refine lv_goto (tgt := 17) hx hb dX6_isBlank_13 (by decide) ?_
    have hr9 : (1 : Int32).toInt = 1 := by decide
    exact ret _ _ _ dX6_isBlank_17 (show ((1 : Int32) = 0 ∨ (1 : Int32) = 1) from (Or.inr rfl))
  · have c_1 : ¬ v0.toInt = 32 := ci_eq_f c_1
    have b_v0 := i32b v0
    refine lv_iload_n hx hb dX6_isBlank_6 rfl (lv_at hl 0 rfl) ?_
    refine lv_bipush (v := 10) hx hb dX6_isBlank_7 (by decide) ?_
    refine lv_icmp_ne (tgt := 16) hx hb dX6_isBlank_9 (by decide) (fun c_2 => ?_) (fun c_2 => ?_)
    · have c_2 : ¬ v0.toInt = 10 := ci_ne_t c_2
      refine lv_iconst (v := 0) hx hb dX6_isBlank_16 (by decide) ?_
      have hr9 : (0 : Int32).toInt = 0 := by decide
      exact ret _ _ _ dX6_isBlank_17 (show ((0 : Int32) = 0 ∨ (0 : Int32) = 1) from (Or.inl rfl))
    · have c_2 : v0.toInt = 10 := ci_ne_f c_2
      refine lv_iconst (v := 1) hx hb dX6_isBlank_12 (by decide) ?_
      refine lv_goto (tgt := 17) hx hb dX6_isBlank_13 (by decide) ?_
      have hr9 : (1 : Int32).toInt = 1 := by decide
      exact ret _ _ _ dX6_isBlank_17 (show ((1 : Int32) = 0 ∨ (1 : Int32) = 1) from (Or.inr rfl))

set_option maxHeartbeats 4000000 in
set_option maxRecDepth 100000 in
theorem b_X6_isDigit (l : Launch) (G : Gho) (D : va_G) (cB cI cJ cZ cS cT : ClassId) (v0 : Int32)  : Met l yX6_isDigit (Cond.code yX6_isDigit cX6_isDigit 1 (some .boolean) :: wsL_law) ({ frames := 0, cells := 0, slots := 0, locals := 0 }) (roP G D (tyL cB cI cJ cZ cS cT) [] [.int v0]) (vp_Si (fun r : Int32 => (r = 0 ∨ r = 1))) 0 0 (fun _ => False) := by
  refine metROZ (own := RX6) (by decide) rfl (fun r h => h) ?_
  intro p e s m below meth c Q C hP ret
  obtain ⟨hx, hb, hml, hown, hts, hK, hN, hT⟩ := id C
  have hl := lv_entry ([.int v0]) (n := 1) (Nat.le_of_ble_eq_true rfl)
  rw [lg_entry_eq]
  generalize (lg_sl ([.int v0]) ++ List.replicate (1 - (lg_sl ([.int v0])).length) Slot.unset).toArray = ls at hl ⊢
  have hl : lv_has ls 1 [(0, .int v0)] := hl
  have hP : va_P D vwCl [] s.heap := hP
  refine lv_iload_n hx hb dX6_isDigit_0 rfl (lv_at hl 0 rfl) ?_
  refine lv_bipush (v := 48) hx hb dX6_isDigit_1 (by decide) ?_
  refine lv_icmp_lt (tgt := 16) hx hb dX6_isDigit_3 (by decide) (fun c_1 => ?_) (fun c_1 => ?_)
  · have c_1 : v0.toInt < 48 := ci_lt_t c_1
    have b_v0 := i32b v0
    refine lv_iconst (v := 0) hx hb dX6_isDigit_16 (by decide) ?_
    have hr9 : (0 : Int32).toInt = 0 := by decide
    exact ret _ _ _ dX6_isDigit_17 (show ((0 : Int32) = 0 ∨ (0 : Int32) = 1) from (Or.inl rfl))
  · have c_1 : 48 ≤ v0.toInt := ci_lt_f c_1
    have b_v0 := i32b v0
    refine lv_iload_n hx hb dX6_isDigit_6 rfl (lv_at hl 0 rfl) ?_
    refine lv_bipush (v := 57) hx hb dX6_isDigit_7 (by decide) ?_
    refine lv_icmp_gt (tgt := 16) hx hb dX6_isDigit_9 (by decide) (fun c_2 => ?_) (fun c_2 => ?_)
    · have c_2 : 57 < v0.toInt := ci_gt_t c_2
      refine lv_iconst (v := 0) hx hb dX6_isDigit_16 (by decide) ?_
      have hr9 : (0 : Int32).toInt = 0 := by decide
      exact ret _ _ _ dX6_isDigit_17 (show ((0 : Int32) = 0 ∨ (0 : Int32) = 1) from (Or.inl rfl))
    · have c_2 : v0.toInt ≤ 57 := ci_gt_f c_2
      refine lv_iconst (v := 1) hx hb dX6_isDigit_12 (by decide) ?_
      refine lv_goto (tgt := 17) hx hb dX6_isDigit_13 (by decide) ?_
      have hr9 : (1 : Int32).toInt = 1 := by decide
      exact ret _ _ _ dX6_isDigit_17 (show ((1 : Int32) = 0 ∨ (1 : Int32) = 1) from (Or.inr rfl))

set_option maxHeartbeats 4000000 in
set_option maxRecDepth 100000 in
theorem b_X6_isLetter (l : Launch) (G : Gho) (D : va_G) (cB cI cJ cZ cS cT : ClassId) (v0 : Int32)  : Met l yX6_isLetter (Cond.code yX6_isLetter cX6_isLetter 1 (some .boolean) :: wsL_law) ({ frames := 0, cells := 0, slots := 0, locals := 0 }) (roP G D (tyL cB cI cJ cZ cS cT) [] [.int v0]) (vp_Si (fun r : Int32 => (r = 0 ∨ r = 1))) 0 0 (fun _ => False) := by
  refine metROZ (own := RX6) (by decide) rfl (fun r h => h) ?_
  intro p e s m below meth c Q C hP ret
  obtain ⟨hx, hb, hml, hown, hts, hK, hN, hT⟩ := id C
  have hl := lv_entry ([.int v0]) (n := 1) (Nat.le_of_ble_eq_true rfl)
  rw [lg_entry_eq]
  generalize (lg_sl ([.int v0]) ++ List.replicate (1 - (lg_sl ([.int v0])).length) Slot.unset).toArray = ls at hl ⊢
  have hl : lv_has ls 1 [(0, .int v0)] := hl
  have hP : va_P D vwCl [] s.heap := hP
  refine lv_iload_n hx hb dX6_isLetter_0 rfl (lv_at hl 0 rfl) ?_
  refine lv_bipush (v := 97) hx hb dX6_isLetter_1 (by decide) ?_
  refine lv_icmp_lt (tgt := 16) hx hb dX6_isLetter_3 (by decide) (fun c_1 => ?_) (fun c_1 => ?_)
  · have c_1 : v0.toInt < 97 := ci_lt_t c_1
    have b_v0 := i32b v0
    refine lv_iconst (v := 0) hx hb dX6_isLetter_16 (by decide) ?_
    have hr9 : (0 : Int32).toInt = 0 := by decide
    exact ret _ _ _ dX6_isLetter_17 (show ((0 : Int32) = 0 ∨ (0 : Int32) = 1) from (Or.inl rfl))
  · have c_1 : 97 ≤ v0.toInt := ci_lt_f c_1
    have b_v0 := i32b v0
    refine lv_iload_n hx hb dX6_isLetter_6 rfl (lv_at hl 0 rfl) ?_
    refine lv_bipush (v := 122) hx hb dX6_isLetter_7 (by decide) ?_
    refine lv_icmp_gt (tgt := 16) hx hb dX6_isLetter_9 (by decide) (fun c_2 => ?_) (fun c_2 => ?_)
    · have c_2 : 122 < v0.toInt := ci_gt_t c_2
      refine lv_iconst (v := 0) hx hb dX6_isLetter_16 (by decide) ?_
      have hr9 : (0 : Int32).toInt = 0 := by decide
      exact ret _ _ _ dX6_isLetter_17 (show ((0 : Int32) = 0 ∨ (0 : Int32) = 1) from (Or.inl rfl))
    · have c_2 : v0.toInt ≤ 122 := ci_gt_f c_2
      refine lv_iconst (v := 1) hx hb dX6_isLetter_12 (by decide) ?_
      refine lv_goto (tgt := 17) hx hb dX6_isLetter_13 (by decide) ?_
      have hr9 : (1 : Int32).toInt = 1 := by decide
      exact ret _ _ _ dX6_isLetter_17 (show ((1 : Int32) = 0 ∨ (1 : Int32) = 1) from (Or.inr rfl))

set_option maxHeartbeats 4000000 in
set_option maxRecDepth 100000 in
theorem b_X9_byteAt (l : Launch) (G : Gho) (D : va_G) (cB cI cJ cZ cS cT : ClassId) (h0 : Nat) (h_bytes : Nat) (v0_length : Int32) (f_bytes : Nat → Int32) (v1 : Int32) (iv0_length : 0 ≤ v0_length.toInt ∧ v0_length.toInt ≤ 500) : Met l yX9_byteAt (Cond.code yX9_byteAt cX9_byteAt 2 (some .int) :: wsL_law) ({ frames := 0, cells := 0, slots := 0, locals := 0 }) (roP G D (tyL cB cI cJ cZ cS cT) [(h0, .inr (9, [.ref h_bytes, .int v0_length])), (h_bytes, .inl (cB, 500, .inl f_bytes))] [.ref h0, .int v1]) (vp_Si (fun r : Int32 => True)) 0 0 (fun _ => False) := by
  refine metRO (own := RX9) (by decide) rfl ?_
  intro p e s m below meth c Q C hP ret
  obtain ⟨hx, hb, hml, hown, hts, hK, hN, hT⟩ := id C
  have hl := lv_entry ([.ref h0, .int v1]) (n := 2) (Nat.le_of_ble_eq_true rfl)
  rw [lg_entry_eq]
  generalize (lg_sl ([.ref h0, .int v1]) ++ List.replicate (2 - (lg_sl ([.ref h0, .int v1])).length) Slot.unset).toArray = ls at hl ⊢
  have hl : lv_has ls 2 [(0, .ref h0), (1, .int v1)] := hl
  have hP : va_P D vwCl [(h0, .inr (9, [.ref h_bytes, .int v0_length])), (h_bytes, .inl (cB, 500, .inl f_bytes))] s.heap := hP
  refine lv_iload_n hx hb dX9_byteAt_0 rfl (lv_at hl 1 rfl) ?_
  refine lv_if_lt (tgt := 25) hx hb dX9_byteAt_1 (by decide) (fun c_1 => ?_) (fun c_1 => ?_)
  · have c_1 : v1.toInt < 0 := ci_lt_t c_1
    have b_v1 := i32b v1
    refine lv_iconst (v := (-1)) hx hb dX9_byteAt_25 (by decide) ?_
    exact ret _ _ _ dX9_byteAt_26 trivial
  · have c_1 : 0 ≤ v1.toInt := ci_lt_f c_1
    have b_v1 := i32b v1
    refine lv_iload_n hx hb dX9_byteAt_4 rfl (lv_at hl 1 rfl) ?_
    refine lv_aload_n hx hb dX9_byteAt_5 rfl (lv_at hl 0 rfl) ?_
    refine va_get (D := D) (ci := 9) (v := .int v0_length) (C := RX9) (T := TX9) (N := 2) hx hb hts inlX9 hown hK hP 0 rfl rfl 1 (by decide) (hts _ (inr8 _ (List.mem_of_getElem? (i := 2) rfl))) (fun _ h9 => h9) rfl dX9_byteAt_6 ?_
    refine lv_icmp_ge (tgt := 25) hx hb dX9_byteAt_9 (by decide) (fun c_2 => ?_) (fun c_2 => ?_)
    · have c_2 : v0_length.toInt ≤ v1.toInt := ci_ge_t c_2
      have b_v0_length := i32b v0_length
      refine lv_iconst (v := (-1)) hx hb dX9_byteAt_25 (by decide) ?_
      exact ret _ _ _ dX9_byteAt_26 trivial
    · have c_2 : v1.toInt < v0_length.toInt := ci_ge_f c_2
      have b_v0_length := i32b v0_length
      refine lv_aload_n hx hb dX9_byteAt_12 rfl (lv_at hl 0 rfl) ?_
      refine va_get (D := D) (ci := 9) (v := .ref h_bytes) (C := RX9) (T := TX9) (N := 2) hx hb hts inlX9 hown hK hP 0 rfl rfl 0 (by decide) (hts _ (inr3 _ (List.mem_of_getElem? (i := 14) rfl))) (fun _ h9 => h9) rfl dX9_byteAt_13 ?_
      refine lv_iload_n hx hb dX9_byteAt_16 rfl (lv_at hl 1 rfl) ?_
      obtain ⟨t_3, et_3⟩ : ∃ v9 : Int32, f_bytes (v1 : Int32).toNatClampNeg = v9 := ⟨_, rfl⟩
      refine z_bald (v := t_3) hx hb hK hP 1 0 rfl rfl (vin_nat (by omega) (by omega)) et_3 dX9_byteAt_17 ?_
      refine lv_sipush (v := 255) hx hb dX9_byteAt_18 (by decide) ?_
      obtain ⟨t_4, et_4⟩ : ∃ v9 : Int32, t_3 &&& 255 = v9 := ⟨_, rfl⟩
      refine z_iand (v := t_4) hx hb dX9_byteAt_21 et_4 ?_
      refine lv_goto (tgt := 26) hx hb dX9_byteAt_22 (by decide) ?_
      exact ret _ _ _ dX9_byteAt_26 trivial

set_option maxHeartbeats 4000000 in
set_option maxRecDepth 100000 in
theorem b_X6_readNumber_l10 {p : Program} {l : Launch} {e : Env} {s : State} {m : MethodId} {args : Array Value} {below : List Frame} {meth : Method} {c : Code} {Q : State → Prop} {G : Gho} {D : va_G} {cB cI cJ cZ cS cT : ClassId} {A : Nat → Prop} (h0 : Nat) (h_draft : Nat) (v0_start : Int32) (v0_fault : Int32) (v0_faultAt : Int32) (h_a1 : Nat) (h_a1_bytes : Nat) (v_a1_length : Int32) (f_a1_bytes : Nat → Int32) (iv_a1_length : 0 ≤ v_a1_length.toInt ∧ v_a1_length.toInt ≤ 500) (C : Cx p s m args c RX6 cX6_readNumber 2 G D (tyL cB cI cJ cZ cS cT)) (hG : G.1 ≤ s.heap.size) (hAB : ∀ q, A q → G.1 ≤ q) (hA : ∀ q : Nat, s.heap.size ≤ q → A q) (ret : RetV p l e ({ frames := 1, cells := 0, slots := 0, locals := 21 }) s m args below meth c cX6_readNumber D A (fun x : Int32 × Int32 × Int32 => [(h0, .inr (6, [.ref h_draft, .int x.1, .int v0_start, .int x.2.1, .int x.2.2, .int v0_fault, .int v0_faultAt])), (h_a1, .inr (9, [.ref h_a1_bytes, .int v_a1_length])), (h_a1_bytes, .inl (cB, 500, .inl f_a1_bytes))]) (fun x : Int32 × Int32 × Int32 => True) Q) :
    ∀ (N : Nat) (u10_0_behind : Int32) (u10_0_number : Int32) (H : Heap) (locs : List Loc) (ls : Array Slot), (500 - u10_0_behind.toInt).toNat < N → va_P D vwCl [(h0, .inr (6, [.ref h_draft, .int 2, .int v0_start, .int u10_0_behind, .int u10_0_number, .int v0_fault, .int v0_faultAt])), (h_a1, .inr (9, [.ref h_a1_bytes, .int v_a1_length])), (h_a1_bytes, .inl (cB, 500, .inl f_a1_bytes))] H → va_D A [(h0, .inr (6, [.ref h_draft, .int 2, .int v0_start, .int u10_0_behind, .int u10_0_number, .int v0_fault, .int v0_faultAt])), (h_a1, .inr (9, [.ref h_a1_bytes, .int v_a1_length])), (h_a1_bytes, .inl (cB, 500, .inl f_a1_bytes))] → va_S A s.heap H locs → lv_has ls 2 [(0, .ref h0), (1, .ref h_a1)] → W p l e ({ frames := 1, cells := 0, slots := 0, locals := 21 }) s m args below meth c H locs 0 0 Q (F0 m 10 ls []) := by
  obtain ⟨hx, hb, hml, hown, hts, hK, hN, hT⟩ := id C
  intro N
  induction N with
  | zero =>
    intro u10_0_behind u10_0_number H locs ls  hM_10 hP hD hS hl
    omega
  | succ N_10 ih_10 =>
    intro u10_0_behind u10_0_number H locs ls  hM_10 hP hD hS hl
    have b_u10_0_behind := i32b u10_0_behind
    refine lv_aload_n hx hb dX6_readNumber_10 rfl (lv_at hl 0 rfl) ?_
    refine va_get (D := D) (ci := 6) (v := .int u10_0_behind) (C := RX6) (T := TX6) (N := 7) hx hb hts inlX6 hown hK hP 0 rfl rfl 3 (by decide) (hts _ (inr9 _ (List.mem_of_getElem? (i := 15) rfl))) (fun _ h9 => h9) rfl dX6_readNumber_11 ?_
    refine lv_sipush (v := 500) hx hb dX6_readNumber_14 (by decide) ?_
    refine lv_icmp_ge (tgt := 80) hx hb dX6_readNumber_17 (by decide) (fun c_1 => ?_) (fun c_1 => ?_)
    · have c_1 : 500 ≤ u10_0_behind.toInt := ci_ge_t c_1
      exact ret _ _ _ _ (2, u10_0_behind, u10_0_number) dX6_readNumber_80 trivial (hP.sub [0, 1, 2] rfl) (hD.sub [0, 1, 2] (by decide) rfl) hS
    · have c_1 : u10_0_behind.toInt < 500 := ci_ge_f c_1
      refine lv_aload_n hx hb dX6_readNumber_20 rfl (lv_at hl 1 rfl) ?_
      refine lv_aload_n hx hb dX6_readNumber_21 rfl (lv_at hl 0 rfl) ?_
      refine va_get (D := D) (ci := 6) (v := .int u10_0_behind) (C := RX6) (T := TX6) (N := 7) hx hb hts inlX6 hown hK hP 0 rfl rfl 3 (by decide) (hts _ (inr9 _ (List.mem_of_getElem? (i := 15) rfl))) (fun _ h9 => h9) rfl dX6_readNumber_22 ?_
      refine roi (As := [.int u10_0_behind]) (rest := []) ⟨hx, hb, hml, hown, hts⟩ (b_X9_byteAt l G D cB cI cJ cZ cS cT h_a1 h_a1_bytes v_a1_length f_a1_bytes u10_0_behind (by first | assumption | omega | decide)) (cvB (n := 1) (inr11 _ (List.mem_of_getElem? (i := 0) rfl)) (inr11 _ (List.mem_of_getElem? (i := 1) rfl)) (inr11 _ (List.mem_of_getElem? (i := 2) rfl)) (inr1 _ (List.mem_of_getElem? (i := 15) rfl)) (inr11 _ (List.mem_of_getElem? (i := 3) rfl)) (by decide +kernel) hts rfl rfl ⟨Nat.le_of_ble_eq_true rfl, Nat.le_of_ble_eq_true rfl⟩) 0 9 rfl rfl rfl (hP.sub [1, 2] rfl) hK hN (kT.to hT hS hAB) rfl hl.1 rfl (Nat.le_of_ble_eq_true rfl) ⟨Nat.le_of_ble_eq_true rfl, Nat.le_of_ble_eq_true rfl⟩ dX6_readNumber_25 (fun r_2 h_3 => ?_)
      refine rosi (As := [.int r_2]) (rest := []) ⟨hx, hb, hml, hown, hts⟩ (b_X6_isDigit l G D cB cI cJ cZ cS cT r_2 ) (csB (n := 1) (inr11 _ (List.mem_of_getElem? (i := 14) rfl)) (inr11 _ (List.mem_of_getElem? (i := 15) rfl)) (inr1 _ (List.mem_of_getElem? (i := 19) rfl)) (inr11 _ (List.mem_of_getElem? (i := 16) rfl)) (by decide +kernel) hts rfl rfl ⟨Nat.le_of_ble_eq_true rfl, Nat.le_of_ble_eq_true rfl⟩) (hP.sub [] rfl) hK hN (kT.to hT hS hAB) rfl hl.1 rfl (Nat.le_of_ble_eq_true rfl) ⟨Nat.le_of_ble_eq_true rfl, Nat.le_of_ble_eq_true rfl⟩ dX6_readNumber_28 (fun r_4 h_5 => ?_)
      have h_5 : (r_4 = 0 ∨ r_4 = 1) := h_5
      have i_6 := h_5
      have ar_4 : 0 ≤ r_4.toInt ∧ r_4.toInt ≤ 1 := by rcases i_6 with h | h <;> rw [h] <;> decide
      refine lv_if_eq (tgt := 80) hx hb dX6_readNumber_31 (by decide) (fun c_7 => ?_) (fun c_7 => ?_)
      · have c_7 : r_4.toInt = 0 := ci_eq_t c_7
        have b_r_4 := i32b r_4
        exact ret _ _ _ _ (2, u10_0_behind, u10_0_number) dX6_readNumber_80 trivial (hP.sub [0, 1, 2] rfl) (hD.sub [0, 1, 2] (by decide) rfl) hS
      · have c_7 : ¬ r_4.toInt = 0 := ci_eq_f c_7
        have b_r_4 := i32b r_4
        refine lv_aload_n hx hb dX6_readNumber_34 rfl (lv_at hl 0 rfl) ?_
        refine va_get (D := D) (ci := 6) (v := .int u10_0_number) (C := RX6) (T := TX6) (N := 7) hx hb hts inlX6 hown hK hP 0 rfl rfl 4 (by decide) (hts _ (inr11 _ (List.mem_of_getElem? (i := 21) rfl))) (fun _ h9 => h9) rfl dX6_readNumber_35 ?_
        refine lv_sipush (v := 1000) hx hb dX6_readNumber_38 (by decide) ?_
        refine lv_icmp_ge (tgt := 67) hx hb dX6_readNumber_41 (by decide) (fun c_8 => ?_) (fun c_8 => ?_)
        · have c_8 : 1000 ≤ u10_0_number.toInt := ci_ge_t c_8
          have b_u10_0_number := i32b u10_0_number
          refine lv_aload_n hx hb dX6_readNumber_67 rfl (lv_at hl 0 rfl) ?_
          refine lv_dup hx hb dX6_readNumber_68 rfl ?_
          refine va_get (D := D) (ci := 6) (v := .int u10_0_behind) (C := RX6) (T := TX6) (N := 7) hx hb hts inlX6 hown hK hP 0 rfl rfl 3 (by decide) (hts _ (inr9 _ (List.mem_of_getElem? (i := 15) rfl))) (fun _ h9 => h9) rfl dX6_readNumber_69 ?_
          refine lv_iconst (v := 1) hx hb dX6_readNumber_72 (by decide) ?_
          obtain ⟨t_9, et_9⟩ : ∃ v9 : Int32, u10_0_behind + 1 = v9 := ⟨_, rfl⟩
          refine z_iadd (v := t_9) hx hb dX6_readNumber_73 et_9 ?_
          have ft_9 : t_9.toInt = u10_0_behind.toInt + 1 := addT (a := u10_0_behind.toInt) (b := 1) rfl (by decide) et_9 (by omega) (by omega)
          refine va_put (D := D) (ci := 6) (v := .int t_9) (ty := .int) (C := RX6) (T := TX6) (N := 7) hx hb hts inlX6 tyX6 tyX6_ok nmX6 hown hK hP hD hS 0 rfl rfl 3 (by decide) (hts _ (inr9 _ (List.mem_of_getElem? (i := 15) rfl))) (fun _ h9 => h9) rfl (by decide +kernel) rfl rfl (Nat.le_of_ble_eq_true rfl) dX6_readNumber_74 (fun H locs hP hD hS => ?_)
          have hP : va_P D vwCl [(h0, .inr (6, [.ref h_draft, .int 2, .int v0_start, .int t_9, .int u10_0_number, .int v0_fault, .int v0_faultAt])), (h_a1, .inr (9, [.ref h_a1_bytes, .int v_a1_length])), (h_a1_bytes, .inl (cB, 500, .inl f_a1_bytes))] H := hP
          have hD : va_D A [(h0, .inr (6, [.ref h_draft, .int 2, .int v0_start, .int t_9, .int u10_0_number, .int v0_fault, .int v0_faultAt])), (h_a1, .inr (9, [.ref h_a1_bytes, .int v_a1_length])), (h_a1_bytes, .inl (cB, 500, .inl f_a1_bytes))] := hD
          refine lv_goto (tgt := 10) hx hb dX6_readNumber_77 (by decide) ?_
          exact ih_10 (t_9) (u10_0_number) _ _ _  (by omega) (hP.sub [0, 1, 2] rfl) (hD.sub [0, 1, 2] (by decide) rfl) hS (lv_sub hl [0, 1] rfl)
        · have c_8 : u10_0_number.toInt < 1000 := ci_ge_f c_8
          have b_u10_0_number := i32b u10_0_number
          refine lv_aload_n hx hb dX6_readNumber_44 rfl (lv_at hl 0 rfl) ?_
          refine lv_aload_n hx hb dX6_readNumber_45 rfl (lv_at hl 0 rfl) ?_
          refine va_get (D := D) (ci := 6) (v := .int u10_0_number) (C := RX6) (T := TX6) (N := 7) hx hb hts inlX6 hown hK hP 0 rfl rfl 4 (by decide) (hts _ (inr11 _ (List.mem_of_getElem? (i := 21) rfl))) (fun _ h9 => h9) rfl dX6_readNumber_46 ?_
          refine lv_bipush (v := 10) hx hb dX6_readNumber_49 (by decide) ?_
          obtain ⟨t_10, et_10⟩ : ∃ v9 : Int32, u10_0_number * 10 = v9 := ⟨_, rfl⟩
          refine z_imul (v := t_10) hx hb dX6_readNumber_51 et_10 ?_
          refine lv_aload_n hx hb dX6_readNumber_52 rfl (lv_at hl 1 rfl) ?_
          refine lv_aload_n hx hb dX6_readNumber_53 rfl (lv_at hl 0 rfl) ?_
          refine va_get (D := D) (ci := 6) (v := .int u10_0_behind) (C := RX6) (T := TX6) (N := 7) hx hb hts inlX6 hown hK hP 0 rfl rfl 3 (by decide) (hts _ (inr9 _ (List.mem_of_getElem? (i := 15) rfl))) (fun _ h9 => h9) rfl dX6_readNumber_54 ?_
          refine roi (As := [.int u10_0_behind]) (rest := [.int t_10, .ref h0]) ⟨hx, hb, hml, hown, hts⟩ (b_X9_byteAt l G D cB cI cJ cZ cS cT h_a1 h_a1_bytes v_a1_length f_a1_bytes u10_0_behind (by first | assumption | omega | decide)) (cvB (n := 1) (inr11 _ (List.mem_of_getElem? (i := 0) rfl)) (inr11 _ (List.mem_of_getElem? (i := 1) rfl)) (inr11 _ (List.mem_of_getElem? (i := 2) rfl)) (inr1 _ (List.mem_of_getElem? (i := 15) rfl)) (inr11 _ (List.mem_of_getElem? (i := 3) rfl)) (by decide +kernel) hts rfl rfl ⟨Nat.le_of_ble_eq_true rfl, Nat.le_of_ble_eq_true rfl⟩) 0 9 rfl rfl rfl (hP.sub [1, 2] rfl) hK hN (kT.to hT hS hAB) rfl hl.1 rfl (Nat.le_of_ble_eq_true rfl) ⟨Nat.le_of_ble_eq_true rfl, Nat.le_of_ble_eq_true rfl⟩ dX6_readNumber_57 (fun r_11 h_12 => ?_)
          obtain ⟨t_13, et_13⟩ : ∃ v9 : Int32, t_10 + r_11 = v9 := ⟨_, rfl⟩
          refine z_iadd (v := t_13) hx hb dX6_readNumber_60 et_13 ?_
          refine lv_bipush (v := 48) hx hb dX6_readNumber_61 (by decide) ?_
          obtain ⟨t_14, et_14⟩ : ∃ v9 : Int32, t_13 - 48 = v9 := ⟨_, rfl⟩
          refine z_isub (v := t_14) hx hb dX6_readNumber_63 et_14 ?_
          refine va_put (D := D) (ci := 6) (v := .int t_14) (ty := .int) (C := RX6) (T := TX6) (N := 7) hx hb hts inlX6 tyX6 tyX6_ok nmX6 hown hK hP hD hS 0 rfl rfl 4 (by decide) (hts _ (inr11 _ (List.mem_of_getElem? (i := 21) rfl))) (fun _ h9 => h9) rfl (by decide +kernel) rfl rfl (Nat.le_of_ble_eq_true rfl) dX6_readNumber_64 (fun H locs hP hD hS => ?_)
          have hP : va_P D vwCl [(h0, .inr (6, [.ref h_draft, .int 2, .int v0_start, .int u10_0_behind, .int t_14, .int v0_fault, .int v0_faultAt])), (h_a1, .inr (9, [.ref h_a1_bytes, .int v_a1_length])), (h_a1_bytes, .inl (cB, 500, .inl f_a1_bytes))] H := hP
          have hD : va_D A [(h0, .inr (6, [.ref h_draft, .int 2, .int v0_start, .int u10_0_behind, .int t_14, .int v0_fault, .int v0_faultAt])), (h_a1, .inr (9, [.ref h_a1_bytes, .int v_a1_length])), (h_a1_bytes, .inl (cB, 500, .inl f_a1_bytes))] := hD
          refine lv_aload_n hx hb dX6_readNumber_67 rfl (lv_at hl 0 rfl) ?_
          refine lv_dup hx hb dX6_readNumber_68 rfl ?_
          refine va_get (D := D) (ci := 6) (v := .int u10_0_behind) (C := RX6) (T := TX6) (N := 7) hx hb hts inlX6 hown hK hP 0 rfl rfl 3 (by decide) (hts _ (inr9 _ (List.mem_of_getElem? (i := 15) rfl))) (fun _ h9 => h9) rfl dX6_readNumber_69 ?_
          refine lv_iconst (v := 1) hx hb dX6_readNumber_72 (by decide) ?_
          obtain ⟨t_15, et_15⟩ : ∃ v9 : Int32, u10_0_behind + 1 = v9 := ⟨_, rfl⟩
          refine z_iadd (v := t_15) hx hb dX6_readNumber_73 et_15 ?_
          have ft_15 : t_15.toInt = u10_0_behind.toInt + 1 := addT (a := u10_0_behind.toInt) (b := 1) rfl (by decide) et_15 (by omega) (by omega)
          refine va_put (D := D) (ci := 6) (v := .int t_15) (ty := .int) (C := RX6) (T := TX6) (N := 7) hx hb hts inlX6 tyX6 tyX6_ok nmX6 hown hK hP hD hS 0 rfl rfl 3 (by decide) (hts _ (inr9 _ (List.mem_of_getElem? (i := 15) rfl))) (fun _ h9 => h9) rfl (by decide +kernel) rfl rfl (Nat.le_of_ble_eq_true rfl) dX6_readNumber_74 (fun H locs hP hD hS => ?_)
          have hP : va_P D vwCl [(h0, .inr (6, [.ref h_draft, .int 2, .int v0_start, .int t_15, .int t_14, .int v0_fault, .int v0_faultAt])), (h_a1, .inr (9, [.ref h_a1_bytes, .int v_a1_length])), (h_a1_bytes, .inl (cB, 500, .inl f_a1_bytes))] H := hP
          have hD : va_D A [(h0, .inr (6, [.ref h_draft, .int 2, .int v0_start, .int t_15, .int t_14, .int v0_fault, .int v0_faultAt])), (h_a1, .inr (9, [.ref h_a1_bytes, .int v_a1_length])), (h_a1_bytes, .inl (cB, 500, .inl f_a1_bytes))] := hD
          refine lv_goto (tgt := 10) hx hb dX6_readNumber_77 (by decide) ?_
          exact ih_10 (t_15) (t_14) _ _ _  (by omega) (hP.sub [0, 1, 2] rfl) (hD.sub [0, 1, 2] (by decide) rfl) hS (lv_sub hl [0, 1] rfl)

set_option maxHeartbeats 4000000 in
set_option maxRecDepth 100000 in
theorem b_X6_readNumber (l : Launch) (G : Gho) (D : va_G) (cB cI cJ cZ cS cT : ClassId) (sz : Nat) (h0 : Nat) (h_draft : Nat) (v0_kind : Int32) (v0_start : Int32) (v0_behind : Int32) (v0_number : Int32) (v0_fault : Int32) (v0_faultAt : Int32) (h_a1 : Nat) (h_a1_bytes : Nat) (v_a1_length : Int32) (f_a1_bytes : Nat → Int32) (iv_a1_length : 0 ≤ v_a1_length.toInt ∧ v_a1_length.toInt ≤ 500) : Met l yX6_readNumber (Cond.code yX6_readNumber cX6_readNumber 2 none :: wsL_law) ({ frames := 1, cells := 0, slots := 0, locals := 21 }) (wrP G D (tyL cB cI cJ cZ cS cT) [(h0, .inr (6, [.ref h_draft, .int v0_kind, .int v0_start, .int v0_behind, .int v0_number, .int v0_fault, .int v0_faultAt])), (h_a1, .inr (9, [.ref h_a1_bytes, .int v_a1_length])), (h_a1_bytes, .inl (cB, 500, .inl f_a1_bytes))] sz [.ref h0, .ref h_a1]) (va_Qv (fun x : Int32 × Int32 × Int32 => True) (atW D (tyL cB cI cJ cZ cS cT) (va_A [(h0, .inr (6, [.ref h_draft, .int v0_kind, .int v0_start, .int v0_behind, .int v0_number, .int v0_fault, .int v0_faultAt])), (h_a1, .inr (9, [.ref h_a1_bytes, .int v_a1_length])), (h_a1_bytes, .inl (cB, 500, .inl f_a1_bytes))] sz) (fun x : Int32 × Int32 × Int32 => [(h0, .inr (6, [.ref h_draft, .int x.1, .int v0_start, .int x.2.1, .int x.2.2, .int v0_fault, .int v0_faultAt])), (h_a1, .inr (9, [.ref h_a1_bytes, .int v_a1_length])), (h_a1_bytes, .inl (cB, 500, .inl f_a1_bytes))])) (va_A [(h0, .inr (6, [.ref h_draft, .int v0_kind, .int v0_start, .int v0_behind, .int v0_number, .int v0_fault, .int v0_faultAt])), (h_a1, .inr (9, [.ref h_a1_bytes, .int v_a1_length])), (h_a1_bytes, .inl (cB, 500, .inl f_a1_bytes))] sz)) 0 0 (va_A [(h0, .inr (6, [.ref h_draft, .int v0_kind, .int v0_start, .int v0_behind, .int v0_number, .int v0_fault, .int v0_faultAt])), (h_a1, .inr (9, [.ref h_a1_bytes, .int v_a1_length])), (h_a1_bytes, .inl (cB, 500, .inl f_a1_bytes))] sz) := by
  refine metV (own := RX6) (by decide) rfl ?_
  intro p e s m below meth c Q hsz C hG hP hD hAB ret
  obtain ⟨hx, hb, hml, hown, hts, hK, hN, hT⟩ := id C
  subst hsz
  generalize hAe : va_A [(h0, .inr (6, [.ref h_draft, .int v0_kind, .int v0_start, .int v0_behind, .int v0_number, .int v0_fault, .int v0_faultAt])), (h_a1, .inr (9, [.ref h_a1_bytes, .int v_a1_length])), (h_a1_bytes, .inl (cB, 500, .inl f_a1_bytes))] s.heap.size = A at hD hAB ret ⊢
  have hA : ∀ q : Nat, s.heap.size ≤ q → A q := fun q h => by rw [← hAe]; exact Or.inr h
  have hS : va_S A s.heap s.heap [] := va_S.rf
  have hl := lv_entry ([.ref h0, .ref h_a1]) (n := 2) (Nat.le_of_ble_eq_true rfl)
  rw [lg_entry_eq]
  generalize (lg_sl ([.ref h0, .ref h_a1]) ++ List.replicate (2 - (lg_sl ([.ref h0, .ref h_a1])).length) Slot.unset).toArray = ls at hl ⊢
  have hl : lv_has ls 2 [(0, .ref h0), (1, .ref h_a1)] := hl
  have hP : va_P D vwCl [(h0, .inr (6, [.ref h_draft, .int v0_kind, .int v0_start, .int v0_behind, .int v0_number, .int v0_fault, .int v0_faultAt])), (h_a1, .inr (9, [.ref h_a1_bytes, .int v_a1_length])), (h_a1_bytes, .inl (cB, 500, .inl f_a1_bytes))] s.heap := hP
  refine lv_aload_n hx hb dX6_readNumber_0 rfl (lv_at hl 0 rfl) ?_
  refine lv_iconst (v := 2) hx hb dX6_readNumber_1 (by decide) ?_
  refine va_put (D := D) (ci := 6) (v := .int 2) (ty := .int) (C := RX6) (T := TX6) (N := 7) hx hb hts inlX6 tyX6 tyX6_ok nmX6 hown hK hP hD hS 0 rfl rfl 1 (by decide) (hts _ (inr9 _ (List.mem_of_getElem? (i := 16) rfl))) (fun _ h9 => h9) rfl (by decide +kernel) rfl rfl (Nat.le_of_ble_eq_true rfl) dX6_readNumber_2 (fun H locs hP hD hS => ?_)
  have hP : va_P D vwCl [(h0, .inr (6, [.ref h_draft, .int 2, .int v0_start, .int v0_behind, .int v0_number, .int v0_fault, .int v0_faultAt])), (h_a1, .inr (9, [.ref h_a1_bytes, .int v_a1_length])), (h_a1_bytes, .inl (cB, 500, .inl f_a1_bytes))] H := hP
  have hD : va_D A [(h0, .inr (6, [.ref h_draft, .int 2, .int v0_start, .int v0_behind, .int v0_number, .int v0_fault, .int v0_faultAt])), (h_a1, .inr (9, [.ref h_a1_bytes, .int v_a1_length])), (h_a1_bytes, .inl (cB, 500, .inl f_a1_bytes))] := hD
  refine lv_aload_n hx hb dX6_readNumber_5 rfl (lv_at hl 0 rfl) ?_
  refine lv_iconst (v := 0) hx hb dX6_readNumber_6 (by decide) ?_
  refine va_put (D := D) (ci := 6) (v := .int 0) (ty := .int) (C := RX6) (T := TX6) (N := 7) hx hb hts inlX6 tyX6 tyX6_ok nmX6 hown hK hP hD hS 0 rfl rfl 4 (by decide) (hts _ (inr11 _ (List.mem_of_getElem? (i := 21) rfl))) (fun _ h9 => h9) rfl (by decide +kernel) rfl rfl (Nat.le_of_ble_eq_true rfl) dX6_readNumber_7 (fun H locs hP hD hS => ?_)
  have hP : va_P D vwCl [(h0, .inr (6, [.ref h_draft, .int 2, .int v0_start, .int v0_behind, .int 0, .int v0_fault, .int v0_faultAt])), (h_a1, .inr (9, [.ref h_a1_bytes, .int v_a1_length])), (h_a1_bytes, .inl (cB, 500, .inl f_a1_bytes))] H := hP
  have hD : va_D A [(h0, .inr (6, [.ref h_draft, .int 2, .int v0_start, .int v0_behind, .int 0, .int v0_fault, .int v0_faultAt])), (h_a1, .inr (9, [.ref h_a1_bytes, .int v_a1_length])), (h_a1_bytes, .inl (cB, 500, .inl f_a1_bytes))] := hD
  exact b_X6_readNumber_l10 h0 h_draft v0_start v0_fault v0_faultAt h_a1 h_a1_bytes v_a1_length f_a1_bytes (by first | assumption | omega | decide) C hG hAB hA ret _ (v0_behind) (0) _ _ _  (Nat.lt_succ_self _) (hP.sub [0, 1, 2] rfl) (hD.sub [0, 1, 2] (by decide) rfl) hS (lv_sub hl [0, 1] rfl)

set_option maxHeartbeats 4000000 in
set_option maxRecDepth 100000 in
theorem b_X6_readWord_l5 {p : Program} {l : Launch} {e : Env} {s : State} {m : MethodId} {args : Array Value} {below : List Frame} {meth : Method} {c : Code} {Q : State → Prop} {G : Gho} {D : va_G} {cB cI cJ cZ cS cT : ClassId} {A : Nat → Prop} (h0 : Nat) (h_draft : Nat) (v0_start : Int32) (v0_number : Int32) (v0_fault : Int32) (v0_faultAt : Int32) (h_a1 : Nat) (h_a1_bytes : Nat) (v_a1_length : Int32) (f_a1_bytes : Nat → Int32) (iv_a1_length : 0 ≤ v_a1_length.toInt ∧ v_a1_length.toInt ≤ 500) (C : Cx p s m args c RX6 cX6_readWord 2 G D (tyL cB cI cJ cZ cS cT)) (hG : G.1 ≤ s.heap.size) (hAB : ∀ q, A q → G.1 ≤ q) (hA : ∀ q : Nat, s.heap.size ≤ q → A q) (ret : RetV p l e ({ frames := 1, cells := 0, slots := 0, locals := 21 }) s m args below meth c cX6_readWord D A (fun x : Int32 × Int32 => [(h0, .inr (6, [.ref h_draft, .int x.1, .int v0_start, .int x.2, .int v0_number, .int v0_fault, .int v0_faultAt])), (h_a1, .inr (9, [.ref h_a1_bytes, .int v_a1_length])), (h_a1_bytes, .inl (cB, 500, .inl f_a1_bytes))]) (fun x : Int32 × Int32 => True) Q) :
    ∀ (N : Nat) (u5_0_behind : Int32) (H : Heap) (locs : List Loc) (ls : Array Slot), (500 - u5_0_behind.toInt).toNat < N → va_P D vwCl [(h0, .inr (6, [.ref h_draft, .int 1, .int v0_start, .int u5_0_behind, .int v0_number, .int v0_fault, .int v0_faultAt])), (h_a1, .inr (9, [.ref h_a1_bytes, .int v_a1_length])), (h_a1_bytes, .inl (cB, 500, .inl f_a1_bytes))] H → va_D A [(h0, .inr (6, [.ref h_draft, .int 1, .int v0_start, .int u5_0_behind, .int v0_number, .int v0_fault, .int v0_faultAt])), (h_a1, .inr (9, [.ref h_a1_bytes, .int v_a1_length])), (h_a1_bytes, .inl (cB, 500, .inl f_a1_bytes))] → va_S A s.heap H locs → lv_has ls 2 [(0, .ref h0), (1, .ref h_a1)] → W p l e ({ frames := 1, cells := 0, slots := 0, locals := 21 }) s m args below meth c H locs 0 0 Q (F0 m 5 ls []) := by
  obtain ⟨hx, hb, hml, hown, hts, hK, hN, hT⟩ := id C
  intro N
  induction N with
  | zero =>
    intro u5_0_behind H locs ls  hM_5 hP hD hS hl
    omega
  | succ N_5 ih_5 =>
    intro u5_0_behind H locs ls  hM_5 hP hD hS hl
    have b_u5_0_behind := i32b u5_0_behind
    refine lv_aload_n hx hb dX6_readWord_5 rfl (lv_at hl 0 rfl) ?_
    refine va_get (D := D) (ci := 6) (v := .int u5_0_behind) (C := RX6) (T := TX6) (N := 7) hx hb hts inlX6 hown hK hP 0 rfl rfl 3 (by decide) (hts _ (inr9 _ (List.mem_of_getElem? (i := 15) rfl))) (fun _ h9 => h9) rfl dX6_readWord_6 ?_
    refine lv_sipush (v := 500) hx hb dX6_readWord_9 (by decide) ?_
    refine lv_icmp_ge (tgt := 42) hx hb dX6_readWord_12 (by decide) (fun c_1 => ?_) (fun c_1 => ?_)
    · have c_1 : 500 ≤ u5_0_behind.toInt := ci_ge_t c_1
      exact ret _ _ _ _ (1, u5_0_behind) dX6_readWord_42 trivial (hP.sub [0, 1, 2] rfl) (hD.sub [0, 1, 2] (by decide) rfl) hS
    · have c_1 : u5_0_behind.toInt < 500 := ci_ge_f c_1
      refine lv_aload_n hx hb dX6_readWord_15 rfl (lv_at hl 1 rfl) ?_
      refine lv_aload_n hx hb dX6_readWord_16 rfl (lv_at hl 0 rfl) ?_
      refine va_get (D := D) (ci := 6) (v := .int u5_0_behind) (C := RX6) (T := TX6) (N := 7) hx hb hts inlX6 hown hK hP 0 rfl rfl 3 (by decide) (hts _ (inr9 _ (List.mem_of_getElem? (i := 15) rfl))) (fun _ h9 => h9) rfl dX6_readWord_17 ?_
      refine roi (As := [.int u5_0_behind]) (rest := []) ⟨hx, hb, hml, hown, hts⟩ (b_X9_byteAt l G D cB cI cJ cZ cS cT h_a1 h_a1_bytes v_a1_length f_a1_bytes u5_0_behind (by first | assumption | omega | decide)) (cvB (n := 1) (inr11 _ (List.mem_of_getElem? (i := 0) rfl)) (inr11 _ (List.mem_of_getElem? (i := 1) rfl)) (inr11 _ (List.mem_of_getElem? (i := 2) rfl)) (inr1 _ (List.mem_of_getElem? (i := 15) rfl)) (inr11 _ (List.mem_of_getElem? (i := 3) rfl)) (by decide +kernel) hts rfl rfl ⟨Nat.le_of_ble_eq_true rfl, Nat.le_of_ble_eq_true rfl⟩) 0 9 rfl rfl rfl (hP.sub [1, 2] rfl) hK hN (kT.to hT hS hAB) rfl hl.1 rfl (Nat.le_of_ble_eq_true rfl) ⟨Nat.le_of_ble_eq_true rfl, Nat.le_of_ble_eq_true rfl⟩ dX6_readWord_20 (fun r_2 h_3 => ?_)
      refine rosi (As := [.int r_2]) (rest := []) ⟨hx, hb, hml, hown, hts⟩ (b_X6_isLetter l G D cB cI cJ cZ cS cT r_2 ) (csB (n := 1) (inr11 _ (List.mem_of_getElem? (i := 7) rfl)) (inr11 _ (List.mem_of_getElem? (i := 8) rfl)) (inr1 _ (List.mem_of_getElem? (i := 19) rfl)) (inr11 _ (List.mem_of_getElem? (i := 9) rfl)) (by decide +kernel) hts rfl rfl ⟨Nat.le_of_ble_eq_true rfl, Nat.le_of_ble_eq_true rfl⟩) (hP.sub [] rfl) hK hN (kT.to hT hS hAB) rfl hl.1 rfl (Nat.le_of_ble_eq_true rfl) ⟨Nat.le_of_ble_eq_true rfl, Nat.le_of_ble_eq_true rfl⟩ dX6_readWord_23 (fun r_4 h_5 => ?_)
      have h_5 : (r_4 = 0 ∨ r_4 = 1) := h_5
      have i_6 := h_5
      have ar_4 : 0 ≤ r_4.toInt ∧ r_4.toInt ≤ 1 := by rcases i_6 with h | h <;> rw [h] <;> decide
      refine lv_if_eq (tgt := 42) hx hb dX6_readWord_26 (by decide) (fun c_7 => ?_) (fun c_7 => ?_)
      · have c_7 : r_4.toInt = 0 := ci_eq_t c_7
        have b_r_4 := i32b r_4
        exact ret _ _ _ _ (1, u5_0_behind) dX6_readWord_42 trivial (hP.sub [0, 1, 2] rfl) (hD.sub [0, 1, 2] (by decide) rfl) hS
      · have c_7 : ¬ r_4.toInt = 0 := ci_eq_f c_7
        have b_r_4 := i32b r_4
        refine lv_aload_n hx hb dX6_readWord_29 rfl (lv_at hl 0 rfl) ?_
        refine lv_dup hx hb dX6_readWord_30 rfl ?_
        refine va_get (D := D) (ci := 6) (v := .int u5_0_behind) (C := RX6) (T := TX6) (N := 7) hx hb hts inlX6 hown hK hP 0 rfl rfl 3 (by decide) (hts _ (inr9 _ (List.mem_of_getElem? (i := 15) rfl))) (fun _ h9 => h9) rfl dX6_readWord_31 ?_
        refine lv_iconst (v := 1) hx hb dX6_readWord_34 (by decide) ?_
        obtain ⟨t_8, et_8⟩ : ∃ v9 : Int32, u5_0_behind + 1 = v9 := ⟨_, rfl⟩
        refine z_iadd (v := t_8) hx hb dX6_readWord_35 et_8 ?_
        have ft_8 : t_8.toInt = u5_0_behind.toInt + 1 := addT (a := u5_0_behind.toInt) (b := 1) rfl (by decide) et_8 (by omega) (by omega)
        refine va_put (D := D) (ci := 6) (v := .int t_8) (ty := .int) (C := RX6) (T := TX6) (N := 7) hx hb hts inlX6 tyX6 tyX6_ok nmX6 hown hK hP hD hS 0 rfl rfl 3 (by decide) (hts _ (inr9 _ (List.mem_of_getElem? (i := 15) rfl))) (fun _ h9 => h9) rfl (by decide +kernel) rfl rfl (Nat.le_of_ble_eq_true rfl) dX6_readWord_36 (fun H locs hP hD hS => ?_)
        have hP : va_P D vwCl [(h0, .inr (6, [.ref h_draft, .int 1, .int v0_start, .int t_8, .int v0_number, .int v0_fault, .int v0_faultAt])), (h_a1, .inr (9, [.ref h_a1_bytes, .int v_a1_length])), (h_a1_bytes, .inl (cB, 500, .inl f_a1_bytes))] H := hP
        have hD : va_D A [(h0, .inr (6, [.ref h_draft, .int 1, .int v0_start, .int t_8, .int v0_number, .int v0_fault, .int v0_faultAt])), (h_a1, .inr (9, [.ref h_a1_bytes, .int v_a1_length])), (h_a1_bytes, .inl (cB, 500, .inl f_a1_bytes))] := hD
        refine lv_goto (tgt := 5) hx hb dX6_readWord_39 (by decide) ?_
        exact ih_5 (t_8) _ _ _  (by omega) (hP.sub [0, 1, 2] rfl) (hD.sub [0, 1, 2] (by decide) rfl) hS (lv_sub hl [0, 1] rfl)

set_option maxHeartbeats 4000000 in
set_option maxRecDepth 100000 in
theorem b_X6_readWord (l : Launch) (G : Gho) (D : va_G) (cB cI cJ cZ cS cT : ClassId) (sz : Nat) (h0 : Nat) (h_draft : Nat) (v0_kind : Int32) (v0_start : Int32) (v0_behind : Int32) (v0_number : Int32) (v0_fault : Int32) (v0_faultAt : Int32) (h_a1 : Nat) (h_a1_bytes : Nat) (v_a1_length : Int32) (f_a1_bytes : Nat → Int32) (iv_a1_length : 0 ≤ v_a1_length.toInt ∧ v_a1_length.toInt ≤ 500) : Met l yX6_readWord (Cond.code yX6_readWord cX6_readWord 2 none :: wsL_law) ({ frames := 1, cells := 0, slots := 0, locals := 21 }) (wrP G D (tyL cB cI cJ cZ cS cT) [(h0, .inr (6, [.ref h_draft, .int v0_kind, .int v0_start, .int v0_behind, .int v0_number, .int v0_fault, .int v0_faultAt])), (h_a1, .inr (9, [.ref h_a1_bytes, .int v_a1_length])), (h_a1_bytes, .inl (cB, 500, .inl f_a1_bytes))] sz [.ref h0, .ref h_a1]) (va_Qv (fun x : Int32 × Int32 => True) (atW D (tyL cB cI cJ cZ cS cT) (va_A [(h0, .inr (6, [.ref h_draft, .int v0_kind, .int v0_start, .int v0_behind, .int v0_number, .int v0_fault, .int v0_faultAt])), (h_a1, .inr (9, [.ref h_a1_bytes, .int v_a1_length])), (h_a1_bytes, .inl (cB, 500, .inl f_a1_bytes))] sz) (fun x : Int32 × Int32 => [(h0, .inr (6, [.ref h_draft, .int x.1, .int v0_start, .int x.2, .int v0_number, .int v0_fault, .int v0_faultAt])), (h_a1, .inr (9, [.ref h_a1_bytes, .int v_a1_length])), (h_a1_bytes, .inl (cB, 500, .inl f_a1_bytes))])) (va_A [(h0, .inr (6, [.ref h_draft, .int v0_kind, .int v0_start, .int v0_behind, .int v0_number, .int v0_fault, .int v0_faultAt])), (h_a1, .inr (9, [.ref h_a1_bytes, .int v_a1_length])), (h_a1_bytes, .inl (cB, 500, .inl f_a1_bytes))] sz)) 0 0 (va_A [(h0, .inr (6, [.ref h_draft, .int v0_kind, .int v0_start, .int v0_behind, .int v0_number, .int v0_fault, .int v0_faultAt])), (h_a1, .inr (9, [.ref h_a1_bytes, .int v_a1_length])), (h_a1_bytes, .inl (cB, 500, .inl f_a1_bytes))] sz) := by
  refine metV (own := RX6) (by decide) rfl ?_
  intro p e s m below meth c Q hsz C hG hP hD hAB ret
  obtain ⟨hx, hb, hml, hown, hts, hK, hN, hT⟩ := id C
  subst hsz
  generalize hAe : va_A [(h0, .inr (6, [.ref h_draft, .int v0_kind, .int v0_start, .int v0_behind, .int v0_number, .int v0_fault, .int v0_faultAt])), (h_a1, .inr (9, [.ref h_a1_bytes, .int v_a1_length])), (h_a1_bytes, .inl (cB, 500, .inl f_a1_bytes))] s.heap.size = A at hD hAB ret ⊢
  have hA : ∀ q : Nat, s.heap.size ≤ q → A q := fun q h => by rw [← hAe]; exact Or.inr h
  have hS : va_S A s.heap s.heap [] := va_S.rf
  have hl := lv_entry ([.ref h0, .ref h_a1]) (n := 2) (Nat.le_of_ble_eq_true rfl)
  rw [lg_entry_eq]
  generalize (lg_sl ([.ref h0, .ref h_a1]) ++ List.replicate (2 - (lg_sl ([.ref h0, .ref h_a1])).length) Slot.unset).toArray = ls at hl ⊢
  have hl : lv_has ls 2 [(0, .ref h0), (1, .ref h_a1)] := hl
  have hP : va_P D vwCl [(h0, .inr (6, [.ref h_draft, .int v0_kind, .int v0_start, .int v0_behind, .int v0_number, .int v0_fault, .int v0_faultAt])), (h_a1, .inr (9, [.ref h_a1_bytes, .int v_a1_length])), (h_a1_bytes, .inl (cB, 500, .inl f_a1_bytes))] s.heap := hP
  refine lv_aload_n hx hb dX6_readWord_0 rfl (lv_at hl 0 rfl) ?_
  refine lv_iconst (v := 1) hx hb dX6_readWord_1 (by decide) ?_
  refine va_put (D := D) (ci := 6) (v := .int 1) (ty := .int) (C := RX6) (T := TX6) (N := 7) hx hb hts inlX6 tyX6 tyX6_ok nmX6 hown hK hP hD hS 0 rfl rfl 1 (by decide) (hts _ (inr9 _ (List.mem_of_getElem? (i := 16) rfl))) (fun _ h9 => h9) rfl (by decide +kernel) rfl rfl (Nat.le_of_ble_eq_true rfl) dX6_readWord_2 (fun H locs hP hD hS => ?_)
  have hP : va_P D vwCl [(h0, .inr (6, [.ref h_draft, .int 1, .int v0_start, .int v0_behind, .int v0_number, .int v0_fault, .int v0_faultAt])), (h_a1, .inr (9, [.ref h_a1_bytes, .int v_a1_length])), (h_a1_bytes, .inl (cB, 500, .inl f_a1_bytes))] H := hP
  have hD : va_D A [(h0, .inr (6, [.ref h_draft, .int 1, .int v0_start, .int v0_behind, .int v0_number, .int v0_fault, .int v0_faultAt])), (h_a1, .inr (9, [.ref h_a1_bytes, .int v_a1_length])), (h_a1_bytes, .inl (cB, 500, .inl f_a1_bytes))] := hD
  exact b_X6_readWord_l5 h0 h_draft v0_start v0_number v0_fault v0_faultAt h_a1 h_a1_bytes v_a1_length f_a1_bytes (by first | assumption | omega | decide) C hG hAB hA ret _ (v0_behind) _ _ _  (Nat.lt_succ_self _) (hP.sub [0, 1, 2] rfl) (hD.sub [0, 1, 2] (by decide) rfl) hS (lv_sub hl [0, 1] rfl)

set_option maxHeartbeats 4000000 in
set_option maxRecDepth 100000 in
theorem b_X6_nextToken_l8 {p : Program} {l : Launch} {e : Env} {s : State} {m : MethodId} {args : Array Value} {below : List Frame} {meth : Method} {c : Code} {Q : State → Prop} {G : Gho} {D : va_G} {cB cI cJ cZ cS cT : ClassId} {A : Nat → Prop} (h0 : Nat) (h_draft : Nat) (v0_kind : Int32) (v0_behind : Int32) (v0_number : Int32) (v0_fault : Int32) (v0_faultAt : Int32) (h_a1 : Nat) (h_a1_bytes : Nat) (v_a1_length : Int32) (f_a1_bytes : Nat → Int32) (iv_a1_length : 0 ≤ v_a1_length.toInt ∧ v_a1_length.toInt ≤ 500) (C : Cx p s m args c RX6 cX6_nextToken 3 G D (tyL cB cI cJ cZ cS cT)) (hG : G.1 ≤ s.heap.size) (hAB : ∀ q, A q → G.1 ≤ q) (hA : ∀ q : Nat, s.heap.size ≤ q → A q) (ret : RetV p l e ({ frames := 2, cells := 0, slots := 0, locals := 42 }) s m args below meth c cX6_nextToken D A (fun x : Int32 × Int32 × Int32 × Int32 => [(h0, .inr (6, [.ref h_draft, .int x.1, .int x.2.1, .int x.2.2.1, .int x.2.2.2, .int v0_fault, .int v0_faultAt])), (h_a1, .inr (9, [.ref h_a1_bytes, .int v_a1_length])), (h_a1_bytes, .inl (cB, 500, .inl f_a1_bytes))]) (fun x : Int32 × Int32 × Int32 × Int32 => True) Q) :
    ∀ (N : Nat) (u8_0_start : Int32) (H : Heap) (locs : List Loc) (ls : Array Slot), (500 - u8_0_start.toInt).toNat < N → va_P D vwCl [(h0, .inr (6, [.ref h_draft, .int v0_kind, .int u8_0_start, .int v0_behind, .int v0_number, .int v0_fault, .int v0_faultAt])), (h_a1, .inr (9, [.ref h_a1_bytes, .int v_a1_length])), (h_a1_bytes, .inl (cB, 500, .inl f_a1_bytes))] H → va_D A [(h0, .inr (6, [.ref h_draft, .int v0_kind, .int u8_0_start, .int v0_behind, .int v0_number, .int v0_fault, .int v0_faultAt])), (h_a1, .inr (9, [.ref h_a1_bytes, .int v_a1_length])), (h_a1_bytes, .inl (cB, 500, .inl f_a1_bytes))] → va_S A s.heap H locs → lv_has ls 3 [(0, .ref h0), (1, .ref h_a1)] → W p l e ({ frames := 2, cells := 0, slots := 0, locals := 42 }) s m args below meth c H locs 0 0 Q (F0 m 8 ls []) := by
  obtain ⟨hx, hb, hml, hown, hts, hK, hN, hT⟩ := id C
  intro N
  induction N with
  | zero =>
    intro u8_0_start H locs ls  hM_8 hP hD hS hl
    omega
  | succ N_8 ih_8 =>
    intro u8_0_start H locs ls  hM_8 hP hD hS hl
    have b_u8_0_start := i32b u8_0_start
    refine lv_aload_n hx hb dX6_nextToken_8 rfl (lv_at hl 0 rfl) ?_
    refine va_get (D := D) (ci := 6) (v := .int u8_0_start) (C := RX6) (T := TX6) (N := 7) hx hb hts inlX6 hown hK hP 0 rfl rfl 2 (by decide) (hts _ (inr10 _ (List.mem_of_getElem? (i := 23) rfl))) (fun _ h9 => h9) rfl dX6_nextToken_9 ?_
    refine lv_sipush (v := 500) hx hb dX6_nextToken_12 (by decide) ?_
    refine lv_icmp_ge (tgt := 45) hx hb dX6_nextToken_15 (by decide) (fun c_1 => ?_) (fun c_1 => ?_)
    · have c_1 : 500 ≤ u8_0_start.toInt := ci_ge_t c_1
      refine lv_aload_n hx hb dX6_nextToken_45 rfl (lv_at hl 0 rfl) ?_
      refine lv_aload_n hx hb dX6_nextToken_46 rfl (lv_at hl 0 rfl) ?_
      refine va_get (D := D) (ci := 6) (v := .int u8_0_start) (C := RX6) (T := TX6) (N := 7) hx hb hts inlX6 hown hK hP 0 rfl rfl 2 (by decide) (hts _ (inr10 _ (List.mem_of_getElem? (i := 23) rfl))) (fun _ h9 => h9) rfl dX6_nextToken_47 ?_
      refine va_put (D := D) (ci := 6) (v := .int u8_0_start) (ty := .int) (C := RX6) (T := TX6) (N := 7) hx hb hts inlX6 tyX6 tyX6_ok nmX6 hown hK hP hD hS 0 rfl rfl 3 (by decide) (hts _ (inr9 _ (List.mem_of_getElem? (i := 15) rfl))) (fun _ h9 => h9) rfl (by decide +kernel) rfl rfl (Nat.le_of_ble_eq_true rfl) dX6_nextToken_50 (fun H locs hP hD hS => ?_)
      have hP : va_P D vwCl [(h0, .inr (6, [.ref h_draft, .int v0_kind, .int u8_0_start, .int u8_0_start, .int v0_number, .int v0_fault, .int v0_faultAt])), (h_a1, .inr (9, [.ref h_a1_bytes, .int v_a1_length])), (h_a1_bytes, .inl (cB, 500, .inl f_a1_bytes))] H := hP
      have hD : va_D A [(h0, .inr (6, [.ref h_draft, .int v0_kind, .int u8_0_start, .int u8_0_start, .int v0_number, .int v0_fault, .int v0_faultAt])), (h_a1, .inr (9, [.ref h_a1_bytes, .int v_a1_length])), (h_a1_bytes, .inl (cB, 500, .inl f_a1_bytes))] := hD
      refine lv_aload_n hx hb dX6_nextToken_53 rfl (lv_at hl 1 rfl) ?_
      refine lv_aload_n hx hb dX6_nextToken_54 rfl (lv_at hl 0 rfl) ?_
      refine va_get (D := D) (ci := 6) (v := .int u8_0_start) (C := RX6) (T := TX6) (N := 7) hx hb hts inlX6 hown hK hP 0 rfl rfl 2 (by decide) (hts _ (inr10 _ (List.mem_of_getElem? (i := 23) rfl))) (fun _ h9 => h9) rfl dX6_nextToken_55 ?_
      refine roi (As := [.int u8_0_start]) (rest := []) ⟨hx, hb, hml, hown, hts⟩ (b_X9_byteAt l G D cB cI cJ cZ cS cT h_a1 h_a1_bytes v_a1_length f_a1_bytes u8_0_start (by first | assumption | omega | decide)) (cvB (n := 1) (inr11 _ (List.mem_of_getElem? (i := 0) rfl)) (inr11 _ (List.mem_of_getElem? (i := 1) rfl)) (inr11 _ (List.mem_of_getElem? (i := 2) rfl)) (inr1 _ (List.mem_of_getElem? (i := 15) rfl)) (inr11 _ (List.mem_of_getElem? (i := 3) rfl)) (by decide +kernel) hts rfl rfl ⟨Nat.le_of_ble_eq_true rfl, Nat.le_of_ble_eq_true rfl⟩) 0 9 rfl rfl rfl (hP.sub [1, 2] rfl) hK hN (kT.to hT hS hAB) rfl hl.1 rfl (Nat.le_of_ble_eq_true rfl) ⟨Nat.le_of_ble_eq_true rfl, Nat.le_of_ble_eq_true rfl⟩ dX6_nextToken_58 (fun r_2 h_3 => ?_)
      refine lv_istore_n (lv' := [(2, .int r_2), (0, .ref h0), (1, .ref h_a1)]) hx hb dX6_nextToken_61 rfl hl (by decide) rfl (fun ls hl => ?_)
      refine lv_iload_n hx hb dX6_nextToken_62 rfl (lv_at hl 0 rfl) ?_
      refine lv_iconst (v := (-1)) hx hb dX6_nextToken_63 (by decide) ?_
      refine lv_icmp_ne (tgt := 75) hx hb dX6_nextToken_64 (by decide) (fun c_4 => ?_) (fun c_4 => ?_)
      · have c_4 : ¬ r_2.toInt = (-1) := ci_ne_t c_4
        have b_r_2 := i32b r_2
        refine lv_iload_n hx hb dX6_nextToken_75 rfl (lv_at hl 0 rfl) ?_
        refine rosi (As := [.int r_2]) (rest := []) ⟨hx, hb, hml, hown, hts⟩ (b_X6_isLetter l G D cB cI cJ cZ cS cT r_2 ) (csB (n := 1) (inr11 _ (List.mem_of_getElem? (i := 7) rfl)) (inr11 _ (List.mem_of_getElem? (i := 8) rfl)) (inr1 _ (List.mem_of_getElem? (i := 19) rfl)) (inr11 _ (List.mem_of_getElem? (i := 9) rfl)) (by decide +kernel) hts rfl rfl ⟨Nat.le_of_ble_eq_true rfl, Nat.le_of_ble_eq_true rfl⟩) (hP.sub [] rfl) hK hN (kT.to hT hS hAB) rfl hl.1 rfl (Nat.le_of_ble_eq_true rfl) ⟨Nat.le_of_ble_eq_true rfl, Nat.le_of_ble_eq_true rfl⟩ dX6_nextToken_76 (fun r_5 h_6 => ?_)
        have h_6 : (r_5 = 0 ∨ r_5 = 1) := h_6
        have i_7 := h_6
        have ar_5 : 0 ≤ r_5.toInt ∧ r_5.toInt ≤ 1 := by rcases i_7 with h | h <;> rw [h] <;> decide
        refine lv_if_eq (tgt := 90) hx hb dX6_nextToken_79 (by decide) (fun c_8 => ?_) (fun c_8 => ?_)
        · have c_8 : r_5.toInt = 0 := ci_eq_t c_8
          have b_r_5 := i32b r_5
          refine lv_iload_n hx hb dX6_nextToken_90 rfl (lv_at hl 0 rfl) ?_
          refine rosi (As := [.int r_2]) (rest := []) ⟨hx, hb, hml, hown, hts⟩ (b_X6_isDigit l G D cB cI cJ cZ cS cT r_2 ) (csB (n := 1) (inr11 _ (List.mem_of_getElem? (i := 14) rfl)) (inr11 _ (List.mem_of_getElem? (i := 15) rfl)) (inr1 _ (List.mem_of_getElem? (i := 19) rfl)) (inr11 _ (List.mem_of_getElem? (i := 16) rfl)) (by decide +kernel) hts rfl rfl ⟨Nat.le_of_ble_eq_true rfl, Nat.le_of_ble_eq_true rfl⟩) (hP.sub [] rfl) hK hN (kT.to hT hS hAB) rfl hl.1 rfl (Nat.le_of_ble_eq_true rfl) ⟨Nat.le_of_ble_eq_true rfl, Nat.le_of_ble_eq_true rfl⟩ dX6_nextToken_91 (fun r_9 h_10 => ?_)
          have h_10 : (r_9 = 0 ∨ r_9 = 1) := h_10
          have i_11 := h_10
          have ar_9 : 0 ≤ r_9.toInt ∧ r_9.toInt ≤ 1 := by rcases i_11 with h | h <;> rw [h] <;> decide
          refine lv_if_eq (tgt := 105) hx hb dX6_nextToken_94 (by decide) (fun c_12 => ?_) (fun c_12 => ?_)
          · have c_12 : r_9.toInt = 0 := ci_eq_t c_12
            have b_r_9 := i32b r_9
            refine lv_aload_n hx hb dX6_nextToken_105 rfl (lv_at hl 1 rfl) ?_
            refine lv_iload_n hx hb dX6_nextToken_106 rfl (lv_at hl 0 rfl) ?_
            refine lv_bipush (v := 59) hx hb dX6_nextToken_107 (by decide) ?_
            refine lv_icmp_ne (tgt := 116) hx hb dX6_nextToken_109 (by decide) (fun c_13 => ?_) (fun c_13 => ?_)
            · have c_13 : ¬ r_2.toInt = 59 := ci_ne_t c_13
              refine lv_iconst (v := 4) hx hb dX6_nextToken_116 (by decide) ?_
              refine va_put (D := D) (ci := 6) (v := .int 4) (ty := .int) (C := RX6) (T := TX6) (N := 7) hx hb hts inlX6 tyX6 tyX6_ok nmX6 hown hK hP hD hS 0 rfl rfl 1 (by decide) (hts _ (inr9 _ (List.mem_of_getElem? (i := 16) rfl))) (fun _ h9 => h9) rfl (by decide +kernel) rfl rfl (Nat.le_of_ble_eq_true rfl) dX6_nextToken_117 (fun H locs hP hD hS => ?_)
              have hP : va_P D vwCl [(h0, .inr (6, [.ref h_draft, .int 4, .int u8_0_start, .int u8_0_start, .int v0_number, .int v0_fault, .int v0_faultAt])), (h_a1, .inr (9, [.ref h_a1_bytes, .int v_a1_length])), (h_a1_bytes, .inl (cB, 500, .inl f_a1_bytes))] H := hP
              have hD : va_D A [(h0, .inr (6, [.ref h_draft, .int 4, .int u8_0_start, .int u8_0_start, .int v0_number, .int v0_fault, .int v0_faultAt])), (h_a1, .inr (9, [.ref h_a1_bytes, .int v_a1_length])), (h_a1_bytes, .inl (cB, 500, .inl f_a1_bytes))] := hD
              refine lv_aload_n hx hb dX6_nextToken_120 rfl (lv_at hl 1 rfl) ?_
              refine lv_dup hx hb dX6_nextToken_121 rfl ?_
              refine va_get (D := D) (ci := 6) (v := .int u8_0_start) (C := RX6) (T := TX6) (N := 7) hx hb hts inlX6 hown hK hP 0 rfl rfl 3 (by decide) (hts _ (inr9 _ (List.mem_of_getElem? (i := 15) rfl))) (fun _ h9 => h9) rfl dX6_nextToken_122 ?_
              refine lv_iconst (v := 1) hx hb dX6_nextToken_125 (by decide) ?_
              obtain ⟨t_14, et_14⟩ : ∃ v9 : Int32, u8_0_start + 1 = v9 := ⟨_, rfl⟩
              refine z_iadd (v := t_14) hx hb dX6_nextToken_126 et_14 ?_
              refine va_put (D := D) (ci := 6) (v := .int t_14) (ty := .int) (C := RX6) (T := TX6) (N := 7) hx hb hts inlX6 tyX6 tyX6_ok nmX6 hown hK hP hD hS 0 rfl rfl 3 (by decide) (hts _ (inr9 _ (List.mem_of_getElem? (i := 15) rfl))) (fun _ h9 => h9) rfl (by decide +kernel) rfl rfl (Nat.le_of_ble_eq_true rfl) dX6_nextToken_127 (fun H locs hP hD hS => ?_)
              have hP : va_P D vwCl [(h0, .inr (6, [.ref h_draft, .int 4, .int u8_0_start, .int t_14, .int v0_number, .int v0_fault, .int v0_faultAt])), (h_a1, .inr (9, [.ref h_a1_bytes, .int v_a1_length])), (h_a1_bytes, .inl (cB, 500, .inl f_a1_bytes))] H := hP
              have hD : va_D A [(h0, .inr (6, [.ref h_draft, .int 4, .int u8_0_start, .int t_14, .int v0_number, .int v0_fault, .int v0_faultAt])), (h_a1, .inr (9, [.ref h_a1_bytes, .int v_a1_length])), (h_a1_bytes, .inl (cB, 500, .inl f_a1_bytes))] := hD
              exact ret _ _ _ _ (4, u8_0_start, t_14, v0_number) dX6_nextToken_130 trivial (hP.sub [0, 1, 2] rfl) (hD.sub [0, 1, 2] (by decide) rfl) hS
            · have c_13 : r_2.toInt = 59 := ci_ne_f c_13
              refine lv_iconst (v := 3) hx hb dX6_nextToken_112 (by decide) ?_
              refine lv_goto (tgt := 117) hx hb dX6_nextToken_113 (by decide) ?_
              refine va_put (D := D) (ci := 6) (v := .int 3) (ty := .int) (C := RX6) (T := TX6) (N := 7) hx hb hts inlX6 tyX6 tyX6_ok nmX6 hown hK hP hD hS 0 rfl rfl 1 (by decide) (hts _ (inr9 _ (List.mem_of_getElem? (i := 16) rfl))) (fun _ h9 => h9) rfl (by decide +kernel) rfl rfl (Nat.le_of_ble_eq_true rfl) dX6_nextToken_117 (fun H locs hP hD hS => ?_)
              have hP : va_P D vwCl [(h0, .inr (6, [.ref h_draft, .int 3, .int u8_0_start, .int u8_0_start, .int v0_number, .int v0_fault, .int v0_faultAt])), (h_a1, .inr (9, [.ref h_a1_bytes, .int v_a1_length])), (h_a1_bytes, .inl (cB, 500, .inl f_a1_bytes))] H := hP
              have hD : va_D A [(h0, .inr (6, [.ref h_draft, .int 3, .int u8_0_start, .int u8_0_start, .int v0_number, .int v0_fault, .int v0_faultAt])), (h_a1, .inr (9, [.ref h_a1_bytes, .int v_a1_length])), (h_a1_bytes, .inl (cB, 500, .inl f_a1_bytes))] := hD
              refine lv_aload_n hx hb dX6_nextToken_120 rfl (lv_at hl 1 rfl) ?_
              refine lv_dup hx hb dX6_nextToken_121 rfl ?_
              refine va_get (D := D) (ci := 6) (v := .int u8_0_start) (C := RX6) (T := TX6) (N := 7) hx hb hts inlX6 hown hK hP 0 rfl rfl 3 (by decide) (hts _ (inr9 _ (List.mem_of_getElem? (i := 15) rfl))) (fun _ h9 => h9) rfl dX6_nextToken_122 ?_
              refine lv_iconst (v := 1) hx hb dX6_nextToken_125 (by decide) ?_
              obtain ⟨t_15, et_15⟩ : ∃ v9 : Int32, u8_0_start + 1 = v9 := ⟨_, rfl⟩
              refine z_iadd (v := t_15) hx hb dX6_nextToken_126 et_15 ?_
              refine va_put (D := D) (ci := 6) (v := .int t_15) (ty := .int) (C := RX6) (T := TX6) (N := 7) hx hb hts inlX6 tyX6 tyX6_ok nmX6 hown hK hP hD hS 0 rfl rfl 3 (by decide) (hts _ (inr9 _ (List.mem_of_getElem? (i := 15) rfl))) (fun _ h9 => h9) rfl (by decide +kernel) rfl rfl (Nat.le_of_ble_eq_true rfl) dX6_nextToken_127 (fun H locs hP hD hS => ?_)
              have hP : va_P D vwCl [(h0, .inr (6, [.ref h_draft, .int 3, .int u8_0_start, .int t_15, .int v0_number, .int v0_fault, .int v0_faultAt])), (h_a1, .inr (9, [.ref h_a1_bytes, .int v_a1_length])), (h_a1_bytes, .inl (cB, 500, .inl f_a1_bytes))] H := hP
              have hD : va_D A [(h0, .inr (6, [.ref h_draft, .int 3, .int u8_0_start, .int t_15, .int v0_number, .int v0_fault, .int v0_faultAt])), (h_a1, .inr (9, [.ref h_a1_bytes, .int v_a1_length])), (h_a1_bytes, .inl (cB, 500, .inl f_a1_bytes))] := hD
              exact ret _ _ _ _ (3, u8_0_start, t_15, v0_number) dX6_nextToken_130 trivial (hP.sub [0, 1, 2] rfl) (hD.sub [0, 1, 2] (by decide) rfl) hS
          · have c_12 : ¬ r_9.toInt = 0 := ci_eq_f c_12
            have b_r_9 := i32b r_9
            refine lv_aload_n hx hb dX6_nextToken_97 rfl (lv_at hl 1 rfl) ?_
            refine lv_aload_n hx hb dX6_nextToken_98 rfl (lv_at hl 2 rfl) ?_
            refine wrVv (As := [.ref h_a1]) (rest := []) (wr := []) ⟨hx, hb, hml, hown, hts⟩ (b_X6_readNumber l G D cB cI cJ cZ cS cT H.size h0 h_draft v0_kind u8_0_start u8_0_start v0_number v0_fault v0_faultAt h_a1 h_a1_bytes v_a1_length f_a1_bytes (by first | assumption | omega | decide)) hP hD hS hA hK hN hT hAB hG [0, 1, 2] [] rfl rfl (by decide) (by decide) (by decide) (cvB (n := 1) (inr11 _ (List.mem_of_getElem? (i := 17) rfl)) (inr11 _ (List.mem_of_getElem? (i := 18) rfl)) (inr11 _ (List.mem_of_getElem? (i := 19) rfl)) (inr1 _ (List.mem_of_getElem? (i := 19) rfl)) (inr11 _ (List.mem_of_getElem? (i := 20) rfl)) (by decide +kernel) hts rfl rfl ⟨Nat.le_of_ble_eq_true rfl, Nat.le_of_ble_eq_true rfl⟩) 0 6 rfl rfl rfl rfl hl.1 rfl (Nat.le_of_ble_eq_true rfl) ⟨Nat.le_of_ble_eq_true rfl, Nat.le_of_ble_eq_true rfl⟩ dX6_nextToken_99 (fun x9 H locs h_17 hP hD hS => ?_)
            obtain ⟨t_18, t_19, t_20⟩ := x9
            have hP : va_P D vwCl [(h0, .inr (6, [.ref h_draft, .int t_18, .int u8_0_start, .int t_19, .int t_20, .int v0_fault, .int v0_faultAt])), (h_a1, .inr (9, [.ref h_a1_bytes, .int v_a1_length])), (h_a1_bytes, .inl (cB, 500, .inl f_a1_bytes))] H := hP
            have hD : va_D A [(h0, .inr (6, [.ref h_draft, .int t_18, .int u8_0_start, .int t_19, .int t_20, .int v0_fault, .int v0_faultAt])), (h_a1, .inr (9, [.ref h_a1_bytes, .int v_a1_length])), (h_a1_bytes, .inl (cB, 500, .inl f_a1_bytes))] := hD
            refine lv_goto (tgt := 130) hx hb dX6_nextToken_102 (by decide) ?_
            exact ret _ _ _ _ (t_18, u8_0_start, t_19, t_20) dX6_nextToken_130 trivial (hP.sub [0, 1, 2] rfl) (hD.sub [0, 1, 2] (by decide) rfl) hS
        · have c_8 : ¬ r_5.toInt = 0 := ci_eq_f c_8
          have b_r_5 := i32b r_5
          refine lv_aload_n hx hb dX6_nextToken_82 rfl (lv_at hl 1 rfl) ?_
          refine lv_aload_n hx hb dX6_nextToken_83 rfl (lv_at hl 2 rfl) ?_
          refine wrVv (As := [.ref h_a1]) (rest := []) (wr := []) ⟨hx, hb, hml, hown, hts⟩ (b_X6_readWord l G D cB cI cJ cZ cS cT H.size h0 h_draft v0_kind u8_0_start u8_0_start v0_number v0_fault v0_faultAt h_a1 h_a1_bytes v_a1_length f_a1_bytes (by first | assumption | omega | decide)) hP hD hS hA hK hN hT hAB hG [0, 1, 2] [] rfl rfl (by decide) (by decide) (by decide) (cvB (n := 1) (inr11 _ (List.mem_of_getElem? (i := 10) rfl)) (inr11 _ (List.mem_of_getElem? (i := 11) rfl)) (inr11 _ (List.mem_of_getElem? (i := 12) rfl)) (inr1 _ (List.mem_of_getElem? (i := 19) rfl)) (inr11 _ (List.mem_of_getElem? (i := 13) rfl)) (by decide +kernel) hts rfl rfl ⟨Nat.le_of_ble_eq_true rfl, Nat.le_of_ble_eq_true rfl⟩) 0 6 rfl rfl rfl rfl hl.1 rfl (Nat.le_of_ble_eq_true rfl) ⟨Nat.le_of_ble_eq_true rfl, Nat.le_of_ble_eq_true rfl⟩ dX6_nextToken_84 (fun x9 H locs h_22 hP hD hS => ?_)
          obtain ⟨t_23, t_24⟩ := x9
          have hP : va_P D vwCl [(h0, .inr (6, [.ref h_draft, .int t_23, .int u8_0_start, .int t_24, .int v0_number, .int v0_fault, .int v0_faultAt])), (h_a1, .inr (9, [.ref h_a1_bytes, .int v_a1_length])), (h_a1_bytes, .inl (cB, 500, .inl f_a1_bytes))] H := hP
          have hD : va_D A [(h0, .inr (6, [.ref h_draft, .int t_23, .int u8_0_start, .int t_24, .int v0_number, .int v0_fault, .int v0_faultAt])), (h_a1, .inr (9, [.ref h_a1_bytes, .int v_a1_length])), (h_a1_bytes, .inl (cB, 500, .inl f_a1_bytes))] := hD
          refine lv_goto (tgt := 130) hx hb dX6_nextToken_87 (by decide) ?_
          exact ret _ _ _ _ (t_23, u8_0_start, t_24, v0_number) dX6_nextToken_130 trivial (hP.sub [0, 1, 2] rfl) (hD.sub [0, 1, 2] (by decide) rfl) hS
      · have c_4 : r_2.toInt = (-1) := ci_ne_f c_4
        have b_r_2 := i32b r_2
        refine lv_aload_n hx hb dX6_nextToken_67 rfl (lv_at hl 1 rfl) ?_
        refine lv_iconst (v := 0) hx hb dX6_nextToken_68 (by decide) ?_
        refine va_put (D := D) (ci := 6) (v := .int 0) (ty := .int) (C := RX6) (T := TX6) (N := 7) hx hb hts inlX6 tyX6 tyX6_ok nmX6 hown hK hP hD hS 0 rfl rfl 1 (by decide) (hts _ (inr9 _ (List.mem_of_getElem? (i := 16) rfl))) (fun _ h9 => h9) rfl (by decide +kernel) rfl rfl (Nat.le_of_ble_eq_true rfl) dX6_nextToken_69 (fun H locs hP hD hS => ?_)
        have hP : va_P D vwCl [(h0, .inr (6, [.ref h_draft, .int 0, .int u8_0_start, .int u8_0_start, .int v0_number, .int v0_fault, .int v0_faultAt])), (h_a1, .inr (9, [.ref h_a1_bytes, .int v_a1_length])), (h_a1_bytes, .inl (cB, 500, .inl f_a1_bytes))] H := hP
        have hD : va_D A [(h0, .inr (6, [.ref h_draft, .int 0, .int u8_0_start, .int u8_0_start, .int v0_number, .int v0_fault, .int v0_faultAt])), (h_a1, .inr (9, [.ref h_a1_bytes, .int v_a1_length])), (h_a1_bytes, .inl (cB, 500, .inl f_a1_bytes))] := hD
        refine lv_goto (tgt := 130) hx hb dX6_nextToken_72 (by decide) ?_
        exact ret _ _ _ _ (0, u8_0_start, u8_0_start, v0_number) dX6_nextToken_130 trivial (hP.sub [0, 1, 2] rfl) (hD.sub [0, 1, 2] (by decide) rfl) hS
    · have c_1 : u8_0_start.toInt < 500 := ci_ge_f c_1
      refine lv_aload_n hx hb dX6_nextToken_18 rfl (lv_at hl 1 rfl) ?_
      refine lv_aload_n hx hb dX6_nextToken_19 rfl (lv_at hl 0 rfl) ?_
      refine va_get (D := D) (ci := 6) (v := .int u8_0_start) (C := RX6) (T := TX6) (N := 7) hx hb hts inlX6 hown hK hP 0 rfl rfl 2 (by decide) (hts _ (inr10 _ (List.mem_of_getElem? (i := 23) rfl))) (fun _ h9 => h9) rfl dX6_nextToken_20 ?_
      refine roi (As := [.int u8_0_start]) (rest := []) ⟨hx, hb, hml, hown, hts⟩ (b_X9_byteAt l G D cB cI cJ cZ cS cT h_a1 h_a1_bytes v_a1_length f_a1_bytes u8_0_start (by first | assumption | omega | decide)) (cvB (n := 1) (inr11 _ (List.mem_of_getElem? (i := 0) rfl)) (inr11 _ (List.mem_of_getElem? (i := 1) rfl)) (inr11 _ (List.mem_of_getElem? (i := 2) rfl)) (inr1 _ (List.mem_of_getElem? (i := 15) rfl)) (inr11 _ (List.mem_of_getElem? (i := 3) rfl)) (by decide +kernel) hts rfl rfl ⟨Nat.le_of_ble_eq_true rfl, Nat.le_of_ble_eq_true rfl⟩) 0 9 rfl rfl rfl (hP.sub [1, 2] rfl) hK hN (kT.to hT hS hAB) rfl hl.1 rfl (Nat.le_of_ble_eq_true rfl) ⟨Nat.le_of_ble_eq_true rfl, Nat.le_of_ble_eq_true rfl⟩ dX6_nextToken_23 (fun r_25 h_26 => ?_)
      refine rosi (As := [.int r_25]) (rest := []) ⟨hx, hb, hml, hown, hts⟩ (b_X6_isBlank l G D cB cI cJ cZ cS cT r_25 ) (csB (n := 1) (inr11 _ (List.mem_of_getElem? (i := 4) rfl)) (inr11 _ (List.mem_of_getElem? (i := 5) rfl)) (inr1 _ (List.mem_of_getElem? (i := 19) rfl)) (inr11 _ (List.mem_of_getElem? (i := 6) rfl)) (by decide +kernel) hts rfl rfl ⟨Nat.le_of_ble_eq_true rfl, Nat.le_of_ble_eq_true rfl⟩) (hP.sub [] rfl) hK hN (kT.to hT hS hAB) rfl hl.1 rfl (Nat.le_of_ble_eq_true rfl) ⟨Nat.le_of_ble_eq_true rfl, Nat.le_of_ble_eq_true rfl⟩ dX6_nextToken_26 (fun r_27 h_28 => ?_)
      have h_28 : (r_27 = 0 ∨ r_27 = 1) := h_28
      have i_29 := h_28
      have ar_27 : 0 ≤ r_27.toInt ∧ r_27.toInt ≤ 1 := by rcases i_29 with h | h <;> rw [h] <;> decide
      refine lv_if_eq (tgt := 45) hx hb dX6_nextToken_29 (by decide) (fun c_30 => ?_) (fun c_30 => ?_)
      · have c_30 : r_27.toInt = 0 := ci_eq_t c_30
        have b_r_27 := i32b r_27
        refine lv_aload_n hx hb dX6_nextToken_45 rfl (lv_at hl 0 rfl) ?_
        refine lv_aload_n hx hb dX6_nextToken_46 rfl (lv_at hl 0 rfl) ?_
        refine va_get (D := D) (ci := 6) (v := .int u8_0_start) (C := RX6) (T := TX6) (N := 7) hx hb hts inlX6 hown hK hP 0 rfl rfl 2 (by decide) (hts _ (inr10 _ (List.mem_of_getElem? (i := 23) rfl))) (fun _ h9 => h9) rfl dX6_nextToken_47 ?_
        refine va_put (D := D) (ci := 6) (v := .int u8_0_start) (ty := .int) (C := RX6) (T := TX6) (N := 7) hx hb hts inlX6 tyX6 tyX6_ok nmX6 hown hK hP hD hS 0 rfl rfl 3 (by decide) (hts _ (inr9 _ (List.mem_of_getElem? (i := 15) rfl))) (fun _ h9 => h9) rfl (by decide +kernel) rfl rfl (Nat.le_of_ble_eq_true rfl) dX6_nextToken_50 (fun H locs hP hD hS => ?_)
        have hP : va_P D vwCl [(h0, .inr (6, [.ref h_draft, .int v0_kind, .int u8_0_start, .int u8_0_start, .int v0_number, .int v0_fault, .int v0_faultAt])), (h_a1, .inr (9, [.ref h_a1_bytes, .int v_a1_length])), (h_a1_bytes, .inl (cB, 500, .inl f_a1_bytes))] H := hP
        have hD : va_D A [(h0, .inr (6, [.ref h_draft, .int v0_kind, .int u8_0_start, .int u8_0_start, .int v0_number, .int v0_fault, .int v0_faultAt])), (h_a1, .inr (9, [.ref h_a1_bytes, .int v_a1_length])), (h_a1_bytes, .inl (cB, 500, .inl f_a1_bytes))] := hD
        refine lv_aload_n hx hb dX6_nextToken_53 rfl (lv_at hl 1 rfl) ?_
        refine lv_aload_n hx hb dX6_nextToken_54 rfl (lv_at hl 0 rfl) ?_
        refine va_get (D := D) (ci := 6) (v := .int u8_0_start) (C := RX6) (T := TX6) (N := 7) hx hb hts inlX6 hown hK hP 0 rfl rfl 2 (by decide) (hts _ (inr10 _ (List.mem_of_getElem? (i := 23) rfl))) (fun _ h9 => h9) rfl dX6_nextToken_55 ?_
        refine roi (As := [.int u8_0_start]) (rest := []) ⟨hx, hb, hml, hown, hts⟩ (b_X9_byteAt l G D cB cI cJ cZ cS cT h_a1 h_a1_bytes v_a1_length f_a1_bytes u8_0_start (by first | assumption | omega | decide)) (cvB (n := 1) (inr11 _ (List.mem_of_getElem? (i := 0) rfl)) (inr11 _ (List.mem_of_getElem? (i := 1) rfl)) (inr11 _ (List.mem_of_getElem? (i := 2) rfl)) (inr1 _ (List.mem_of_getElem? (i := 15) rfl)) (inr11 _ (List.mem_of_getElem? (i := 3) rfl)) (by decide +kernel) hts rfl rfl ⟨Nat.le_of_ble_eq_true rfl, Nat.le_of_ble_eq_true rfl⟩) 0 9 rfl rfl rfl (hP.sub [1, 2] rfl) hK hN (kT.to hT hS hAB) rfl hl.1 rfl (Nat.le_of_ble_eq_true rfl) ⟨Nat.le_of_ble_eq_true rfl, Nat.le_of_ble_eq_true rfl⟩ dX6_nextToken_58 (fun r_31 h_32 => ?_)
        refine lv_istore_n (lv' := [(2, .int r_31), (0, .ref h0), (1, .ref h_a1)]) hx hb dX6_nextToken_61 rfl hl (by decide) rfl (fun ls hl => ?_)
        refine lv_iload_n hx hb dX6_nextToken_62 rfl (lv_at hl 0 rfl) ?_
        refine lv_iconst (v := (-1)) hx hb dX6_nextToken_63 (by decide) ?_
        refine lv_icmp_ne (tgt := 75) hx hb dX6_nextToken_64 (by decide) (fun c_33 => ?_) (fun c_33 => ?_)
        · have c_33 : ¬ r_31.toInt = (-1) := ci_ne_t c_33
          have b_r_31 := i32b r_31
          refine lv_iload_n hx hb dX6_nextToken_75 rfl (lv_at hl 0 rfl) ?_
          refine rosi (As := [.int r_31]) (rest := []) ⟨hx, hb, hml, hown, hts⟩ (b_X6_isLetter l G D cB cI cJ cZ cS cT r_31 ) (csB (n := 1) (inr11 _ (List.mem_of_getElem? (i := 7) rfl)) (inr11 _ (List.mem_of_getElem? (i := 8) rfl)) (inr1 _ (List.mem_of_getElem? (i := 19) rfl)) (inr11 _ (List.mem_of_getElem? (i := 9) rfl)) (by decide +kernel) hts rfl rfl ⟨Nat.le_of_ble_eq_true rfl, Nat.le_of_ble_eq_true rfl⟩) (hP.sub [] rfl) hK hN (kT.to hT hS hAB) rfl hl.1 rfl (Nat.le_of_ble_eq_true rfl) ⟨Nat.le_of_ble_eq_true rfl, Nat.le_of_ble_eq_true rfl⟩ dX6_nextToken_76 (fun r_34 h_35 => ?_)
          have h_35 : (r_34 = 0 ∨ r_34 = 1) := h_35
          have i_36 := h_35
          have ar_34 : 0 ≤ r_34.toInt ∧ r_34.toInt ≤ 1 := by rcases i_36 with h | h <;> rw [h] <;> decide
          refine lv_if_eq (tgt := 90) hx hb dX6_nextToken_79 (by decide) (fun c_37 => ?_) (fun c_37 => ?_)
          · have c_37 : r_34.toInt = 0 := ci_eq_t c_37
            have b_r_34 := i32b r_34
            refine lv_iload_n hx hb dX6_nextToken_90 rfl (lv_at hl 0 rfl) ?_
            refine rosi (As := [.int r_31]) (rest := []) ⟨hx, hb, hml, hown, hts⟩ (b_X6_isDigit l G D cB cI cJ cZ cS cT r_31 ) (csB (n := 1) (inr11 _ (List.mem_of_getElem? (i := 14) rfl)) (inr11 _ (List.mem_of_getElem? (i := 15) rfl)) (inr1 _ (List.mem_of_getElem? (i := 19) rfl)) (inr11 _ (List.mem_of_getElem? (i := 16) rfl)) (by decide +kernel) hts rfl rfl ⟨Nat.le_of_ble_eq_true rfl, Nat.le_of_ble_eq_true rfl⟩) (hP.sub [] rfl) hK hN (kT.to hT hS hAB) rfl hl.1 rfl (Nat.le_of_ble_eq_true rfl) ⟨Nat.le_of_ble_eq_true rfl, Nat.le_of_ble_eq_true rfl⟩ dX6_nextToken_91 (fun r_38 h_39 => ?_)
            have h_39 : (r_38 = 0 ∨ r_38 = 1) := h_39
            have i_40 := h_39
            have ar_38 : 0 ≤ r_38.toInt ∧ r_38.toInt ≤ 1 := by rcases i_40 with h | h <;> rw [h] <;> decide
            refine lv_if_eq (tgt := 105) hx hb dX6_nextToken_94 (by decide) (fun c_41 => ?_) (fun c_41 => ?_)
            · have c_41 : r_38.toInt = 0 := ci_eq_t c_41
              have b_r_38 := i32b r_38
              refine lv_aload_n hx hb dX6_nextToken_105 rfl (lv_at hl 1 rfl) ?_
              refine lv_iload_n hx hb dX6_nextToken_106 rfl (lv_at hl 0 rfl) ?_
              refine lv_bipush (v := 59) hx hb dX6_nextToken_107 (by decide) ?_
              refine lv_icmp_ne (tgt := 116) hx hb dX6_nextToken_109 (by decide) (fun c_42 => ?_) (fun c_42 => ?_)
              · have c_42 : ¬ r_31.toInt = 59 := ci_ne_t c_42
                refine lv_iconst (v := 4) hx hb dX6_nextToken_116 (by decide) ?_
                refine va_put (D := D) (ci := 6) (v := .int 4) (ty := .int) (C := RX6) (T := TX6) (N := 7) hx hb hts inlX6 tyX6 tyX6_ok nmX6 hown hK hP hD hS 0 rfl rfl 1 (by decide) (hts _ (inr9 _ (List.mem_of_getElem? (i := 16) rfl))) (fun _ h9 => h9) rfl (by decide +kernel) rfl rfl (Nat.le_of_ble_eq_true rfl) dX6_nextToken_117 (fun H locs hP hD hS => ?_)
                have hP : va_P D vwCl [(h0, .inr (6, [.ref h_draft, .int 4, .int u8_0_start, .int u8_0_start, .int v0_number, .int v0_fault, .int v0_faultAt])), (h_a1, .inr (9, [.ref h_a1_bytes, .int v_a1_length])), (h_a1_bytes, .inl (cB, 500, .inl f_a1_bytes))] H := hP
                have hD : va_D A [(h0, .inr (6, [.ref h_draft, .int 4, .int u8_0_start, .int u8_0_start, .int v0_number, .int v0_fault, .int v0_faultAt])), (h_a1, .inr (9, [.ref h_a1_bytes, .int v_a1_length])), (h_a1_bytes, .inl (cB, 500, .inl f_a1_bytes))] := hD
                refine lv_aload_n hx hb dX6_nextToken_120 rfl (lv_at hl 1 rfl) ?_
                refine lv_dup hx hb dX6_nextToken_121 rfl ?_
                refine va_get (D := D) (ci := 6) (v := .int u8_0_start) (C := RX6) (T := TX6) (N := 7) hx hb hts inlX6 hown hK hP 0 rfl rfl 3 (by decide) (hts _ (inr9 _ (List.mem_of_getElem? (i := 15) rfl))) (fun _ h9 => h9) rfl dX6_nextToken_122 ?_
                refine lv_iconst (v := 1) hx hb dX6_nextToken_125 (by decide) ?_
                obtain ⟨t_43, et_43⟩ : ∃ v9 : Int32, u8_0_start + 1 = v9 := ⟨_, rfl⟩
                refine z_iadd (v := t_43) hx hb dX6_nextToken_126 et_43 ?_
                have ft_43 : t_43.toInt = u8_0_start.toInt + 1 := addT (a := u8_0_start.toInt) (b := 1) rfl (by decide) et_43 (by omega) (by omega)
                refine va_put (D := D) (ci := 6) (v := .int t_43) (ty := .int) (C := RX6) (T := TX6) (N := 7) hx hb hts inlX6 tyX6 tyX6_ok nmX6 hown hK hP hD hS 0 rfl rfl 3 (by decide) (hts _ (inr9 _ (List.mem_of_getElem? (i := 15) rfl))) (fun _ h9 => h9) rfl (by decide +kernel) rfl rfl (Nat.le_of_ble_eq_true rfl) dX6_nextToken_127 (fun H locs hP hD hS => ?_)
                have hP : va_P D vwCl [(h0, .inr (6, [.ref h_draft, .int 4, .int u8_0_start, .int t_43, .int v0_number, .int v0_fault, .int v0_faultAt])), (h_a1, .inr (9, [.ref h_a1_bytes, .int v_a1_length])), (h_a1_bytes, .inl (cB, 500, .inl f_a1_bytes))] H := hP
                have hD : va_D A [(h0, .inr (6, [.ref h_draft, .int 4, .int u8_0_start, .int t_43, .int v0_number, .int v0_fault, .int v0_faultAt])), (h_a1, .inr (9, [.ref h_a1_bytes, .int v_a1_length])), (h_a1_bytes, .inl (cB, 500, .inl f_a1_bytes))] := hD
                exact ret _ _ _ _ (4, u8_0_start, t_43, v0_number) dX6_nextToken_130 trivial (hP.sub [0, 1, 2] rfl) (hD.sub [0, 1, 2] (by decide) rfl) hS
              · have c_42 : r_31.toInt = 59 := ci_ne_f c_42
                refine lv_iconst (v := 3) hx hb dX6_nextToken_112 (by decide) ?_
                refine lv_goto (tgt := 117) hx hb dX6_nextToken_113 (by decide) ?_
                refine va_put (D := D) (ci := 6) (v := .int 3) (ty := .int) (C := RX6) (T := TX6) (N := 7) hx hb hts inlX6 tyX6 tyX6_ok nmX6 hown hK hP hD hS 0 rfl rfl 1 (by decide) (hts _ (inr9 _ (List.mem_of_getElem? (i := 16) rfl))) (fun _ h9 => h9) rfl (by decide +kernel) rfl rfl (Nat.le_of_ble_eq_true rfl) dX6_nextToken_117 (fun H locs hP hD hS => ?_)
                have hP : va_P D vwCl [(h0, .inr (6, [.ref h_draft, .int 3, .int u8_0_start, .int u8_0_start, .int v0_number, .int v0_fault, .int v0_faultAt])), (h_a1, .inr (9, [.ref h_a1_bytes, .int v_a1_length])), (h_a1_bytes, .inl (cB, 500, .inl f_a1_bytes))] H := hP
                have hD : va_D A [(h0, .inr (6, [.ref h_draft, .int 3, .int u8_0_start, .int u8_0_start, .int v0_number, .int v0_fault, .int v0_faultAt])), (h_a1, .inr (9, [.ref h_a1_bytes, .int v_a1_length])), (h_a1_bytes, .inl (cB, 500, .inl f_a1_bytes))] := hD
                refine lv_aload_n hx hb dX6_nextToken_120 rfl (lv_at hl 1 rfl) ?_
                refine lv_dup hx hb dX6_nextToken_121 rfl ?_
                refine va_get (D := D) (ci := 6) (v := .int u8_0_start) (C := RX6) (T := TX6) (N := 7) hx hb hts inlX6 hown hK hP 0 rfl rfl 3 (by decide) (hts _ (inr9 _ (List.mem_of_getElem? (i := 15) rfl))) (fun _ h9 => h9) rfl dX6_nextToken_122 ?_
                refine lv_iconst (v := 1) hx hb dX6_nextToken_125 (by decide) ?_
                obtain ⟨t_44, et_44⟩ : ∃ v9 : Int32, u8_0_start + 1 = v9 := ⟨_, rfl⟩
                refine z_iadd (v := t_44) hx hb dX6_nextToken_126 et_44 ?_
                have ft_44 : t_44.toInt = u8_0_start.toInt + 1 := addT (a := u8_0_start.toInt) (b := 1) rfl (by decide) et_44 (by omega) (by omega)
                refine va_put (D := D) (ci := 6) (v := .int t_44) (ty := .int) (C := RX6) (T := TX6) (N := 7) hx hb hts inlX6 tyX6 tyX6_ok nmX6 hown hK hP hD hS 0 rfl rfl 3 (by decide) (hts _ (inr9 _ (List.mem_of_getElem? (i := 15) rfl))) (fun _ h9 => h9) rfl (by decide +kernel) rfl rfl (Nat.le_of_ble_eq_true rfl) dX6_nextToken_127 (fun H locs hP hD hS => ?_)
                have hP : va_P D vwCl [(h0, .inr (6, [.ref h_draft, .int 3, .int u8_0_start, .int t_44, .int v0_number, .int v0_fault, .int v0_faultAt])), (h_a1, .inr (9, [.ref h_a1_bytes, .int v_a1_length])), (h_a1_bytes, .inl (cB, 500, .inl f_a1_bytes))] H := hP
                have hD : va_D A [(h0, .inr (6, [.ref h_draft, .int 3, .int u8_0_start, .int t_44, .int v0_number, .int v0_fault, .int v0_faultAt])), (h_a1, .inr (9, [.ref h_a1_bytes, .int v_a1_length])), (h_a1_bytes, .inl (cB, 500, .inl f_a1_bytes))] := hD
                exact ret _ _ _ _ (3, u8_0_start, t_44, v0_number) dX6_nextToken_130 trivial (hP.sub [0, 1, 2] rfl) (hD.sub [0, 1, 2] (by decide) rfl) hS
            · have c_41 : ¬ r_38.toInt = 0 := ci_eq_f c_41
              have b_r_38 := i32b r_38
              refine lv_aload_n hx hb dX6_nextToken_97 rfl (lv_at hl 1 rfl) ?_
              refine lv_aload_n hx hb dX6_nextToken_98 rfl (lv_at hl 2 rfl) ?_
              refine wrVv (As := [.ref h_a1]) (rest := []) (wr := []) ⟨hx, hb, hml, hown, hts⟩ (b_X6_readNumber l G D cB cI cJ cZ cS cT H.size h0 h_draft v0_kind u8_0_start u8_0_start v0_number v0_fault v0_faultAt h_a1 h_a1_bytes v_a1_length f_a1_bytes (by first | assumption | omega | decide)) hP hD hS hA hK hN hT hAB hG [0, 1, 2] [] rfl rfl (by decide) (by decide) (by decide) (cvB (n := 1) (inr11 _ (List.mem_of_getElem? (i := 17) rfl)) (inr11 _ (List.mem_of_getElem? (i := 18) rfl)) (inr11 _ (List.mem_of_getElem? (i := 19) rfl)) (inr1 _ (List.mem_of_getElem? (i := 19) rfl)) (inr11 _ (List.mem_of_getElem? (i := 20) rfl)) (by decide +kernel) hts rfl rfl ⟨Nat.le_of_ble_eq_true rfl, Nat.le_of_ble_eq_true rfl⟩) 0 6 rfl rfl rfl rfl hl.1 rfl (Nat.le_of_ble_eq_true rfl) ⟨Nat.le_of_ble_eq_true rfl, Nat.le_of_ble_eq_true rfl⟩ dX6_nextToken_99 (fun x9 H locs h_46 hP hD hS => ?_)
              obtain ⟨t_47, t_48, t_49⟩ := x9
              have hP : va_P D vwCl [(h0, .inr (6, [.ref h_draft, .int t_47, .int u8_0_start, .int t_48, .int t_49, .int v0_fault, .int v0_faultAt])), (h_a1, .inr (9, [.ref h_a1_bytes, .int v_a1_length])), (h_a1_bytes, .inl (cB, 500, .inl f_a1_bytes))] H := hP
              have hD : va_D A [(h0, .inr (6, [.ref h_draft, .int t_47, .int u8_0_start, .int t_48, .int t_49, .int v0_fault, .int v0_faultAt])), (h_a1, .inr (9, [.ref h_a1_bytes, .int v_a1_length])), (h_a1_bytes, .inl (cB, 500, .inl f_a1_bytes))] := hD
              refine lv_goto (tgt := 130) hx hb dX6_nextToken_102 (by decide) ?_
              exact ret _ _ _ _ (t_47, u8_0_start, t_48, t_49) dX6_nextToken_130 trivial (hP.sub [0, 1, 2] rfl) (hD.sub [0, 1, 2] (by decide) rfl) hS
          · have c_37 : ¬ r_34.toInt = 0 := ci_eq_f c_37
            have b_r_34 := i32b r_34
            refine lv_aload_n hx hb dX6_nextToken_82 rfl (lv_at hl 1 rfl) ?_
            refine lv_aload_n hx hb dX6_nextToken_83 rfl (lv_at hl 2 rfl) ?_
            refine wrVv (As := [.ref h_a1]) (rest := []) (wr := []) ⟨hx, hb, hml, hown, hts⟩ (b_X6_readWord l G D cB cI cJ cZ cS cT H.size h0 h_draft v0_kind u8_0_start u8_0_start v0_number v0_fault v0_faultAt h_a1 h_a1_bytes v_a1_length f_a1_bytes (by first | assumption | omega | decide)) hP hD hS hA hK hN hT hAB hG [0, 1, 2] [] rfl rfl (by decide) (by decide) (by decide) (cvB (n := 1) (inr11 _ (List.mem_of_getElem? (i := 10) rfl)) (inr11 _ (List.mem_of_getElem? (i := 11) rfl)) (inr11 _ (List.mem_of_getElem? (i := 12) rfl)) (inr1 _ (List.mem_of_getElem? (i := 19) rfl)) (inr11 _ (List.mem_of_getElem? (i := 13) rfl)) (by decide +kernel) hts rfl rfl ⟨Nat.le_of_ble_eq_true rfl, Nat.le_of_ble_eq_true rfl⟩) 0 6 rfl rfl rfl rfl hl.1 rfl (Nat.le_of_ble_eq_true rfl) ⟨Nat.le_of_ble_eq_true rfl, Nat.le_of_ble_eq_true rfl⟩ dX6_nextToken_84 (fun x9 H locs h_51 hP hD hS => ?_)
            obtain ⟨t_52, t_53⟩ := x9
            have hP : va_P D vwCl [(h0, .inr (6, [.ref h_draft, .int t_52, .int u8_0_start, .int t_53, .int v0_number, .int v0_fault, .int v0_faultAt])), (h_a1, .inr (9, [.ref h_a1_bytes, .int v_a1_length])), (h_a1_bytes, .inl (cB, 500, .inl f_a1_bytes))] H := hP
            have hD : va_D A [(h0, .inr (6, [.ref h_draft, .int t_52, .int u8_0_start, .int t_53, .int v0_number, .int v0_fault, .int v0_faultAt])), (h_a1, .inr (9, [.ref h_a1_bytes, .int v_a1_length])), (h_a1_bytes, .inl (cB, 500, .inl f_a1_bytes))] := hD
            refine lv_goto (tgt := 130) hx hb dX6_nextToken_87 (by decide) ?_
            exact ret _ _ _ _ (t_52, u8_0_start, t_53, v0_number) dX6_nextToken_130 trivial (hP.sub [0, 1, 2] rfl) (hD.sub [0, 1, 2] (by decide) rfl) hS
        · have c_33 : r_31.toInt = (-1) := ci_ne_f c_33
          have b_r_31 := i32b r_31
          refine lv_aload_n hx hb dX6_nextToken_67 rfl (lv_at hl 1 rfl) ?_
          refine lv_iconst (v := 0) hx hb dX6_nextToken_68 (by decide) ?_
          refine va_put (D := D) (ci := 6) (v := .int 0) (ty := .int) (C := RX6) (T := TX6) (N := 7) hx hb hts inlX6 tyX6 tyX6_ok nmX6 hown hK hP hD hS 0 rfl rfl 1 (by decide) (hts _ (inr9 _ (List.mem_of_getElem? (i := 16) rfl))) (fun _ h9 => h9) rfl (by decide +kernel) rfl rfl (Nat.le_of_ble_eq_true rfl) dX6_nextToken_69 (fun H locs hP hD hS => ?_)
          have hP : va_P D vwCl [(h0, .inr (6, [.ref h_draft, .int 0, .int u8_0_start, .int u8_0_start, .int v0_number, .int v0_fault, .int v0_faultAt])), (h_a1, .inr (9, [.ref h_a1_bytes, .int v_a1_length])), (h_a1_bytes, .inl (cB, 500, .inl f_a1_bytes))] H := hP
          have hD : va_D A [(h0, .inr (6, [.ref h_draft, .int 0, .int u8_0_start, .int u8_0_start, .int v0_number, .int v0_fault, .int v0_faultAt])), (h_a1, .inr (9, [.ref h_a1_bytes, .int v_a1_length])), (h_a1_bytes, .inl (cB, 500, .inl f_a1_bytes))] := hD
          refine lv_goto (tgt := 130) hx hb dX6_nextToken_72 (by decide) ?_
          exact ret _ _ _ _ (0, u8_0_start, u8_0_start, v0_number) dX6_nextToken_130 trivial (hP.sub [0, 1, 2] rfl) (hD.sub [0, 1, 2] (by decide) rfl) hS
      · have c_30 : ¬ r_27.toInt = 0 := ci_eq_f c_30
        have b_r_27 := i32b r_27
        refine lv_aload_n hx hb dX6_nextToken_32 rfl (lv_at hl 0 rfl) ?_
        refine lv_dup hx hb dX6_nextToken_33 rfl ?_
        refine va_get (D := D) (ci := 6) (v := .int u8_0_start) (C := RX6) (T := TX6) (N := 7) hx hb hts inlX6 hown hK hP 0 rfl rfl 2 (by decide) (hts _ (inr10 _ (List.mem_of_getElem? (i := 23) rfl))) (fun _ h9 => h9) rfl dX6_nextToken_34 ?_
        refine lv_iconst (v := 1) hx hb dX6_nextToken_37 (by decide) ?_
        obtain ⟨t_54, et_54⟩ : ∃ v9 : Int32, u8_0_start + 1 = v9 := ⟨_, rfl⟩
        refine z_iadd (v := t_54) hx hb dX6_nextToken_38 et_54 ?_
        have ft_54 : t_54.toInt = u8_0_start.toInt + 1 := addT (a := u8_0_start.toInt) (b := 1) rfl (by decide) et_54 (by omega) (by omega)
        refine va_put (D := D) (ci := 6) (v := .int t_54) (ty := .int) (C := RX6) (T := TX6) (N := 7) hx hb hts inlX6 tyX6 tyX6_ok nmX6 hown hK hP hD hS 0 rfl rfl 2 (by decide) (hts _ (inr10 _ (List.mem_of_getElem? (i := 23) rfl))) (fun _ h9 => h9) rfl (by decide +kernel) rfl rfl (Nat.le_of_ble_eq_true rfl) dX6_nextToken_39 (fun H locs hP hD hS => ?_)
        have hP : va_P D vwCl [(h0, .inr (6, [.ref h_draft, .int v0_kind, .int t_54, .int v0_behind, .int v0_number, .int v0_fault, .int v0_faultAt])), (h_a1, .inr (9, [.ref h_a1_bytes, .int v_a1_length])), (h_a1_bytes, .inl (cB, 500, .inl f_a1_bytes))] H := hP
        have hD : va_D A [(h0, .inr (6, [.ref h_draft, .int v0_kind, .int t_54, .int v0_behind, .int v0_number, .int v0_fault, .int v0_faultAt])), (h_a1, .inr (9, [.ref h_a1_bytes, .int v_a1_length])), (h_a1_bytes, .inl (cB, 500, .inl f_a1_bytes))] := hD
        refine lv_goto (tgt := 8) hx hb dX6_nextToken_42 (by decide) ?_
        exact ih_8 (t_54) _ _ _  (by omega) (hP.sub [0, 1, 2] rfl) (hD.sub [0, 1, 2] (by decide) rfl) hS (lv_sub hl [0, 1] rfl)

set_option maxHeartbeats 4000000 in
set_option maxRecDepth 100000 in
theorem b_X6_nextToken (l : Launch) (G : Gho) (D : va_G) (cB cI cJ cZ cS cT : ClassId) (sz : Nat) (h0 : Nat) (h_draft : Nat) (v0_kind : Int32) (v0_start : Int32) (v0_behind : Int32) (v0_number : Int32) (v0_fault : Int32) (v0_faultAt : Int32) (h_a1 : Nat) (h_a1_bytes : Nat) (v_a1_length : Int32) (f_a1_bytes : Nat → Int32) (iv_a1_length : 0 ≤ v_a1_length.toInt ∧ v_a1_length.toInt ≤ 500) : Met l yX6_nextToken (Cond.code yX6_nextToken cX6_nextToken 3 none :: wsL_law) ({ frames := 2, cells := 0, slots := 0, locals := 42 }) (wrP G D (tyL cB cI cJ cZ cS cT) [(h0, .inr (6, [.ref h_draft, .int v0_kind, .int v0_start, .int v0_behind, .int v0_number, .int v0_fault, .int v0_faultAt])), (h_a1, .inr (9, [.ref h_a1_bytes, .int v_a1_length])), (h_a1_bytes, .inl (cB, 500, .inl f_a1_bytes))] sz [.ref h0, .ref h_a1]) (va_Qv (fun x : Int32 × Int32 × Int32 × Int32 => True) (atW D (tyL cB cI cJ cZ cS cT) (va_A [(h0, .inr (6, [.ref h_draft, .int v0_kind, .int v0_start, .int v0_behind, .int v0_number, .int v0_fault, .int v0_faultAt])), (h_a1, .inr (9, [.ref h_a1_bytes, .int v_a1_length])), (h_a1_bytes, .inl (cB, 500, .inl f_a1_bytes))] sz) (fun x : Int32 × Int32 × Int32 × Int32 => [(h0, .inr (6, [.ref h_draft, .int x.1, .int x.2.1, .int x.2.2.1, .int x.2.2.2, .int v0_fault, .int v0_faultAt])), (h_a1, .inr (9, [.ref h_a1_bytes, .int v_a1_length])), (h_a1_bytes, .inl (cB, 500, .inl f_a1_bytes))])) (va_A [(h0, .inr (6, [.ref h_draft, .int v0_kind, .int v0_start, .int v0_behind, .int v0_number, .int v0_fault, .int v0_faultAt])), (h_a1, .inr (9, [.ref h_a1_bytes, .int v_a1_length])), (h_a1_bytes, .inl (cB, 500, .inl f_a1_bytes))] sz)) 0 0 (va_A [(h0, .inr (6, [.ref h_draft, .int v0_kind, .int v0_start, .int v0_behind, .int v0_number, .int v0_fault, .int v0_faultAt])), (h_a1, .inr (9, [.ref h_a1_bytes, .int v_a1_length])), (h_a1_bytes, .inl (cB, 500, .inl f_a1_bytes))] sz) := by
  refine metV (own := RX6) (by decide) rfl ?_
  intro p e s m below meth c Q hsz C hG hP hD hAB ret
  obtain ⟨hx, hb, hml, hown, hts, hK, hN, hT⟩ := id C
  subst hsz
  generalize hAe : va_A [(h0, .inr (6, [.ref h_draft, .int v0_kind, .int v0_start, .int v0_behind, .int v0_number, .int v0_fault, .int v0_faultAt])), (h_a1, .inr (9, [.ref h_a1_bytes, .int v_a1_length])), (h_a1_bytes, .inl (cB, 500, .inl f_a1_bytes))] s.heap.size = A at hD hAB ret ⊢
  have hA : ∀ q : Nat, s.heap.size ≤ q → A q := fun q h => by rw [← hAe]; exact Or.inr h
  have hS : va_S A s.heap s.heap [] := va_S.rf
  have hl := lv_entry ([.ref h0, .ref h_a1]) (n := 3) (Nat.le_of_ble_eq_true rfl)
  rw [lg_entry_eq]
  generalize (lg_sl ([.ref h0, .ref h_a1]) ++ List.replicate (3 - (lg_sl ([.ref h0, .ref h_a1])).length) Slot.unset).toArray = ls at hl ⊢
  have hl : lv_has ls 3 [(0, .ref h0), (1, .ref h_a1)] := hl
  have hP : va_P D vwCl [(h0, .inr (6, [.ref h_draft, .int v0_kind, .int v0_start, .int v0_behind, .int v0_number, .int v0_fault, .int v0_faultAt])), (h_a1, .inr (9, [.ref h_a1_bytes, .int v_a1_length])), (h_a1_bytes, .inl (cB, 500, .inl f_a1_bytes))] s.heap := hP
  refine lv_aload_n hx hb dX6_nextToken_0 rfl (lv_at hl 0 rfl) ?_
  refine lv_aload_n hx hb dX6_nextToken_1 rfl (lv_at hl 0 rfl) ?_
  refine va_get (D := D) (ci := 6) (v := .int v0_behind) (C := RX6) (T := TX6) (N := 7) hx hb hts inlX6 hown hK hP 0 rfl rfl 3 (by decide) (hts _ (inr9 _ (List.mem_of_getElem? (i := 15) rfl))) (fun _ h9 => h9) rfl dX6_nextToken_2 ?_
  refine va_put (D := D) (ci := 6) (v := .int v0_behind) (ty := .int) (C := RX6) (T := TX6) (N := 7) hx hb hts inlX6 tyX6 tyX6_ok nmX6 hown hK hP hD hS 0 rfl rfl 2 (by decide) (hts _ (inr10 _ (List.mem_of_getElem? (i := 23) rfl))) (fun _ h9 => h9) rfl (by decide +kernel) rfl rfl (Nat.le_of_ble_eq_true rfl) dX6_nextToken_5 (fun H locs hP hD hS => ?_)
  have hP : va_P D vwCl [(h0, .inr (6, [.ref h_draft, .int v0_kind, .int v0_behind, .int v0_behind, .int v0_number, .int v0_fault, .int v0_faultAt])), (h_a1, .inr (9, [.ref h_a1_bytes, .int v_a1_length])), (h_a1_bytes, .inl (cB, 500, .inl f_a1_bytes))] H := hP
  have hD : va_D A [(h0, .inr (6, [.ref h_draft, .int v0_kind, .int v0_behind, .int v0_behind, .int v0_number, .int v0_fault, .int v0_faultAt])), (h_a1, .inr (9, [.ref h_a1_bytes, .int v_a1_length])), (h_a1_bytes, .inl (cB, 500, .inl f_a1_bytes))] := hD
  exact b_X6_nextToken_l8 h0 h_draft v0_kind v0_behind v0_number v0_fault v0_faultAt h_a1 h_a1_bytes v_a1_length f_a1_bytes (by first | assumption | omega | decide) C hG hAB hA ret _ (v0_behind) _ _ _  (Nat.lt_succ_self _) (hP.sub [0, 1, 2] rfl) (hD.sub [0, 1, 2] (by decide) rfl) hS (lv_sub hl [0, 1] rfl)

set_option maxHeartbeats 4000000 in
set_option maxRecDepth 100000 in
theorem b_X6_fail (l : Launch) (G : Gho) (D : va_G) (cB cI cJ cZ cS cT : ClassId) (sz : Nat) (h0 : Nat) (h_draft : Nat) (v0_kind : Int32) (v0_start : Int32) (v0_behind : Int32) (v0_number : Int32) (v0_fault : Int32) (v0_faultAt : Int32) (v1 : Int32)  : Met l yX6_fail (Cond.code yX6_fail cX6_fail 2 none :: wsL_law) ({ frames := 0, cells := 0, slots := 0, locals := 0 }) (wrP G D (tyL cB cI cJ cZ cS cT) [(h0, .inr (6, [.ref h_draft, .int v0_kind, .int v0_start, .int v0_behind, .int v0_number, .int v0_fault, .int v0_faultAt]))] sz [.ref h0, .int v1]) (va_Qv (fun x : Int32 × Int32 => True) (atW D (tyL cB cI cJ cZ cS cT) (va_A [(h0, .inr (6, [.ref h_draft, .int v0_kind, .int v0_start, .int v0_behind, .int v0_number, .int v0_fault, .int v0_faultAt]))] sz) (fun x : Int32 × Int32 => [(h0, .inr (6, [.ref h_draft, .int v0_kind, .int v0_start, .int v0_behind, .int v0_number, .int x.1, .int x.2]))])) (va_A [(h0, .inr (6, [.ref h_draft, .int v0_kind, .int v0_start, .int v0_behind, .int v0_number, .int v0_fault, .int v0_faultAt]))] sz)) 0 0 (va_A [(h0, .inr (6, [.ref h_draft, .int v0_kind, .int v0_start, .int v0_behind, .int v0_number, .int v0_fault, .int v0_faultAt]))] sz) := by
  refine metV (own := RX6) (by decide) rfl ?_
  intro p e s m below meth c Q hsz C hG hP hD hAB ret
  obtain ⟨hx, hb, hml, hown, hts, hK, hN, hT⟩ := id C
  subst hsz
  generalize hAe : va_A [(h0, .inr (6, [.ref h_draft, .int v0_kind, .int v0_start, .int v0_behind, .int v0_number, .int v0_fault, .int v0_faultAt]))] s.heap.size = A at hD hAB ret ⊢
  have hA : ∀ q : Nat, s.heap.size ≤ q → A q := fun q h => by rw [← hAe]; exact Or.inr h
  have hS : va_S A s.heap s.heap [] := va_S.rf
  have hl := lv_entry ([.ref h0, .int v1]) (n := 2) (Nat.le_of_ble_eq_true rfl)
  rw [lg_entry_eq]
  generalize (lg_sl ([.ref h0, .int v1]) ++ List.replicate (2 - (lg_sl ([.ref h0, .int v1])).length) Slot.unset).toArray = ls at hl ⊢
  have hl : lv_has ls 2 [(0, .ref h0), (1, .int v1)] := hl
  have hP : va_P D vwCl [(h0, .inr (6, [.ref h_draft, .int v0_kind, .int v0_start, .int v0_behind, .int v0_number, .int v0_fault, .int v0_faultAt]))] s.heap := hP
  refine lv_aload_n hx hb dX6_fail_0 rfl (lv_at hl 0 rfl) ?_
  refine va_get (D := D) (ci := 6) (v := .int v0_fault) (C := RX6) (T := TX6) (N := 7) hx hb hts inlX6 hown hK hP 0 rfl rfl 5 (by decide) (hts _ (inr9 _ (List.mem_of_getElem? (i := 14) rfl))) (fun _ h9 => h9) rfl dX6_fail_1 ?_
  refine lv_if_ne (tgt := 20) hx hb dX6_fail_4 (by decide) (fun c_1 => ?_) (fun c_1 => ?_)
  · have c_1 : ¬ v0_fault.toInt = 0 := ci_ne_t c_1
    have b_v0_fault := i32b v0_fault
    exact ret _ _ _ _ (v0_fault, v0_faultAt) dX6_fail_20 trivial (hP.sub [0] rfl) (hD.sub [0] (by decide) rfl) hS
  · have c_1 : v0_fault.toInt = 0 := ci_ne_f c_1
    have b_v0_fault := i32b v0_fault
    refine lv_aload_n hx hb dX6_fail_7 rfl (lv_at hl 0 rfl) ?_
    refine lv_iload_n hx hb dX6_fail_8 rfl (lv_at hl 1 rfl) ?_
    refine va_put (D := D) (ci := 6) (v := .int v1) (ty := .int) (C := RX6) (T := TX6) (N := 7) hx hb hts inlX6 tyX6 tyX6_ok nmX6 hown hK hP hD hS 0 rfl rfl 5 (by decide) (hts _ (inr9 _ (List.mem_of_getElem? (i := 14) rfl))) (fun _ h9 => h9) rfl (by decide +kernel) rfl rfl (Nat.le_of_ble_eq_true rfl) dX6_fail_9 (fun H locs hP hD hS => ?_)
    have hP : va_P D vwCl [(h0, .inr (6, [.ref h_draft, .int v0_kind, .int v0_start, .int v0_behind, .int v0_number, .int v1, .int v0_faultAt]))] H := hP
    have hD : va_D A [(h0, .inr (6, [.ref h_draft, .int v0_kind, .int v0_start, .int v0_behind, .int v0_number, .int v1, .int v0_faultAt]))] := hD
    refine lv_aload_n hx hb dX6_fail_12 rfl (lv_at hl 0 rfl) ?_
    refine lv_aload_n hx hb dX6_fail_13 rfl (lv_at hl 0 rfl) ?_
    refine va_get (D := D) (ci := 6) (v := .int v0_start) (C := RX6) (T := TX6) (N := 7) hx hb hts inlX6 hown hK hP 0 rfl rfl 2 (by decide) (hts _ (inr10 _ (List.mem_of_getElem? (i := 23) rfl))) (fun _ h9 => h9) rfl dX6_fail_14 ?_
    refine va_put (D := D) (ci := 6) (v := .int v0_start) (ty := .int) (C := RX6) (T := TX6) (N := 7) hx hb hts inlX6 tyX6 tyX6_ok nmX6 hown hK hP hD hS 0 rfl rfl 6 (by decide) (hts _ (inr3 _ (List.mem_of_getElem? (i := 20) rfl))) (fun _ h9 => h9) rfl (by decide +kernel) rfl rfl (Nat.le_of_ble_eq_true rfl) dX6_fail_17 (fun H locs hP hD hS => ?_)
    have hP : va_P D vwCl [(h0, .inr (6, [.ref h_draft, .int v0_kind, .int v0_start, .int v0_behind, .int v0_number, .int v1, .int v0_start]))] H := hP
    have hD : va_D A [(h0, .inr (6, [.ref h_draft, .int v0_kind, .int v0_start, .int v0_behind, .int v0_number, .int v1, .int v0_start]))] := hD
    exact ret _ _ _ _ (v1, v0_start) dX6_fail_20 trivial (hP.sub [0] rfl) (hD.sub [0] (by decide) rfl) hS

set_option maxHeartbeats 4000000 in
set_option maxRecDepth 100000 in
theorem b_X6_isWord_l28 {p : Program} {l : Launch} {e : Env} {s : State} {m : MethodId} {args : Array Value} {below : List Frame} {meth : Method} {c : Code} {Q : State → Prop} {G : Gho} {D : va_G} {cB cI cJ cZ cS cT : ClassId} (h0 : Nat) (h_draft : Nat) (v0_kind : Int32) (v0_start : Int32) (v0_behind : Int32) (v0_number : Int32) (v0_fault : Int32) (v0_faultAt : Int32) (h_a1 : Nat) (h_a1_bytes : Nat) (v_a1_length : Int32) (f_a1_bytes : Nat → Int32) (j : Nat) (iv_a1_length : 0 ≤ v_a1_length.toInt ∧ v_a1_length.toInt ≤ 500) (hj : j < 11) (zv0_kind : 1 ≤ v0_kind.toInt ∧ v0_kind.toInt ≤ 1) (c_1 : v0_kind.toInt = 1) (C : Cx p s m args c RX6 cX6_isWord 4 G D (tyL cB cI cJ cZ cS cT)) (hP : va_P D vwCl [(h0, .inr (6, [.ref h_draft, .int v0_kind, .int v0_start, .int v0_behind, .int v0_number, .int v0_fault, .int v0_faultAt])), (h_a1, .inr (9, [.ref h_a1_bytes, .int v_a1_length])), (h_a1_bytes, .inl (cB, 500, .inl f_a1_bytes))] s.heap) (ret : RroI p l e ({ frames := 4, cells := 0, slots := 0, locals := 85 }) s m args below meth c cX6_isWord (fun r : Int32 => (r = 0 ∨ r = 1)) Q) :
    ∀ (N : Nat) (l28_3 : Int32) (ls : Array Slot), 0 ≤ l28_3.toInt → (((strL.getD j 0 : Nat) : Int) - l28_3.toInt).toNat < N → lv_has ls 4 [(3, .int l28_3), (0, .ref h0), (1, .ref h_a1), (2, .ref (G.2.1 j))] → W p l e ({ frames := 4, cells := 0, slots := 0, locals := 85 }) s m args below meth c s.heap [] 0 0 Q (F0 m 28 ls []) := by
  obtain ⟨hx, hb, hml, hown, hts, hK, hN, hT⟩ := id C
  intro N
  induction N with
  | zero =>
    intro l28_3 ls kl28_3 hM_28 hl
    omega
  | succ N_28 ih_28 =>
    intro l28_3 ls kl28_3 hM_28 hl
    have b_l28_3 := i32b l28_3
    refine lv_iload_n hx hb dX6_isWord_28 rfl (lv_at hl 0 rfl) ?_
    refine lv_aload_n hx hb dX6_isWord_29 rfl (lv_at hl 3 rfl) ?_
    refine roSi (As := []) (rest := [.int l28_3]) ⟨hx, hb, hml, hown, hts⟩ (b_length l G D cB cI cJ cZ cS cT j (by first | assumption | omega | decide)) (cvB (n := 0) (inr12 _ (List.mem_of_getElem? (i := 18) rfl)) (inr12 _ (List.mem_of_getElem? (i := 19) rfl)) (inr12 _ (List.mem_of_getElem? (i := 20) rfl)) (inr12 _ (List.mem_of_getElem? (i := 21) rfl)) (inr12 _ (List.mem_of_getElem? (i := 22) rfl)) (by decide +kernel) hts rfl rfl ⟨Nat.le_of_ble_eq_true rfl, Nat.le_of_ble_eq_true rfl⟩) (by first | assumption | decide) (hP.sub [] rfl) hK hN hT rfl hl.1 rfl (Nat.le_of_ble_eq_true rfl) ⟨Nat.le_of_ble_eq_true rfl, Nat.le_of_ble_eq_true rfl⟩ dX6_isWord_30 (fun r_7 h_8 => ?_)
    have h_8 : (r_7.toInt = ((strL.getD j 0 : Nat) : Int)) := h_8
    have i_9 := h_8
    refine lv_icmp_ge (tgt := 62) hx hb dX6_isWord_33 (by decide) (fun c_10 => ?_) (fun c_10 => ?_)
    · have c_10 : r_7.toInt ≤ l28_3.toInt := ci_ge_t c_10
      have b_r_7 := i32b r_7
      refine lv_iconst (v := 1) hx hb dX6_isWord_62 (by decide) ?_
      have hr9 : (1 : Int32).toInt = 1 := by decide
      exact ret _ _ _ dX6_isWord_63 (show ((1 : Int32) = 0 ∨ (1 : Int32) = 1) from (Or.inr rfl))
    · have c_10 : l28_3.toInt < r_7.toInt := ci_ge_f c_10
      have b_r_7 := i32b r_7
      refine lv_aload_n hx hb dX6_isWord_36 rfl (lv_at hl 2 rfl) ?_
      refine lv_aload_n hx hb dX6_isWord_37 rfl (lv_at hl 1 rfl) ?_
      refine va_get (D := D) (ci := 6) (v := .int v0_start) (C := RX6) (T := TX6) (N := 7) hx hb hts inlX6 hown hK hP 0 rfl rfl 2 (by decide) (hts _ (inr10 _ (List.mem_of_getElem? (i := 23) rfl))) (fun _ h9 => h9) rfl dX6_isWord_38 ?_
      refine lv_iload_n hx hb dX6_isWord_41 rfl (lv_at hl 0 rfl) ?_
      obtain ⟨t_11, et_11⟩ : ∃ v9 : Int32, v0_start + l28_3 = v9 := ⟨_, rfl⟩
      refine z_iadd (v := t_11) hx hb dX6_isWord_42 et_11 ?_
      refine roi (As := [.int t_11]) (rest := []) ⟨hx, hb, hml, hown, hts⟩ (b_X9_byteAt l G D cB cI cJ cZ cS cT h_a1 h_a1_bytes v_a1_length f_a1_bytes t_11 (by first | assumption | omega | decide)) (cvB (n := 1) (inr11 _ (List.mem_of_getElem? (i := 0) rfl)) (inr11 _ (List.mem_of_getElem? (i := 1) rfl)) (inr11 _ (List.mem_of_getElem? (i := 2) rfl)) (inr1 _ (List.mem_of_getElem? (i := 15) rfl)) (inr11 _ (List.mem_of_getElem? (i := 3) rfl)) (by decide +kernel) hts rfl rfl ⟨Nat.le_of_ble_eq_true rfl, Nat.le_of_ble_eq_true rfl⟩) 0 9 rfl rfl rfl (hP.sub [1, 2] rfl) hK hN hT rfl hl.1 rfl (Nat.le_of_ble_eq_true rfl) ⟨Nat.le_of_ble_eq_true rfl, Nat.le_of_ble_eq_true rfl⟩ dX6_isWord_43 (fun r_12 h_13 => ?_)
      refine lv_aload_n hx hb dX6_isWord_46 rfl (lv_at hl 3 rfl) ?_
      refine lv_iload_n hx hb dX6_isWord_47 rfl (lv_at hl 0 rfl) ?_
      refine roSi (As := [.int l28_3]) (rest := [.int r_12]) ⟨hx, hb, hml, hown, hts⟩ (b_charAt l G D cB cI cJ cZ cS cT j l28_3 (by first | assumption | omega | decide) (by first | assumption | omega | decide) (by first | assumption | omega | decide)) (cvB (n := 1) (inr13 _ (List.mem_of_getElem? (i := 6) rfl)) (inr13 _ (List.mem_of_getElem? (i := 7) rfl)) (inr13 _ (List.mem_of_getElem? (i := 8) rfl)) (inr12 _ (List.mem_of_getElem? (i := 21) rfl)) (inr13 _ (List.mem_of_getElem? (i := 9) rfl)) (by decide +kernel) hts rfl rfl ⟨Nat.le_of_ble_eq_true rfl, Nat.le_of_ble_eq_true rfl⟩) (by first | assumption | decide) (hP.sub [] rfl) hK hN hT rfl hl.1 rfl (Nat.le_of_ble_eq_true rfl) ⟨Nat.le_of_ble_eq_true rfl, Nat.le_of_ble_eq_true rfl⟩ dX6_isWord_48 (fun r_14 h_15 => ?_)
      have h_15 : (narrow .char (.int r_14) = .int r_14) := h_15
      have i_16 := h_15
      refine lv_icmp_eq (tgt := 56) hx hb dX6_isWord_51 (by decide) (fun c_17 => ?_) (fun c_17 => ?_)
      · have c_17 : r_12.toInt = r_14.toInt := ci_eq_t c_17
        have b_r_12 := i32b r_12
        have b_r_14 := i32b r_14
        obtain ⟨t_18, et_18⟩ : ∃ v9 : Int32, l28_3 + 1 = v9 := ⟨_, rfl⟩
        have ft_18 : t_18.toInt = l28_3.toInt + 1 := addT (a := l28_3.toInt) (b := 1) rfl (by decide) et_18 (by omega) (by omega)
        refine lv_iinc (v := t_18) (lv' := [(3, .int t_18), (0, .ref h0), (1, .ref h_a1), (2, .ref (G.2.1 j))]) hx hb dX6_isWord_56 hl (k := 0) rfl (by rw [← et_18]; rfl) (by decide) rfl (fun ls hl => ?_)
        refine lv_goto (tgt := 28) hx hb dX6_isWord_59 (by decide) ?_
        exact ih_28 (t_18) _ (by first | assumption | omega | decide) (by omega) (lv_sub hl [0, 1, 2, 3] rfl)
      · have c_17 : ¬ r_12.toInt = r_14.toInt := ci_eq_f c_17
        have b_r_12 := i32b r_12
        have b_r_14 := i32b r_14
        refine lv_iconst (v := 0) hx hb dX6_isWord_54 (by decide) ?_
        have hr9 : (0 : Int32).toInt = 0 := by decide
        exact ret _ _ _ dX6_isWord_55 (show ((0 : Int32) = 0 ∨ (0 : Int32) = 1) from (Or.inl rfl))

set_option maxHeartbeats 4000000 in
set_option maxRecDepth 100000 in
theorem b_X6_isWord (l : Launch) (G : Gho) (D : va_G) (cB cI cJ cZ cS cT : ClassId) (h0 : Nat) (h_draft : Nat) (v0_kind : Int32) (v0_start : Int32) (v0_behind : Int32) (v0_number : Int32) (v0_fault : Int32) (v0_faultAt : Int32) (h_a1 : Nat) (h_a1_bytes : Nat) (v_a1_length : Int32) (f_a1_bytes : Nat → Int32) (j : Nat) (iv_a1_length : 0 ≤ v_a1_length.toInt ∧ v_a1_length.toInt ≤ 500) (hj : j < 11) : Met l yX6_isWord (Cond.code yX6_isWord cX6_isWord 4 (some .boolean) :: wsL_law) ({ frames := 4, cells := 0, slots := 0, locals := 85 }) (roP G D (tyL cB cI cJ cZ cS cT) [(h0, .inr (6, [.ref h_draft, .int v0_kind, .int v0_start, .int v0_behind, .int v0_number, .int v0_fault, .int v0_faultAt])), (h_a1, .inr (9, [.ref h_a1_bytes, .int v_a1_length])), (h_a1_bytes, .inl (cB, 500, .inl f_a1_bytes))] [.ref h0, .ref h_a1, .ref (G.2.1 j)]) (vp_Si (fun r : Int32 => (r = 0 ∨ r = 1))) 0 0 (fun _ => False) := by
  refine metROZ (own := RX6) (by decide) rfl (fun r h => h) ?_
  intro p e s m below meth c Q C hP ret
  obtain ⟨hx, hb, hml, hown, hts, hK, hN, hT⟩ := id C
  have hl := lv_entry ([.ref h0, .ref h_a1, .ref (G.2.1 j)]) (n := 4) (Nat.le_of_ble_eq_true rfl)
  rw [lg_entry_eq]
  generalize (lg_sl ([.ref h0, .ref h_a1, .ref (G.2.1 j)]) ++ List.replicate (4 - (lg_sl ([.ref h0, .ref h_a1, .ref (G.2.1 j)])).length) Slot.unset).toArray = ls at hl ⊢
  have hl : lv_has ls 4 [(0, .ref h0), (1, .ref h_a1), (2, .ref (G.2.1 j))] := hl
  have hP : va_P D vwCl [(h0, .inr (6, [.ref h_draft, .int v0_kind, .int v0_start, .int v0_behind, .int v0_number, .int v0_fault, .int v0_faultAt])), (h_a1, .inr (9, [.ref h_a1_bytes, .int v_a1_length])), (h_a1_bytes, .inl (cB, 500, .inl f_a1_bytes))] s.heap := hP
  refine lv_aload_n hx hb dX6_isWord_0 rfl (lv_at hl 0 rfl) ?_
  refine va_get (D := D) (ci := 6) (v := .int v0_kind) (C := RX6) (T := TX6) (N := 7) hx hb hts inlX6 hown hK hP 0 rfl rfl 1 (by decide) (hts _ (inr9 _ (List.mem_of_getElem? (i := 16) rfl))) (fun _ h9 => h9) rfl dX6_isWord_1 ?_
  refine lv_iconst (v := 1) hx hb dX6_isWord_4 (by decide) ?_
  refine lv_icmp_ne (tgt := 24) hx hb dX6_isWord_5 (by decide) (fun c_1 => ?_) (fun c_1 => ?_)
  · have c_1 : ¬ v0_kind.toInt = 1 := ci_ne_t c_1
    have b_v0_kind := i32b v0_kind
    refine lv_iconst (v := 0) hx hb dX6_isWord_24 (by decide) ?_
    have hr9 : (0 : Int32).toInt = 0 := by decide
    exact ret _ _ _ dX6_isWord_25 (show ((0 : Int32) = 0 ∨ (0 : Int32) = 1) from (Or.inl rfl))
  · have c_1 : v0_kind.toInt = 1 := ci_ne_f c_1
    have b_v0_kind := i32b v0_kind
    refine lv_aload_n hx hb dX6_isWord_8 rfl (lv_at hl 0 rfl) ?_
    refine va_get (D := D) (ci := 6) (v := .int v0_behind) (C := RX6) (T := TX6) (N := 7) hx hb hts inlX6 hown hK hP 0 rfl rfl 3 (by decide) (hts _ (inr9 _ (List.mem_of_getElem? (i := 15) rfl))) (fun _ h9 => h9) rfl dX6_isWord_9 ?_
    refine lv_aload_n hx hb dX6_isWord_12 rfl (lv_at hl 0 rfl) ?_
    refine va_get (D := D) (ci := 6) (v := .int v0_start) (C := RX6) (T := TX6) (N := 7) hx hb hts inlX6 hown hK hP 0 rfl rfl 2 (by decide) (hts _ (inr10 _ (List.mem_of_getElem? (i := 23) rfl))) (fun _ h9 => h9) rfl dX6_isWord_13 ?_
    obtain ⟨t_2, et_2⟩ : ∃ v9 : Int32, v0_behind - v0_start = v9 := ⟨_, rfl⟩
    refine z_isub (v := t_2) hx hb dX6_isWord_16 et_2 ?_
    refine lv_aload_n hx hb dX6_isWord_17 rfl (lv_at hl 2 rfl) ?_
    refine roSi (As := []) (rest := [.int t_2]) ⟨hx, hb, hml, hown, hts⟩ (b_length l G D cB cI cJ cZ cS cT j (by first | assumption | omega | decide)) (cvB (n := 0) (inr12 _ (List.mem_of_getElem? (i := 18) rfl)) (inr12 _ (List.mem_of_getElem? (i := 19) rfl)) (inr12 _ (List.mem_of_getElem? (i := 20) rfl)) (inr12 _ (List.mem_of_getElem? (i := 21) rfl)) (inr12 _ (List.mem_of_getElem? (i := 22) rfl)) (by decide +kernel) hts rfl rfl ⟨Nat.le_of_ble_eq_true rfl, Nat.le_of_ble_eq_true rfl⟩) (by first | assumption | decide) (hP.sub [] rfl) hK hN hT rfl hl.1 rfl (Nat.le_of_ble_eq_true rfl) ⟨Nat.le_of_ble_eq_true rfl, Nat.le_of_ble_eq_true rfl⟩ dX6_isWord_18 (fun r_3 h_4 => ?_)
    have h_4 : (r_3.toInt = ((strL.getD j 0 : Nat) : Int)) := h_4
    have i_5 := h_4
    refine lv_icmp_eq (tgt := 26) hx hb dX6_isWord_21 (by decide) (fun c_6 => ?_) (fun c_6 => ?_)
    · have c_6 : t_2.toInt = r_3.toInt := ci_eq_t c_6
      have b_t_2 := i32b t_2
      have b_r_3 := i32b r_3
      refine lv_iconst (v := 0) hx hb dX6_isWord_26 (by decide) ?_
      refine lv_istore_n (lv' := [(3, .int 0), (0, .ref h0), (1, .ref h_a1), (2, .ref (G.2.1 j))]) hx hb dX6_isWord_27 rfl hl (by decide) rfl (fun ls hl => ?_)
      exact b_X6_isWord_l28 h0 h_draft v0_kind v0_start v0_behind v0_number v0_fault v0_faultAt h_a1 h_a1_bytes v_a1_length f_a1_bytes j (by first | assumption | omega | decide) (by first | assumption | omega | decide) (by first | assumption | omega | decide) (by first | assumption | omega | decide) C (hP.sub [0, 1, 2] rfl) ret _ (0) _ (by first | assumption | omega | decide) (Nat.lt_succ_self _) (lv_sub hl [0, 1, 2, 3] rfl)
    · have c_6 : ¬ t_2.toInt = r_3.toInt := ci_eq_f c_6
      have b_t_2 := i32b t_2
      have b_r_3 := i32b r_3
      refine lv_iconst (v := 0) hx hb dX6_isWord_24 (by decide) ?_
      have hr9 : (0 : Int32).toInt = 0 := by decide
      exact ret _ _ _ dX6_isWord_25 (show ((0 : Int32) = 0 ∨ (0 : Int32) = 1) from (Or.inl rfl))

set_option maxHeartbeats 4000000 in
set_option maxRecDepth 100000 in
theorem b_X6_takeWord (l : Launch) (G : Gho) (D : va_G) (cB cI cJ cZ cS cT : ClassId) (sz : Nat) (h0 : Nat) (h_draft : Nat) (v0_kind : Int32) (v0_start : Int32) (v0_behind : Int32) (v0_number : Int32) (v0_fault : Int32) (v0_faultAt : Int32) (h_a1 : Nat) (h_a1_bytes : Nat) (v_a1_length : Int32) (f_a1_bytes : Nat → Int32) (j : Nat) (iv_a1_length : 0 ≤ v_a1_length.toInt ∧ v_a1_length.toInt ≤ 500) (hj : j < 11) : Met l yX6_takeWord (Cond.code yX6_takeWord cX6_takeWord 3 none :: wsL_law) ({ frames := 5, cells := 0, slots := 0, locals := 108 }) (wrP G D (tyL cB cI cJ cZ cS cT) [(h0, .inr (6, [.ref h_draft, .int v0_kind, .int v0_start, .int v0_behind, .int v0_number, .int v0_fault, .int v0_faultAt])), (h_a1, .inr (9, [.ref h_a1_bytes, .int v_a1_length])), (h_a1_bytes, .inl (cB, 500, .inl f_a1_bytes))] sz [.ref h0, .ref h_a1, .ref (G.2.1 j)]) (va_Qv (fun x : Int32 × Int32 × Int32 × Int32 × Int32 × Int32 => True) (atW D (tyL cB cI cJ cZ cS cT) (va_A [(h0, .inr (6, [.ref h_draft, .int v0_kind, .int v0_start, .int v0_behind, .int v0_number, .int v0_fault, .int v0_faultAt])), (h_a1, .inr (9, [.ref h_a1_bytes, .int v_a1_length])), (h_a1_bytes, .inl (cB, 500, .inl f_a1_bytes))] sz) (fun x : Int32 × Int32 × Int32 × Int32 × Int32 × Int32 => [(h0, .inr (6, [.ref h_draft, .int x.1, .int x.2.1, .int x.2.2.1, .int x.2.2.2.1, .int x.2.2.2.2.1, .int x.2.2.2.2.2])), (h_a1, .inr (9, [.ref h_a1_bytes, .int v_a1_length])), (h_a1_bytes, .inl (cB, 500, .inl f_a1_bytes))])) (va_A [(h0, .inr (6, [.ref h_draft, .int v0_kind, .int v0_start, .int v0_behind, .int v0_number, .int v0_fault, .int v0_faultAt])), (h_a1, .inr (9, [.ref h_a1_bytes, .int v_a1_length])), (h_a1_bytes, .inl (cB, 500, .inl f_a1_bytes))] sz)) 0 0 (va_A [(h0, .inr (6, [.ref h_draft, .int v0_kind, .int v0_start, .int v0_behind, .int v0_number, .int v0_fault, .int v0_faultAt])), (h_a1, .inr (9, [.ref h_a1_bytes, .int v_a1_length])), (h_a1_bytes, .inl (cB, 500, .inl f_a1_bytes))] sz) := by
  refine metV (own := RX6) (by decide) rfl ?_
  intro p e s m below meth c Q hsz C hG hP hD hAB ret
  obtain ⟨hx, hb, hml, hown, hts, hK, hN, hT⟩ := id C
  subst hsz
  generalize hAe : va_A [(h0, .inr (6, [.ref h_draft, .int v0_kind, .int v0_start, .int v0_behind, .int v0_number, .int v0_fault, .int v0_faultAt])), (h_a1, .inr (9, [.ref h_a1_bytes, .int v_a1_length])), (h_a1_bytes, .inl (cB, 500, .inl f_a1_bytes))] s.heap.size = A at hD hAB ret ⊢
  have hA : ∀ q : Nat, s.heap.size ≤ q → A q := fun q h => by rw [← hAe]; exact Or.inr h
  have hS : va_S A s.heap s.heap [] := va_S.rf
  have hl := lv_entry ([.ref h0, .ref h_a1, .ref (G.2.1 j)]) (n := 3) (Nat.le_of_ble_eq_true rfl)
  rw [lg_entry_eq]
  generalize (lg_sl ([.ref h0, .ref h_a1, .ref (G.2.1 j)]) ++ List.replicate (3 - (lg_sl ([.ref h0, .ref h_a1, .ref (G.2.1 j)])).length) Slot.unset).toArray = ls at hl ⊢
  have hl : lv_has ls 3 [(0, .ref h0), (1, .ref h_a1), (2, .ref (G.2.1 j))] := hl
  have hP : va_P D vwCl [(h0, .inr (6, [.ref h_draft, .int v0_kind, .int v0_start, .int v0_behind, .int v0_number, .int v0_fault, .int v0_faultAt])), (h_a1, .inr (9, [.ref h_a1_bytes, .int v_a1_length])), (h_a1_bytes, .inl (cB, 500, .inl f_a1_bytes))] s.heap := hP
  refine lv_aload_n hx hb dX6_takeWord_0 rfl (lv_at hl 0 rfl) ?_
  refine lv_aload_n hx hb dX6_takeWord_1 rfl (lv_at hl 1 rfl) ?_
  refine lv_aload_n hx hb dX6_takeWord_2 rfl (lv_at hl 2 rfl) ?_
  refine roi (As := [.ref h_a1, .ref (G.2.1 j)]) (rest := []) ⟨hx, hb, hml, hown, hts⟩ (b_X6_isWord l G D cB cI cJ cZ cS cT h0 h_draft v0_kind v0_start v0_behind v0_number v0_fault v0_faultAt h_a1 h_a1_bytes v_a1_length f_a1_bytes j (by first | assumption | omega | decide) (by first | assumption | omega | decide)) (cvB (n := 2) (inr12 _ (List.mem_of_getElem? (i := 14) rfl)) (inr12 _ (List.mem_of_getElem? (i := 15) rfl)) (inr12 _ (List.mem_of_getElem? (i := 16) rfl)) (inr1 _ (List.mem_of_getElem? (i := 19) rfl)) (inr12 _ (List.mem_of_getElem? (i := 17) rfl)) (by decide +kernel) hts rfl rfl ⟨Nat.le_of_ble_eq_true rfl, Nat.le_of_ble_eq_true rfl⟩) 0 6 rfl rfl rfl (hP.sub [0, 1, 2] rfl) hK hN (kT.to hT hS hAB) rfl hl.1 rfl (Nat.le_of_ble_eq_true rfl) ⟨Nat.le_of_ble_eq_true rfl, Nat.le_of_ble_eq_true rfl⟩ dX6_takeWord_3 (fun r_1 h_2 => ?_)
  have h_2 : (r_1 = 0 ∨ r_1 = 1) := h_2
  have i_3 := h_2
  have ar_1 : 0 ≤ r_1.toInt ∧ r_1.toInt ≤ 1 := by rcases i_3 with h | h <;> rw [h] <;> decide
  refine lv_if_ne (tgt := 14) hx hb dX6_takeWord_6 (by decide) (fun c_4 => ?_) (fun c_4 => ?_)
  · have c_4 : ¬ r_1.toInt = 0 := ci_ne_t c_4
    have b_r_1 := i32b r_1
    refine lv_aload_n hx hb dX6_takeWord_14 rfl (lv_at hl 0 rfl) ?_
    refine va_get (D := D) (ci := 6) (v := .int v0_fault) (C := RX6) (T := TX6) (N := 7) hx hb hts inlX6 hown hK hP 0 rfl rfl 5 (by decide) (hts _ (inr9 _ (List.mem_of_getElem? (i := 14) rfl))) (fun _ h9 => h9) rfl dX6_takeWord_15 ?_
    refine lv_if_ne (tgt := 26) hx hb dX6_takeWord_18 (by decide) (fun c_5 => ?_) (fun c_5 => ?_)
    · have c_5 : ¬ v0_fault.toInt = 0 := ci_ne_t c_5
      have b_v0_fault := i32b v0_fault
      exact ret _ _ _ _ (v0_kind, v0_start, v0_behind, v0_number, v0_fault, v0_faultAt) dX6_takeWord_26 trivial (hP.sub [0, 1, 2] rfl) (hD.sub [0, 1, 2] (by decide) rfl) hS
    · have c_5 : v0_fault.toInt = 0 := ci_ne_f c_5
      have b_v0_fault := i32b v0_fault
      refine lv_aload_n hx hb dX6_takeWord_21 rfl (lv_at hl 0 rfl) ?_
      refine lv_aload_n hx hb dX6_takeWord_22 rfl (lv_at hl 1 rfl) ?_
      refine wrVv (As := [.ref h_a1]) (rest := []) (wr := []) ⟨hx, hb, hml, hown, hts⟩ (b_X6_nextToken l G D cB cI cJ cZ cS cT s.heap.size h0 h_draft v0_kind v0_start v0_behind v0_number v0_fault v0_faultAt h_a1 h_a1_bytes v_a1_length f_a1_bytes (by first | assumption | omega | decide)) hP hD hS hA hK hN hT hAB hG [0, 1, 2] [] rfl rfl (by decide) (by decide) (by decide) (cvB (n := 1) (inr10 _ (List.mem_of_getElem? (i := 19) rfl)) (inr10 _ (List.mem_of_getElem? (i := 20) rfl)) (inr10 _ (List.mem_of_getElem? (i := 21) rfl)) (inr1 _ (List.mem_of_getElem? (i := 19) rfl)) (inr10 _ (List.mem_of_getElem? (i := 22) rfl)) (by decide +kernel) hts rfl rfl ⟨Nat.le_of_ble_eq_true rfl, Nat.le_of_ble_eq_true rfl⟩) 0 6 rfl rfl rfl rfl hl.1 rfl (Nat.le_of_ble_eq_true rfl) ⟨Nat.le_of_ble_eq_true rfl, Nat.le_of_ble_eq_true rfl⟩ dX6_takeWord_23 (fun x9 H locs h_7 hP hD hS => ?_)
      obtain ⟨t_8, t_9, t_10, t_11⟩ := x9
      have hP : va_P D vwCl [(h0, .inr (6, [.ref h_draft, .int t_8, .int t_9, .int t_10, .int t_11, .int v0_fault, .int v0_faultAt])), (h_a1, .inr (9, [.ref h_a1_bytes, .int v_a1_length])), (h_a1_bytes, .inl (cB, 500, .inl f_a1_bytes))] H := hP
      have hD : va_D A [(h0, .inr (6, [.ref h_draft, .int t_8, .int t_9, .int t_10, .int t_11, .int v0_fault, .int v0_faultAt])), (h_a1, .inr (9, [.ref h_a1_bytes, .int v_a1_length])), (h_a1_bytes, .inl (cB, 500, .inl f_a1_bytes))] := hD
      exact ret _ _ _ _ (t_8, t_9, t_10, t_11, v0_fault, v0_faultAt) dX6_takeWord_26 trivial (hP.sub [0, 1, 2] rfl) (hD.sub [0, 1, 2] (by decide) rfl) hS
  · have c_4 : r_1.toInt = 0 := ci_ne_f c_4
    have b_r_1 := i32b r_1
    refine lv_aload_n hx hb dX6_takeWord_9 rfl (lv_at hl 0 rfl) ?_
    refine lv_iconst (v := 1) hx hb dX6_takeWord_10 (by decide) ?_
    refine wrVv (As := [.int 1]) (rest := []) (wr := [(h_a1, .inr (9, [.ref h_a1_bytes, .int v_a1_length])), (h_a1_bytes, .inl (cB, 500, .inl f_a1_bytes))]) ⟨hx, hb, hml, hown, hts⟩ (b_X6_fail l G D cB cI cJ cZ cS cT s.heap.size h0 h_draft v0_kind v0_start v0_behind v0_number v0_fault v0_faultAt 1 ) hP hD hS hA hK hN hT hAB hG [0] [1, 2] rfl rfl (by decide) (by decide) (by decide) (cvB (n := 1) (inr14 _ (List.mem_of_getElem? (i := 19) rfl)) (inr14 _ (List.mem_of_getElem? (i := 20) rfl)) (inr14 _ (List.mem_of_getElem? (i := 21) rfl)) (inr1 _ (List.mem_of_getElem? (i := 19) rfl)) (inr14 _ (List.mem_of_getElem? (i := 22) rfl)) (by decide +kernel) hts rfl rfl ⟨Nat.le_of_ble_eq_true rfl, Nat.le_of_ble_eq_true rfl⟩) 0 6 rfl rfl rfl rfl hl.1 rfl (Nat.le_of_ble_eq_true rfl) ⟨Nat.le_of_ble_eq_true rfl, Nat.le_of_ble_eq_true rfl⟩ dX6_takeWord_11 (fun x9 H locs h_13 hP hD hS => ?_)
    obtain ⟨t_14, t_15⟩ := x9
    have hP : va_P D vwCl [(h_a1, .inr (9, [.ref h_a1_bytes, .int v_a1_length])), (h_a1_bytes, .inl (cB, 500, .inl f_a1_bytes)), (h0, .inr (6, [.ref h_draft, .int v0_kind, .int v0_start, .int v0_behind, .int v0_number, .int t_14, .int t_15]))] H := hP
    have hD : va_D A [(h_a1, .inr (9, [.ref h_a1_bytes, .int v_a1_length])), (h_a1_bytes, .inl (cB, 500, .inl f_a1_bytes)), (h0, .inr (6, [.ref h_draft, .int v0_kind, .int v0_start, .int v0_behind, .int v0_number, .int t_14, .int t_15]))] := hD
    refine lv_aload_n hx hb dX6_takeWord_14 rfl (lv_at hl 0 rfl) ?_
    refine va_get (D := D) (ci := 6) (v := .int t_14) (C := RX6) (T := TX6) (N := 7) hx hb hts inlX6 hown hK hP 2 rfl rfl 5 (by decide) (hts _ (inr9 _ (List.mem_of_getElem? (i := 14) rfl))) (fun _ h9 => h9) rfl dX6_takeWord_15 ?_
    refine lv_if_ne (tgt := 26) hx hb dX6_takeWord_18 (by decide) (fun c_16 => ?_) (fun c_16 => ?_)
    · have c_16 : ¬ t_14.toInt = 0 := ci_ne_t c_16
      have b_t_14 := i32b t_14
      exact ret _ _ _ _ (v0_kind, v0_start, v0_behind, v0_number, t_14, t_15) dX6_takeWord_26 trivial (hP.sub [2, 0, 1] rfl) (hD.sub [2, 0, 1] (by decide) rfl) hS
    · have c_16 : t_14.toInt = 0 := ci_ne_f c_16
      have b_t_14 := i32b t_14
      refine lv_aload_n hx hb dX6_takeWord_21 rfl (lv_at hl 0 rfl) ?_
      refine lv_aload_n hx hb dX6_takeWord_22 rfl (lv_at hl 1 rfl) ?_
      refine wrVv (As := [.ref h_a1]) (rest := []) (wr := []) ⟨hx, hb, hml, hown, hts⟩ (b_X6_nextToken l G D cB cI cJ cZ cS cT H.size h0 h_draft v0_kind v0_start v0_behind v0_number t_14 t_15 h_a1 h_a1_bytes v_a1_length f_a1_bytes (by first | assumption | omega | decide)) hP hD hS hA hK hN hT hAB hG [2, 0, 1] [] rfl rfl (by decide) (by decide) (by decide) (cvB (n := 1) (inr10 _ (List.mem_of_getElem? (i := 19) rfl)) (inr10 _ (List.mem_of_getElem? (i := 20) rfl)) (inr10 _ (List.mem_of_getElem? (i := 21) rfl)) (inr1 _ (List.mem_of_getElem? (i := 19) rfl)) (inr10 _ (List.mem_of_getElem? (i := 22) rfl)) (by decide +kernel) hts rfl rfl ⟨Nat.le_of_ble_eq_true rfl, Nat.le_of_ble_eq_true rfl⟩) 0 6 rfl rfl rfl rfl hl.1 rfl (Nat.le_of_ble_eq_true rfl) ⟨Nat.le_of_ble_eq_true rfl, Nat.le_of_ble_eq_true rfl⟩ dX6_takeWord_23 (fun x9 H locs h_18 hP hD hS => ?_)
      obtain ⟨t_19, t_20, t_21, t_22⟩ := x9
      have hP : va_P D vwCl [(h0, .inr (6, [.ref h_draft, .int t_19, .int t_20, .int t_21, .int t_22, .int t_14, .int t_15])), (h_a1, .inr (9, [.ref h_a1_bytes, .int v_a1_length])), (h_a1_bytes, .inl (cB, 500, .inl f_a1_bytes))] H := hP
      have hD : va_D A [(h0, .inr (6, [.ref h_draft, .int t_19, .int t_20, .int t_21, .int t_22, .int t_14, .int t_15])), (h_a1, .inr (9, [.ref h_a1_bytes, .int v_a1_length])), (h_a1_bytes, .inl (cB, 500, .inl f_a1_bytes))] := hD
      exact ret _ _ _ _ (t_19, t_20, t_21, t_22, t_14, t_15) dX6_takeWord_26 trivial (hP.sub [0, 1, 2] rfl) (hD.sub [0, 1, 2] (by decide) rfl) hS

set_option maxHeartbeats 4000000 in
set_option maxRecDepth 100000 in
theorem b_X8_addSign (l : Launch) (G : Gho) (D : va_G) (cB cI cJ cZ cS cT : ClassId) (sz : Nat) (h0 : Nat) (v0_tones : Int32) (v0_a : Int32) (v0_b : Int32) (v0_c : Int32) (v0_d : Int32) (v0_odds : Int32) (v0_lines : Int32) (h_signs : Nat) (v0_signCount : Int32) (h_posts : Nat) (v0_postCount : Int32) (h_acts : Nat) (f_signs : Nat → Int32) (v1 : Int32) (iv0_signCount : 0 ≤ v0_signCount.toInt ∧ v0_signCount.toInt ≤ 8) (iv0_postCount : 0 ≤ v0_postCount.toInt ∧ v0_postCount.toInt ≤ 5) : Met l yX8_addSign (Cond.code yX8_addSign cX8_addSign 2 none :: wsL_law) ({ frames := 0, cells := 0, slots := 0, locals := 0 }) (wrP G D (tyL cB cI cJ cZ cS cT) [(h0, .inr (8, [.int v0_tones, .int v0_a, .int v0_b, .int v0_c, .int v0_d, .int v0_odds, .int v0_lines, .ref h_signs, .int v0_signCount, .ref h_posts, .int v0_postCount, .ref h_acts])), (h_signs, .inl (cI, 8, .inl f_signs))] sz [.ref h0, .int v1]) (va_Qv (fun x : Int32 × (Nat → Int32) => (0 ≤ x.1.toInt ∧ x.1.toInt ≤ 8)) (atW D (tyL cB cI cJ cZ cS cT) (va_A [(h0, .inr (8, [.int v0_tones, .int v0_a, .int v0_b, .int v0_c, .int v0_d, .int v0_odds, .int v0_lines, .ref h_signs, .int v0_signCount, .ref h_posts, .int v0_postCount, .ref h_acts])), (h_signs, .inl (cI, 8, .inl f_signs))] sz) (fun x : Int32 × (Nat → Int32) => [(h0, .inr (8, [.int v0_tones, .int v0_a, .int v0_b, .int v0_c, .int v0_d, .int v0_odds, .int v0_lines, .ref h_signs, .int x.1, .ref h_posts, .int v0_postCount, .ref h_acts])), (h_signs, .inl (cI, 8, .inl x.2))])) (va_A [(h0, .inr (8, [.int v0_tones, .int v0_a, .int v0_b, .int v0_c, .int v0_d, .int v0_odds, .int v0_lines, .ref h_signs, .int v0_signCount, .ref h_posts, .int v0_postCount, .ref h_acts])), (h_signs, .inl (cI, 8, .inl f_signs))] sz)) 0 0 (va_A [(h0, .inr (8, [.int v0_tones, .int v0_a, .int v0_b, .int v0_c, .int v0_d, .int v0_odds, .int v0_lines, .ref h_signs, .int v0_signCount, .ref h_posts, .int v0_postCount, .ref h_acts])), (h_signs, .inl (cI, 8, .inl f_signs))] sz) := by
  refine metV (own := RX8) (by decide) rfl ?_
  intro p e s m below meth c Q hsz C hG hP hD hAB ret
  obtain ⟨hx, hb, hml, hown, hts, hK, hN, hT⟩ := id C
  subst hsz
  generalize hAe : va_A [(h0, .inr (8, [.int v0_tones, .int v0_a, .int v0_b, .int v0_c, .int v0_d, .int v0_odds, .int v0_lines, .ref h_signs, .int v0_signCount, .ref h_posts, .int v0_postCount, .ref h_acts])), (h_signs, .inl (cI, 8, .inl f_signs))] s.heap.size = A at hD hAB ret ⊢
  have hA : ∀ q : Nat, s.heap.size ≤ q → A q := fun q h => by rw [← hAe]; exact Or.inr h
  have hS : va_S A s.heap s.heap [] := va_S.rf
  have hl := lv_entry ([.ref h0, .int v1]) (n := 2) (Nat.le_of_ble_eq_true rfl)
  rw [lg_entry_eq]
  generalize (lg_sl ([.ref h0, .int v1]) ++ List.replicate (2 - (lg_sl ([.ref h0, .int v1])).length) Slot.unset).toArray = ls at hl ⊢
  have hl : lv_has ls 2 [(0, .ref h0), (1, .int v1)] := hl
  have hP : va_P D vwCl [(h0, .inr (8, [.int v0_tones, .int v0_a, .int v0_b, .int v0_c, .int v0_d, .int v0_odds, .int v0_lines, .ref h_signs, .int v0_signCount, .ref h_posts, .int v0_postCount, .ref h_acts])), (h_signs, .inl (cI, 8, .inl f_signs))] s.heap := hP
  refine lv_aload_n hx hb dX8_addSign_0 rfl (lv_at hl 0 rfl) ?_
  refine va_get (D := D) (ci := 8) (v := .int v0_signCount) (C := RX8) (T := TX8) (N := 12) hx hb hts inlX8 hown hK hP 0 rfl rfl 8 (by decide) (hts _ (inr9 _ (List.mem_of_getElem? (i := 22) rfl))) (fun _ h9 => h9) rfl dX8_addSign_1 ?_
  refine lv_aload_n hx hb dX8_addSign_4 rfl (lv_at hl 0 rfl) ?_
  refine va_get (D := D) (ci := 8) (v := .ref h_signs) (C := RX8) (T := TX8) (N := 12) hx hb hts inlX8 hown hK hP 0 rfl rfl 7 (by decide) (hts _ (inr4 _ (List.mem_of_getElem? (i := 1) rfl))) (fun _ h9 => h9) rfl dX8_addSign_5 ?_
  refine va_alen (v := 8) hx hb hK hP 1 1 rfl rfl rfl dX8_addSign_8 ?_
  refine lv_icmp_ge (tgt := 32) hx hb dX8_addSign_9 (by decide) (fun c_1 => ?_) (fun c_1 => ?_)
  · have c_1 : 8 ≤ v0_signCount.toInt := ci_ge_t c_1
    have b_v0_signCount := i32b v0_signCount
    exact ret _ _ _ _ (v0_signCount, f_signs) dX8_addSign_32 (show (0 ≤ v0_signCount.toInt ∧ v0_signCount.toInt ≤ 8) from (by first | assumption | omega | decide)) (hP.sub [0, 1] rfl) (hD.sub [0, 1] (by decide) rfl) hS
  · have c_1 : v0_signCount.toInt < 8 := ci_ge_f c_1
    have b_v0_signCount := i32b v0_signCount
    refine lv_aload_n hx hb dX8_addSign_12 rfl (lv_at hl 0 rfl) ?_
    refine va_get (D := D) (ci := 8) (v := .ref h_signs) (C := RX8) (T := TX8) (N := 12) hx hb hts inlX8 hown hK hP 0 rfl rfl 7 (by decide) (hts _ (inr4 _ (List.mem_of_getElem? (i := 1) rfl))) (fun _ h9 => h9) rfl dX8_addSign_13 ?_
    refine lv_aload_n hx hb dX8_addSign_16 rfl (lv_at hl 0 rfl) ?_
    refine va_get (D := D) (ci := 8) (v := .int v0_signCount) (C := RX8) (T := TX8) (N := 12) hx hb hts inlX8 hown hK hP 0 rfl rfl 8 (by decide) (hts _ (inr9 _ (List.mem_of_getElem? (i := 22) rfl))) (fun _ h9 => h9) rfl dX8_addSign_17 ?_
    refine lv_iload_n hx hb dX8_addSign_20 rfl (lv_at hl 1 rfl) ?_
    refine va_iast hx hb hK hP hD hS 1 1 rfl rfl (vin_nat (by omega) (by omega)) dX8_addSign_21 (fun H locs hP hD hS => ?_)
    have hP : va_P D vwCl [(h0, .inr (8, [.int v0_tones, .int v0_a, .int v0_b, .int v0_c, .int v0_d, .int v0_odds, .int v0_lines, .ref h_signs, .int v0_signCount, .ref h_posts, .int v0_postCount, .ref h_acts])), (h_signs, .inl (cI, 8, .inl (upd f_signs (v0_signCount : Int32).toNatClampNeg v1)))] H := hP
    have hD : va_D A [(h0, .inr (8, [.int v0_tones, .int v0_a, .int v0_b, .int v0_c, .int v0_d, .int v0_odds, .int v0_lines, .ref h_signs, .int v0_signCount, .ref h_posts, .int v0_postCount, .ref h_acts])), (h_signs, .inl (cI, 8, .inl (upd f_signs (v0_signCount : Int32).toNatClampNeg v1)))] := hD
    obtain ⟨g_2, eg_2⟩ : ∃ v9 : Nat → Int32, (upd f_signs (v0_signCount : Int32).toNatClampNeg v1) = v9 := ⟨_, rfl⟩
    rw [eg_2] at hP hD
    have hP : va_P D vwCl [(h0, .inr (8, [.int v0_tones, .int v0_a, .int v0_b, .int v0_c, .int v0_d, .int v0_odds, .int v0_lines, .ref h_signs, .int v0_signCount, .ref h_posts, .int v0_postCount, .ref h_acts])), (h_signs, .inl (cI, 8, .inl g_2))] H := hP
    have hD : va_D A [(h0, .inr (8, [.int v0_tones, .int v0_a, .int v0_b, .int v0_c, .int v0_d, .int v0_odds, .int v0_lines, .ref h_signs, .int v0_signCount, .ref h_posts, .int v0_postCount, .ref h_acts])), (h_signs, .inl (cI, 8, .inl g_2))] := hD
    refine lv_aload_n hx hb dX8_addSign_22 rfl (lv_at hl 0 rfl) ?_
    refine lv_dup hx hb dX8_addSign_23 rfl ?_
    refine va_get (D := D) (ci := 8) (v := .int v0_signCount) (C := RX8) (T := TX8) (N := 12) hx hb hts inlX8 hown hK hP 0 rfl rfl 8 (by decide) (hts _ (inr9 _ (List.mem_of_getElem? (i := 22) rfl))) (fun _ h9 => h9) rfl dX8_addSign_24 ?_
    refine lv_iconst (v := 1) hx hb dX8_addSign_27 (by decide) ?_
    obtain ⟨t_3, et_3⟩ : ∃ v9 : Int32, v0_signCount + 1 = v9 := ⟨_, rfl⟩
    refine z_iadd (v := t_3) hx hb dX8_addSign_28 et_3 ?_
    have ft_3 : t_3.toInt = v0_signCount.toInt + 1 := addT (a := v0_signCount.toInt) (b := 1) rfl (by decide) et_3 (by omega) (by omega)
    refine va_put (D := D) (ci := 8) (v := .int t_3) (ty := .int) (C := RX8) (T := TX8) (N := 12) hx hb hts inlX8 tyX8 tyX8_ok nmX8 hown hK hP hD hS 0 rfl rfl 8 (by decide) (hts _ (inr9 _ (List.mem_of_getElem? (i := 22) rfl))) (fun _ h9 => h9) rfl (by decide +kernel) rfl rfl (Nat.le_of_ble_eq_true rfl) dX8_addSign_29 (fun H locs hP hD hS => ?_)
    have hP : va_P D vwCl [(h0, .inr (8, [.int v0_tones, .int v0_a, .int v0_b, .int v0_c, .int v0_d, .int v0_odds, .int v0_lines, .ref h_signs, .int t_3, .ref h_posts, .int v0_postCount, .ref h_acts])), (h_signs, .inl (cI, 8, .inl g_2))] H := hP
    have hD : va_D A [(h0, .inr (8, [.int v0_tones, .int v0_a, .int v0_b, .int v0_c, .int v0_d, .int v0_odds, .int v0_lines, .ref h_signs, .int t_3, .ref h_posts, .int v0_postCount, .ref h_acts])), (h_signs, .inl (cI, 8, .inl g_2))] := hD
    exact ret _ _ _ _ (t_3, g_2) dX8_addSign_32 (show (0 ≤ t_3.toInt ∧ t_3.toInt ≤ 8) from (by first | assumption | omega | decide)) (hP.sub [0, 1] rfl) (hD.sub [0, 1] (by decide) rfl) hS

set_option maxHeartbeats 4000000 in
set_option maxRecDepth 100000 in
theorem b_X6_readGap (l : Launch) (G : Gho) (D : va_G) (cB cI cJ cZ cS cT : ClassId) (sz : Nat) (h0 : Nat) (h_draft : Nat) (v0_kind : Int32) (v0_start : Int32) (v0_behind : Int32) (v0_number : Int32) (v0_fault : Int32) (v0_faultAt : Int32) (v_draft_tones : Int32) (v_draft_a : Int32) (v_draft_b : Int32) (v_draft_c : Int32) (v_draft_d : Int32) (v_draft_odds : Int32) (v_draft_lines : Int32) (h_draft_signs : Nat) (v_draft_signCount : Int32) (h_draft_posts : Nat) (v_draft_postCount : Int32) (h_draft_acts : Nat) (f_draft_signs : Nat → Int32) (h_a1 : Nat) (h_a1_bytes : Nat) (v_a1_length : Int32) (f_a1_bytes : Nat → Int32) (iv_draft_signCount : 0 ≤ v_draft_signCount.toInt ∧ v_draft_signCount.toInt ≤ 8) (iv_draft_postCount : 0 ≤ v_draft_postCount.toInt ∧ v_draft_postCount.toInt ≤ 5) (iv_a1_length : 0 ≤ v_a1_length.toInt ∧ v_a1_length.toInt ≤ 500) : Met l yX6_readGap (Cond.code yX6_readGap cX6_readGap 2 none :: wsL_law) ({ frames := 6, cells := 0, slots := 0, locals := 130 }) (wrP G D (tyL cB cI cJ cZ cS cT) [(h0, .inr (6, [.ref h_draft, .int v0_kind, .int v0_start, .int v0_behind, .int v0_number, .int v0_fault, .int v0_faultAt])), (h_draft, .inr (8, [.int v_draft_tones, .int v_draft_a, .int v_draft_b, .int v_draft_c, .int v_draft_d, .int v_draft_odds, .int v_draft_lines, .ref h_draft_signs, .int v_draft_signCount, .ref h_draft_posts, .int v_draft_postCount, .ref h_draft_acts])), (h_draft_signs, .inl (cI, 8, .inl f_draft_signs)), (h_a1, .inr (9, [.ref h_a1_bytes, .int v_a1_length])), (h_a1_bytes, .inl (cB, 500, .inl f_a1_bytes))] sz [.ref h0, .ref h_a1]) (va_Qv (fun x : Int32 × Int32 × Int32 × Int32 × Int32 × Int32 × Int32 × (Nat → Int32) => (0 ≤ x.2.2.2.2.2.2.1.toInt ∧ x.2.2.2.2.2.2.1.toInt ≤ 8)) (atW D (tyL cB cI cJ cZ cS cT) (va_A [(h0, .inr (6, [.ref h_draft, .int v0_kind, .int v0_start, .int v0_behind, .int v0_number, .int v0_fault, .int v0_faultAt])), (h_draft, .inr (8, [.int v_draft_tones, .int v_draft_a, .int v_draft_b, .int v_draft_c, .int v_draft_d, .int v_draft_odds, .int v_draft_lines, .ref h_draft_signs, .int v_draft_signCount, .ref h_draft_posts, .int v_draft_postCount, .ref h_draft_acts])), (h_draft_signs, .inl (cI, 8, .inl f_draft_signs)), (h_a1, .inr (9, [.ref h_a1_bytes, .int v_a1_length])), (h_a1_bytes, .inl (cB, 500, .inl f_a1_bytes))] sz) (fun x : Int32 × Int32 × Int32 × Int32 × Int32 × Int32 × Int32 × (Nat → Int32) => [(h0, .inr (6, [.ref h_draft, .int x.1, .int x.2.1, .int x.2.2.1, .int x.2.2.2.1, .int x.2.2.2.2.1, .int x.2.2.2.2.2.1])), (h_draft, .inr (8, [.int v_draft_tones, .int v_draft_a, .int v_draft_b, .int v_draft_c, .int v_draft_d, .int v_draft_odds, .int v_draft_lines, .ref h_draft_signs, .int x.2.2.2.2.2.2.1, .ref h_draft_posts, .int v_draft_postCount, .ref h_draft_acts])), (h_draft_signs, .inl (cI, 8, .inl x.2.2.2.2.2.2.2)), (h_a1, .inr (9, [.ref h_a1_bytes, .int v_a1_length])), (h_a1_bytes, .inl (cB, 500, .inl f_a1_bytes))])) (va_A [(h0, .inr (6, [.ref h_draft, .int v0_kind, .int v0_start, .int v0_behind, .int v0_number, .int v0_fault, .int v0_faultAt])), (h_draft, .inr (8, [.int v_draft_tones, .int v_draft_a, .int v_draft_b, .int v_draft_c, .int v_draft_d, .int v_draft_odds, .int v_draft_lines, .ref h_draft_signs, .int v_draft_signCount, .ref h_draft_posts, .int v_draft_postCount, .ref h_draft_acts])), (h_draft_signs, .inl (cI, 8, .inl f_draft_signs)), (h_a1, .inr (9, [.ref h_a1_bytes, .int v_a1_length])), (h_a1_bytes, .inl (cB, 500, .inl f_a1_bytes))] sz)) 0 0 (va_A [(h0, .inr (6, [.ref h_draft, .int v0_kind, .int v0_start, .int v0_behind, .int v0_number, .int v0_fault, .int v0_faultAt])), (h_draft, .inr (8, [.int v_draft_tones, .int v_draft_a, .int v_draft_b, .int v_draft_c, .int v_draft_d, .int v_draft_odds, .int v_draft_lines, .ref h_draft_signs, .int v_draft_signCount, .ref h_draft_posts, .int v_draft_postCount, .ref h_draft_acts])), (h_draft_signs, .inl (cI, 8, .inl f_draft_signs)), (h_a1, .inr (9, [.ref h_a1_bytes, .int v_a1_length])), (h_a1_bytes, .inl (cB, 500, .inl f_a1_bytes))] sz) := by
  refine metV (own := RX6) (by decide) rfl ?_
  intro p e s m below meth c Q hsz C hG hP hD hAB ret
  obtain ⟨hx, hb, hml, hown, hts, hK, hN, hT⟩ := id C
  subst hsz
  generalize hAe : va_A [(h0, .inr (6, [.ref h_draft, .int v0_kind, .int v0_start, .int v0_behind, .int v0_number, .int v0_fault, .int v0_faultAt])), (h_draft, .inr (8, [.int v_draft_tones, .int v_draft_a, .int v_draft_b, .int v_draft_c, .int v_draft_d, .int v_draft_odds, .int v_draft_lines, .ref h_draft_signs, .int v_draft_signCount, .ref h_draft_posts, .int v_draft_postCount, .ref h_draft_acts])), (h_draft_signs, .inl (cI, 8, .inl f_draft_signs)), (h_a1, .inr (9, [.ref h_a1_bytes, .int v_a1_length])), (h_a1_bytes, .inl (cB, 500, .inl f_a1_bytes))] s.heap.size = A at hD hAB ret ⊢
  have hA : ∀ q : Nat, s.heap.size ≤ q → A q := fun q h => by rw [← hAe]; exact Or.inr h
  have hS : va_S A s.heap s.heap [] := va_S.rf
  have hl := lv_entry ([.ref h0, .ref h_a1]) (n := 2) (Nat.le_of_ble_eq_true rfl)
  rw [lg_entry_eq]
  generalize (lg_sl ([.ref h0, .ref h_a1]) ++ List.replicate (2 - (lg_sl ([.ref h0, .ref h_a1])).length) Slot.unset).toArray = ls at hl ⊢
  have hl : lv_has ls 2 [(0, .ref h0), (1, .ref h_a1)] := hl
  have hP : va_P D vwCl [(h0, .inr (6, [.ref h_draft, .int v0_kind, .int v0_start, .int v0_behind, .int v0_number, .int v0_fault, .int v0_faultAt])), (h_draft, .inr (8, [.int v_draft_tones, .int v_draft_a, .int v_draft_b, .int v_draft_c, .int v_draft_d, .int v_draft_odds, .int v_draft_lines, .ref h_draft_signs, .int v_draft_signCount, .ref h_draft_posts, .int v_draft_postCount, .ref h_draft_acts])), (h_draft_signs, .inl (cI, 8, .inl f_draft_signs)), (h_a1, .inr (9, [.ref h_a1_bytes, .int v_a1_length])), (h_a1_bytes, .inl (cB, 500, .inl f_a1_bytes))] s.heap := hP
  refine lv_aload_n hx hb dX6_readGap_0 rfl (lv_at hl 0 rfl) ?_
  refine va_get (D := D) (ci := 6) (v := .ref h_draft) (C := RX6) (T := TX6) (N := 7) hx hb hts inlX6 hown hK hP 0 rfl rfl 0 (by decide) (hts _ (inr3 _ (List.mem_of_getElem? (i := 19) rfl))) (fun _ h9 => h9) rfl dX6_readGap_1 ?_
  refine roi (As := []) (rest := []) ⟨hx, hb, hml, hown, hts⟩ (b_X8_signCount l G D cB cI cJ cZ cS cT h_draft v_draft_tones v_draft_a v_draft_b v_draft_c v_draft_d v_draft_odds v_draft_lines h_draft_signs v_draft_signCount h_draft_posts v_draft_postCount h_draft_acts (by first | assumption | omega | decide) (by first | assumption | omega | decide)) (cvB (n := 0) (inr15 _ (List.mem_of_getElem? (i := 9) rfl)) (inr15 _ (List.mem_of_getElem? (i := 10) rfl)) (inr15 _ (List.mem_of_getElem? (i := 11) rfl)) (inr1 _ (List.mem_of_getElem? (i := 23) rfl)) (inr15 _ (List.mem_of_getElem? (i := 12) rfl)) (by decide +kernel) hts rfl rfl ⟨Nat.le_of_ble_eq_true rfl, Nat.le_of_ble_eq_true rfl⟩) 0 8 rfl rfl rfl (hP.sub [1] rfl) hK hN (kT.to hT hS hAB) rfl hl.1 rfl (Nat.le_of_ble_eq_true rfl) ⟨Nat.le_of_ble_eq_true rfl, Nat.le_of_ble_eq_true rfl⟩ dX6_readGap_4 (fun r_1 h_2 => ?_)
  have h_2 : (r_1 = v_draft_signCount) := h_2
  have i_3 := h_2
  obtain rfl := i_3.symm
  refine lv_bipush (v := 8) hx hb dX6_readGap_7 (by decide) ?_
  refine lv_icmp_lt (tgt := 17) hx hb dX6_readGap_9 (by decide) (fun c_4 => ?_) (fun c_4 => ?_)
  · have c_4 : v_draft_signCount.toInt < 8 := ci_lt_t c_4
    have b_v_draft_signCount := i32b v_draft_signCount
    refine lv_aload_n hx hb dX6_readGap_17 rfl (lv_at hl 0 rfl) ?_
    refine lv_aload_n hx hb dX6_readGap_18 rfl (lv_at hl 1 rfl) ?_
    refine va_ldcS (q := G.2.1 8) hx hb hown (hT.2.1 8 (RX6, 57, "gap") rfl) dX6_readGap_19 ?_
    refine wrVv (As := [.ref h_a1, .ref (G.2.1 8)]) (rest := []) (wr := [(h_draft, .inr (8, [.int v_draft_tones, .int v_draft_a, .int v_draft_b, .int v_draft_c, .int v_draft_d, .int v_draft_odds, .int v_draft_lines, .ref h_draft_signs, .int v_draft_signCount, .ref h_draft_posts, .int v_draft_postCount, .ref h_draft_acts])), (h_draft_signs, .inl (cI, 8, .inl f_draft_signs))]) ⟨hx, hb, hml, hown, hts⟩ (b_X6_takeWord l G D cB cI cJ cZ cS cT s.heap.size h0 h_draft v0_kind v0_start v0_behind v0_number v0_fault v0_faultAt h_a1 h_a1_bytes v_a1_length f_a1_bytes 8 (by first | assumption | omega | decide) (by first | assumption | omega | decide)) hP hD hS hA hK hN hT hAB hG [0, 3, 4] [1, 2] rfl rfl (by decide) (by decide) (by decide) (cvB (n := 2) (inr12 _ (List.mem_of_getElem? (i := 10) rfl)) (inr12 _ (List.mem_of_getElem? (i := 11) rfl)) (inr12 _ (List.mem_of_getElem? (i := 12) rfl)) (inr1 _ (List.mem_of_getElem? (i := 19) rfl)) (inr12 _ (List.mem_of_getElem? (i := 13) rfl)) (by decide +kernel) hts rfl rfl ⟨Nat.le_of_ble_eq_true rfl, Nat.le_of_ble_eq_true rfl⟩) 0 6 rfl rfl rfl rfl hl.1 rfl (Nat.le_of_ble_eq_true rfl) ⟨Nat.le_of_ble_eq_true rfl, Nat.le_of_ble_eq_true rfl⟩ dX6_readGap_21 (fun x9 H locs h_6 hP hD hS => ?_)
    obtain ⟨t_7, t_8, t_9, t_10, t_11, t_12⟩ := x9
    have hP : va_P D vwCl [(h_draft, .inr (8, [.int v_draft_tones, .int v_draft_a, .int v_draft_b, .int v_draft_c, .int v_draft_d, .int v_draft_odds, .int v_draft_lines, .ref h_draft_signs, .int v_draft_signCount, .ref h_draft_posts, .int v_draft_postCount, .ref h_draft_acts])), (h_draft_signs, .inl (cI, 8, .inl f_draft_signs)), (h0, .inr (6, [.ref h_draft, .int t_7, .int t_8, .int t_9, .int t_10, .int t_11, .int t_12])), (h_a1, .inr (9, [.ref h_a1_bytes, .int v_a1_length])), (h_a1_bytes, .inl (cB, 500, .inl f_a1_bytes))] H := hP
    have hD : va_D A [(h_draft, .inr (8, [.int v_draft_tones, .int v_draft_a, .int v_draft_b, .int v_draft_c, .int v_draft_d, .int v_draft_odds, .int v_draft_lines, .ref h_draft_signs, .int v_draft_signCount, .ref h_draft_posts, .int v_draft_postCount, .ref h_draft_acts])), (h_draft_signs, .inl (cI, 8, .inl f_draft_signs)), (h0, .inr (6, [.ref h_draft, .int t_7, .int t_8, .int t_9, .int t_10, .int t_11, .int t_12])), (h_a1, .inr (9, [.ref h_a1_bytes, .int v_a1_length])), (h_a1_bytes, .inl (cB, 500, .inl f_a1_bytes))] := hD
    refine lv_aload_n hx hb dX6_readGap_24 rfl (lv_at hl 0 rfl) ?_
    refine va_get (D := D) (ci := 6) (v := .int t_11) (C := RX6) (T := TX6) (N := 7) hx hb hts inlX6 hown hK hP 2 rfl rfl 5 (by decide) (hts _ (inr9 _ (List.mem_of_getElem? (i := 14) rfl))) (fun _ h9 => h9) rfl dX6_readGap_25 ?_
    refine lv_if_ne (tgt := 39) hx hb dX6_readGap_28 (by decide) (fun c_13 => ?_) (fun c_13 => ?_)
    · have c_13 : ¬ t_11.toInt = 0 := ci_ne_t c_13
      have b_t_11 := i32b t_11
      exact ret _ _ _ _ (t_7, t_8, t_9, t_10, t_11, t_12, v_draft_signCount, f_draft_signs) dX6_readGap_39 (show (0 ≤ v_draft_signCount.toInt ∧ v_draft_signCount.toInt ≤ 8) from (by first | assumption | omega | decide)) (hP.sub [2, 0, 1, 3, 4] rfl) (hD.sub [2, 0, 1, 3, 4] (by decide) rfl) hS
    · have c_13 : t_11.toInt = 0 := ci_ne_f c_13
      have b_t_11 := i32b t_11
      refine lv_aload_n hx hb dX6_readGap_31 rfl (lv_at hl 0 rfl) ?_
      refine va_get (D := D) (ci := 6) (v := .ref h_draft) (C := RX6) (T := TX6) (N := 7) hx hb hts inlX6 hown hK hP 2 rfl rfl 0 (by decide) (hts _ (inr3 _ (List.mem_of_getElem? (i := 19) rfl))) (fun _ h9 => h9) rfl dX6_readGap_32 ?_
      refine lv_iconst (v := (-1)) hx hb dX6_readGap_35 (by decide) ?_
      refine wrVv (As := [.int (-1)]) (rest := []) (wr := [(h0, .inr (6, [.ref h_draft, .int t_7, .int t_8, .int t_9, .int t_10, .int t_11, .int t_12])), (h_a1, .inr (9, [.ref h_a1_bytes, .int v_a1_length])), (h_a1_bytes, .inl (cB, 500, .inl f_a1_bytes))]) ⟨hx, hb, hml, hown, hts⟩ (b_X8_addSign l G D cB cI cJ cZ cS cT H.size h_draft v_draft_tones v_draft_a v_draft_b v_draft_c v_draft_d v_draft_odds v_draft_lines h_draft_signs v_draft_signCount h_draft_posts v_draft_postCount h_draft_acts f_draft_signs (-1) (by first | assumption | omega | decide) (by first | assumption | omega | decide)) hP hD hS hA hK hN hT hAB hG [0, 1] [2, 3, 4] rfl rfl (by decide) (by decide) (by decide) (cvB (n := 1) (inr15 _ (List.mem_of_getElem? (i := 17) rfl)) (inr15 _ (List.mem_of_getElem? (i := 18) rfl)) (inr15 _ (List.mem_of_getElem? (i := 19) rfl)) (inr1 _ (List.mem_of_getElem? (i := 23) rfl)) (inr15 _ (List.mem_of_getElem? (i := 20) rfl)) (by decide +kernel) hts rfl rfl ⟨Nat.le_of_ble_eq_true rfl, Nat.le_of_ble_eq_true rfl⟩) 0 8 rfl rfl rfl rfl hl.1 rfl (Nat.le_of_ble_eq_true rfl) ⟨Nat.le_of_ble_eq_true rfl, Nat.le_of_ble_eq_true rfl⟩ dX6_readGap_36 (fun x9 H locs h_15 hP hD hS => ?_)
      obtain ⟨t_16, g_17⟩ := x9
      have hP : va_P D vwCl [(h0, .inr (6, [.ref h_draft, .int t_7, .int t_8, .int t_9, .int t_10, .int t_11, .int t_12])), (h_a1, .inr (9, [.ref h_a1_bytes, .int v_a1_length])), (h_a1_bytes, .inl (cB, 500, .inl f_a1_bytes)), (h_draft, .inr (8, [.int v_draft_tones, .int v_draft_a, .int v_draft_b, .int v_draft_c, .int v_draft_d, .int v_draft_odds, .int v_draft_lines, .ref h_draft_signs, .int t_16, .ref h_draft_posts, .int v_draft_postCount, .ref h_draft_acts])), (h_draft_signs, .inl (cI, 8, .inl g_17))] H := hP
      have hD : va_D A [(h0, .inr (6, [.ref h_draft, .int t_7, .int t_8, .int t_9, .int t_10, .int t_11, .int t_12])), (h_a1, .inr (9, [.ref h_a1_bytes, .int v_a1_length])), (h_a1_bytes, .inl (cB, 500, .inl f_a1_bytes)), (h_draft, .inr (8, [.int v_draft_tones, .int v_draft_a, .int v_draft_b, .int v_draft_c, .int v_draft_d, .int v_draft_odds, .int v_draft_lines, .ref h_draft_signs, .int t_16, .ref h_draft_posts, .int v_draft_postCount, .ref h_draft_acts])), (h_draft_signs, .inl (cI, 8, .inl g_17))] := hD
      have h_15 : (0 ≤ t_16.toInt ∧ t_16.toInt ≤ 8) := h_15
      have i_18 := h_15
      exact ret _ _ _ _ (t_7, t_8, t_9, t_10, t_11, t_12, t_16, g_17) dX6_readGap_39 (show (0 ≤ t_16.toInt ∧ t_16.toInt ≤ 8) from (by first | assumption | omega | decide)) (hP.sub [0, 3, 4, 1, 2] rfl) (hD.sub [0, 3, 4, 1, 2] (by decide) rfl) hS
  · have c_4 : 8 ≤ v_draft_signCount.toInt := ci_lt_f c_4
    have b_v_draft_signCount := i32b v_draft_signCount
    refine lv_aload_n hx hb dX6_readGap_12 rfl (lv_at hl 0 rfl) ?_
    refine lv_iconst (v := 3) hx hb dX6_readGap_13 (by decide) ?_
    refine wrVv (As := [.int 3]) (rest := []) (wr := [(h_draft, .inr (8, [.int v_draft_tones, .int v_draft_a, .int v_draft_b, .int v_draft_c, .int v_draft_d, .int v_draft_odds, .int v_draft_lines, .ref h_draft_signs, .int v_draft_signCount, .ref h_draft_posts, .int v_draft_postCount, .ref h_draft_acts])), (h_draft_signs, .inl (cI, 8, .inl f_draft_signs)), (h_a1, .inr (9, [.ref h_a1_bytes, .int v_a1_length])), (h_a1_bytes, .inl (cB, 500, .inl f_a1_bytes))]) ⟨hx, hb, hml, hown, hts⟩ (b_X6_fail l G D cB cI cJ cZ cS cT s.heap.size h0 h_draft v0_kind v0_start v0_behind v0_number v0_fault v0_faultAt 3 ) hP hD hS hA hK hN hT hAB hG [0] [1, 2, 3, 4] rfl rfl (by decide) (by decide) (by decide) (cvB (n := 1) (inr14 _ (List.mem_of_getElem? (i := 19) rfl)) (inr14 _ (List.mem_of_getElem? (i := 20) rfl)) (inr14 _ (List.mem_of_getElem? (i := 21) rfl)) (inr1 _ (List.mem_of_getElem? (i := 19) rfl)) (inr14 _ (List.mem_of_getElem? (i := 22) rfl)) (by decide +kernel) hts rfl rfl ⟨Nat.le_of_ble_eq_true rfl, Nat.le_of_ble_eq_true rfl⟩) 0 6 rfl rfl rfl rfl hl.1 rfl (Nat.le_of_ble_eq_true rfl) ⟨Nat.le_of_ble_eq_true rfl, Nat.le_of_ble_eq_true rfl⟩ dX6_readGap_14 (fun x9 H locs h_20 hP hD hS => ?_)
    obtain ⟨t_21, t_22⟩ := x9
    have hP : va_P D vwCl [(h_draft, .inr (8, [.int v_draft_tones, .int v_draft_a, .int v_draft_b, .int v_draft_c, .int v_draft_d, .int v_draft_odds, .int v_draft_lines, .ref h_draft_signs, .int v_draft_signCount, .ref h_draft_posts, .int v_draft_postCount, .ref h_draft_acts])), (h_draft_signs, .inl (cI, 8, .inl f_draft_signs)), (h_a1, .inr (9, [.ref h_a1_bytes, .int v_a1_length])), (h_a1_bytes, .inl (cB, 500, .inl f_a1_bytes)), (h0, .inr (6, [.ref h_draft, .int v0_kind, .int v0_start, .int v0_behind, .int v0_number, .int t_21, .int t_22]))] H := hP
    have hD : va_D A [(h_draft, .inr (8, [.int v_draft_tones, .int v_draft_a, .int v_draft_b, .int v_draft_c, .int v_draft_d, .int v_draft_odds, .int v_draft_lines, .ref h_draft_signs, .int v_draft_signCount, .ref h_draft_posts, .int v_draft_postCount, .ref h_draft_acts])), (h_draft_signs, .inl (cI, 8, .inl f_draft_signs)), (h_a1, .inr (9, [.ref h_a1_bytes, .int v_a1_length])), (h_a1_bytes, .inl (cB, 500, .inl f_a1_bytes)), (h0, .inr (6, [.ref h_draft, .int v0_kind, .int v0_start, .int v0_behind, .int v0_number, .int t_21, .int t_22]))] := hD
    refine lv_aload_n hx hb dX6_readGap_17 rfl (lv_at hl 0 rfl) ?_
    refine lv_aload_n hx hb dX6_readGap_18 rfl (lv_at hl 1 rfl) ?_
    refine va_ldcS (q := G.2.1 8) hx hb hown (hT.2.1 8 (RX6, 57, "gap") rfl) dX6_readGap_19 ?_
    refine wrVv (As := [.ref h_a1, .ref (G.2.1 8)]) (rest := []) (wr := [(h_draft, .inr (8, [.int v_draft_tones, .int v_draft_a, .int v_draft_b, .int v_draft_c, .int v_draft_d, .int v_draft_odds, .int v_draft_lines, .ref h_draft_signs, .int v_draft_signCount, .ref h_draft_posts, .int v_draft_postCount, .ref h_draft_acts])), (h_draft_signs, .inl (cI, 8, .inl f_draft_signs))]) ⟨hx, hb, hml, hown, hts⟩ (b_X6_takeWord l G D cB cI cJ cZ cS cT H.size h0 h_draft v0_kind v0_start v0_behind v0_number t_21 t_22 h_a1 h_a1_bytes v_a1_length f_a1_bytes 8 (by first | assumption | omega | decide) (by first | assumption | omega | decide)) hP hD hS hA hK hN hT hAB hG [4, 2, 3] [0, 1] rfl rfl (by decide) (by decide) (by decide) (cvB (n := 2) (inr12 _ (List.mem_of_getElem? (i := 10) rfl)) (inr12 _ (List.mem_of_getElem? (i := 11) rfl)) (inr12 _ (List.mem_of_getElem? (i := 12) rfl)) (inr1 _ (List.mem_of_getElem? (i := 19) rfl)) (inr12 _ (List.mem_of_getElem? (i := 13) rfl)) (by decide +kernel) hts rfl rfl ⟨Nat.le_of_ble_eq_true rfl, Nat.le_of_ble_eq_true rfl⟩) 0 6 rfl rfl rfl rfl hl.1 rfl (Nat.le_of_ble_eq_true rfl) ⟨Nat.le_of_ble_eq_true rfl, Nat.le_of_ble_eq_true rfl⟩ dX6_readGap_21 (fun x9 H locs h_24 hP hD hS => ?_)
    obtain ⟨t_25, t_26, t_27, t_28, t_29, t_30⟩ := x9
    have hP : va_P D vwCl [(h_draft, .inr (8, [.int v_draft_tones, .int v_draft_a, .int v_draft_b, .int v_draft_c, .int v_draft_d, .int v_draft_odds, .int v_draft_lines, .ref h_draft_signs, .int v_draft_signCount, .ref h_draft_posts, .int v_draft_postCount, .ref h_draft_acts])), (h_draft_signs, .inl (cI, 8, .inl f_draft_signs)), (h0, .inr (6, [.ref h_draft, .int t_25, .int t_26, .int t_27, .int t_28, .int t_29, .int t_30])), (h_a1, .inr (9, [.ref h_a1_bytes, .int v_a1_length])), (h_a1_bytes, .inl (cB, 500, .inl f_a1_bytes))] H := hP
    have hD : va_D A [(h_draft, .inr (8, [.int v_draft_tones, .int v_draft_a, .int v_draft_b, .int v_draft_c, .int v_draft_d, .int v_draft_odds, .int v_draft_lines, .ref h_draft_signs, .int v_draft_signCount, .ref h_draft_posts, .int v_draft_postCount, .ref h_draft_acts])), (h_draft_signs, .inl (cI, 8, .inl f_draft_signs)), (h0, .inr (6, [.ref h_draft, .int t_25, .int t_26, .int t_27, .int t_28, .int t_29, .int t_30])), (h_a1, .inr (9, [.ref h_a1_bytes, .int v_a1_length])), (h_a1_bytes, .inl (cB, 500, .inl f_a1_bytes))] := hD
    refine lv_aload_n hx hb dX6_readGap_24 rfl (lv_at hl 0 rfl) ?_
    refine va_get (D := D) (ci := 6) (v := .int t_29) (C := RX6) (T := TX6) (N := 7) hx hb hts inlX6 hown hK hP 2 rfl rfl 5 (by decide) (hts _ (inr9 _ (List.mem_of_getElem? (i := 14) rfl))) (fun _ h9 => h9) rfl dX6_readGap_25 ?_
    refine lv_if_ne (tgt := 39) hx hb dX6_readGap_28 (by decide) (fun c_31 => ?_) (fun c_31 => ?_)
    · have c_31 : ¬ t_29.toInt = 0 := ci_ne_t c_31
      have b_t_29 := i32b t_29
      exact ret _ _ _ _ (t_25, t_26, t_27, t_28, t_29, t_30, v_draft_signCount, f_draft_signs) dX6_readGap_39 (show (0 ≤ v_draft_signCount.toInt ∧ v_draft_signCount.toInt ≤ 8) from (by first | assumption | omega | decide)) (hP.sub [2, 0, 1, 3, 4] rfl) (hD.sub [2, 0, 1, 3, 4] (by decide) rfl) hS
    · have c_31 : t_29.toInt = 0 := ci_ne_f c_31
      have b_t_29 := i32b t_29
      refine lv_aload_n hx hb dX6_readGap_31 rfl (lv_at hl 0 rfl) ?_
      refine va_get (D := D) (ci := 6) (v := .ref h_draft) (C := RX6) (T := TX6) (N := 7) hx hb hts inlX6 hown hK hP 2 rfl rfl 0 (by decide) (hts _ (inr3 _ (List.mem_of_getElem? (i := 19) rfl))) (fun _ h9 => h9) rfl dX6_readGap_32 ?_
      refine lv_iconst (v := (-1)) hx hb dX6_readGap_35 (by decide) ?_
      refine wrVv (As := [.int (-1)]) (rest := []) (wr := [(h0, .inr (6, [.ref h_draft, .int t_25, .int t_26, .int t_27, .int t_28, .int t_29, .int t_30])), (h_a1, .inr (9, [.ref h_a1_bytes, .int v_a1_length])), (h_a1_bytes, .inl (cB, 500, .inl f_a1_bytes))]) ⟨hx, hb, hml, hown, hts⟩ (b_X8_addSign l G D cB cI cJ cZ cS cT H.size h_draft v_draft_tones v_draft_a v_draft_b v_draft_c v_draft_d v_draft_odds v_draft_lines h_draft_signs v_draft_signCount h_draft_posts v_draft_postCount h_draft_acts f_draft_signs (-1) (by first | assumption | omega | decide) (by first | assumption | omega | decide)) hP hD hS hA hK hN hT hAB hG [0, 1] [2, 3, 4] rfl rfl (by decide) (by decide) (by decide) (cvB (n := 1) (inr15 _ (List.mem_of_getElem? (i := 17) rfl)) (inr15 _ (List.mem_of_getElem? (i := 18) rfl)) (inr15 _ (List.mem_of_getElem? (i := 19) rfl)) (inr1 _ (List.mem_of_getElem? (i := 23) rfl)) (inr15 _ (List.mem_of_getElem? (i := 20) rfl)) (by decide +kernel) hts rfl rfl ⟨Nat.le_of_ble_eq_true rfl, Nat.le_of_ble_eq_true rfl⟩) 0 8 rfl rfl rfl rfl hl.1 rfl (Nat.le_of_ble_eq_true rfl) ⟨Nat.le_of_ble_eq_true rfl, Nat.le_of_ble_eq_true rfl⟩ dX6_readGap_36 (fun x9 H locs h_33 hP hD hS => ?_)
      obtain ⟨t_34, g_35⟩ := x9
      have hP : va_P D vwCl [(h0, .inr (6, [.ref h_draft, .int t_25, .int t_26, .int t_27, .int t_28, .int t_29, .int t_30])), (h_a1, .inr (9, [.ref h_a1_bytes, .int v_a1_length])), (h_a1_bytes, .inl (cB, 500, .inl f_a1_bytes)), (h_draft, .inr (8, [.int v_draft_tones, .int v_draft_a, .int v_draft_b, .int v_draft_c, .int v_draft_d, .int v_draft_odds, .int v_draft_lines, .ref h_draft_signs, .int t_34, .ref h_draft_posts, .int v_draft_postCount, .ref h_draft_acts])), (h_draft_signs, .inl (cI, 8, .inl g_35))] H := hP
      have hD : va_D A [(h0, .inr (6, [.ref h_draft, .int t_25, .int t_26, .int t_27, .int t_28, .int t_29, .int t_30])), (h_a1, .inr (9, [.ref h_a1_bytes, .int v_a1_length])), (h_a1_bytes, .inl (cB, 500, .inl f_a1_bytes)), (h_draft, .inr (8, [.int v_draft_tones, .int v_draft_a, .int v_draft_b, .int v_draft_c, .int v_draft_d, .int v_draft_odds, .int v_draft_lines, .ref h_draft_signs, .int t_34, .ref h_draft_posts, .int v_draft_postCount, .ref h_draft_acts])), (h_draft_signs, .inl (cI, 8, .inl g_35))] := hD
      have h_33 : (0 ≤ t_34.toInt ∧ t_34.toInt ≤ 8) := h_33
      have i_36 := h_33
      exact ret _ _ _ _ (t_25, t_26, t_27, t_28, t_29, t_30, t_34, g_35) dX6_readGap_39 (show (0 ≤ t_34.toInt ∧ t_34.toInt ≤ 8) from (by first | assumption | omega | decide)) (hP.sub [0, 3, 4, 1, 2] rfl) (hD.sub [0, 3, 4, 1, 2] (by decide) rfl) hS
