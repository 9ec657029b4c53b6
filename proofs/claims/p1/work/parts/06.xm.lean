theorem dX11_all_0 : decode cX11_all 0 = .ok (.aload_n 0, 1) := by decide +kernel
theorem dX11_all_1 : decode cX11_all 1 = .ok (.iload_n 1, 1) := by decide +kernel
theorem dX11_all_10 : decode cX11_all 10 = .ok (.goto 11, 3) := by decide +kernel
theorem dX11_all_2 : decode cX11_all 2 = .ok (.invokevirtual 142, 3) := by decide +kernel
theorem dX11_all_21 : decode cX11_all 21 = .ok (.ireturn, 1) := by decide +kernel
theorem dX11_all_5 : decode cX11_all 5 = .ok (.ifCond .eq 8, 3) := by decide +kernel
theorem dX11_all_8 : decode cX11_all 8 = .ok (.bipush (-2), 2) := by decide +kernel
theorem dX11_anew_0 : decode cX11_anew 0 = .ok (.aload_n 0, 1) := by decide +kernel
theorem dX11_anew_1 : decode cX11_anew 1 = .ok (.invokevirtual 165, 3) := by decide +kernel
theorem dX11_anew_4 : decode cX11_anew 4 = .ok (.ifCond .eq 6, 3) := by decide +kernel
theorem dX11_anew_7 : decode cX11_anew 7 = .ok (.bipush (-2), 2) := by decide +kernel
theorem dX11_anew_9 : decode cX11_anew 9 = .ok (.ireturn, 1) := by decide +kernel
theorem dX11_answer_0 : decode cX11_answer 0 = .ok (.aload_n 0, 1) := by decide +kernel
theorem dX11_answer_1 : decode cX11_answer 1 = .ok (.iload_n 1, 1) := by decide +kernel
theorem dX11_answer_10 : decode cX11_answer 10 = .ok (.goto 11, 3) := by decide +kernel
theorem dX11_answer_2 : decode cX11_answer 2 = .ok (.invokevirtual 142, 3) := by decide +kernel
theorem dX11_answer_21 : decode cX11_answer 21 = .ok (.ireturn, 1) := by decide +kernel
theorem dX11_answer_5 : decode cX11_answer 5 = .ok (.ifCond .eq 8, 3) := by decide +kernel
theorem dX11_answer_8 : decode cX11_answer 8 = .ok (.bipush (-2), 2) := by decide +kernel
theorem dX11_ask_0 : decode cX11_ask 0 = .ok (.aload_n 0, 1) := by decide +kernel
theorem dX11_ask_1 : decode cX11_ask 1 = .ok (.iload_n 1, 1) := by decide +kernel
theorem dX11_ask_10 : decode cX11_ask 10 = .ok (.iload_n 2, 1) := by decide +kernel
theorem dX11_ask_11 : decode cX11_ask 11 = .ok (.ireturn, 1) := by decide +kernel
theorem dX11_ask_2 : decode cX11_ask 2 = .ok (.invokevirtual 288, 3) := by decide +kernel
theorem dX11_ask_5 : decode cX11_ask 5 = .ok (.istore_n 2, 1) := by decide +kernel
theorem dX11_ask_6 : decode cX11_ask 6 = .ok (.iload_n 2, 1) := by decide +kernel
theorem dX11_ask_7 : decode cX11_ask 7 = .ok (.ifCond .eq 5, 3) := by decide +kernel
theorem dX11_births_0 : decode cX11_births 0 = .ok (.aload_n 0, 1) := by decide +kernel
theorem dX11_births_1 : decode cX11_births 1 = .ok (.invokevirtual 165, 3) := by decide +kernel
theorem dX11_births_4 : decode cX11_births 4 = .ok (.ifCond .eq 6, 3) := by decide +kernel
theorem dX11_births_7 : decode cX11_births 7 = .ok (.bipush (-2), 2) := by decide +kernel
theorem dX11_births_9 : decode cX11_births 9 = .ok (.ireturn, 1) := by decide +kernel
theorem dX11_blind_0 : decode cX11_blind 0 = .ok (.aload_n 0, 1) := by decide +kernel
theorem dX11_blind_1 : decode cX11_blind 1 = .ok (.invokevirtual 165, 3) := by decide +kernel
theorem dX11_blind_4 : decode cX11_blind 4 = .ok (.ifCond .eq 6, 3) := by decide +kernel
theorem dX11_blind_7 : decode cX11_blind 7 = .ok (.bipush (-2), 2) := by decide +kernel
theorem dX11_blind_9 : decode cX11_blind 9 = .ok (.ireturn, 1) := by decide +kernel
theorem dX11_chance_0 : decode cX11_chance 0 = .ok (.aload_n 0, 1) := by decide +kernel
theorem dX11_chance_1 : decode cX11_chance 1 = .ok (.invokevirtual 165, 3) := by decide +kernel
theorem dX11_chance_29 : decode cX11_chance 29 = .ok (.ldc2_w 355, 3) := by decide +kernel
theorem dX11_chance_32 : decode cX11_chance 32 = .ok (.lreturn, 1) := by decide +kernel
theorem dX11_chance_4 : decode cX11_chance 4 = .ok (.ifCond .ne 25, 3) := by decide +kernel
theorem dX11_clock_0 : decode cX11_clock 0 = .ok (.aload_n 0, 1) := by decide +kernel
theorem dX11_clock_1 : decode cX11_clock 1 = .ok (.invokevirtual 165, 3) := by decide +kernel
theorem dX11_clock_33 : decode cX11_clock 33 = .ok (.ldc 216, 2) := by decide +kernel
theorem dX11_clock_35 : decode cX11_clock 35 = .ok (.ireturn, 1) := by decide +kernel
theorem dX11_clock_4 : decode cX11_clock 4 = .ok (.ifCond .ne 29, 3) := by decide +kernel
theorem dX11_cool_0 : decode cX11_cool 0 = .ok (.aload_n 0, 1) := by decide +kernel
theorem dX11_cool_1 : decode cX11_cool 1 = .ok (.invokevirtual 165, 3) := by decide +kernel
theorem dX11_cool_19 : decode cX11_cool 19 = .ok (.ireturn, 1) := by decide +kernel
theorem dX11_cool_4 : decode cX11_cool 4 = .ok (.ifCond .eq 8, 3) := by decide +kernel
theorem dX11_cool_7 : decode cX11_cool 7 = .ok (.bipush (-2), 2) := by decide +kernel
theorem dX11_cool_9 : decode cX11_cool 9 = .ok (.goto 10, 3) := by decide +kernel
theorem dX11_drawn_0 : decode cX11_drawn 0 = .ok (.aload_n 0, 1) := by decide +kernel
theorem dX11_drawn_1 : decode cX11_drawn 1 = .ok (.iload_n 2, 1) := by decide +kernel
theorem dX11_drawn_2 : decode cX11_drawn 2 = .ok (.invokevirtual 142, 3) := by decide +kernel
theorem dX11_drawn_32 : decode cX11_drawn 32 = .ok (.bipush (-2), 2) := by decide +kernel
theorem dX11_drawn_34 : decode cX11_drawn 34 = .ok (.ireturn, 1) := by decide +kernel
theorem dX11_drawn_5 : decode cX11_drawn 5 = .ok (.ifCond .ne 27, 3) := by decide +kernel
theorem dX11_echo_0 : decode cX11_echo 0 = .ok (.aload_n 0, 1) := by decide +kernel
theorem dX11_echo_1 : decode cX11_echo 1 = .ok (.iload_n 1, 1) := by decide +kernel
theorem dX11_echo_10 : decode cX11_echo 10 = .ok (.goto 11, 3) := by decide +kernel
theorem dX11_echo_2 : decode cX11_echo 2 = .ok (.invokevirtual 142, 3) := by decide +kernel
theorem dX11_echo_21 : decode cX11_echo 21 = .ok (.ireturn, 1) := by decide +kernel
theorem dX11_echo_5 : decode cX11_echo 5 = .ok (.ifCond .eq 8, 3) := by decide +kernel
theorem dX11_echo_8 : decode cX11_echo 8 = .ok (.bipush (-2), 2) := by decide +kernel
theorem dX11_falls_0 : decode cX11_falls 0 = .ok (.aload_n 0, 1) := by decide +kernel
theorem dX11_falls_1 : decode cX11_falls 1 = .ok (.invokevirtual 165, 3) := by decide +kernel
theorem dX11_falls_20 : decode cX11_falls 20 = .ok (.ireturn, 1) := by decide +kernel
theorem dX11_falls_4 : decode cX11_falls 4 = .ok (.ifCond .eq 8, 3) := by decide +kernel
theorem dX11_falls_7 : decode cX11_falls 7 = .ok (.bipush (-2), 2) := by decide +kernel
theorem dX11_falls_9 : decode cX11_falls 9 = .ok (.goto 11, 3) := by decide +kernel
theorem dX11_far_0 : decode cX11_far 0 = .ok (.aload_n 0, 1) := by decide +kernel
theorem dX11_far_1 : decode cX11_far 1 = .ok (.invokevirtual 165, 3) := by decide +kernel
theorem dX11_far_19 : decode cX11_far 19 = .ok (.bipush (-2), 2) := by decide +kernel
theorem dX11_far_21 : decode cX11_far 21 = .ok (.ireturn, 1) := by decide +kernel
theorem dX11_far_4 : decode cX11_far 4 = .ok (.ifCond .ne 15, 3) := by decide +kernel
theorem dX11_farther_0 : decode cX11_farther 0 = .ok (.aload_n 0, 1) := by decide +kernel
theorem dX11_farther_1 : decode cX11_farther 1 = .ok (.iload_n 1, 1) := by decide +kernel
theorem dX11_farther_10 : decode cX11_farther 10 = .ok (.iload_n 2, 1) := by decide +kernel
theorem dX11_farther_11 : decode cX11_farther 11 = .ok (.ireturn, 1) := by decide +kernel
theorem dX11_farther_2 : decode cX11_farther 2 = .ok (.invokevirtual 324, 3) := by decide +kernel
theorem dX11_farther_5 : decode cX11_farther 5 = .ok (.istore_n 2, 1) := by decide +kernel
theorem dX11_farther_6 : decode cX11_farther 6 = .ok (.iload_n 2, 1) := by decide +kernel
theorem dX11_farther_7 : decode cX11_farther 7 = .ok (.ifCond .eq 5, 3) := by decide +kernel
theorem dX11_first_0 : decode cX11_first 0 = .ok (.aload_n 0, 1) := by decide +kernel
theorem dX11_first_1 : decode cX11_first 1 = .ok (.iload_n 1, 1) := by decide +kernel
theorem dX11_first_10 : decode cX11_first 10 = .ok (.goto 11, 3) := by decide +kernel
theorem dX11_first_2 : decode cX11_first 2 = .ok (.invokevirtual 172, 3) := by decide +kernel
theorem dX11_first_21 : decode cX11_first 21 = .ok (.ireturn, 1) := by decide +kernel
theorem dX11_first_5 : decode cX11_first 5 = .ok (.ifCond .eq 8, 3) := by decide +kernel
theorem dX11_first_8 : decode cX11_first 8 = .ok (.bipush (-2), 2) := by decide +kernel
theorem dX11_gaps_0 : decode cX11_gaps 0 = .ok (.aload_n 0, 1) := by decide +kernel
theorem dX11_gaps_1 : decode cX11_gaps 1 = .ok (.iload_n 1, 1) := by decide +kernel
theorem dX11_gaps_10 : decode cX11_gaps 10 = .ok (.ireturn, 1) := by decide +kernel
theorem dX11_gaps_2 : decode cX11_gaps 2 = .ok (.invokevirtual 142, 3) := by decide +kernel
theorem dX11_gaps_5 : decode cX11_gaps 5 = .ok (.ifCond .eq 6, 3) := by decide +kernel
theorem dX11_gaps_8 : decode cX11_gaps 8 = .ok (.bipush (-2), 2) := by decide +kernel
theorem dX11_heals_0 : decode cX11_heals 0 = .ok (.aload_n 0, 1) := by decide +kernel
theorem dX11_heals_1 : decode cX11_heals 1 = .ok (.iload_n 1, 1) := by decide +kernel
theorem dX11_heals_16 : decode cX11_heals 16 = .ok (.bipush (-2), 2) := by decide +kernel
theorem dX11_heals_18 : decode cX11_heals 18 = .ok (.ireturn, 1) := by decide +kernel
theorem dX11_heals_2 : decode cX11_heals 2 = .ok (.invokevirtual 142, 3) := by decide +kernel
theorem dX11_heals_5 : decode cX11_heals 5 = .ok (.ifCond .ne 11, 3) := by decide +kernel
theorem dX11_heard_0 : decode cX11_heard 0 = .ok (.aload_n 0, 1) := by decide +kernel
theorem dX11_heard_1 : decode cX11_heard 1 = .ok (.iload_n 1, 1) := by decide +kernel
theorem dX11_heard_10 : decode cX11_heard 10 = .ok (.goto 11, 3) := by decide +kernel
theorem dX11_heard_2 : decode cX11_heard 2 = .ok (.invokevirtual 142, 3) := by decide +kernel
theorem dX11_heard_21 : decode cX11_heard 21 = .ok (.ireturn, 1) := by decide +kernel
theorem dX11_heard_5 : decode cX11_heard 5 = .ok (.ifCond .eq 8, 3) := by decide +kernel
theorem dX11_heard_8 : decode cX11_heard 8 = .ok (.bipush (-2), 2) := by decide +kernel
theorem dX11_held_0 : decode cX11_held 0 = .ok (.aload_n 0, 1) := by decide +kernel
theorem dX11_held_1 : decode cX11_held 1 = .ok (.invokevirtual 165, 3) := by decide +kernel
theorem dX11_held_19 : decode cX11_held 19 = .ok (.ireturn, 1) := by decide +kernel
theorem dX11_held_4 : decode cX11_held 4 = .ok (.ifCond .eq 8, 3) := by decide +kernel
theorem dX11_held_7 : decode cX11_held 7 = .ok (.bipush (-2), 2) := by decide +kernel
theorem dX11_held_9 : decode cX11_held 9 = .ok (.goto 10, 3) := by decide +kernel
theorem dX11_last_0 : decode cX11_last 0 = .ok (.aload_n 0, 1) := by decide +kernel
theorem dX11_last_1 : decode cX11_last 1 = .ok (.iload_n 1, 1) := by decide +kernel
theorem dX11_last_10 : decode cX11_last 10 = .ok (.goto 11, 3) := by decide +kernel
theorem dX11_last_2 : decode cX11_last 2 = .ok (.invokevirtual 142, 3) := by decide +kernel
theorem dX11_last_21 : decode cX11_last 21 = .ok (.ireturn, 1) := by decide +kernel
theorem dX11_last_5 : decode cX11_last 5 = .ok (.ifCond .eq 8, 3) := by decide +kernel
theorem dX11_last_8 : decode cX11_last 8 = .ok (.bipush (-2), 2) := by decide +kernel
theorem dX11_law_0 : decode cX11_law 0 = .ok (.aload_n 0, 1) := by decide +kernel
theorem dX11_law_1 : decode cX11_law 1 = .ok (.iload_n 1, 1) := by decide +kernel
theorem dX11_law_10 : decode cX11_law 10 = .ok (.iload_n 2, 1) := by decide +kernel
theorem dX11_law_11 : decode cX11_law 11 = .ok (.ireturn, 1) := by decide +kernel
theorem dX11_law_2 : decode cX11_law 2 = .ok (.invokevirtual 288, 3) := by decide +kernel
theorem dX11_law_5 : decode cX11_law 5 = .ok (.istore_n 2, 1) := by decide +kernel
theorem dX11_law_6 : decode cX11_law 6 = .ok (.iload_n 2, 1) := by decide +kernel
theorem dX11_law_7 : decode cX11_law 7 = .ok (.ifCond .eq 5, 3) := by decide +kernel
theorem dX11_laws_0 : decode cX11_laws 0 = .ok (.aload_n 0, 1) := by decide +kernel
theorem dX11_laws_1 : decode cX11_laws 1 = .ok (.iload_n 1, 1) := by decide +kernel
theorem dX11_laws_10 : decode cX11_laws 10 = .ok (.iload_n 2, 1) := by decide +kernel
theorem dX11_laws_11 : decode cX11_laws 11 = .ok (.ireturn, 1) := by decide +kernel
theorem dX11_laws_2 : decode cX11_laws 2 = .ok (.invokevirtual 288, 3) := by decide +kernel
theorem dX11_laws_5 : decode cX11_laws 5 = .ok (.istore_n 2, 1) := by decide +kernel
theorem dX11_laws_6 : decode cX11_laws 6 = .ok (.iload_n 2, 1) := by decide +kernel
theorem dX11_laws_7 : decode cX11_laws 7 = .ok (.ifCond .eq 5, 3) := by decide +kernel
theorem dX11_leap_0 : decode cX11_leap 0 = .ok (.aload_n 0, 1) := by decide +kernel
theorem dX11_leap_1 : decode cX11_leap 1 = .ok (.invokevirtual 165, 3) := by decide +kernel
theorem dX11_leap_19 : decode cX11_leap 19 = .ok (.ireturn, 1) := by decide +kernel
theorem dX11_leap_4 : decode cX11_leap 4 = .ok (.ifCond .eq 8, 3) := by decide +kernel
theorem dX11_leap_7 : decode cX11_leap 7 = .ok (.bipush (-2), 2) := by decide +kernel
theorem dX11_leap_9 : decode cX11_leap 9 = .ok (.goto 10, 3) := by decide +kernel
theorem dX11_leaves_0 : decode cX11_leaves 0 = .ok (.aload_n 0, 1) := by decide +kernel
theorem dX11_leaves_1 : decode cX11_leaves 1 = .ok (.iload_n 1, 1) := by decide +kernel
theorem dX11_leaves_10 : decode cX11_leaves 10 = .ok (.iload_n 2, 1) := by decide +kernel
theorem dX11_leaves_11 : decode cX11_leaves 11 = .ok (.ireturn, 1) := by decide +kernel
theorem dX11_leaves_2 : decode cX11_leaves 2 = .ok (.invokevirtual 288, 3) := by decide +kernel
theorem dX11_leaves_5 : decode cX11_leaves 5 = .ok (.istore_n 2, 1) := by decide +kernel
theorem dX11_leaves_6 : decode cX11_leaves 6 = .ok (.iload_n 2, 1) := by decide +kernel
theorem dX11_leaves_7 : decode cX11_leaves 7 = .ok (.ifCond .eq 5, 3) := by decide +kernel
theorem dX11_luck_0 : decode cX11_luck 0 = .ok (.aload_n 0, 1) := by decide +kernel
theorem dX11_luck_1 : decode cX11_luck 1 = .ok (.iload_n 3, 1) := by decide +kernel
theorem dX11_luck_2 : decode cX11_luck 2 = .ok (.invokevirtual 142, 3) := by decide +kernel
theorem dX11_luck_41 : decode cX11_luck 41 = .ok (.bipush (-2), 2) := by decide +kernel
theorem dX11_luck_43 : decode cX11_luck 43 = .ok (.ireturn, 1) := by decide +kernel
theorem dX11_luck_5 : decode cX11_luck 5 = .ok (.ifCond .ne 36, 3) := by decide +kernel
theorem dX11_mend_0 : decode cX11_mend 0 = .ok (.aload_n 0, 1) := by decide +kernel
theorem dX11_mend_1 : decode cX11_mend 1 = .ok (.iload_n 1, 1) := by decide +kernel
theorem dX11_mend_16 : decode cX11_mend 16 = .ok (.bipush (-2), 2) := by decide +kernel
theorem dX11_mend_18 : decode cX11_mend 18 = .ok (.ireturn, 1) := by decide +kernel
theorem dX11_mend_2 : decode cX11_mend 2 = .ok (.invokevirtual 260, 3) := by decide +kernel
theorem dX11_mend_5 : decode cX11_mend 5 = .ok (.ifCond .ne 11, 3) := by decide +kernel
theorem dX11_most_0 : decode cX11_most 0 = .ok (.aload_n 0, 1) := by decide +kernel
theorem dX11_most_1 : decode cX11_most 1 = .ok (.invokevirtual 165, 3) := by decide +kernel
theorem dX11_most_4 : decode cX11_most 4 = .ok (.ifCond .eq 6, 3) := by decide +kernel
theorem dX11_most_7 : decode cX11_most 7 = .ok (.bipush (-2), 2) := by decide +kernel
theorem dX11_most_9 : decode cX11_most 9 = .ok (.ireturn, 1) := by decide +kernel
theorem dX11_needs_0 : decode cX11_needs 0 = .ok (.aload_n 0, 1) := by decide +kernel
theorem dX11_needs_1 : decode cX11_needs 1 = .ok (.iload_n 1, 1) := by decide +kernel
theorem dX11_needs_16 : decode cX11_needs 16 = .ok (.bipush (-2), 2) := by decide +kernel
theorem dX11_needs_18 : decode cX11_needs 18 = .ok (.goto 17, 3) := by decide +kernel
theorem dX11_needs_2 : decode cX11_needs 2 = .ok (.invokevirtual 260, 3) := by decide +kernel
theorem dX11_needs_35 : decode cX11_needs 35 = .ok (.ireturn, 1) := by decide +kernel
theorem dX11_needs_5 : decode cX11_needs 5 = .ok (.ifCond .ne 11, 3) := by decide +kernel
theorem dX11_often_0 : decode cX11_often 0 = .ok (.aload_n 0, 1) := by decide +kernel
theorem dX11_often_1 : decode cX11_often 1 = .ok (.iload_n 1, 1) := by decide +kernel
theorem dX11_often_16 : decode cX11_often 16 = .ok (.bipush (-2), 2) := by decide +kernel
theorem dX11_often_18 : decode cX11_often 18 = .ok (.goto 12, 3) := by decide +kernel
theorem dX11_often_2 : decode cX11_often 2 = .ok (.invokevirtual 172, 3) := by decide +kernel
theorem dX11_often_30 : decode cX11_often 30 = .ok (.ireturn, 1) := by decide +kernel
theorem dX11_often_5 : decode cX11_often 5 = .ok (.ifCond .ne 11, 3) := by decide +kernel
theorem dX11_parent_0 : decode cX11_parent 0 = .ok (.aload_n 0, 1) := by decide +kernel
theorem dX11_parent_1 : decode cX11_parent 1 = .ok (.iload_n 1, 1) := by decide +kernel
theorem dX11_parent_10 : decode cX11_parent 10 = .ok (.ireturn, 1) := by decide +kernel
theorem dX11_parent_2 : decode cX11_parent 2 = .ok (.invokevirtual 172, 3) := by decide +kernel
theorem dX11_parent_5 : decode cX11_parent 5 = .ok (.ifCond .eq 6, 3) := by decide +kernel
theorem dX11_parent_8 : decode cX11_parent 8 = .ok (.bipush (-2), 2) := by decide +kernel
theorem dX11_parents_0 : decode cX11_parents 0 = .ok (.aload_n 0, 1) := by decide +kernel
theorem dX11_parents_1 : decode cX11_parents 1 = .ok (.iload_n 1, 1) := by decide +kernel
theorem dX11_parents_10 : decode cX11_parents 10 = .ok (.ireturn, 1) := by decide +kernel
theorem dX11_parents_2 : decode cX11_parents 2 = .ok (.invokevirtual 172, 3) := by decide +kernel
theorem dX11_parents_5 : decode cX11_parents 5 = .ok (.ifCond .eq 6, 3) := by decide +kernel
theorem dX11_parents_8 : decode cX11_parents 8 = .ok (.bipush (-2), 2) := by decide +kernel
theorem dX11_pips_0 : decode cX11_pips 0 = .ok (.aload_n 0, 1) := by decide +kernel
theorem dX11_pips_1 : decode cX11_pips 1 = .ok (.iload_n 1, 1) := by decide +kernel
theorem dX11_pips_10 : decode cX11_pips 10 = .ok (.goto 11, 3) := by decide +kernel
theorem dX11_pips_2 : decode cX11_pips 2 = .ok (.invokevirtual 142, 3) := by decide +kernel
theorem dX11_pips_21 : decode cX11_pips 21 = .ok (.ireturn, 1) := by decide +kernel
theorem dX11_pips_5 : decode cX11_pips 5 = .ok (.ifCond .eq 8, 3) := by decide +kernel
theorem dX11_pips_8 : decode cX11_pips 8 = .ok (.bipush (-2), 2) := by decide +kernel
theorem dX11_place_0 : decode cX11_place 0 = .ok (.aload_n 0, 1) := by decide +kernel
theorem dX11_place_1 : decode cX11_place 1 = .ok (.iload_n 1, 1) := by decide +kernel
theorem dX11_place_10 : decode cX11_place 10 = .ok (.iload_n 2, 1) := by decide +kernel
theorem dX11_place_11 : decode cX11_place 11 = .ok (.ireturn, 1) := by decide +kernel
theorem dX11_place_2 : decode cX11_place 2 = .ok (.invokevirtual 324, 3) := by decide +kernel
theorem dX11_place_5 : decode cX11_place 5 = .ok (.istore_n 2, 1) := by decide +kernel
theorem dX11_place_6 : decode cX11_place 6 = .ok (.iload_n 2, 1) := by decide +kernel
theorem dX11_place_7 : decode cX11_place 7 = .ok (.ifCond .eq 5, 3) := by decide +kernel
theorem dX11_places_0 : decode cX11_places 0 = .ok (.aload_n 0, 1) := by decide +kernel
theorem dX11_places_1 : decode cX11_places 1 = .ok (.iload_n 1, 1) := by decide +kernel
theorem dX11_places_10 : decode cX11_places 10 = .ok (.iload_n 2, 1) := by decide +kernel
theorem dX11_places_11 : decode cX11_places 11 = .ok (.ireturn, 1) := by decide +kernel
theorem dX11_places_2 : decode cX11_places 2 = .ok (.invokevirtual 324, 3) := by decide +kernel
theorem dX11_places_5 : decode cX11_places 5 = .ok (.istore_n 2, 1) := by decide +kernel
theorem dX11_places_6 : decode cX11_places 6 = .ok (.iload_n 2, 1) := by decide +kernel
theorem dX11_places_7 : decode cX11_places 7 = .ok (.ifCond .eq 5, 3) := by decide +kernel
theorem dX11_plan_0 : decode cX11_plan 0 = .ok (.aload_n 0, 1) := by decide +kernel
theorem dX11_plan_1 : decode cX11_plan 1 = .ok (.iload_n 1, 1) := by decide +kernel
theorem dX11_plan_2 : decode cX11_plan 2 = .ok (.invokevirtual 260, 3) := by decide +kernel
theorem dX11_plan_24 : decode cX11_plan 24 = .ok (.bipush (-2), 2) := by decide +kernel
theorem dX11_plan_26 : decode cX11_plan 26 = .ok (.ireturn, 1) := by decide +kernel
theorem dX11_plan_5 : decode cX11_plan 5 = .ok (.ifCond .ne 19, 3) := by decide +kernel
theorem dX11_post_0 : decode cX11_post 0 = .ok (.iload_n 1, 1) := by decide +kernel
theorem dX11_post_1 : decode cX11_post 1 = .ok (.i2l, 1) := by decide +kernel
theorem dX11_post_10 : decode cX11_post 10 = .ok (.iconst 1, 1) := by decide +kernel
theorem dX11_post_11 : decode cX11_post 11 = .ok (.isub, 1) := by decide +kernel
theorem dX11_post_12 : decode cX11_post 12 = .ok (.i2l, 1) := by decide +kernel
theorem dX11_post_13 : decode cX11_post 13 = .ok (.invokestatic 101, 3) := by decide +kernel
theorem dX11_post_16 : decode cX11_post 16 = .ok (.ifCond .eq 8, 3) := by decide +kernel
theorem dX11_post_19 : decode cX11_post 19 = .ok (.bipush (-2), 2) := by decide +kernel
theorem dX11_post_2 : decode cX11_post 2 = .ok (.lconst 0, 1) := by decide +kernel
theorem dX11_post_21 : decode cX11_post 21 = .ok (.goto 11, 3) := by decide +kernel
theorem dX11_post_3 : decode cX11_post 3 = .ok (.aload_n 0, 1) := by decide +kernel
theorem dX11_post_32 : decode cX11_post 32 = .ok (.ireturn, 1) := by decide +kernel
theorem dX11_post_4 : decode cX11_post 4 = .ok (.getfield 26, 3) := by decide +kernel
theorem dX11_post_7 : decode cX11_post 7 = .ok (.invokevirtual 136, 3) := by decide +kernel
theorem dX11_pretty_0 : decode cX11_pretty 0 = .ok (.aload_n 0, 1) := by decide +kernel
theorem dX11_pretty_1 : decode cX11_pretty 1 = .ok (.invokevirtual 165, 3) := by decide +kernel
theorem dX11_pretty_4 : decode cX11_pretty 4 = .ok (.ifCond .eq 6, 3) := by decide +kernel
theorem dX11_pretty_7 : decode cX11_pretty 7 = .ok (.bipush (-2), 2) := by decide +kernel
theorem dX11_pretty_9 : decode cX11_pretty 9 = .ok (.ireturn, 1) := by decide +kernel
theorem dX11_quietly_0 : decode cX11_quietly 0 = .ok (.aload_n 0, 1) := by decide +kernel
theorem dX11_quietly_1 : decode cX11_quietly 1 = .ok (.iload_n 1, 1) := by decide +kernel
theorem dX11_quietly_16 : decode cX11_quietly 16 = .ok (.bipush (-2), 2) := by decide +kernel
theorem dX11_quietly_18 : decode cX11_quietly 18 = .ok (.goto 17, 3) := by decide +kernel
theorem dX11_quietly_2 : decode cX11_quietly 2 = .ok (.invokevirtual 260, 3) := by decide +kernel
theorem dX11_quietly_35 : decode cX11_quietly 35 = .ok (.ireturn, 1) := by decide +kernel
theorem dX11_quietly_5 : decode cX11_quietly 5 = .ok (.ifCond .ne 11, 3) := by decide +kernel
theorem dX11_reach_0 : decode cX11_reach 0 = .ok (.aload_n 0, 1) := by decide +kernel
theorem dX11_reach_1 : decode cX11_reach 1 = .ok (.iload_n 1, 1) := by decide +kernel
theorem dX11_reach_10 : decode cX11_reach 10 = .ok (.goto 15, 3) := by decide +kernel
theorem dX11_reach_2 : decode cX11_reach 2 = .ok (.invokevirtual 260, 3) := by decide +kernel
theorem dX11_reach_25 : decode cX11_reach 25 = .ok (.ireturn, 1) := by decide +kernel
theorem dX11_reach_5 : decode cX11_reach 5 = .ok (.ifCond .eq 8, 3) := by decide +kernel
theorem dX11_reach_8 : decode cX11_reach 8 = .ok (.bipush (-2), 2) := by decide +kernel
theorem dX11_rises_0 : decode cX11_rises 0 = .ok (.aload_n 0, 1) := by decide +kernel
theorem dX11_rises_1 : decode cX11_rises 1 = .ok (.invokevirtual 165, 3) := by decide +kernel
theorem dX11_rises_20 : decode cX11_rises 20 = .ok (.ireturn, 1) := by decide +kernel
theorem dX11_rises_4 : decode cX11_rises 4 = .ok (.ifCond .eq 8, 3) := by decide +kernel
theorem dX11_rises_7 : decode cX11_rises 7 = .ok (.bipush (-2), 2) := by decide +kernel
theorem dX11_rises_9 : decode cX11_rises 9 = .ok (.goto 11, 3) := by decide +kernel
theorem dX11_round_0 : decode cX11_round 0 = .ok (.aload_n 0, 1) := by decide +kernel
theorem dX11_round_1 : decode cX11_round 1 = .ok (.invokevirtual 165, 3) := by decide +kernel
theorem dX11_round_4 : decode cX11_round 4 = .ok (.ifCond .eq 6, 3) := by decide +kernel
theorem dX11_round_7 : decode cX11_round 7 = .ok (.bipush (-2), 2) := by decide +kernel
theorem dX11_round_9 : decode cX11_round 9 = .ok (.ireturn, 1) := by decide +kernel
theorem dX11_set_0 : decode cX11_set 0 = .ok (.aload_n 0, 1) := by decide +kernel
theorem dX11_set_1 : decode cX11_set 1 = .ok (.iload_n 1, 1) := by decide +kernel
theorem dX11_set_10 : decode cX11_set 10 = .ok (.iload_n 2, 1) := by decide +kernel
theorem dX11_set_11 : decode cX11_set 11 = .ok (.ireturn, 1) := by decide +kernel
theorem dX11_set_2 : decode cX11_set 2 = .ok (.invokevirtual 324, 3) := by decide +kernel
theorem dX11_set_5 : decode cX11_set 5 = .ok (.istore_n 2, 1) := by decide +kernel
theorem dX11_set_6 : decode cX11_set 6 = .ok (.iload_n 2, 1) := by decide +kernel
theorem dX11_set_7 : decode cX11_set 7 = .ok (.ifCond .eq 5, 3) := by decide +kernel
theorem dX11_settles_0 : decode cX11_settles 0 = .ok (.aload_n 0, 1) := by decide +kernel
theorem dX11_settles_1 : decode cX11_settles 1 = .ok (.invokevirtual 165, 3) := by decide +kernel
theorem dX11_settles_4 : decode cX11_settles 4 = .ok (.ifCond .eq 6, 3) := by decide +kernel
theorem dX11_settles_7 : decode cX11_settles 7 = .ok (.bipush (-2), 2) := by decide +kernel
theorem dX11_settles_9 : decode cX11_settles 9 = .ok (.ireturn, 1) := by decide +kernel
theorem dX11_shift_0 : decode cX11_shift 0 = .ok (.aload_n 0, 1) := by decide +kernel
theorem dX11_shift_1 : decode cX11_shift 1 = .ok (.iload_n 1, 1) := by decide +kernel
theorem dX11_shift_16 : decode cX11_shift 16 = .ok (.bipush (-2), 2) := by decide +kernel
theorem dX11_shift_18 : decode cX11_shift 18 = .ok (.goto 9, 3) := by decide +kernel
theorem dX11_shift_2 : decode cX11_shift 2 = .ok (.invokevirtual 142, 3) := by decide +kernel
theorem dX11_shift_27 : decode cX11_shift 27 = .ok (.ireturn, 1) := by decide +kernel
theorem dX11_shift_5 : decode cX11_shift 5 = .ok (.ifCond .ne 11, 3) := by decide +kernel
theorem dX11_sign_0 : decode cX11_sign 0 = .ok (.iload_n 1, 1) := by decide +kernel
theorem dX11_sign_1 : decode cX11_sign 1 = .ok (.i2l, 1) := by decide +kernel
theorem dX11_sign_10 : decode cX11_sign 10 = .ok (.iconst 1, 1) := by decide +kernel
theorem dX11_sign_11 : decode cX11_sign 11 = .ok (.isub, 1) := by decide +kernel
theorem dX11_sign_12 : decode cX11_sign 12 = .ok (.i2l, 1) := by decide +kernel
theorem dX11_sign_13 : decode cX11_sign 13 = .ok (.invokestatic 101, 3) := by decide +kernel
theorem dX11_sign_16 : decode cX11_sign 16 = .ok (.ifCond .eq 8, 3) := by decide +kernel
theorem dX11_sign_19 : decode cX11_sign 19 = .ok (.bipush (-2), 2) := by decide +kernel
theorem dX11_sign_2 : decode cX11_sign 2 = .ok (.lconst 0, 1) := by decide +kernel
theorem dX11_sign_21 : decode cX11_sign 21 = .ok (.goto 11, 3) := by decide +kernel
theorem dX11_sign_3 : decode cX11_sign 3 = .ok (.aload_n 0, 1) := by decide +kernel
theorem dX11_sign_32 : decode cX11_sign 32 = .ok (.ireturn, 1) := by decide +kernel
theorem dX11_sign_4 : decode cX11_sign 4 = .ok (.getfield 26, 3) := by decide +kernel
theorem dX11_sign_7 : decode cX11_sign 7 = .ok (.invokevirtual 129, 3) := by decide +kernel
theorem dX11_silent_0 : decode cX11_silent 0 = .ok (.aload_n 0, 1) := by decide +kernel
theorem dX11_silent_1 : decode cX11_silent 1 = .ok (.invokevirtual 165, 3) := by decide +kernel
theorem dX11_silent_4 : decode cX11_silent 4 = .ok (.ifCond .eq 6, 3) := by decide +kernel
theorem dX11_silent_7 : decode cX11_silent 7 = .ok (.bipush (-2), 2) := by decide +kernel
theorem dX11_silent_9 : decode cX11_silent 9 = .ok (.ireturn, 1) := by decide +kernel
theorem dX11_sooner_0 : decode cX11_sooner 0 = .ok (.aload_n 0, 1) := by decide +kernel
theorem dX11_sooner_1 : decode cX11_sooner 1 = .ok (.iload_n 1, 1) := by decide +kernel
theorem dX11_sooner_16 : decode cX11_sooner 16 = .ok (.bipush (-2), 2) := by decide +kernel
theorem dX11_sooner_18 : decode cX11_sooner 18 = .ok (.goto 13, 3) := by decide +kernel
theorem dX11_sooner_2 : decode cX11_sooner 2 = .ok (.invokevirtual 142, 3) := by decide +kernel
theorem dX11_sooner_31 : decode cX11_sooner 31 = .ok (.ireturn, 1) := by decide +kernel
theorem dX11_sooner_5 : decode cX11_sooner 5 = .ok (.ifCond .ne 11, 3) := by decide +kernel
theorem dX11_speak_0 : decode cX11_speak 0 = .ok (.aload_n 0, 1) := by decide +kernel
theorem dX11_speak_1 : decode cX11_speak 1 = .ok (.iload_n 1, 1) := by decide +kernel
theorem dX11_speak_2 : decode cX11_speak 2 = .ok (.invokevirtual 142, 3) := by decide +kernel
theorem dX11_speak_21 : decode cX11_speak 21 = .ok (.bipush (-2), 2) := by decide +kernel
theorem dX11_speak_23 : decode cX11_speak 23 = .ok (.ireturn, 1) := by decide +kernel
theorem dX11_speak_5 : decode cX11_speak 5 = .ok (.ifCond .ne 16, 3) := by decide +kernel
theorem dX11_spoken_0 : decode cX11_spoken 0 = .ok (.aload_n 0, 1) := by decide +kernel
theorem dX11_spoken_1 : decode cX11_spoken 1 = .ok (.iload_n 1, 1) := by decide +kernel
theorem dX11_spoken_10 : decode cX11_spoken 10 = .ok (.goto 14, 3) := by decide +kernel
theorem dX11_spoken_2 : decode cX11_spoken 2 = .ok (.invokevirtual 142, 3) := by decide +kernel
theorem dX11_spoken_24 : decode cX11_spoken 24 = .ok (.ireturn, 1) := by decide +kernel
theorem dX11_spoken_5 : decode cX11_spoken 5 = .ok (.ifCond .eq 8, 3) := by decide +kernel
theorem dX11_spoken_8 : decode cX11_spoken 8 = .ok (.bipush (-2), 2) := by decide +kernel
theorem dX11_spread_0 : decode cX11_spread 0 = .ok (.aload_n 0, 1) := by decide +kernel
theorem dX11_spread_1 : decode cX11_spread 1 = .ok (.invokevirtual 165, 3) := by decide +kernel
theorem dX11_spread_19 : decode cX11_spread 19 = .ok (.bipush (-2), 2) := by decide +kernel
theorem dX11_spread_21 : decode cX11_spread 21 = .ok (.ireturn, 1) := by decide +kernel
theorem dX11_spread_4 : decode cX11_spread 4 = .ok (.ifCond .ne 15, 3) := by decide +kernel
theorem dX11_sure_0 : decode cX11_sure 0 = .ok (.aload_n 0, 1) := by decide +kernel
theorem dX11_sure_1 : decode cX11_sure 1 = .ok (.invokevirtual 165, 3) := by decide +kernel
theorem dX11_sure_19 : decode cX11_sure 19 = .ok (.bipush (-2), 2) := by decide +kernel
theorem dX11_sure_21 : decode cX11_sure 21 = .ok (.ireturn, 1) := by decide +kernel
theorem dX11_sure_4 : decode cX11_sure 4 = .ok (.ifCond .ne 15, 3) := by decide +kernel
theorem dX11_tune_0 : decode cX11_tune 0 = .ok (.aload_n 0, 1) := by decide +kernel
theorem dX11_tune_1 : decode cX11_tune 1 = .ok (.iload_n 1, 1) := by decide +kernel
theorem dX11_tune_10 : decode cX11_tune 10 = .ok (.ireturn, 1) := by decide +kernel
theorem dX11_tune_2 : decode cX11_tune 2 = .ok (.invokevirtual 172, 3) := by decide +kernel
theorem dX11_tune_5 : decode cX11_tune 5 = .ok (.ifCond .eq 6, 3) := by decide +kernel
theorem dX11_tune_8 : decode cX11_tune 8 = .ok (.bipush (-2), 2) := by decide +kernel
theorem dX11_tuned_0 : decode cX11_tuned 0 = .ok (.aload_n 0, 1) := by decide +kernel
theorem dX11_tuned_1 : decode cX11_tuned 1 = .ok (.invokevirtual 165, 3) := by decide +kernel
theorem dX11_tuned_4 : decode cX11_tuned 4 = .ok (.ifCond .eq 6, 3) := by decide +kernel
theorem dX11_tuned_7 : decode cX11_tuned 7 = .ok (.bipush (-2), 2) := by decide +kernel
theorem dX11_tuned_9 : decode cX11_tuned 9 = .ok (.ireturn, 1) := by decide +kernel
theorem dX11_undo_0 : decode cX11_undo 0 = .ok (.aload_n 0, 1) := by decide +kernel
theorem dX11_undo_1 : decode cX11_undo 1 = .ok (.invokevirtual 165, 3) := by decide +kernel
theorem dX11_undo_4 : decode cX11_undo 4 = .ok (.ifCond .eq 6, 3) := by decide +kernel
theorem dX11_undo_7 : decode cX11_undo 7 = .ok (.bipush (-2), 2) := by decide +kernel
theorem dX11_undo_9 : decode cX11_undo 9 = .ok (.ireturn, 1) := by decide +kernel
theorem dX11_unlike_0 : decode cX11_unlike 0 = .ok (.aload_n 0, 1) := by decide +kernel
theorem dX11_unlike_1 : decode cX11_unlike 1 = .ok (.iload_n 1, 1) := by decide +kernel
theorem dX11_unlike_10 : decode cX11_unlike 10 = .ok (.goto 14, 3) := by decide +kernel
theorem dX11_unlike_2 : decode cX11_unlike 2 = .ok (.invokevirtual 142, 3) := by decide +kernel
theorem dX11_unlike_24 : decode cX11_unlike 24 = .ok (.ireturn, 1) := by decide +kernel
theorem dX11_unlike_5 : decode cX11_unlike 5 = .ok (.ifCond .eq 8, 3) := by decide +kernel
theorem dX11_unlike_8 : decode cX11_unlike 8 = .ok (.bipush (-2), 2) := by decide +kernel
theorem dX11_wed_0 : decode cX11_wed 0 = .ok (.aload_n 0, 1) := by decide +kernel
theorem dX11_wed_1 : decode cX11_wed 1 = .ok (.invokevirtual 165, 3) := by decide +kernel
theorem dX11_wed_20 : decode cX11_wed 20 = .ok (.ireturn, 1) := by decide +kernel
theorem dX11_wed_4 : decode cX11_wed 4 = .ok (.ifCond .eq 8, 3) := by decide +kernel
theorem dX11_wed_7 : decode cX11_wed 7 = .ok (.bipush (-2), 2) := by decide +kernel
theorem dX11_wed_9 : decode cX11_wed 9 = .ok (.goto 11, 3) := by decide +kernel
theorem dX11_when_0 : decode cX11_when 0 = .ok (.aload_n 0, 1) := by decide +kernel
theorem dX11_when_1 : decode cX11_when 1 = .ok (.invokevirtual 165, 3) := by decide +kernel
theorem dX11_when_19 : decode cX11_when 19 = .ok (.bipush (-2), 2) := by decide +kernel
theorem dX11_when_21 : decode cX11_when 21 = .ok (.goto 11, 3) := by decide +kernel
theorem dX11_when_32 : decode cX11_when 32 = .ok (.ireturn, 1) := by decide +kernel
theorem dX11_when_4 : decode cX11_when 4 = .ok (.ifCond .ne 15, 3) := by decide +kernel
theorem dX11_worst_0 : decode cX11_worst 0 = .ok (.aload_n 0, 1) := by decide +kernel
theorem dX11_worst_1 : decode cX11_worst 1 = .ok (.iload_n 1, 1) := by decide +kernel
theorem dX11_worst_10 : decode cX11_worst 10 = .ok (.ireturn, 1) := by decide +kernel
theorem dX11_worst_2 : decode cX11_worst 2 = .ok (.invokevirtual 142, 3) := by decide +kernel
theorem dX11_worst_5 : decode cX11_worst 5 = .ok (.ifCond .eq 6, 3) := by decide +kernel
theorem dX11_worst_8 : decode cX11_worst 8 = .ok (.bipush (-2), 2) := by decide +kernel
set_option maxHeartbeats 4000000 in
set_option maxRecDepth 100000 in
theorem kx_heard (l : Launch) (D : va_G) (cB cI cJ cZ cS cT : ClassId) (x0 : Nat) (r_tape : Nat) (r_reader : Nat) (r_now : Nat) (r_trial : Nat) (r_images : Nat) (r_kept : Nat) (r_slots : Nat) (r_night : Nat) (r_other : Nat) (r_circle : Nat) (r_words : Nat) (r_law : Nat) (r_place : Nat) (r_drawn : Nat) (n_signs : Nat) (n_posts : Nat) (n_acts : Nat) (a1 : Int32)  : Met l yX11_heard (Cond.code yX11_heard cX11_heard 2 (some .int) :: wsL_law) ({ frames := 3, cells := 0, slots := 0, locals := 61 }) (roP D (tyL cB cI cJ cZ cS cT) [(x0, .inr (11, [.ref r_tape, .ref r_reader, .ref r_now, .ref r_trial, .ref r_images, .ref r_kept, .ref r_slots, .ref r_night, .ref r_other, .ref r_circle, .ref r_words, .ref r_law, .ref r_place, .ref r_drawn])), (r_now, .inr (8, [.int 0, .int 0, .int 0, .int 0, .int 0, .int 0, .int 0, .ref n_signs, .int 0, .ref n_posts, .int 0, .ref n_acts]))] [.ref x0, .int a1]) (vp_Si (fun r : Int32 => r = (-2))) 0 0 (fun _ => False) := by
  refine Met.ofW (cc := cX11_heard) (maxL := 2) (ret := (some .int)) (by decide) rfl ?_
  intro p e s m args below meth c s₁ B hml hv
  obtain ⟨rfl, hP, hK⟩ := hv
  have hx := B.exec
  have hb := B.bytes
  have hr := B.returns
  have hts : ∀ w ∈ wsL_law, w.before ([.ref x0, .int a1] : List Value).toArray s = true := fun w h => atoms_spec (ws := Cond.code yX11_heard cX11_heard 2 (some .int) :: wsL_law) B.pre w (List.mem_cons_of_mem _ h)
  have hown : s.vm.findClass RX11 = some m.cls := findClass_of_methodNamed B.named
  have hlocks := B.notSynchronized
  have hl := lv_entry ([.ref x0, .int a1]) (n := 2) (Nat.le_of_ble_eq_true rfl)
  rw [lg_entry_eq]
  generalize (lg_sl ([.ref x0, .int a1]) ++ List.replicate (2 - (lg_sl ([.ref x0, .int a1])).length) Slot.unset).toArray = ls at hl ⊢
  have hl : lv_has ls 2 [(0, .ref x0), (1, .int a1)] := hl
  have hP : va_P D vwCl [(x0, .inr (11, [.ref r_tape, .ref r_reader, .ref r_now, .ref r_trial, .ref r_images, .ref r_kept, .ref r_slots, .ref r_night, .ref r_other, .ref r_circle, .ref r_words, .ref r_law, .ref r_place, .ref r_drawn])), (r_now, .inr (8, [.int 0, .int 0, .int 0, .int 0, .int 0, .int 0, .int 0, .ref n_signs, .int 0, .ref n_posts, .int 0, .ref n_acts]))] s.heap := hP
  refine lv_aload_n hx hb dX11_heard_0 rfl (lv_at hl 0 rfl) ?_
  refine lv_iload_n hx hb dX11_heard_1 rfl (lv_at hl 1 rfl) ?_
  refine roi (As := [.int a1]) (rest := []) ⟨hx, hb, hml, hown, hts⟩ (k_noStep l D cB cI cJ cZ cS cT x0 r_tape r_reader r_now r_trial r_images r_kept r_slots r_night r_other r_circle r_words r_law r_place r_drawn n_signs n_posts n_acts a1 ) (cvB (n := 1) (inr22 _ (List.mem_of_getElem? (i := 6) rfl)) (inr22 _ (List.mem_of_getElem? (i := 7) rfl)) (inr22 _ (List.mem_of_getElem? (i := 8) rfl)) (inr1 _ (List.mem_of_getElem? (i := 2) rfl)) (inr22 _ (List.mem_of_getElem? (i := 9) rfl)) (by decide +kernel) hts rfl rfl ⟨Nat.le_of_ble_eq_true rfl, Nat.le_of_ble_eq_true rfl⟩) 0 11 rfl rfl rfl (hP.sub [0, 1] rfl) hK rfl hl.1 rfl (Nat.le_of_ble_eq_true rfl) ⟨Nat.le_of_ble_eq_true rfl, Nat.le_of_ble_eq_true rfl⟩ dX11_heard_2 (fun r_1 h_2 => ?_)
  obtain rfl := h_2
  refine lv_if_eq (tgt := 13) hx hb dX11_heard_5 (by decide) (fun c0 => absurd c0 (by decide)) (fun _ => ?_)
  refine lv_bipush (v := (-2)) hx hb dX11_heard_8 (by decide) ?_
  refine lv_goto (tgt := 21) hx hb dX11_heard_10 (by decide) ?_
  exact W.iret (v := (-2)) hx hb hr (fun t ht hW => ⟨_, rfl, rfl, ht⟩) (fun _ h => by cases h) dX11_heard_21

set_option maxHeartbeats 4000000 in
set_option maxRecDepth 100000 in
theorem kx_last (l : Launch) (D : va_G) (cB cI cJ cZ cS cT : ClassId) (x0 : Nat) (r_tape : Nat) (r_reader : Nat) (r_now : Nat) (r_trial : Nat) (r_images : Nat) (r_kept : Nat) (r_slots : Nat) (r_night : Nat) (r_other : Nat) (r_circle : Nat) (r_words : Nat) (r_law : Nat) (r_place : Nat) (r_drawn : Nat) (n_signs : Nat) (n_posts : Nat) (n_acts : Nat) (a1 : Int32)  : Met l yX11_last (Cond.code yX11_last cX11_last 2 (some .int) :: wsL_law) ({ frames := 3, cells := 0, slots := 0, locals := 61 }) (roP D (tyL cB cI cJ cZ cS cT) [(x0, .inr (11, [.ref r_tape, .ref r_reader, .ref r_now, .ref r_trial, .ref r_images, .ref r_kept, .ref r_slots, .ref r_night, .ref r_other, .ref r_circle, .ref r_words, .ref r_law, .ref r_place, .ref r_drawn])), (r_now, .inr (8, [.int 0, .int 0, .int 0, .int 0, .int 0, .int 0, .int 0, .ref n_signs, .int 0, .ref n_posts, .int 0, .ref n_acts]))] [.ref x0, .int a1]) (vp_Si (fun r : Int32 => r = (-2))) 0 0 (fun _ => False) := by
  refine Met.ofW (cc := cX11_last) (maxL := 2) (ret := (some .int)) (by decide) rfl ?_
  intro p e s m args below meth c s₁ B hml hv
  obtain ⟨rfl, hP, hK⟩ := hv
  have hx := B.exec
  have hb := B.bytes
  have hr := B.returns
  have hts : ∀ w ∈ wsL_law, w.before ([.ref x0, .int a1] : List Value).toArray s = true := fun w h => atoms_spec (ws := Cond.code yX11_last cX11_last 2 (some .int) :: wsL_law) B.pre w (List.mem_cons_of_mem _ h)
  have hown : s.vm.findClass RX11 = some m.cls := findClass_of_methodNamed B.named
  have hlocks := B.notSynchronized
  have hl := lv_entry ([.ref x0, .int a1]) (n := 2) (Nat.le_of_ble_eq_true rfl)
  rw [lg_entry_eq]
  generalize (lg_sl ([.ref x0, .int a1]) ++ List.replicate (2 - (lg_sl ([.ref x0, .int a1])).length) Slot.unset).toArray = ls at hl ⊢
  have hl : lv_has ls 2 [(0, .ref x0), (1, .int a1)] := hl
  have hP : va_P D vwCl [(x0, .inr (11, [.ref r_tape, .ref r_reader, .ref r_now, .ref r_trial, .ref r_images, .ref r_kept, .ref r_slots, .ref r_night, .ref r_other, .ref r_circle, .ref r_words, .ref r_law, .ref r_place, .ref r_drawn])), (r_now, .inr (8, [.int 0, .int 0, .int 0, .int 0, .int 0, .int 0, .int 0, .ref n_signs, .int 0, .ref n_posts, .int 0, .ref n_acts]))] s.heap := hP
  refine lv_aload_n hx hb dX11_last_0 rfl (lv_at hl 0 rfl) ?_
  refine lv_iload_n hx hb dX11_last_1 rfl (lv_at hl 1 rfl) ?_
  refine roi (As := [.int a1]) (rest := []) ⟨hx, hb, hml, hown, hts⟩ (k_noStep l D cB cI cJ cZ cS cT x0 r_tape r_reader r_now r_trial r_images r_kept r_slots r_night r_other r_circle r_words r_law r_place r_drawn n_signs n_posts n_acts a1 ) (cvB (n := 1) (inr22 _ (List.mem_of_getElem? (i := 6) rfl)) (inr22 _ (List.mem_of_getElem? (i := 7) rfl)) (inr22 _ (List.mem_of_getElem? (i := 8) rfl)) (inr1 _ (List.mem_of_getElem? (i := 2) rfl)) (inr22 _ (List.mem_of_getElem? (i := 9) rfl)) (by decide +kernel) hts rfl rfl ⟨Nat.le_of_ble_eq_true rfl, Nat.le_of_ble_eq_true rfl⟩) 0 11 rfl rfl rfl (hP.sub [0, 1] rfl) hK rfl hl.1 rfl (Nat.le_of_ble_eq_true rfl) ⟨Nat.le_of_ble_eq_true rfl, Nat.le_of_ble_eq_true rfl⟩ dX11_last_2 (fun r_1 h_2 => ?_)
  obtain rfl := h_2
  refine lv_if_eq (tgt := 13) hx hb dX11_last_5 (by decide) (fun c0 => absurd c0 (by decide)) (fun _ => ?_)
  refine lv_bipush (v := (-2)) hx hb dX11_last_8 (by decide) ?_
  refine lv_goto (tgt := 21) hx hb dX11_last_10 (by decide) ?_
  exact W.iret (v := (-2)) hx hb hr (fun t ht hW => ⟨_, rfl, rfl, ht⟩) (fun _ h => by cases h) dX11_last_21

set_option maxHeartbeats 4000000 in
set_option maxRecDepth 100000 in
theorem kx_answer (l : Launch) (D : va_G) (cB cI cJ cZ cS cT : ClassId) (x0 : Nat) (r_tape : Nat) (r_reader : Nat) (r_now : Nat) (r_trial : Nat) (r_images : Nat) (r_kept : Nat) (r_slots : Nat) (r_night : Nat) (r_other : Nat) (r_circle : Nat) (r_words : Nat) (r_law : Nat) (r_place : Nat) (r_drawn : Nat) (n_signs : Nat) (n_posts : Nat) (n_acts : Nat) (a1 : Int32)  : Met l yX11_answer (Cond.code yX11_answer cX11_answer 2 (some .int) :: wsL_law) ({ frames := 3, cells := 0, slots := 0, locals := 61 }) (roP D (tyL cB cI cJ cZ cS cT) [(x0, .inr (11, [.ref r_tape, .ref r_reader, .ref r_now, .ref r_trial, .ref r_images, .ref r_kept, .ref r_slots, .ref r_night, .ref r_other, .ref r_circle, .ref r_words, .ref r_law, .ref r_place, .ref r_drawn])), (r_now, .inr (8, [.int 0, .int 0, .int 0, .int 0, .int 0, .int 0, .int 0, .ref n_signs, .int 0, .ref n_posts, .int 0, .ref n_acts]))] [.ref x0, .int a1]) (vp_Si (fun r : Int32 => r = (-2))) 0 0 (fun _ => False) := by
  refine Met.ofW (cc := cX11_answer) (maxL := 2) (ret := (some .int)) (by decide) rfl ?_
  intro p e s m args below meth c s₁ B hml hv
  obtain ⟨rfl, hP, hK⟩ := hv
  have hx := B.exec
  have hb := B.bytes
  have hr := B.returns
  have hts : ∀ w ∈ wsL_law, w.before ([.ref x0, .int a1] : List Value).toArray s = true := fun w h => atoms_spec (ws := Cond.code yX11_answer cX11_answer 2 (some .int) :: wsL_law) B.pre w (List.mem_cons_of_mem _ h)
  have hown : s.vm.findClass RX11 = some m.cls := findClass_of_methodNamed B.named
  have hlocks := B.notSynchronized
  have hl := lv_entry ([.ref x0, .int a1]) (n := 2) (Nat.le_of_ble_eq_true rfl)
  rw [lg_entry_eq]
  generalize (lg_sl ([.ref x0, .int a1]) ++ List.replicate (2 - (lg_sl ([.ref x0, .int a1])).length) Slot.unset).toArray = ls at hl ⊢
  have hl : lv_has ls 2 [(0, .ref x0), (1, .int a1)] := hl
  have hP : va_P D vwCl [(x0, .inr (11, [.ref r_tape, .ref r_reader, .ref r_now, .ref r_trial, .ref r_images, .ref r_kept, .ref r_slots, .ref r_night, .ref r_other, .ref r_circle, .ref r_words, .ref r_law, .ref r_place, .ref r_drawn])), (r_now, .inr (8, [.int 0, .int 0, .int 0, .int 0, .int 0, .int 0, .int 0, .ref n_signs, .int 0, .ref n_posts, .int 0, .ref n_acts]))] s.heap := hP
  refine lv_aload_n hx hb dX11_answer_0 rfl (lv_at hl 0 rfl) ?_
  refine lv_iload_n hx hb dX11_answer_1 rfl (lv_at hl 1 rfl) ?_
  refine roi (As := [.int a1]) (rest := []) ⟨hx, hb, hml, hown, hts⟩ (k_noStep l D cB cI cJ cZ cS cT x0 r_tape r_reader r_now r_trial r_images r_kept r_slots r_night r_other r_circle r_words r_law r_place r_drawn n_signs n_posts n_acts a1 ) (cvB (n := 1) (inr22 _ (List.mem_of_getElem? (i := 6) rfl)) (inr22 _ (List.mem_of_getElem? (i := 7) rfl)) (inr22 _ (List.mem_of_getElem? (i := 8) rfl)) (inr1 _ (List.mem_of_getElem? (i := 2) rfl)) (inr22 _ (List.mem_of_getElem? (i := 9) rfl)) (by decide +kernel) hts rfl rfl ⟨Nat.le_of_ble_eq_true rfl, Nat.le_of_ble_eq_true rfl⟩) 0 11 rfl rfl rfl (hP.sub [0, 1] rfl) hK rfl hl.1 rfl (Nat.le_of_ble_eq_true rfl) ⟨Nat.le_of_ble_eq_true rfl, Nat.le_of_ble_eq_true rfl⟩ dX11_answer_2 (fun r_1 h_2 => ?_)
  obtain rfl := h_2
  refine lv_if_eq (tgt := 13) hx hb dX11_answer_5 (by decide) (fun c0 => absurd c0 (by decide)) (fun _ => ?_)
  refine lv_bipush (v := (-2)) hx hb dX11_answer_8 (by decide) ?_
  refine lv_goto (tgt := 21) hx hb dX11_answer_10 (by decide) ?_
  exact W.iret (v := (-2)) hx hb hr (fun t ht hW => ⟨_, rfl, rfl, ht⟩) (fun _ h => by cases h) dX11_answer_21

set_option maxHeartbeats 4000000 in
set_option maxRecDepth 100000 in
theorem kx_gaps (l : Launch) (D : va_G) (cB cI cJ cZ cS cT : ClassId) (x0 : Nat) (r_tape : Nat) (r_reader : Nat) (r_now : Nat) (r_trial : Nat) (r_images : Nat) (r_kept : Nat) (r_slots : Nat) (r_night : Nat) (r_other : Nat) (r_circle : Nat) (r_words : Nat) (r_law : Nat) (r_place : Nat) (r_drawn : Nat) (n_signs : Nat) (n_posts : Nat) (n_acts : Nat) (a1 : Int32)  : Met l yX11_gaps (Cond.code yX11_gaps cX11_gaps 4 (some .int) :: wsL_law) ({ frames := 3, cells := 0, slots := 0, locals := 61 }) (roP D (tyL cB cI cJ cZ cS cT) [(x0, .inr (11, [.ref r_tape, .ref r_reader, .ref r_now, .ref r_trial, .ref r_images, .ref r_kept, .ref r_slots, .ref r_night, .ref r_other, .ref r_circle, .ref r_words, .ref r_law, .ref r_place, .ref r_drawn])), (r_now, .inr (8, [.int 0, .int 0, .int 0, .int 0, .int 0, .int 0, .int 0, .ref n_signs, .int 0, .ref n_posts, .int 0, .ref n_acts]))] [.ref x0, .int a1]) (vp_Si (fun r : Int32 => r = (-2))) 0 0 (fun _ => False) := by
  refine Met.ofW (cc := cX11_gaps) (maxL := 4) (ret := (some .int)) (by decide) rfl ?_
  intro p e s m args below meth c s₁ B hml hv
  obtain ⟨rfl, hP, hK⟩ := hv
  have hx := B.exec
  have hb := B.bytes
  have hr := B.returns
  have hts : ∀ w ∈ wsL_law, w.before ([.ref x0, .int a1] : List Value).toArray s = true := fun w h => atoms_spec (ws := Cond.code yX11_gaps cX11_gaps 4 (some .int) :: wsL_law) B.pre w (List.mem_cons_of_mem _ h)
  have hown : s.vm.findClass RX11 = some m.cls := findClass_of_methodNamed B.named
  have hlocks := B.notSynchronized
  have hl := lv_entry ([.ref x0, .int a1]) (n := 4) (Nat.le_of_ble_eq_true rfl)
  rw [lg_entry_eq]
  generalize (lg_sl ([.ref x0, .int a1]) ++ List.replicate (4 - (lg_sl ([.ref x0, .int a1])).length) Slot.unset).toArray = ls at hl ⊢
  have hl : lv_has ls 4 [(0, .ref x0), (1, .int a1)] := hl
  have hP : va_P D vwCl [(x0, .inr (11, [.ref r_tape, .ref r_reader, .ref r_now, .ref r_trial, .ref r_images, .ref r_kept, .ref r_slots, .ref r_night, .ref r_other, .ref r_circle, .ref r_words, .ref r_law, .ref r_place, .ref r_drawn])), (r_now, .inr (8, [.int 0, .int 0, .int 0, .int 0, .int 0, .int 0, .int 0, .ref n_signs, .int 0, .ref n_posts, .int 0, .ref n_acts]))] s.heap := hP
  refine lv_aload_n hx hb dX11_gaps_0 rfl (lv_at hl 0 rfl) ?_
  refine lv_iload_n hx hb dX11_gaps_1 rfl (lv_at hl 1 rfl) ?_
  refine roi (As := [.int a1]) (rest := []) ⟨hx, hb, hml, hown, hts⟩ (k_noStep l D cB cI cJ cZ cS cT x0 r_tape r_reader r_now r_trial r_images r_kept r_slots r_night r_other r_circle r_words r_law r_place r_drawn n_signs n_posts n_acts a1 ) (cvB (n := 1) (inr22 _ (List.mem_of_getElem? (i := 6) rfl)) (inr22 _ (List.mem_of_getElem? (i := 7) rfl)) (inr22 _ (List.mem_of_getElem? (i := 8) rfl)) (inr1 _ (List.mem_of_getElem? (i := 2) rfl)) (inr22 _ (List.mem_of_getElem? (i := 9) rfl)) (by decide +kernel) hts rfl rfl ⟨Nat.le_of_ble_eq_true rfl, Nat.le_of_ble_eq_true rfl⟩) 0 11 rfl rfl rfl (hP.sub [0, 1] rfl) hK rfl hl.1 rfl (Nat.le_of_ble_eq_true rfl) ⟨Nat.le_of_ble_eq_true rfl, Nat.le_of_ble_eq_true rfl⟩ dX11_gaps_2 (fun r_1 h_2 => ?_)
  obtain rfl := h_2
  refine lv_if_eq (tgt := 11) hx hb dX11_gaps_5 (by decide) (fun c0 => absurd c0 (by decide)) (fun _ => ?_)
  refine lv_bipush (v := (-2)) hx hb dX11_gaps_8 (by decide) ?_
  exact W.iret (v := (-2)) hx hb hr (fun t ht hW => ⟨_, rfl, rfl, ht⟩) (fun _ h => by cases h) dX11_gaps_10

set_option maxHeartbeats 4000000 in
set_option maxRecDepth 100000 in
theorem kx_pips (l : Launch) (D : va_G) (cB cI cJ cZ cS cT : ClassId) (x0 : Nat) (r_tape : Nat) (r_reader : Nat) (r_now : Nat) (r_trial : Nat) (r_images : Nat) (r_kept : Nat) (r_slots : Nat) (r_night : Nat) (r_other : Nat) (r_circle : Nat) (r_words : Nat) (r_law : Nat) (r_place : Nat) (r_drawn : Nat) (n_signs : Nat) (n_posts : Nat) (n_acts : Nat) (a1 : Int32)  : Met l yX11_pips (Cond.code yX11_pips cX11_pips 2 (some .int) :: wsL_law) ({ frames := 3, cells := 0, slots := 0, locals := 61 }) (roP D (tyL cB cI cJ cZ cS cT) [(x0, .inr (11, [.ref r_tape, .ref r_reader, .ref r_now, .ref r_trial, .ref r_images, .ref r_kept, .ref r_slots, .ref r_night, .ref r_other, .ref r_circle, .ref r_words, .ref r_law, .ref r_place, .ref r_drawn])), (r_now, .inr (8, [.int 0, .int 0, .int 0, .int 0, .int 0, .int 0, .int 0, .ref n_signs, .int 0, .ref n_posts, .int 0, .ref n_acts]))] [.ref x0, .int a1]) (vp_Si (fun r : Int32 => r = (-2))) 0 0 (fun _ => False) := by
  refine Met.ofW (cc := cX11_pips) (maxL := 2) (ret := (some .int)) (by decide) rfl ?_
  intro p e s m args below meth c s₁ B hml hv
  obtain ⟨rfl, hP, hK⟩ := hv
  have hx := B.exec
  have hb := B.bytes
  have hr := B.returns
  have hts : ∀ w ∈ wsL_law, w.before ([.ref x0, .int a1] : List Value).toArray s = true := fun w h => atoms_spec (ws := Cond.code yX11_pips cX11_pips 2 (some .int) :: wsL_law) B.pre w (List.mem_cons_of_mem _ h)
  have hown : s.vm.findClass RX11 = some m.cls := findClass_of_methodNamed B.named
  have hlocks := B.notSynchronized
  have hl := lv_entry ([.ref x0, .int a1]) (n := 2) (Nat.le_of_ble_eq_true rfl)
  rw [lg_entry_eq]
  generalize (lg_sl ([.ref x0, .int a1]) ++ List.replicate (2 - (lg_sl ([.ref x0, .int a1])).length) Slot.unset).toArray = ls at hl ⊢
  have hl : lv_has ls 2 [(0, .ref x0), (1, .int a1)] := hl
  have hP : va_P D vwCl [(x0, .inr (11, [.ref r_tape, .ref r_reader, .ref r_now, .ref r_trial, .ref r_images, .ref r_kept, .ref r_slots, .ref r_night, .ref r_other, .ref r_circle, .ref r_words, .ref r_law, .ref r_place, .ref r_drawn])), (r_now, .inr (8, [.int 0, .int 0, .int 0, .int 0, .int 0, .int 0, .int 0, .ref n_signs, .int 0, .ref n_posts, .int 0, .ref n_acts]))] s.heap := hP
  refine lv_aload_n hx hb dX11_pips_0 rfl (lv_at hl 0 rfl) ?_
  refine lv_iload_n hx hb dX11_pips_1 rfl (lv_at hl 1 rfl) ?_
  refine roi (As := [.int a1]) (rest := []) ⟨hx, hb, hml, hown, hts⟩ (k_noStep l D cB cI cJ cZ cS cT x0 r_tape r_reader r_now r_trial r_images r_kept r_slots r_night r_other r_circle r_words r_law r_place r_drawn n_signs n_posts n_acts a1 ) (cvB (n := 1) (inr22 _ (List.mem_of_getElem? (i := 6) rfl)) (inr22 _ (List.mem_of_getElem? (i := 7) rfl)) (inr22 _ (List.mem_of_getElem? (i := 8) rfl)) (inr1 _ (List.mem_of_getElem? (i := 2) rfl)) (inr22 _ (List.mem_of_getElem? (i := 9) rfl)) (by decide +kernel) hts rfl rfl ⟨Nat.le_of_ble_eq_true rfl, Nat.le_of_ble_eq_true rfl⟩) 0 11 rfl rfl rfl (hP.sub [0, 1] rfl) hK rfl hl.1 rfl (Nat.le_of_ble_eq_true rfl) ⟨Nat.le_of_ble_eq_true rfl, Nat.le_of_ble_eq_true rfl⟩ dX11_pips_2 (fun r_1 h_2 => ?_)
  obtain rfl := h_2
  refine lv_if_eq (tgt := 13) hx hb dX11_pips_5 (by decide) (fun c0 => absurd c0 (by decide)) (fun _ => ?_)
  refine lv_bipush (v := (-2)) hx hb dX11_pips_8 (by decide) ?_
  refine lv_goto (tgt := 21) hx hb dX11_pips_10 (by decide) ?_
  exact W.iret (v := (-2)) hx hb hr (fun t ht hW => ⟨_, rfl, rfl, ht⟩) (fun _ h => by cases h) dX11_pips_21

set_option maxHeartbeats 4000000 in
set_option maxRecDepth 100000 in
theorem kx_wed (l : Launch) (D : va_G) (cB cI cJ cZ cS cT : ClassId) (x0 : Nat) (r_tape : Nat) (r_reader : Nat) (r_now : Nat) (r_trial : Nat) (r_images : Nat) (r_kept : Nat) (r_slots : Nat) (r_night : Nat) (r_other : Nat) (r_circle : Nat) (r_words : Nat) (r_law : Nat) (r_place : Nat) (r_drawn : Nat) (n_signs : Nat) (n_posts : Nat) (n_acts : Nat)  : Met l yX11_wed (Cond.code yX11_wed cX11_wed 1 (some .int) :: wsL_law) ({ frames := 2, cells := 0, slots := 0, locals := 40 }) (roP D (tyL cB cI cJ cZ cS cT) [(x0, .inr (11, [.ref r_tape, .ref r_reader, .ref r_now, .ref r_trial, .ref r_images, .ref r_kept, .ref r_slots, .ref r_night, .ref r_other, .ref r_circle, .ref r_words, .ref r_law, .ref r_place, .ref r_drawn])), (r_now, .inr (8, [.int 0, .int 0, .int 0, .int 0, .int 0, .int 0, .int 0, .ref n_signs, .int 0, .ref n_posts, .int 0, .ref n_acts]))] [.ref x0]) (vp_Si (fun r : Int32 => r = (-2))) 0 0 (fun _ => False) := by
  refine Met.ofW (cc := cX11_wed) (maxL := 1) (ret := (some .int)) (by decide) rfl ?_
  intro p e s m args below meth c s₁ B hml hv
  obtain ⟨rfl, hP, hK⟩ := hv
  have hx := B.exec
  have hb := B.bytes
  have hr := B.returns
  have hts : ∀ w ∈ wsL_law, w.before ([.ref x0] : List Value).toArray s = true := fun w h => atoms_spec (ws := Cond.code yX11_wed cX11_wed 1 (some .int) :: wsL_law) B.pre w (List.mem_cons_of_mem _ h)
  have hown : s.vm.findClass RX11 = some m.cls := findClass_of_methodNamed B.named
  have hlocks := B.notSynchronized
  have hl := lv_entry ([.ref x0]) (n := 1) (Nat.le_of_ble_eq_true rfl)
  rw [lg_entry_eq]
  generalize (lg_sl ([.ref x0]) ++ List.replicate (1 - (lg_sl ([.ref x0])).length) Slot.unset).toArray = ls at hl ⊢
  have hl : lv_has ls 1 [(0, .ref x0)] := hl
  have hP : va_P D vwCl [(x0, .inr (11, [.ref r_tape, .ref r_reader, .ref r_now, .ref r_trial, .ref r_images, .ref r_kept, .ref r_slots, .ref r_night, .ref r_other, .ref r_circle, .ref r_words, .ref r_law, .ref r_place, .ref r_drawn])), (r_now, .inr (8, [.int 0, .int 0, .int 0, .int 0, .int 0, .int 0, .int 0, .ref n_signs, .int 0, .ref n_posts, .int 0, .ref n_acts]))] s.heap := hP
  refine lv_aload_n hx hb dX11_wed_0 rfl (lv_at hl 0 rfl) ?_
  refine roi (As := []) (rest := []) ⟨hx, hb, hml, hown, hts⟩ (k_noStation l D cB cI cJ cZ cS cT x0 r_tape r_reader r_now r_trial r_images r_kept r_slots r_night r_other r_circle r_words r_law r_place r_drawn n_signs n_posts n_acts ) (cvB (n := 0) (inr22 _ (List.mem_of_getElem? (i := 11) rfl)) (inr22 _ (List.mem_of_getElem? (i := 12) rfl)) (inr22 _ (List.mem_of_getElem? (i := 13) rfl)) (inr1 _ (List.mem_of_getElem? (i := 2) rfl)) (inr22 _ (List.mem_of_getElem? (i := 14) rfl)) (by decide +kernel) hts rfl rfl ⟨Nat.le_of_ble_eq_true rfl, Nat.le_of_ble_eq_true rfl⟩) 0 11 rfl rfl rfl (hP.sub [0, 1] rfl) hK rfl hl.1 rfl (Nat.le_of_ble_eq_true rfl) ⟨Nat.le_of_ble_eq_true rfl, Nat.le_of_ble_eq_true rfl⟩ dX11_wed_1 (fun r_1 h_2 => ?_)
  obtain rfl := h_2
  refine lv_if_eq (tgt := 12) hx hb dX11_wed_4 (by decide) (fun c0 => absurd c0 (by decide)) (fun _ => ?_)
  refine lv_bipush (v := (-2)) hx hb dX11_wed_7 (by decide) ?_
  refine lv_goto (tgt := 20) hx hb dX11_wed_9 (by decide) ?_
  exact W.iret (v := (-2)) hx hb hr (fun t ht hW => ⟨_, rfl, rfl, ht⟩) (fun _ h => by cases h) dX11_wed_20

set_option maxHeartbeats 4000000 in
set_option maxRecDepth 100000 in
theorem kx_first (l : Launch) (D : va_G) (cB cI cJ cZ cS cT : ClassId) (x0 : Nat) (r_tape : Nat) (r_reader : Nat) (r_now : Nat) (r_trial : Nat) (r_images : Nat) (r_kept : Nat) (r_slots : Nat) (r_night : Nat) (r_other : Nat) (r_circle : Nat) (r_words : Nat) (r_law : Nat) (r_place : Nat) (r_drawn : Nat) (n_signs : Nat) (n_posts : Nat) (n_acts : Nat) (a1 : Int32)  : Met l yX11_first (Cond.code yX11_first cX11_first 2 (some .int) :: wsL_law) ({ frames := 3, cells := 0, slots := 0, locals := 61 }) (roP D (tyL cB cI cJ cZ cS cT) [(x0, .inr (11, [.ref r_tape, .ref r_reader, .ref r_now, .ref r_trial, .ref r_images, .ref r_kept, .ref r_slots, .ref r_night, .ref r_other, .ref r_circle, .ref r_words, .ref r_law, .ref r_place, .ref r_drawn])), (r_now, .inr (8, [.int 0, .int 0, .int 0, .int 0, .int 0, .int 0, .int 0, .ref n_signs, .int 0, .ref n_posts, .int 0, .ref n_acts]))] [.ref x0, .int a1]) (vp_Si (fun r : Int32 => r = (-2))) 0 0 (fun _ => False) := by
  refine Met.ofW (cc := cX11_first) (maxL := 2) (ret := (some .int)) (by decide) rfl ?_
  intro p e s m args below meth c s₁ B hml hv
  obtain ⟨rfl, hP, hK⟩ := hv
  have hx := B.exec
  have hb := B.bytes
  have hr := B.returns
  have hts : ∀ w ∈ wsL_law, w.before ([.ref x0, .int a1] : List Value).toArray s = true := fun w h => atoms_spec (ws := Cond.code yX11_first cX11_first 2 (some .int) :: wsL_law) B.pre w (List.mem_cons_of_mem _ h)
  have hown : s.vm.findClass RX11 = some m.cls := findClass_of_methodNamed B.named
  have hlocks := B.notSynchronized
  have hl := lv_entry ([.ref x0, .int a1]) (n := 2) (Nat.le_of_ble_eq_true rfl)
  rw [lg_entry_eq]
  generalize (lg_sl ([.ref x0, .int a1]) ++ List.replicate (2 - (lg_sl ([.ref x0, .int a1])).length) Slot.unset).toArray = ls at hl ⊢
  have hl : lv_has ls 2 [(0, .ref x0), (1, .int a1)] := hl
  have hP : va_P D vwCl [(x0, .inr (11, [.ref r_tape, .ref r_reader, .ref r_now, .ref r_trial, .ref r_images, .ref r_kept, .ref r_slots, .ref r_night, .ref r_other, .ref r_circle, .ref r_words, .ref r_law, .ref r_place, .ref r_drawn])), (r_now, .inr (8, [.int 0, .int 0, .int 0, .int 0, .int 0, .int 0, .int 0, .ref n_signs, .int 0, .ref n_posts, .int 0, .ref n_acts]))] s.heap := hP
  refine lv_aload_n hx hb dX11_first_0 rfl (lv_at hl 0 rfl) ?_
  refine lv_iload_n hx hb dX11_first_1 rfl (lv_at hl 1 rfl) ?_
  refine roi (As := [.int a1]) (rest := []) ⟨hx, hb, hml, hown, hts⟩ (k_noTone l D cB cI cJ cZ cS cT x0 r_tape r_reader r_now r_trial r_images r_kept r_slots r_night r_other r_circle r_words r_law r_place r_drawn n_signs n_posts n_acts a1 ) (cvB (n := 1) (inr29 _ (List.mem_of_getElem? (i := 11) rfl)) (inr29 _ (List.mem_of_getElem? (i := 12) rfl)) (inr29 _ (List.mem_of_getElem? (i := 13) rfl)) (inr1 _ (List.mem_of_getElem? (i := 2) rfl)) (inr29 _ (List.mem_of_getElem? (i := 14) rfl)) (by decide +kernel) hts rfl rfl ⟨Nat.le_of_ble_eq_true rfl, Nat.le_of_ble_eq_true rfl⟩) 0 11 rfl rfl rfl (hP.sub [0, 1] rfl) hK rfl hl.1 rfl (Nat.le_of_ble_eq_true rfl) ⟨Nat.le_of_ble_eq_true rfl, Nat.le_of_ble_eq_true rfl⟩ dX11_first_2 (fun r_1 h_2 => ?_)
  obtain rfl := h_2
  refine lv_if_eq (tgt := 13) hx hb dX11_first_5 (by decide) (fun c0 => absurd c0 (by decide)) (fun _ => ?_)
  refine lv_bipush (v := (-2)) hx hb dX11_first_8 (by decide) ?_
  refine lv_goto (tgt := 21) hx hb dX11_first_10 (by decide) ?_
  exact W.iret (v := (-2)) hx hb hr (fun t ht hW => ⟨_, rfl, rfl, ht⟩) (fun _ h => by cases h) dX11_first_21

set_option maxHeartbeats 4000000 in
set_option maxRecDepth 100000 in
theorem kx_often (l : Launch) (D : va_G) (cB cI cJ cZ cS cT : ClassId) (x0 : Nat) (r_tape : Nat) (r_reader : Nat) (r_now : Nat) (r_trial : Nat) (r_images : Nat) (r_kept : Nat) (r_slots : Nat) (r_night : Nat) (r_other : Nat) (r_circle : Nat) (r_words : Nat) (r_law : Nat) (r_place : Nat) (r_drawn : Nat) (n_signs : Nat) (n_posts : Nat) (n_acts : Nat) (a1 : Int32) (a2 : Int32)  : Met l yX11_often (Cond.code yX11_often cX11_often 3 (some .int) :: wsL_law) ({ frames := 3, cells := 0, slots := 0, locals := 61 }) (roP D (tyL cB cI cJ cZ cS cT) [(x0, .inr (11, [.ref r_tape, .ref r_reader, .ref r_now, .ref r_trial, .ref r_images, .ref r_kept, .ref r_slots, .ref r_night, .ref r_other, .ref r_circle, .ref r_words, .ref r_law, .ref r_place, .ref r_drawn])), (r_now, .inr (8, [.int 0, .int 0, .int 0, .int 0, .int 0, .int 0, .int 0, .ref n_signs, .int 0, .ref n_posts, .int 0, .ref n_acts]))] [.ref x0, .int a1, .int a2]) (vp_Si (fun r : Int32 => r = (-2))) 0 0 (fun _ => False) := by
  refine Met.ofW (cc := cX11_often) (maxL := 3) (ret := (some .int)) (by decide) rfl ?_
  intro p e s m args below meth c s₁ B hml hv
  obtain ⟨rfl, hP, hK⟩ := hv
  have hx := B.exec
  have hb := B.bytes
  have hr := B.returns
  have hts : ∀ w ∈ wsL_law, w.before ([.ref x0, .int a1, .int a2] : List Value).toArray s = true := fun w h => atoms_spec (ws := Cond.code yX11_often cX11_often 3 (some .int) :: wsL_law) B.pre w (List.mem_cons_of_mem _ h)
  have hown : s.vm.findClass RX11 = some m.cls := findClass_of_methodNamed B.named
  have hlocks := B.notSynchronized
  have hl := lv_entry ([.ref x0, .int a1, .int a2]) (n := 3) (Nat.le_of_ble_eq_true rfl)
  rw [lg_entry_eq]
  generalize (lg_sl ([.ref x0, .int a1, .int a2]) ++ List.replicate (3 - (lg_sl ([.ref x0, .int a1, .int a2])).length) Slot.unset).toArray = ls at hl ⊢
  have hl : lv_has ls 3 [(0, .ref x0), (1, .int a1), (2, .int a2)] := hl
  have hP : va_P D vwCl [(x0, .inr (11, [.ref r_tape, .ref r_reader, .ref r_now, .ref r_trial, .ref r_images, .ref r_kept, .ref r_slots, .ref r_night, .ref r_other, .ref r_circle, .ref r_words, .ref r_law, .ref r_place, .ref r_drawn])), (r_now, .inr (8, [.int 0, .int 0, .int 0, .int 0, .int 0, .int 0, .int 0, .ref n_signs, .int 0, .ref n_posts, .int 0, .ref n_acts]))] s.heap := hP
  refine lv_aload_n hx hb dX11_often_0 rfl (lv_at hl 0 rfl) ?_
  refine lv_iload_n hx hb dX11_often_1 rfl (lv_at hl 1 rfl) ?_
  refine roi (As := [.int a1]) (rest := []) ⟨hx, hb, hml, hown, hts⟩ (k_noTone l D cB cI cJ cZ cS cT x0 r_tape r_reader r_now r_trial r_images r_kept r_slots r_night r_other r_circle r_words r_law r_place r_drawn n_signs n_posts n_acts a1 ) (cvB (n := 1) (inr29 _ (List.mem_of_getElem? (i := 11) rfl)) (inr29 _ (List.mem_of_getElem? (i := 12) rfl)) (inr29 _ (List.mem_of_getElem? (i := 13) rfl)) (inr1 _ (List.mem_of_getElem? (i := 2) rfl)) (inr29 _ (List.mem_of_getElem? (i := 14) rfl)) (by decide +kernel) hts rfl rfl ⟨Nat.le_of_ble_eq_true rfl, Nat.le_of_ble_eq_true rfl⟩) 0 11 rfl rfl rfl (hP.sub [0, 1] rfl) hK rfl hl.1 rfl (Nat.le_of_ble_eq_true rfl) ⟨Nat.le_of_ble_eq_true rfl, Nat.le_of_ble_eq_true rfl⟩ dX11_often_2 (fun r_1 h_2 => ?_)
  obtain rfl := h_2
  refine lv_if_ne (tgt := 16) hx hb dX11_often_5 (by decide) (fun _ => ?_) (fun c0 => absurd c0 (by decide))
  refine lv_bipush (v := (-2)) hx hb dX11_often_16 (by decide) ?_
  refine lv_goto (tgt := 30) hx hb dX11_often_18 (by decide) ?_
  exact W.iret (v := (-2)) hx hb hr (fun t ht hW => ⟨_, rfl, rfl, ht⟩) (fun _ h => by cases h) dX11_often_30

set_option maxHeartbeats 4000000 in
set_option maxRecDepth 100000 in
theorem kx_all (l : Launch) (D : va_G) (cB cI cJ cZ cS cT : ClassId) (x0 : Nat) (r_tape : Nat) (r_reader : Nat) (r_now : Nat) (r_trial : Nat) (r_images : Nat) (r_kept : Nat) (r_slots : Nat) (r_night : Nat) (r_other : Nat) (r_circle : Nat) (r_words : Nat) (r_law : Nat) (r_place : Nat) (r_drawn : Nat) (n_signs : Nat) (n_posts : Nat) (n_acts : Nat) (a1 : Int32)  : Met l yX11_all (Cond.code yX11_all cX11_all 2 (some .int) :: wsL_law) ({ frames := 3, cells := 0, slots := 0, locals := 61 }) (roP D (tyL cB cI cJ cZ cS cT) [(x0, .inr (11, [.ref r_tape, .ref r_reader, .ref r_now, .ref r_trial, .ref r_images, .ref r_kept, .ref r_slots, .ref r_night, .ref r_other, .ref r_circle, .ref r_words, .ref r_law, .ref r_place, .ref r_drawn])), (r_now, .inr (8, [.int 0, .int 0, .int 0, .int 0, .int 0, .int 0, .int 0, .ref n_signs, .int 0, .ref n_posts, .int 0, .ref n_acts]))] [.ref x0, .int a1]) (vp_Si (fun r : Int32 => r = (-2))) 0 0 (fun _ => False) := by
  refine Met.ofW (cc := cX11_all) (maxL := 2) (ret := (some .int)) (by decide) rfl ?_
  intro p e s m args below meth c s₁ B hml hv
  obtain ⟨rfl, hP, hK⟩ := hv
  have hx := B.exec
  have hb := B.bytes
  have hr := B.returns
  have hts : ∀ w ∈ wsL_law, w.before ([.ref x0, .int a1] : List Value).toArray s = true := fun w h => atoms_spec (ws := Cond.code yX11_all cX11_all 2 (some .int) :: wsL_law) B.pre w (List.mem_cons_of_mem _ h)
  have hown : s.vm.findClass RX11 = some m.cls := findClass_of_methodNamed B.named
  have hlocks := B.notSynchronized
  have hl := lv_entry ([.ref x0, .int a1]) (n := 2) (Nat.le_of_ble_eq_true rfl)
  rw [lg_entry_eq]
  generalize (lg_sl ([.ref x0, .int a1]) ++ List.replicate (2 - (lg_sl ([.ref x0, .int a1])).length) Slot.unset).toArray = ls at hl ⊢
  have hl : lv_has ls 2 [(0, .ref x0), (1, .int a1)] := hl
  have hP : va_P D vwCl [(x0, .inr (11, [.ref r_tape, .ref r_reader, .ref r_now, .ref r_trial, .ref r_images, .ref r_kept, .ref r_slots, .ref r_night, .ref r_other, .ref r_circle, .ref r_words, .ref r_law, .ref r_place, .ref r_drawn])), (r_now, .inr (8, [.int 0, .int 0, .int 0, .int 0, .int 0, .int 0, .int 0, .ref n_signs, .int 0, .ref n_posts, .int 0, .ref n_acts]))] s.heap := hP
  refine lv_aload_n hx hb dX11_all_0 rfl (lv_at hl 0 rfl) ?_
  refine lv_iload_n hx hb dX11_all_1 rfl (lv_at hl 1 rfl) ?_
  refine roi (As := [.int a1]) (rest := []) ⟨hx, hb, hml, hown, hts⟩ (k_noStep l D cB cI cJ cZ cS cT x0 r_tape r_reader r_now r_trial r_images r_kept r_slots r_night r_other r_circle r_words r_law r_place r_drawn n_signs n_posts n_acts a1 ) (cvB (n := 1) (inr22 _ (List.mem_of_getElem? (i := 6) rfl)) (inr22 _ (List.mem_of_getElem? (i := 7) rfl)) (inr22 _ (List.mem_of_getElem? (i := 8) rfl)) (inr1 _ (List.mem_of_getElem? (i := 2) rfl)) (inr22 _ (List.mem_of_getElem? (i := 9) rfl)) (by decide +kernel) hts rfl rfl ⟨Nat.le_of_ble_eq_true rfl, Nat.le_of_ble_eq_true rfl⟩) 0 11 rfl rfl rfl (hP.sub [0, 1] rfl) hK rfl hl.1 rfl (Nat.le_of_ble_eq_true rfl) ⟨Nat.le_of_ble_eq_true rfl, Nat.le_of_ble_eq_true rfl⟩ dX11_all_2 (fun r_1 h_2 => ?_)
  obtain rfl := h_2
  refine lv_if_eq (tgt := 13) hx hb dX11_all_5 (by decide) (fun c0 => absurd c0 (by decide)) (fun _ => ?_)
  refine lv_bipush (v := (-2)) hx hb dX11_all_8 (by decide) ?_
  refine lv_goto (tgt := 21) hx hb dX11_all_10 (by decide) ?_
  exact W.iret (v := (-2)) hx hb hr (fun t ht hW => ⟨_, rfl, rfl, ht⟩) (fun _ h => by cases h) dX11_all_21

set_option maxHeartbeats 4000000 in
set_option maxRecDepth 100000 in
theorem kx_most (l : Launch) (D : va_G) (cB cI cJ cZ cS cT : ClassId) (x0 : Nat) (r_tape : Nat) (r_reader : Nat) (r_now : Nat) (r_trial : Nat) (r_images : Nat) (r_kept : Nat) (r_slots : Nat) (r_night : Nat) (r_other : Nat) (r_circle : Nat) (r_words : Nat) (r_law : Nat) (r_place : Nat) (r_drawn : Nat) (n_signs : Nat) (n_posts : Nat) (n_acts : Nat)  : Met l yX11_most (Cond.code yX11_most cX11_most 6 (some .int) :: wsL_law) ({ frames := 2, cells := 0, slots := 0, locals := 40 }) (roP D (tyL cB cI cJ cZ cS cT) [(x0, .inr (11, [.ref r_tape, .ref r_reader, .ref r_now, .ref r_trial, .ref r_images, .ref r_kept, .ref r_slots, .ref r_night, .ref r_other, .ref r_circle, .ref r_words, .ref r_law, .ref r_place, .ref r_drawn])), (r_now, .inr (8, [.int 0, .int 0, .int 0, .int 0, .int 0, .int 0, .int 0, .ref n_signs, .int 0, .ref n_posts, .int 0, .ref n_acts]))] [.ref x0]) (vp_Si (fun r : Int32 => r = (-2))) 0 0 (fun _ => False) := by
  refine Met.ofW (cc := cX11_most) (maxL := 6) (ret := (some .int)) (by decide) rfl ?_
  intro p e s m args below meth c s₁ B hml hv
  obtain ⟨rfl, hP, hK⟩ := hv
  have hx := B.exec
  have hb := B.bytes
  have hr := B.returns
  have hts : ∀ w ∈ wsL_law, w.before ([.ref x0] : List Value).toArray s = true := fun w h => atoms_spec (ws := Cond.code yX11_most cX11_most 6 (some .int) :: wsL_law) B.pre w (List.mem_cons_of_mem _ h)
  have hown : s.vm.findClass RX11 = some m.cls := findClass_of_methodNamed B.named
  have hlocks := B.notSynchronized
  have hl := lv_entry ([.ref x0]) (n := 6) (Nat.le_of_ble_eq_true rfl)
  rw [lg_entry_eq]
  generalize (lg_sl ([.ref x0]) ++ List.replicate (6 - (lg_sl ([.ref x0])).length) Slot.unset).toArray = ls at hl ⊢
  have hl : lv_has ls 6 [(0, .ref x0)] := hl
  have hP : va_P D vwCl [(x0, .inr (11, [.ref r_tape, .ref r_reader, .ref r_now, .ref r_trial, .ref r_images, .ref r_kept, .ref r_slots, .ref r_night, .ref r_other, .ref r_circle, .ref r_words, .ref r_law, .ref r_place, .ref r_drawn])), (r_now, .inr (8, [.int 0, .int 0, .int 0, .int 0, .int 0, .int 0, .int 0, .ref n_signs, .int 0, .ref n_posts, .int 0, .ref n_acts]))] s.heap := hP
  refine lv_aload_n hx hb dX11_most_0 rfl (lv_at hl 0 rfl) ?_
  refine roi (As := []) (rest := []) ⟨hx, hb, hml, hown, hts⟩ (k_noStation l D cB cI cJ cZ cS cT x0 r_tape r_reader r_now r_trial r_images r_kept r_slots r_night r_other r_circle r_words r_law r_place r_drawn n_signs n_posts n_acts ) (cvB (n := 0) (inr22 _ (List.mem_of_getElem? (i := 11) rfl)) (inr22 _ (List.mem_of_getElem? (i := 12) rfl)) (inr22 _ (List.mem_of_getElem? (i := 13) rfl)) (inr1 _ (List.mem_of_getElem? (i := 2) rfl)) (inr22 _ (List.mem_of_getElem? (i := 14) rfl)) (by decide +kernel) hts rfl rfl ⟨Nat.le_of_ble_eq_true rfl, Nat.le_of_ble_eq_true rfl⟩) 0 11 rfl rfl rfl (hP.sub [0, 1] rfl) hK rfl hl.1 rfl (Nat.le_of_ble_eq_true rfl) ⟨Nat.le_of_ble_eq_true rfl, Nat.le_of_ble_eq_true rfl⟩ dX11_most_1 (fun r_1 h_2 => ?_)
  obtain rfl := h_2
  refine lv_if_eq (tgt := 10) hx hb dX11_most_4 (by decide) (fun c0 => absurd c0 (by decide)) (fun _ => ?_)
  refine lv_bipush (v := (-2)) hx hb dX11_most_7 (by decide) ?_
  exact W.iret (v := (-2)) hx hb hr (fun t ht hW => ⟨_, rfl, rfl, ht⟩) (fun _ h => by cases h) dX11_most_9

set_option maxHeartbeats 4000000 in
set_option maxRecDepth 100000 in
theorem kx_held (l : Launch) (D : va_G) (cB cI cJ cZ cS cT : ClassId) (x0 : Nat) (r_tape : Nat) (r_reader : Nat) (r_now : Nat) (r_trial : Nat) (r_images : Nat) (r_kept : Nat) (r_slots : Nat) (r_night : Nat) (r_other : Nat) (r_circle : Nat) (r_words : Nat) (r_law : Nat) (r_place : Nat) (r_drawn : Nat) (n_signs : Nat) (n_posts : Nat) (n_acts : Nat)  : Met l yX11_held (Cond.code yX11_held cX11_held 1 (some .int) :: wsL_law) ({ frames := 2, cells := 0, slots := 0, locals := 40 }) (roP D (tyL cB cI cJ cZ cS cT) [(x0, .inr (11, [.ref r_tape, .ref r_reader, .ref r_now, .ref r_trial, .ref r_images, .ref r_kept, .ref r_slots, .ref r_night, .ref r_other, .ref r_circle, .ref r_words, .ref r_law, .ref r_place, .ref r_drawn])), (r_now, .inr (8, [.int 0, .int 0, .int 0, .int 0, .int 0, .int 0, .int 0, .ref n_signs, .int 0, .ref n_posts, .int 0, .ref n_acts]))] [.ref x0]) (vp_Si (fun r : Int32 => r = (-2))) 0 0 (fun _ => False) := by
  refine Met.ofW (cc := cX11_held) (maxL := 1) (ret := (some .int)) (by decide) rfl ?_
  intro p e s m args below meth c s₁ B hml hv
  obtain ⟨rfl, hP, hK⟩ := hv
  have hx := B.exec
  have hb := B.bytes
  have hr := B.returns
  have hts : ∀ w ∈ wsL_law, w.before ([.ref x0] : List Value).toArray s = true := fun w h => atoms_spec (ws := Cond.code yX11_held cX11_held 1 (some .int) :: wsL_law) B.pre w (List.mem_cons_of_mem _ h)
  have hown : s.vm.findClass RX11 = some m.cls := findClass_of_methodNamed B.named
  have hlocks := B.notSynchronized
  have hl := lv_entry ([.ref x0]) (n := 1) (Nat.le_of_ble_eq_true rfl)
  rw [lg_entry_eq]
  generalize (lg_sl ([.ref x0]) ++ List.replicate (1 - (lg_sl ([.ref x0])).length) Slot.unset).toArray = ls at hl ⊢
  have hl : lv_has ls 1 [(0, .ref x0)] := hl
  have hP : va_P D vwCl [(x0, .inr (11, [.ref r_tape, .ref r_reader, .ref r_now, .ref r_trial, .ref r_images, .ref r_kept, .ref r_slots, .ref r_night, .ref r_other, .ref r_circle, .ref r_words, .ref r_law, .ref r_place, .ref r_drawn])), (r_now, .inr (8, [.int 0, .int 0, .int 0, .int 0, .int 0, .int 0, .int 0, .ref n_signs, .int 0, .ref n_posts, .int 0, .ref n_acts]))] s.heap := hP
  refine lv_aload_n hx hb dX11_held_0 rfl (lv_at hl 0 rfl) ?_
  refine roi (As := []) (rest := []) ⟨hx, hb, hml, hown, hts⟩ (k_noStation l D cB cI cJ cZ cS cT x0 r_tape r_reader r_now r_trial r_images r_kept r_slots r_night r_other r_circle r_words r_law r_place r_drawn n_signs n_posts n_acts ) (cvB (n := 0) (inr22 _ (List.mem_of_getElem? (i := 11) rfl)) (inr22 _ (List.mem_of_getElem? (i := 12) rfl)) (inr22 _ (List.mem_of_getElem? (i := 13) rfl)) (inr1 _ (List.mem_of_getElem? (i := 2) rfl)) (inr22 _ (List.mem_of_getElem? (i := 14) rfl)) (by decide +kernel) hts rfl rfl ⟨Nat.le_of_ble_eq_true rfl, Nat.le_of_ble_eq_true rfl⟩) 0 11 rfl rfl rfl (hP.sub [0, 1] rfl) hK rfl hl.1 rfl (Nat.le_of_ble_eq_true rfl) ⟨Nat.le_of_ble_eq_true rfl, Nat.le_of_ble_eq_true rfl⟩ dX11_held_1 (fun r_1 h_2 => ?_)
  obtain rfl := h_2
  refine lv_if_eq (tgt := 12) hx hb dX11_held_4 (by decide) (fun c0 => absurd c0 (by decide)) (fun _ => ?_)
  refine lv_bipush (v := (-2)) hx hb dX11_held_7 (by decide) ?_
  refine lv_goto (tgt := 19) hx hb dX11_held_9 (by decide) ?_
  exact W.iret (v := (-2)) hx hb hr (fun t ht hW => ⟨_, rfl, rfl, ht⟩) (fun _ h => by cases h) dX11_held_19

set_option maxHeartbeats 4000000 in
set_option maxRecDepth 100000 in
theorem kx_rises (l : Launch) (D : va_G) (cB cI cJ cZ cS cT : ClassId) (x0 : Nat) (r_tape : Nat) (r_reader : Nat) (r_now : Nat) (r_trial : Nat) (r_images : Nat) (r_kept : Nat) (r_slots : Nat) (r_night : Nat) (r_other : Nat) (r_circle : Nat) (r_words : Nat) (r_law : Nat) (r_place : Nat) (r_drawn : Nat) (n_signs : Nat) (n_posts : Nat) (n_acts : Nat)  : Met l yX11_rises (Cond.code yX11_rises cX11_rises 1 (some .int) :: wsL_law) ({ frames := 2, cells := 0, slots := 0, locals := 40 }) (roP D (tyL cB cI cJ cZ cS cT) [(x0, .inr (11, [.ref r_tape, .ref r_reader, .ref r_now, .ref r_trial, .ref r_images, .ref r_kept, .ref r_slots, .ref r_night, .ref r_other, .ref r_circle, .ref r_words, .ref r_law, .ref r_place, .ref r_drawn])), (r_now, .inr (8, [.int 0, .int 0, .int 0, .int 0, .int 0, .int 0, .int 0, .ref n_signs, .int 0, .ref n_posts, .int 0, .ref n_acts]))] [.ref x0]) (vp_Si (fun r : Int32 => r = (-2))) 0 0 (fun _ => False) := by
  refine Met.ofW (cc := cX11_rises) (maxL := 1) (ret := (some .int)) (by decide) rfl ?_
  intro p e s m args below meth c s₁ B hml hv
  obtain ⟨rfl, hP, hK⟩ := hv
  have hx := B.exec
  have hb := B.bytes
  have hr := B.returns
  have hts : ∀ w ∈ wsL_law, w.before ([.ref x0] : List Value).toArray s = true := fun w h => atoms_spec (ws := Cond.code yX11_rises cX11_rises 1 (some .int) :: wsL_law) B.pre w (List.mem_cons_of_mem _ h)
  have hown : s.vm.findClass RX11 = some m.cls := findClass_of_methodNamed B.named
  have hlocks := B.notSynchronized
  have hl := lv_entry ([.ref x0]) (n := 1) (Nat.le_of_ble_eq_true rfl)
  rw [lg_entry_eq]
  generalize (lg_sl ([.ref x0]) ++ List.replicate (1 - (lg_sl ([.ref x0])).length) Slot.unset).toArray = ls at hl ⊢
  have hl : lv_has ls 1 [(0, .ref x0)] := hl
  have hP : va_P D vwCl [(x0, .inr (11, [.ref r_tape, .ref r_reader, .ref r_now, .ref r_trial, .ref r_images, .ref r_kept, .ref r_slots, .ref r_night, .ref r_other, .ref r_circle, .ref r_words, .ref r_law, .ref r_place, .ref r_drawn])), (r_now, .inr (8, [.int 0, .int 0, .int 0, .int 0, .int 0, .int 0, .int 0, .ref n_signs, .int 0, .ref n_posts, .int 0, .ref n_acts]))] s.heap := hP
  refine lv_aload_n hx hb dX11_rises_0 rfl (lv_at hl 0 rfl) ?_
  refine roi (As := []) (rest := []) ⟨hx, hb, hml, hown, hts⟩ (k_noStation l D cB cI cJ cZ cS cT x0 r_tape r_reader r_now r_trial r_images r_kept r_slots r_night r_other r_circle r_words r_law r_place r_drawn n_signs n_posts n_acts ) (cvB (n := 0) (inr22 _ (List.mem_of_getElem? (i := 11) rfl)) (inr22 _ (List.mem_of_getElem? (i := 12) rfl)) (inr22 _ (List.mem_of_getElem? (i := 13) rfl)) (inr1 _ (List.mem_of_getElem? (i := 2) rfl)) (inr22 _ (List.mem_of_getElem? (i := 14) rfl)) (by decide +kernel) hts rfl rfl ⟨Nat.le_of_ble_eq_true rfl, Nat.le_of_ble_eq_true rfl⟩) 0 11 rfl rfl rfl (hP.sub [0, 1] rfl) hK rfl hl.1 rfl (Nat.le_of_ble_eq_true rfl) ⟨Nat.le_of_ble_eq_true rfl, Nat.le_of_ble_eq_true rfl⟩ dX11_rises_1 (fun r_1 h_2 => ?_)
  obtain rfl := h_2
  refine lv_if_eq (tgt := 12) hx hb dX11_rises_4 (by decide) (fun c0 => absurd c0 (by decide)) (fun _ => ?_)
  refine lv_bipush (v := (-2)) hx hb dX11_rises_7 (by decide) ?_
  refine lv_goto (tgt := 20) hx hb dX11_rises_9 (by decide) ?_
  exact W.iret (v := (-2)) hx hb hr (fun t ht hW => ⟨_, rfl, rfl, ht⟩) (fun _ h => by cases h) dX11_rises_20

set_option maxHeartbeats 4000000 in
set_option maxRecDepth 100000 in
theorem kx_unlike (l : Launch) (D : va_G) (cB cI cJ cZ cS cT : ClassId) (x0 : Nat) (r_tape : Nat) (r_reader : Nat) (r_now : Nat) (r_trial : Nat) (r_images : Nat) (r_kept : Nat) (r_slots : Nat) (r_night : Nat) (r_other : Nat) (r_circle : Nat) (r_words : Nat) (r_law : Nat) (r_place : Nat) (r_drawn : Nat) (n_signs : Nat) (n_posts : Nat) (n_acts : Nat) (a1 : Int32)  : Met l yX11_unlike (Cond.code yX11_unlike cX11_unlike 2 (some .int) :: wsL_law) ({ frames := 3, cells := 0, slots := 0, locals := 61 }) (roP D (tyL cB cI cJ cZ cS cT) [(x0, .inr (11, [.ref r_tape, .ref r_reader, .ref r_now, .ref r_trial, .ref r_images, .ref r_kept, .ref r_slots, .ref r_night, .ref r_other, .ref r_circle, .ref r_words, .ref r_law, .ref r_place, .ref r_drawn])), (r_now, .inr (8, [.int 0, .int 0, .int 0, .int 0, .int 0, .int 0, .int 0, .ref n_signs, .int 0, .ref n_posts, .int 0, .ref n_acts]))] [.ref x0, .int a1]) (vp_Si (fun r : Int32 => r = (-2))) 0 0 (fun _ => False) := by
  refine Met.ofW (cc := cX11_unlike) (maxL := 2) (ret := (some .int)) (by decide) rfl ?_
  intro p e s m args below meth c s₁ B hml hv
  obtain ⟨rfl, hP, hK⟩ := hv
  have hx := B.exec
  have hb := B.bytes
  have hr := B.returns
  have hts : ∀ w ∈ wsL_law, w.before ([.ref x0, .int a1] : List Value).toArray s = true := fun w h => atoms_spec (ws := Cond.code yX11_unlike cX11_unlike 2 (some .int) :: wsL_law) B.pre w (List.mem_cons_of_mem _ h)
  have hown : s.vm.findClass RX11 = some m.cls := findClass_of_methodNamed B.named
  have hlocks := B.notSynchronized
  have hl := lv_entry ([.ref x0, .int a1]) (n := 2) (Nat.le_of_ble_eq_true rfl)
  rw [lg_entry_eq]
  generalize (lg_sl ([.ref x0, .int a1]) ++ List.replicate (2 - (lg_sl ([.ref x0, .int a1])).length) Slot.unset).toArray = ls at hl ⊢
  have hl : lv_has ls 2 [(0, .ref x0), (1, .int a1)] := hl
  have hP : va_P D vwCl [(x0, .inr (11, [.ref r_tape, .ref r_reader, .ref r_now, .ref r_trial, .ref r_images, .ref r_kept, .ref r_slots, .ref r_night, .ref r_other, .ref r_circle, .ref r_words, .ref r_law, .ref r_place, .ref r_drawn])), (r_now, .inr (8, [.int 0, .int 0, .int 0, .int 0, .int 0, .int 0, .int 0, .ref n_signs, .int 0, .ref n_posts, .int 0, .ref n_acts]))] s.heap := hP
  refine lv_aload_n hx hb dX11_unlike_0 rfl (lv_at hl 0 rfl) ?_
  refine lv_iload_n hx hb dX11_unlike_1 rfl (lv_at hl 1 rfl) ?_
  refine roi (As := [.int a1]) (rest := []) ⟨hx, hb, hml, hown, hts⟩ (k_noStep l D cB cI cJ cZ cS cT x0 r_tape r_reader r_now r_trial r_images r_kept r_slots r_night r_other r_circle r_words r_law r_place r_drawn n_signs n_posts n_acts a1 ) (cvB (n := 1) (inr22 _ (List.mem_of_getElem? (i := 6) rfl)) (inr22 _ (List.mem_of_getElem? (i := 7) rfl)) (inr22 _ (List.mem_of_getElem? (i := 8) rfl)) (inr1 _ (List.mem_of_getElem? (i := 2) rfl)) (inr22 _ (List.mem_of_getElem? (i := 9) rfl)) (by decide +kernel) hts rfl rfl ⟨Nat.le_of_ble_eq_true rfl, Nat.le_of_ble_eq_true rfl⟩) 0 11 rfl rfl rfl (hP.sub [0, 1] rfl) hK rfl hl.1 rfl (Nat.le_of_ble_eq_true rfl) ⟨Nat.le_of_ble_eq_true rfl, Nat.le_of_ble_eq_true rfl⟩ dX11_unlike_2 (fun r_1 h_2 => ?_)
  obtain rfl := h_2
  refine lv_if_eq (tgt := 13) hx hb dX11_unlike_5 (by decide) (fun c0 => absurd c0 (by decide)) (fun _ => ?_)
  refine lv_bipush (v := (-2)) hx hb dX11_unlike_8 (by decide) ?_
  refine lv_goto (tgt := 24) hx hb dX11_unlike_10 (by decide) ?_
  exact W.iret (v := (-2)) hx hb hr (fun t ht hW => ⟨_, rfl, rfl, ht⟩) (fun _ h => by cases h) dX11_unlike_24

set_option maxHeartbeats 4000000 in
set_option maxRecDepth 100000 in
theorem kx_falls (l : Launch) (D : va_G) (cB cI cJ cZ cS cT : ClassId) (x0 : Nat) (r_tape : Nat) (r_reader : Nat) (r_now : Nat) (r_trial : Nat) (r_images : Nat) (r_kept : Nat) (r_slots : Nat) (r_night : Nat) (r_other : Nat) (r_circle : Nat) (r_words : Nat) (r_law : Nat) (r_place : Nat) (r_drawn : Nat) (n_signs : Nat) (n_posts : Nat) (n_acts : Nat)  : Met l yX11_falls (Cond.code yX11_falls cX11_falls 1 (some .int) :: wsL_law) ({ frames := 2, cells := 0, slots := 0, locals := 40 }) (roP D (tyL cB cI cJ cZ cS cT) [(x0, .inr (11, [.ref r_tape, .ref r_reader, .ref r_now, .ref r_trial, .ref r_images, .ref r_kept, .ref r_slots, .ref r_night, .ref r_other, .ref r_circle, .ref r_words, .ref r_law, .ref r_place, .ref r_drawn])), (r_now, .inr (8, [.int 0, .int 0, .int 0, .int 0, .int 0, .int 0, .int 0, .ref n_signs, .int 0, .ref n_posts, .int 0, .ref n_acts]))] [.ref x0]) (vp_Si (fun r : Int32 => r = (-2))) 0 0 (fun _ => False) := by
  refine Met.ofW (cc := cX11_falls) (maxL := 1) (ret := (some .int)) (by decide) rfl ?_
  intro p e s m args below meth c s₁ B hml hv
  obtain ⟨rfl, hP, hK⟩ := hv
  have hx := B.exec
  have hb := B.bytes
  have hr := B.returns
  have hts : ∀ w ∈ wsL_law, w.before ([.ref x0] : List Value).toArray s = true := fun w h => atoms_spec (ws := Cond.code yX11_falls cX11_falls 1 (some .int) :: wsL_law) B.pre w (List.mem_cons_of_mem _ h)
  have hown : s.vm.findClass RX11 = some m.cls := findClass_of_methodNamed B.named
  have hlocks := B.notSynchronized
  have hl := lv_entry ([.ref x0]) (n := 1) (Nat.le_of_ble_eq_true rfl)
  rw [lg_entry_eq]
  generalize (lg_sl ([.ref x0]) ++ List.replicate (1 - (lg_sl ([.ref x0])).length) Slot.unset).toArray = ls at hl ⊢
  have hl : lv_has ls 1 [(0, .ref x0)] := hl
  have hP : va_P D vwCl [(x0, .inr (11, [.ref r_tape, .ref r_reader, .ref r_now, .ref r_trial, .ref r_images, .ref r_kept, .ref r_slots, .ref r_night, .ref r_other, .ref r_circle, .ref r_words, .ref r_law, .ref r_place, .ref r_drawn])), (r_now, .inr (8, [.int 0, .int 0, .int 0, .int 0, .int 0, .int 0, .int 0, .ref n_signs, .int 0, .ref n_posts, .int 0, .ref n_acts]))] s.heap := hP
  refine lv_aload_n hx hb dX11_falls_0 rfl (lv_at hl 0 rfl) ?_
  refine roi (As := []) (rest := []) ⟨hx, hb, hml, hown, hts⟩ (k_noStation l D cB cI cJ cZ cS cT x0 r_tape r_reader r_now r_trial r_images r_kept r_slots r_night r_other r_circle r_words r_law r_place r_drawn n_signs n_posts n_acts ) (cvB (n := 0) (inr22 _ (List.mem_of_getElem? (i := 11) rfl)) (inr22 _ (List.mem_of_getElem? (i := 12) rfl)) (inr22 _ (List.mem_of_getElem? (i := 13) rfl)) (inr1 _ (List.mem_of_getElem? (i := 2) rfl)) (inr22 _ (List.mem_of_getElem? (i := 14) rfl)) (by decide +kernel) hts rfl rfl ⟨Nat.le_of_ble_eq_true rfl, Nat.le_of_ble_eq_true rfl⟩) 0 11 rfl rfl rfl (hP.sub [0, 1] rfl) hK rfl hl.1 rfl (Nat.le_of_ble_eq_true rfl) ⟨Nat.le_of_ble_eq_true rfl, Nat.le_of_ble_eq_true rfl⟩ dX11_falls_1 (fun r_1 h_2 => ?_)
  obtain rfl := h_2
  refine lv_if_eq (tgt := 12) hx hb dX11_falls_4 (by decide) (fun c0 => absurd c0 (by decide)) (fun _ => ?_)
  refine lv_bipush (v := (-2)) hx hb dX11_falls_7 (by decide) ?_
  refine lv_goto (tgt := 20) hx hb dX11_falls_9 (by decide) ?_
  exact W.iret (v := (-2)) hx hb hr (fun t ht hW => ⟨_, rfl, rfl, ht⟩) (fun _ h => by cases h) dX11_falls_20

set_option maxHeartbeats 4000000 in
set_option maxRecDepth 100000 in
theorem kx_leap (l : Launch) (D : va_G) (cB cI cJ cZ cS cT : ClassId) (x0 : Nat) (r_tape : Nat) (r_reader : Nat) (r_now : Nat) (r_trial : Nat) (r_images : Nat) (r_kept : Nat) (r_slots : Nat) (r_night : Nat) (r_other : Nat) (r_circle : Nat) (r_words : Nat) (r_law : Nat) (r_place : Nat) (r_drawn : Nat) (n_signs : Nat) (n_posts : Nat) (n_acts : Nat)  : Met l yX11_leap (Cond.code yX11_leap cX11_leap 1 (some .int) :: wsL_law) ({ frames := 2, cells := 0, slots := 0, locals := 40 }) (roP D (tyL cB cI cJ cZ cS cT) [(x0, .inr (11, [.ref r_tape, .ref r_reader, .ref r_now, .ref r_trial, .ref r_images, .ref r_kept, .ref r_slots, .ref r_night, .ref r_other, .ref r_circle, .ref r_words, .ref r_law, .ref r_place, .ref r_drawn])), (r_now, .inr (8, [.int 0, .int 0, .int 0, .int 0, .int 0, .int 0, .int 0, .ref n_signs, .int 0, .ref n_posts, .int 0, .ref n_acts]))] [.ref x0]) (vp_Si (fun r : Int32 => r = (-2))) 0 0 (fun _ => False) := by
  refine Met.ofW (cc := cX11_leap) (maxL := 1) (ret := (some .int)) (by decide) rfl ?_
  intro p e s m args below meth c s₁ B hml hv
  obtain ⟨rfl, hP, hK⟩ := hv
  have hx := B.exec
  have hb := B.bytes
  have hr := B.returns
  have hts : ∀ w ∈ wsL_law, w.before ([.ref x0] : List Value).toArray s = true := fun w h => atoms_spec (ws := Cond.code yX11_leap cX11_leap 1 (some .int) :: wsL_law) B.pre w (List.mem_cons_of_mem _ h)
  have hown : s.vm.findClass RX11 = some m.cls := findClass_of_methodNamed B.named
  have hlocks := B.notSynchronized
  have hl := lv_entry ([.ref x0]) (n := 1) (Nat.le_of_ble_eq_true rfl)
  rw [lg_entry_eq]
  generalize (lg_sl ([.ref x0]) ++ List.replicate (1 - (lg_sl ([.ref x0])).length) Slot.unset).toArray = ls at hl ⊢
  have hl : lv_has ls 1 [(0, .ref x0)] := hl
  have hP : va_P D vwCl [(x0, .inr (11, [.ref r_tape, .ref r_reader, .ref r_now, .ref r_trial, .ref r_images, .ref r_kept, .ref r_slots, .ref r_night, .ref r_other, .ref r_circle, .ref r_words, .ref r_law, .ref r_place, .ref r_drawn])), (r_now, .inr (8, [.int 0, .int 0, .int 0, .int 0, .int 0, .int 0, .int 0, .ref n_signs, .int 0, .ref n_posts, .int 0, .ref n_acts]))] s.heap := hP
  refine lv_aload_n hx hb dX11_leap_0 rfl (lv_at hl 0 rfl) ?_
  refine roi (As := []) (rest := []) ⟨hx, hb, hml, hown, hts⟩ (k_noStation l D cB cI cJ cZ cS cT x0 r_tape r_reader r_now r_trial r_images r_kept r_slots r_night r_other r_circle r_words r_law r_place r_drawn n_signs n_posts n_acts ) (cvB (n := 0) (inr22 _ (List.mem_of_getElem? (i := 11) rfl)) (inr22 _ (List.mem_of_getElem? (i := 12) rfl)) (inr22 _ (List.mem_of_getElem? (i := 13) rfl)) (inr1 _ (List.mem_of_getElem? (i := 2) rfl)) (inr22 _ (List.mem_of_getElem? (i := 14) rfl)) (by decide +kernel) hts rfl rfl ⟨Nat.le_of_ble_eq_true rfl, Nat.le_of_ble_eq_true rfl⟩) 0 11 rfl rfl rfl (hP.sub [0, 1] rfl) hK rfl hl.1 rfl (Nat.le_of_ble_eq_true rfl) ⟨Nat.le_of_ble_eq_true rfl, Nat.le_of_ble_eq_true rfl⟩ dX11_leap_1 (fun r_1 h_2 => ?_)
  obtain rfl := h_2
  refine lv_if_eq (tgt := 12) hx hb dX11_leap_4 (by decide) (fun c0 => absurd c0 (by decide)) (fun _ => ?_)
  refine lv_bipush (v := (-2)) hx hb dX11_leap_7 (by decide) ?_
  refine lv_goto (tgt := 19) hx hb dX11_leap_9 (by decide) ?_
  exact W.iret (v := (-2)) hx hb hr (fun t ht hW => ⟨_, rfl, rfl, ht⟩) (fun _ h => by cases h) dX11_leap_19

set_option maxHeartbeats 4000000 in
set_option maxRecDepth 100000 in
theorem kx_when (l : Launch) (D : va_G) (cB cI cJ cZ cS cT : ClassId) (x0 : Nat) (r_tape : Nat) (r_reader : Nat) (r_now : Nat) (r_trial : Nat) (r_images : Nat) (r_kept : Nat) (r_slots : Nat) (r_night : Nat) (r_other : Nat) (r_circle : Nat) (r_words : Nat) (r_law : Nat) (r_place : Nat) (r_drawn : Nat) (n_signs : Nat) (n_posts : Nat) (n_acts : Nat) (a1 : Int32)  : Met l yX11_when (Cond.code yX11_when cX11_when 2 (some .int) :: wsL_law) ({ frames := 2, cells := 0, slots := 0, locals := 40 }) (roP D (tyL cB cI cJ cZ cS cT) [(x0, .inr (11, [.ref r_tape, .ref r_reader, .ref r_now, .ref r_trial, .ref r_images, .ref r_kept, .ref r_slots, .ref r_night, .ref r_other, .ref r_circle, .ref r_words, .ref r_law, .ref r_place, .ref r_drawn])), (r_now, .inr (8, [.int 0, .int 0, .int 0, .int 0, .int 0, .int 0, .int 0, .ref n_signs, .int 0, .ref n_posts, .int 0, .ref n_acts]))] [.ref x0, .int a1]) (vp_Si (fun r : Int32 => r = (-2))) 0 0 (fun _ => False) := by
  refine Met.ofW (cc := cX11_when) (maxL := 2) (ret := (some .int)) (by decide) rfl ?_
  intro p e s m args below meth c s₁ B hml hv
  obtain ⟨rfl, hP, hK⟩ := hv
  have hx := B.exec
  have hb := B.bytes
  have hr := B.returns
  have hts : ∀ w ∈ wsL_law, w.before ([.ref x0, .int a1] : List Value).toArray s = true := fun w h => atoms_spec (ws := Cond.code yX11_when cX11_when 2 (some .int) :: wsL_law) B.pre w (List.mem_cons_of_mem _ h)
  have hown : s.vm.findClass RX11 = some m.cls := findClass_of_methodNamed B.named
  have hlocks := B.notSynchronized
  have hl := lv_entry ([.ref x0, .int a1]) (n := 2) (Nat.le_of_ble_eq_true rfl)
  rw [lg_entry_eq]
  generalize (lg_sl ([.ref x0, .int a1]) ++ List.replicate (2 - (lg_sl ([.ref x0, .int a1])).length) Slot.unset).toArray = ls at hl ⊢
  have hl : lv_has ls 2 [(0, .ref x0), (1, .int a1)] := hl
  have hP : va_P D vwCl [(x0, .inr (11, [.ref r_tape, .ref r_reader, .ref r_now, .ref r_trial, .ref r_images, .ref r_kept, .ref r_slots, .ref r_night, .ref r_other, .ref r_circle, .ref r_words, .ref r_law, .ref r_place, .ref r_drawn])), (r_now, .inr (8, [.int 0, .int 0, .int 0, .int 0, .int 0, .int 0, .int 0, .ref n_signs, .int 0, .ref n_posts, .int 0, .ref n_acts]))] s.heap := hP
  refine lv_aload_n hx hb dX11_when_0 rfl (lv_at hl 0 rfl) ?_
  refine roi (As := []) (rest := []) ⟨hx, hb, hml, hown, hts⟩ (k_noStation l D cB cI cJ cZ cS cT x0 r_tape r_reader r_now r_trial r_images r_kept r_slots r_night r_other r_circle r_words r_law r_place r_drawn n_signs n_posts n_acts ) (cvB (n := 0) (inr22 _ (List.mem_of_getElem? (i := 11) rfl)) (inr22 _ (List.mem_of_getElem? (i := 12) rfl)) (inr22 _ (List.mem_of_getElem? (i := 13) rfl)) (inr1 _ (List.mem_of_getElem? (i := 2) rfl)) (inr22 _ (List.mem_of_getElem? (i := 14) rfl)) (by decide +kernel) hts rfl rfl ⟨Nat.le_of_ble_eq_true rfl, Nat.le_of_ble_eq_true rfl⟩) 0 11 rfl rfl rfl (hP.sub [0, 1] rfl) hK rfl hl.1 rfl (Nat.le_of_ble_eq_true rfl) ⟨Nat.le_of_ble_eq_true rfl, Nat.le_of_ble_eq_true rfl⟩ dX11_when_1 (fun r_1 h_2 => ?_)
  obtain rfl := h_2
  refine lv_if_ne (tgt := 19) hx hb dX11_when_4 (by decide) (fun _ => ?_) (fun c0 => absurd c0 (by decide))
  refine lv_bipush (v := (-2)) hx hb dX11_when_19 (by decide) ?_
  refine lv_goto (tgt := 32) hx hb dX11_when_21 (by decide) ?_
  exact W.iret (v := (-2)) hx hb hr (fun t ht hW => ⟨_, rfl, rfl, ht⟩) (fun _ h => by cases h) dX11_when_32

set_option maxHeartbeats 4000000 in
set_option maxRecDepth 100000 in
theorem kx_echo (l : Launch) (D : va_G) (cB cI cJ cZ cS cT : ClassId) (x0 : Nat) (r_tape : Nat) (r_reader : Nat) (r_now : Nat) (r_trial : Nat) (r_images : Nat) (r_kept : Nat) (r_slots : Nat) (r_night : Nat) (r_other : Nat) (r_circle : Nat) (r_words : Nat) (r_law : Nat) (r_place : Nat) (r_drawn : Nat) (n_signs : Nat) (n_posts : Nat) (n_acts : Nat) (a1 : Int32)  : Met l yX11_echo (Cond.code yX11_echo cX11_echo 2 (some .int) :: wsL_law) ({ frames := 3, cells := 0, slots := 0, locals := 61 }) (roP D (tyL cB cI cJ cZ cS cT) [(x0, .inr (11, [.ref r_tape, .ref r_reader, .ref r_now, .ref r_trial, .ref r_images, .ref r_kept, .ref r_slots, .ref r_night, .ref r_other, .ref r_circle, .ref r_words, .ref r_law, .ref r_place, .ref r_drawn])), (r_now, .inr (8, [.int 0, .int 0, .int 0, .int 0, .int 0, .int 0, .int 0, .ref n_signs, .int 0, .ref n_posts, .int 0, .ref n_acts]))] [.ref x0, .int a1]) (vp_Si (fun r : Int32 => r = (-2))) 0 0 (fun _ => False) := by
  refine Met.ofW (cc := cX11_echo) (maxL := 2) (ret := (some .int)) (by decide) rfl ?_
  intro p e s m args below meth c s₁ B hml hv
  obtain ⟨rfl, hP, hK⟩ := hv
  have hx := B.exec
  have hb := B.bytes
  have hr := B.returns
  have hts : ∀ w ∈ wsL_law, w.before ([.ref x0, .int a1] : List Value).toArray s = true := fun w h => atoms_spec (ws := Cond.code yX11_echo cX11_echo 2 (some .int) :: wsL_law) B.pre w (List.mem_cons_of_mem _ h)
  have hown : s.vm.findClass RX11 = some m.cls := findClass_of_methodNamed B.named
  have hlocks := B.notSynchronized
  have hl := lv_entry ([.ref x0, .int a1]) (n := 2) (Nat.le_of_ble_eq_true rfl)
  rw [lg_entry_eq]
  generalize (lg_sl ([.ref x0, .int a1]) ++ List.replicate (2 - (lg_sl ([.ref x0, .int a1])).length) Slot.unset).toArray = ls at hl ⊢
  have hl : lv_has ls 2 [(0, .ref x0), (1, .int a1)] := hl
  have hP : va_P D vwCl [(x0, .inr (11, [.ref r_tape, .ref r_reader, .ref r_now, .ref r_trial, .ref r_images, .ref r_kept, .ref r_slots, .ref r_night, .ref r_other, .ref r_circle, .ref r_words, .ref r_law, .ref r_place, .ref r_drawn])), (r_now, .inr (8, [.int 0, .int 0, .int 0, .int 0, .int 0, .int 0, .int 0, .ref n_signs, .int 0, .ref n_posts, .int 0, .ref n_acts]))] s.heap := hP
  refine lv_aload_n hx hb dX11_echo_0 rfl (lv_at hl 0 rfl) ?_
  refine lv_iload_n hx hb dX11_echo_1 rfl (lv_at hl 1 rfl) ?_
  refine roi (As := [.int a1]) (rest := []) ⟨hx, hb, hml, hown, hts⟩ (k_noStep l D cB cI cJ cZ cS cT x0 r_tape r_reader r_now r_trial r_images r_kept r_slots r_night r_other r_circle r_words r_law r_place r_drawn n_signs n_posts n_acts a1 ) (cvB (n := 1) (inr22 _ (List.mem_of_getElem? (i := 6) rfl)) (inr22 _ (List.mem_of_getElem? (i := 7) rfl)) (inr22 _ (List.mem_of_getElem? (i := 8) rfl)) (inr1 _ (List.mem_of_getElem? (i := 2) rfl)) (inr22 _ (List.mem_of_getElem? (i := 9) rfl)) (by decide +kernel) hts rfl rfl ⟨Nat.le_of_ble_eq_true rfl, Nat.le_of_ble_eq_true rfl⟩) 0 11 rfl rfl rfl (hP.sub [0, 1] rfl) hK rfl hl.1 rfl (Nat.le_of_ble_eq_true rfl) ⟨Nat.le_of_ble_eq_true rfl, Nat.le_of_ble_eq_true rfl⟩ dX11_echo_2 (fun r_1 h_2 => ?_)
  obtain rfl := h_2
  refine lv_if_eq (tgt := 13) hx hb dX11_echo_5 (by decide) (fun c0 => absurd c0 (by decide)) (fun _ => ?_)
  refine lv_bipush (v := (-2)) hx hb dX11_echo_8 (by decide) ?_
  refine lv_goto (tgt := 21) hx hb dX11_echo_10 (by decide) ?_
  exact W.iret (v := (-2)) hx hb hr (fun t ht hW => ⟨_, rfl, rfl, ht⟩) (fun _ h => by cases h) dX11_echo_21

set_option maxHeartbeats 4000000 in
set_option maxRecDepth 100000 in
theorem kx_shift (l : Launch) (D : va_G) (cB cI cJ cZ cS cT : ClassId) (x0 : Nat) (r_tape : Nat) (r_reader : Nat) (r_now : Nat) (r_trial : Nat) (r_images : Nat) (r_kept : Nat) (r_slots : Nat) (r_night : Nat) (r_other : Nat) (r_circle : Nat) (r_words : Nat) (r_law : Nat) (r_place : Nat) (r_drawn : Nat) (n_signs : Nat) (n_posts : Nat) (n_acts : Nat) (a1 : Int32) (a2 : Int32)  : Met l yX11_shift (Cond.code yX11_shift cX11_shift 3 (some .int) :: wsL_law) ({ frames := 3, cells := 0, slots := 0, locals := 61 }) (roP D (tyL cB cI cJ cZ cS cT) [(x0, .inr (11, [.ref r_tape, .ref r_reader, .ref r_now, .ref r_trial, .ref r_images, .ref r_kept, .ref r_slots, .ref r_night, .ref r_other, .ref r_circle, .ref r_words, .ref r_law, .ref r_place, .ref r_drawn])), (r_now, .inr (8, [.int 0, .int 0, .int 0, .int 0, .int 0, .int 0, .int 0, .ref n_signs, .int 0, .ref n_posts, .int 0, .ref n_acts]))] [.ref x0, .int a1, .int a2]) (vp_Si (fun r : Int32 => r = (-2))) 0 0 (fun _ => False) := by
  refine Met.ofW (cc := cX11_shift) (maxL := 3) (ret := (some .int)) (by decide) rfl ?_
  intro p e s m args below meth c s₁ B hml hv
  obtain ⟨rfl, hP, hK⟩ := hv
  have hx := B.exec
  have hb := B.bytes
  have hr := B.returns
  have hts : ∀ w ∈ wsL_law, w.before ([.ref x0, .int a1, .int a2] : List Value).toArray s = true := fun w h => atoms_spec (ws := Cond.code yX11_shift cX11_shift 3 (some .int) :: wsL_law) B.pre w (List.mem_cons_of_mem _ h)
  have hown : s.vm.findClass RX11 = some m.cls := findClass_of_methodNamed B.named
  have hlocks := B.notSynchronized
  have hl := lv_entry ([.ref x0, .int a1, .int a2]) (n := 3) (Nat.le_of_ble_eq_true rfl)
  rw [lg_entry_eq]
  generalize (lg_sl ([.ref x0, .int a1, .int a2]) ++ List.replicate (3 - (lg_sl ([.ref x0, .int a1, .int a2])).length) Slot.unset).toArray = ls at hl ⊢
  have hl : lv_has ls 3 [(0, .ref x0), (1, .int a1), (2, .int a2)] := hl
  have hP : va_P D vwCl [(x0, .inr (11, [.ref r_tape, .ref r_reader, .ref r_now, .ref r_trial, .ref r_images, .ref r_kept, .ref r_slots, .ref r_night, .ref r_other, .ref r_circle, .ref r_words, .ref r_law, .ref r_place, .ref r_drawn])), (r_now, .inr (8, [.int 0, .int 0, .int 0, .int 0, .int 0, .int 0, .int 0, .ref n_signs, .int 0, .ref n_posts, .int 0, .ref n_acts]))] s.heap := hP
  refine lv_aload_n hx hb dX11_shift_0 rfl (lv_at hl 0 rfl) ?_
  refine lv_iload_n hx hb dX11_shift_1 rfl (lv_at hl 1 rfl) ?_
  refine roi (As := [.int a1]) (rest := []) ⟨hx, hb, hml, hown, hts⟩ (k_noStep l D cB cI cJ cZ cS cT x0 r_tape r_reader r_now r_trial r_images r_kept r_slots r_night r_other r_circle r_words r_law r_place r_drawn n_signs n_posts n_acts a1 ) (cvB (n := 1) (inr22 _ (List.mem_of_getElem? (i := 6) rfl)) (inr22 _ (List.mem_of_getElem? (i := 7) rfl)) (inr22 _ (List.mem_of_getElem? (i := 8) rfl)) (inr1 _ (List.mem_of_getElem? (i := 2) rfl)) (inr22 _ (List.mem_of_getElem? (i := 9) rfl)) (by decide +kernel) hts rfl rfl ⟨Nat.le_of_ble_eq_true rfl, Nat.le_of_ble_eq_true rfl⟩) 0 11 rfl rfl rfl (hP.sub [0, 1] rfl) hK rfl hl.1 rfl (Nat.le_of_ble_eq_true rfl) ⟨Nat.le_of_ble_eq_true rfl, Nat.le_of_ble_eq_true rfl⟩ dX11_shift_2 (fun r_1 h_2 => ?_)
  obtain rfl := h_2
  refine lv_if_ne (tgt := 16) hx hb dX11_shift_5 (by decide) (fun _ => ?_) (fun c0 => absurd c0 (by decide))
  refine lv_bipush (v := (-2)) hx hb dX11_shift_16 (by decide) ?_
  refine lv_goto (tgt := 27) hx hb dX11_shift_18 (by decide) ?_
  exact W.iret (v := (-2)) hx hb hr (fun t ht hW => ⟨_, rfl, rfl, ht⟩) (fun _ h => by cases h) dX11_shift_27

set_option maxHeartbeats 4000000 in
set_option maxRecDepth 100000 in
theorem kx_heals (l : Launch) (D : va_G) (cB cI cJ cZ cS cT : ClassId) (x0 : Nat) (r_tape : Nat) (r_reader : Nat) (r_now : Nat) (r_trial : Nat) (r_images : Nat) (r_kept : Nat) (r_slots : Nat) (r_night : Nat) (r_other : Nat) (r_circle : Nat) (r_words : Nat) (r_law : Nat) (r_place : Nat) (r_drawn : Nat) (n_signs : Nat) (n_posts : Nat) (n_acts : Nat) (a1 : Int32) (a2 : Int32)  : Met l yX11_heals (Cond.code yX11_heals cX11_heals 7 (some .int) :: wsL_law) ({ frames := 3, cells := 0, slots := 0, locals := 61 }) (roP D (tyL cB cI cJ cZ cS cT) [(x0, .inr (11, [.ref r_tape, .ref r_reader, .ref r_now, .ref r_trial, .ref r_images, .ref r_kept, .ref r_slots, .ref r_night, .ref r_other, .ref r_circle, .ref r_words, .ref r_law, .ref r_place, .ref r_drawn])), (r_now, .inr (8, [.int 0, .int 0, .int 0, .int 0, .int 0, .int 0, .int 0, .ref n_signs, .int 0, .ref n_posts, .int 0, .ref n_acts]))] [.ref x0, .int a1, .int a2]) (vp_Si (fun r : Int32 => r = (-2))) 0 0 (fun _ => False) := by
  refine Met.ofW (cc := cX11_heals) (maxL := 7) (ret := (some .int)) (by decide) rfl ?_
  intro p e s m args below meth c s₁ B hml hv
  obtain ⟨rfl, hP, hK⟩ := hv
  have hx := B.exec
  have hb := B.bytes
  have hr := B.returns
  have hts : ∀ w ∈ wsL_law, w.before ([.ref x0, .int a1, .int a2] : List Value).toArray s = true := fun w h => atoms_spec (ws := Cond.code yX11_heals cX11_heals 7 (some .int) :: wsL_law) B.pre w (List.mem_cons_of_mem _ h)
  have hown : s.vm.findClass RX11 = some m.cls := findClass_of_methodNamed B.named
  have hlocks := B.notSynchronized
  have hl := lv_entry ([.ref x0, .int a1, .int a2]) (n := 7) (Nat.le_of_ble_eq_true rfl)
  rw [lg_entry_eq]
  generalize (lg_sl ([.ref x0, .int a1, .int a2]) ++ List.replicate (7 - (lg_sl ([.ref x0, .int a1, .int a2])).length) Slot.unset).toArray = ls at hl ⊢
  have hl : lv_has ls 7 [(0, .ref x0), (1, .int a1), (2, .int a2)] := hl
  have hP : va_P D vwCl [(x0, .inr (11, [.ref r_tape, .ref r_reader, .ref r_now, .ref r_trial, .ref r_images, .ref r_kept, .ref r_slots, .ref r_night, .ref r_other, .ref r_circle, .ref r_words, .ref r_law, .ref r_place, .ref r_drawn])), (r_now, .inr (8, [.int 0, .int 0, .int 0, .int 0, .int 0, .int 0, .int 0, .ref n_signs, .int 0, .ref n_posts, .int 0, .ref n_acts]))] s.heap := hP
  refine lv_aload_n hx hb dX11_heals_0 rfl (lv_at hl 0 rfl) ?_
  refine lv_iload_n hx hb dX11_heals_1 rfl (lv_at hl 1 rfl) ?_
  refine roi (As := [.int a1]) (rest := []) ⟨hx, hb, hml, hown, hts⟩ (k_noStep l D cB cI cJ cZ cS cT x0 r_tape r_reader r_now r_trial r_images r_kept r_slots r_night r_other r_circle r_words r_law r_place r_drawn n_signs n_posts n_acts a1 ) (cvB (n := 1) (inr22 _ (List.mem_of_getElem? (i := 6) rfl)) (inr22 _ (List.mem_of_getElem? (i := 7) rfl)) (inr22 _ (List.mem_of_getElem? (i := 8) rfl)) (inr1 _ (List.mem_of_getElem? (i := 2) rfl)) (inr22 _ (List.mem_of_getElem? (i := 9) rfl)) (by decide +kernel) hts rfl rfl ⟨Nat.le_of_ble_eq_true rfl, Nat.le_of_ble_eq_true rfl⟩) 0 11 rfl rfl rfl (hP.sub [0, 1] rfl) hK rfl hl.1 rfl (Nat.le_of_ble_eq_true rfl) ⟨Nat.le_of_ble_eq_true rfl, Nat.le_of_ble_eq_true rfl⟩ dX11_heals_2 (fun r_1 h_2 => ?_)
  obtain rfl := h_2
  refine lv_if_ne (tgt := 16) hx hb dX11_heals_5 (by decide) (fun _ => ?_) (fun c0 => absurd c0 (by decide))
  refine lv_bipush (v := (-2)) hx hb dX11_heals_16 (by decide) ?_
  exact W.iret (v := (-2)) hx hb hr (fun t ht hW => ⟨_, rfl, rfl, ht⟩) (fun _ h => by cases h) dX11_heals_18

set_option maxHeartbeats 4000000 in
set_option maxRecDepth 100000 in
theorem kx_worst (l : Launch) (D : va_G) (cB cI cJ cZ cS cT : ClassId) (x0 : Nat) (r_tape : Nat) (r_reader : Nat) (r_now : Nat) (r_trial : Nat) (r_images : Nat) (r_kept : Nat) (r_slots : Nat) (r_night : Nat) (r_other : Nat) (r_circle : Nat) (r_words : Nat) (r_law : Nat) (r_place : Nat) (r_drawn : Nat) (n_signs : Nat) (n_posts : Nat) (n_acts : Nat) (a1 : Int32)  : Met l yX11_worst (Cond.code yX11_worst cX11_worst 6 (some .int) :: wsL_law) ({ frames := 3, cells := 0, slots := 0, locals := 61 }) (roP D (tyL cB cI cJ cZ cS cT) [(x0, .inr (11, [.ref r_tape, .ref r_reader, .ref r_now, .ref r_trial, .ref r_images, .ref r_kept, .ref r_slots, .ref r_night, .ref r_other, .ref r_circle, .ref r_words, .ref r_law, .ref r_place, .ref r_drawn])), (r_now, .inr (8, [.int 0, .int 0, .int 0, .int 0, .int 0, .int 0, .int 0, .ref n_signs, .int 0, .ref n_posts, .int 0, .ref n_acts]))] [.ref x0, .int a1]) (vp_Si (fun r : Int32 => r = (-2))) 0 0 (fun _ => False) := by
  refine Met.ofW (cc := cX11_worst) (maxL := 6) (ret := (some .int)) (by decide) rfl ?_
  intro p e s m args below meth c s₁ B hml hv
  obtain ⟨rfl, hP, hK⟩ := hv
  have hx := B.exec
  have hb := B.bytes
  have hr := B.returns
  have hts : ∀ w ∈ wsL_law, w.before ([.ref x0, .int a1] : List Value).toArray s = true := fun w h => atoms_spec (ws := Cond.code yX11_worst cX11_worst 6 (some .int) :: wsL_law) B.pre w (List.mem_cons_of_mem _ h)
  have hown : s.vm.findClass RX11 = some m.cls := findClass_of_methodNamed B.named
  have hlocks := B.notSynchronized
  have hl := lv_entry ([.ref x0, .int a1]) (n := 6) (Nat.le_of_ble_eq_true rfl)
  rw [lg_entry_eq]
  generalize (lg_sl ([.ref x0, .int a1]) ++ List.replicate (6 - (lg_sl ([.ref x0, .int a1])).length) Slot.unset).toArray = ls at hl ⊢
  have hl : lv_has ls 6 [(0, .ref x0), (1, .int a1)] := hl
  have hP : va_P D vwCl [(x0, .inr (11, [.ref r_tape, .ref r_reader, .ref r_now, .ref r_trial, .ref r_images, .ref r_kept, .ref r_slots, .ref r_night, .ref r_other, .ref r_circle, .ref r_words, .ref r_law, .ref r_place, .ref r_drawn])), (r_now, .inr (8, [.int 0, .int 0, .int 0, .int 0, .int 0, .int 0, .int 0, .ref n_signs, .int 0, .ref n_posts, .int 0, .ref n_acts]))] s.heap := hP
  refine lv_aload_n hx hb dX11_worst_0 rfl (lv_at hl 0 rfl) ?_
  refine lv_iload_n hx hb dX11_worst_1 rfl (lv_at hl 1 rfl) ?_
  refine roi (As := [.int a1]) (rest := []) ⟨hx, hb, hml, hown, hts⟩ (k_noStep l D cB cI cJ cZ cS cT x0 r_tape r_reader r_now r_trial r_images r_kept r_slots r_night r_other r_circle r_words r_law r_place r_drawn n_signs n_posts n_acts a1 ) (cvB (n := 1) (inr22 _ (List.mem_of_getElem? (i := 6) rfl)) (inr22 _ (List.mem_of_getElem? (i := 7) rfl)) (inr22 _ (List.mem_of_getElem? (i := 8) rfl)) (inr1 _ (List.mem_of_getElem? (i := 2) rfl)) (inr22 _ (List.mem_of_getElem? (i := 9) rfl)) (by decide +kernel) hts rfl rfl ⟨Nat.le_of_ble_eq_true rfl, Nat.le_of_ble_eq_true rfl⟩) 0 11 rfl rfl rfl (hP.sub [0, 1] rfl) hK rfl hl.1 rfl (Nat.le_of_ble_eq_true rfl) ⟨Nat.le_of_ble_eq_true rfl, Nat.le_of_ble_eq_true rfl⟩ dX11_worst_2 (fun r_1 h_2 => ?_)
  obtain rfl := h_2
  refine lv_if_eq (tgt := 11) hx hb dX11_worst_5 (by decide) (fun c0 => absurd c0 (by decide)) (fun _ => ?_)
  refine lv_bipush (v := (-2)) hx hb dX11_worst_8 (by decide) ?_
  exact W.iret (v := (-2)) hx hb hr (fun t ht hW => ⟨_, rfl, rfl, ht⟩) (fun _ h => by cases h) dX11_worst_10

set_option maxHeartbeats 4000000 in
set_option maxRecDepth 100000 in
theorem kx_pretty (l : Launch) (D : va_G) (cB cI cJ cZ cS cT : ClassId) (x0 : Nat) (r_tape : Nat) (r_reader : Nat) (r_now : Nat) (r_trial : Nat) (r_images : Nat) (r_kept : Nat) (r_slots : Nat) (r_night : Nat) (r_other : Nat) (r_circle : Nat) (r_words : Nat) (r_law : Nat) (r_place : Nat) (r_drawn : Nat) (n_signs : Nat) (n_posts : Nat) (n_acts : Nat)  : Met l yX11_pretty (Cond.code yX11_pretty cX11_pretty 1 (some .int) :: wsL_law) ({ frames := 2, cells := 0, slots := 0, locals := 40 }) (roP D (tyL cB cI cJ cZ cS cT) [(x0, .inr (11, [.ref r_tape, .ref r_reader, .ref r_now, .ref r_trial, .ref r_images, .ref r_kept, .ref r_slots, .ref r_night, .ref r_other, .ref r_circle, .ref r_words, .ref r_law, .ref r_place, .ref r_drawn])), (r_now, .inr (8, [.int 0, .int 0, .int 0, .int 0, .int 0, .int 0, .int 0, .ref n_signs, .int 0, .ref n_posts, .int 0, .ref n_acts]))] [.ref x0]) (vp_Si (fun r : Int32 => r = (-2))) 0 0 (fun _ => False) := by
  refine Met.ofW (cc := cX11_pretty) (maxL := 1) (ret := (some .int)) (by decide) rfl ?_
  intro p e s m args below meth c s₁ B hml hv
  obtain ⟨rfl, hP, hK⟩ := hv
  have hx := B.exec
  have hb := B.bytes
  have hr := B.returns
  have hts : ∀ w ∈ wsL_law, w.before ([.ref x0] : List Value).toArray s = true := fun w h => atoms_spec (ws := Cond.code yX11_pretty cX11_pretty 1 (some .int) :: wsL_law) B.pre w (List.mem_cons_of_mem _ h)
  have hown : s.vm.findClass RX11 = some m.cls := findClass_of_methodNamed B.named
  have hlocks := B.notSynchronized
  have hl := lv_entry ([.ref x0]) (n := 1) (Nat.le_of_ble_eq_true rfl)
  rw [lg_entry_eq]
  generalize (lg_sl ([.ref x0]) ++ List.replicate (1 - (lg_sl ([.ref x0])).length) Slot.unset).toArray = ls at hl ⊢
  have hl : lv_has ls 1 [(0, .ref x0)] := hl
  have hP : va_P D vwCl [(x0, .inr (11, [.ref r_tape, .ref r_reader, .ref r_now, .ref r_trial, .ref r_images, .ref r_kept, .ref r_slots, .ref r_night, .ref r_other, .ref r_circle, .ref r_words, .ref r_law, .ref r_place, .ref r_drawn])), (r_now, .inr (8, [.int 0, .int 0, .int 0, .int 0, .int 0, .int 0, .int 0, .ref n_signs, .int 0, .ref n_posts, .int 0, .ref n_acts]))] s.heap := hP
  refine lv_aload_n hx hb dX11_pretty_0 rfl (lv_at hl 0 rfl) ?_
  refine roi (As := []) (rest := []) ⟨hx, hb, hml, hown, hts⟩ (k_noStation l D cB cI cJ cZ cS cT x0 r_tape r_reader r_now r_trial r_images r_kept r_slots r_night r_other r_circle r_words r_law r_place r_drawn n_signs n_posts n_acts ) (cvB (n := 0) (inr22 _ (List.mem_of_getElem? (i := 11) rfl)) (inr22 _ (List.mem_of_getElem? (i := 12) rfl)) (inr22 _ (List.mem_of_getElem? (i := 13) rfl)) (inr1 _ (List.mem_of_getElem? (i := 2) rfl)) (inr22 _ (List.mem_of_getElem? (i := 14) rfl)) (by decide +kernel) hts rfl rfl ⟨Nat.le_of_ble_eq_true rfl, Nat.le_of_ble_eq_true rfl⟩) 0 11 rfl rfl rfl (hP.sub [0, 1] rfl) hK rfl hl.1 rfl (Nat.le_of_ble_eq_true rfl) ⟨Nat.le_of_ble_eq_true rfl, Nat.le_of_ble_eq_true rfl⟩ dX11_pretty_1 (fun r_1 h_2 => ?_)
  obtain rfl := h_2
  refine lv_if_eq (tgt := 10) hx hb dX11_pretty_4 (by decide) (fun c0 => absurd c0 (by decide)) (fun _ => ?_)
  refine lv_bipush (v := (-2)) hx hb dX11_pretty_7 (by decide) ?_
  exact W.iret (v := (-2)) hx hb hr (fun t ht hW => ⟨_, rfl, rfl, ht⟩) (fun _ h => by cases h) dX11_pretty_9

set_option maxHeartbeats 4000000 in
set_option maxRecDepth 100000 in
theorem kx_silent (l : Launch) (D : va_G) (cB cI cJ cZ cS cT : ClassId) (x0 : Nat) (r_tape : Nat) (r_reader : Nat) (r_now : Nat) (r_trial : Nat) (r_images : Nat) (r_kept : Nat) (r_slots : Nat) (r_night : Nat) (r_other : Nat) (r_circle : Nat) (r_words : Nat) (r_law : Nat) (r_place : Nat) (r_drawn : Nat) (n_signs : Nat) (n_posts : Nat) (n_acts : Nat)  : Met l yX11_silent (Cond.code yX11_silent cX11_silent 1 (some .int) :: wsL_law) ({ frames := 2, cells := 0, slots := 0, locals := 40 }) (roP D (tyL cB cI cJ cZ cS cT) [(x0, .inr (11, [.ref r_tape, .ref r_reader, .ref r_now, .ref r_trial, .ref r_images, .ref r_kept, .ref r_slots, .ref r_night, .ref r_other, .ref r_circle, .ref r_words, .ref r_law, .ref r_place, .ref r_drawn])), (r_now, .inr (8, [.int 0, .int 0, .int 0, .int 0, .int 0, .int 0, .int 0, .ref n_signs, .int 0, .ref n_posts, .int 0, .ref n_acts]))] [.ref x0]) (vp_Si (fun r : Int32 => r = (-2))) 0 0 (fun _ => False) := by
  refine Met.ofW (cc := cX11_silent) (maxL := 1) (ret := (some .int)) (by decide) rfl ?_
  intro p e s m args below meth c s₁ B hml hv
  obtain ⟨rfl, hP, hK⟩ := hv
  have hx := B.exec
  have hb := B.bytes
  have hr := B.returns
  have hts : ∀ w ∈ wsL_law, w.before ([.ref x0] : List Value).toArray s = true := fun w h => atoms_spec (ws := Cond.code yX11_silent cX11_silent 1 (some .int) :: wsL_law) B.pre w (List.mem_cons_of_mem _ h)
  have hown : s.vm.findClass RX11 = some m.cls := findClass_of_methodNamed B.named
  have hlocks := B.notSynchronized
  have hl := lv_entry ([.ref x0]) (n := 1) (Nat.le_of_ble_eq_true rfl)
  rw [lg_entry_eq]
  generalize (lg_sl ([.ref x0]) ++ List.replicate (1 - (lg_sl ([.ref x0])).length) Slot.unset).toArray = ls at hl ⊢
  have hl : lv_has ls 1 [(0, .ref x0)] := hl
  have hP : va_P D vwCl [(x0, .inr (11, [.ref r_tape, .ref r_reader, .ref r_now, .ref r_trial, .ref r_images, .ref r_kept, .ref r_slots, .ref r_night, .ref r_other, .ref r_circle, .ref r_words, .ref r_law, .ref r_place, .ref r_drawn])), (r_now, .inr (8, [.int 0, .int 0, .int 0, .int 0, .int 0, .int 0, .int 0, .ref n_signs, .int 0, .ref n_posts, .int 0, .ref n_acts]))] s.heap := hP
  refine lv_aload_n hx hb dX11_silent_0 rfl (lv_at hl 0 rfl) ?_
  refine roi (As := []) (rest := []) ⟨hx, hb, hml, hown, hts⟩ (k_noStation l D cB cI cJ cZ cS cT x0 r_tape r_reader r_now r_trial r_images r_kept r_slots r_night r_other r_circle r_words r_law r_place r_drawn n_signs n_posts n_acts ) (cvB (n := 0) (inr22 _ (List.mem_of_getElem? (i := 11) rfl)) (inr22 _ (List.mem_of_getElem? (i := 12) rfl)) (inr22 _ (List.mem_of_getElem? (i := 13) rfl)) (inr1 _ (List.mem_of_getElem? (i := 2) rfl)) (inr22 _ (List.mem_of_getElem? (i := 14) rfl)) (by decide +kernel) hts rfl rfl ⟨Nat.le_of_ble_eq_true rfl, Nat.le_of_ble_eq_true rfl⟩) 0 11 rfl rfl rfl (hP.sub [0, 1] rfl) hK rfl hl.1 rfl (Nat.le_of_ble_eq_true rfl) ⟨Nat.le_of_ble_eq_true rfl, Nat.le_of_ble_eq_true rfl⟩ dX11_silent_1 (fun r_1 h_2 => ?_)
  obtain rfl := h_2
  refine lv_if_eq (tgt := 10) hx hb dX11_silent_4 (by decide) (fun c0 => absurd c0 (by decide)) (fun _ => ?_)
  refine lv_bipush (v := (-2)) hx hb dX11_silent_7 (by decide) ?_
  exact W.iret (v := (-2)) hx hb hr (fun t ht hW => ⟨_, rfl, rfl, ht⟩) (fun _ h => by cases h) dX11_silent_9

set_option maxHeartbeats 4000000 in
set_option maxRecDepth 100000 in
theorem kx_tuned (l : Launch) (D : va_G) (cB cI cJ cZ cS cT : ClassId) (x0 : Nat) (r_tape : Nat) (r_reader : Nat) (r_now : Nat) (r_trial : Nat) (r_images : Nat) (r_kept : Nat) (r_slots : Nat) (r_night : Nat) (r_other : Nat) (r_circle : Nat) (r_words : Nat) (r_law : Nat) (r_place : Nat) (r_drawn : Nat) (n_signs : Nat) (n_posts : Nat) (n_acts : Nat)  : Met l yX11_tuned (Cond.code yX11_tuned cX11_tuned 5 (some .int) :: wsL_law) ({ frames := 2, cells := 0, slots := 0, locals := 40 }) (roP D (tyL cB cI cJ cZ cS cT) [(x0, .inr (11, [.ref r_tape, .ref r_reader, .ref r_now, .ref r_trial, .ref r_images, .ref r_kept, .ref r_slots, .ref r_night, .ref r_other, .ref r_circle, .ref r_words, .ref r_law, .ref r_place, .ref r_drawn])), (r_now, .inr (8, [.int 0, .int 0, .int 0, .int 0, .int 0, .int 0, .int 0, .ref n_signs, .int 0, .ref n_posts, .int 0, .ref n_acts]))] [.ref x0]) (vp_Si (fun r : Int32 => r = (-2))) 0 0 (fun _ => False) := by
  refine Met.ofW (cc := cX11_tuned) (maxL := 5) (ret := (some .int)) (by decide) rfl ?_
  intro p e s m args below meth c s₁ B hml hv
  obtain ⟨rfl, hP, hK⟩ := hv
  have hx := B.exec
  have hb := B.bytes
  have hr := B.returns
  have hts : ∀ w ∈ wsL_law, w.before ([.ref x0] : List Value).toArray s = true := fun w h => atoms_spec (ws := Cond.code yX11_tuned cX11_tuned 5 (some .int) :: wsL_law) B.pre w (List.mem_cons_of_mem _ h)
  have hown : s.vm.findClass RX11 = some m.cls := findClass_of_methodNamed B.named
  have hlocks := B.notSynchronized
  have hl := lv_entry ([.ref x0]) (n := 5) (Nat.le_of_ble_eq_true rfl)
  rw [lg_entry_eq]
  generalize (lg_sl ([.ref x0]) ++ List.replicate (5 - (lg_sl ([.ref x0])).length) Slot.unset).toArray = ls at hl ⊢
  have hl : lv_has ls 5 [(0, .ref x0)] := hl
  have hP : va_P D vwCl [(x0, .inr (11, [.ref r_tape, .ref r_reader, .ref r_now, .ref r_trial, .ref r_images, .ref r_kept, .ref r_slots, .ref r_night, .ref r_other, .ref r_circle, .ref r_words, .ref r_law, .ref r_place, .ref r_drawn])), (r_now, .inr (8, [.int 0, .int 0, .int 0, .int 0, .int 0, .int 0, .int 0, .ref n_signs, .int 0, .ref n_posts, .int 0, .ref n_acts]))] s.heap := hP
  refine lv_aload_n hx hb dX11_tuned_0 rfl (lv_at hl 0 rfl) ?_
  refine roi (As := []) (rest := []) ⟨hx, hb, hml, hown, hts⟩ (k_noStation l D cB cI cJ cZ cS cT x0 r_tape r_reader r_now r_trial r_images r_kept r_slots r_night r_other r_circle r_words r_law r_place r_drawn n_signs n_posts n_acts ) (cvB (n := 0) (inr22 _ (List.mem_of_getElem? (i := 11) rfl)) (inr22 _ (List.mem_of_getElem? (i := 12) rfl)) (inr22 _ (List.mem_of_getElem? (i := 13) rfl)) (inr1 _ (List.mem_of_getElem? (i := 2) rfl)) (inr22 _ (List.mem_of_getElem? (i := 14) rfl)) (by decide +kernel) hts rfl rfl ⟨Nat.le_of_ble_eq_true rfl, Nat.le_of_ble_eq_true rfl⟩) 0 11 rfl rfl rfl (hP.sub [0, 1] rfl) hK rfl hl.1 rfl (Nat.le_of_ble_eq_true rfl) ⟨Nat.le_of_ble_eq_true rfl, Nat.le_of_ble_eq_true rfl⟩ dX11_tuned_1 (fun r_1 h_2 => ?_)
  obtain rfl := h_2
  refine lv_if_eq (tgt := 10) hx hb dX11_tuned_4 (by decide) (fun c0 => absurd c0 (by decide)) (fun _ => ?_)
  refine lv_bipush (v := (-2)) hx hb dX11_tuned_7 (by decide) ?_
  exact W.iret (v := (-2)) hx hb hr (fun t ht hW => ⟨_, rfl, rfl, ht⟩) (fun _ h => by cases h) dX11_tuned_9

set_option maxHeartbeats 4000000 in
set_option maxRecDepth 100000 in
theorem kx_reach (l : Launch) (D : va_G) (cB cI cJ cZ cS cT : ClassId) (x0 : Nat) (r_tape : Nat) (r_reader : Nat) (r_now : Nat) (r_trial : Nat) (r_images : Nat) (r_kept : Nat) (r_slots : Nat) (r_night : Nat) (r_other : Nat) (r_circle : Nat) (r_words : Nat) (r_law : Nat) (r_place : Nat) (r_drawn : Nat) (n_signs : Nat) (n_posts : Nat) (n_acts : Nat) (a1 : Int32)  : Met l yX11_reach (Cond.code yX11_reach cX11_reach 2 (some .int) :: wsL_law) ({ frames := 3, cells := 0, slots := 0, locals := 61 }) (roP D (tyL cB cI cJ cZ cS cT) [(x0, .inr (11, [.ref r_tape, .ref r_reader, .ref r_now, .ref r_trial, .ref r_images, .ref r_kept, .ref r_slots, .ref r_night, .ref r_other, .ref r_circle, .ref r_words, .ref r_law, .ref r_place, .ref r_drawn])), (r_now, .inr (8, [.int 0, .int 0, .int 0, .int 0, .int 0, .int 0, .int 0, .ref n_signs, .int 0, .ref n_posts, .int 0, .ref n_acts]))] [.ref x0, .int a1]) (vp_Si (fun r : Int32 => r = (-2))) 0 0 (fun _ => False) := by
  refine Met.ofW (cc := cX11_reach) (maxL := 2) (ret := (some .int)) (by decide) rfl ?_
  intro p e s m args below meth c s₁ B hml hv
  obtain ⟨rfl, hP, hK⟩ := hv
  have hx := B.exec
  have hb := B.bytes
  have hr := B.returns
  have hts : ∀ w ∈ wsL_law, w.before ([.ref x0, .int a1] : List Value).toArray s = true := fun w h => atoms_spec (ws := Cond.code yX11_reach cX11_reach 2 (some .int) :: wsL_law) B.pre w (List.mem_cons_of_mem _ h)
  have hown : s.vm.findClass RX11 = some m.cls := findClass_of_methodNamed B.named
  have hlocks := B.notSynchronized
  have hl := lv_entry ([.ref x0, .int a1]) (n := 2) (Nat.le_of_ble_eq_true rfl)
  rw [lg_entry_eq]
  generalize (lg_sl ([.ref x0, .int a1]) ++ List.replicate (2 - (lg_sl ([.ref x0, .int a1])).length) Slot.unset).toArray = ls at hl ⊢
  have hl : lv_has ls 2 [(0, .ref x0), (1, .int a1)] := hl
  have hP : va_P D vwCl [(x0, .inr (11, [.ref r_tape, .ref r_reader, .ref r_now, .ref r_trial, .ref r_images, .ref r_kept, .ref r_slots, .ref r_night, .ref r_other, .ref r_circle, .ref r_words, .ref r_law, .ref r_place, .ref r_drawn])), (r_now, .inr (8, [.int 0, .int 0, .int 0, .int 0, .int 0, .int 0, .int 0, .ref n_signs, .int 0, .ref n_posts, .int 0, .ref n_acts]))] s.heap := hP
  refine lv_aload_n hx hb dX11_reach_0 rfl (lv_at hl 0 rfl) ?_
  refine lv_iload_n hx hb dX11_reach_1 rfl (lv_at hl 1 rfl) ?_
  refine roi (As := [.int a1]) (rest := []) ⟨hx, hb, hml, hown, hts⟩ (k_noPlanStep l D cB cI cJ cZ cS cT x0 r_tape r_reader r_now r_trial r_images r_kept r_slots r_night r_other r_circle r_words r_law r_place r_drawn n_signs n_posts n_acts a1 ) (cvB (n := 1) (inr40 _ (List.mem_of_getElem? (i := 14) rfl)) (inr40 _ (List.mem_of_getElem? (i := 15) rfl)) (inr40 _ (List.mem_of_getElem? (i := 16) rfl)) (inr1 _ (List.mem_of_getElem? (i := 2) rfl)) (inr40 _ (List.mem_of_getElem? (i := 17) rfl)) (by decide +kernel) hts rfl rfl ⟨Nat.le_of_ble_eq_true rfl, Nat.le_of_ble_eq_true rfl⟩) 0 11 rfl rfl rfl (hP.sub [0, 1] rfl) hK rfl hl.1 rfl (Nat.le_of_ble_eq_true rfl) ⟨Nat.le_of_ble_eq_true rfl, Nat.le_of_ble_eq_true rfl⟩ dX11_reach_2 (fun r_1 h_2 => ?_)
  obtain rfl := h_2
  refine lv_if_eq (tgt := 13) hx hb dX11_reach_5 (by decide) (fun c0 => absurd c0 (by decide)) (fun _ => ?_)
  refine lv_bipush (v := (-2)) hx hb dX11_reach_8 (by decide) ?_
  refine lv_goto (tgt := 25) hx hb dX11_reach_10 (by decide) ?_
  exact W.iret (v := (-2)) hx hb hr (fun t ht hW => ⟨_, rfl, rfl, ht⟩) (fun _ h => by cases h) dX11_reach_25

set_option maxHeartbeats 4000000 in
set_option maxRecDepth 100000 in
theorem kx_spread (l : Launch) (D : va_G) (cB cI cJ cZ cS cT : ClassId) (x0 : Nat) (r_tape : Nat) (r_reader : Nat) (r_now : Nat) (r_trial : Nat) (r_images : Nat) (r_kept : Nat) (r_slots : Nat) (r_night : Nat) (r_other : Nat) (r_circle : Nat) (r_words : Nat) (r_law : Nat) (r_place : Nat) (r_drawn : Nat) (n_signs : Nat) (n_posts : Nat) (n_acts : Nat) (a1 : Int32)  : Met l yX11_spread (Cond.code yX11_spread cX11_spread 6 (some .int) :: wsL_law) ({ frames := 2, cells := 0, slots := 0, locals := 40 }) (roP D (tyL cB cI cJ cZ cS cT) [(x0, .inr (11, [.ref r_tape, .ref r_reader, .ref r_now, .ref r_trial, .ref r_images, .ref r_kept, .ref r_slots, .ref r_night, .ref r_other, .ref r_circle, .ref r_words, .ref r_law, .ref r_place, .ref r_drawn])), (r_now, .inr (8, [.int 0, .int 0, .int 0, .int 0, .int 0, .int 0, .int 0, .ref n_signs, .int 0, .ref n_posts, .int 0, .ref n_acts]))] [.ref x0, .int a1]) (vp_Si (fun r : Int32 => r = (-2))) 0 0 (fun _ => False) := by
  refine Met.ofW (cc := cX11_spread) (maxL := 6) (ret := (some .int)) (by decide) rfl ?_
  intro p e s m args below meth c s₁ B hml hv
  obtain ⟨rfl, hP, hK⟩ := hv
  have hx := B.exec
  have hb := B.bytes
  have hr := B.returns
  have hts : ∀ w ∈ wsL_law, w.before ([.ref x0, .int a1] : List Value).toArray s = true := fun w h => atoms_spec (ws := Cond.code yX11_spread cX11_spread 6 (some .int) :: wsL_law) B.pre w (List.mem_cons_of_mem _ h)
  have hown : s.vm.findClass RX11 = some m.cls := findClass_of_methodNamed B.named
  have hlocks := B.notSynchronized
  have hl := lv_entry ([.ref x0, .int a1]) (n := 6) (Nat.le_of_ble_eq_true rfl)
  rw [lg_entry_eq]
  generalize (lg_sl ([.ref x0, .int a1]) ++ List.replicate (6 - (lg_sl ([.ref x0, .int a1])).length) Slot.unset).toArray = ls at hl ⊢
  have hl : lv_has ls 6 [(0, .ref x0), (1, .int a1)] := hl
  have hP : va_P D vwCl [(x0, .inr (11, [.ref r_tape, .ref r_reader, .ref r_now, .ref r_trial, .ref r_images, .ref r_kept, .ref r_slots, .ref r_night, .ref r_other, .ref r_circle, .ref r_words, .ref r_law, .ref r_place, .ref r_drawn])), (r_now, .inr (8, [.int 0, .int 0, .int 0, .int 0, .int 0, .int 0, .int 0, .ref n_signs, .int 0, .ref n_posts, .int 0, .ref n_acts]))] s.heap := hP
  refine lv_aload_n hx hb dX11_spread_0 rfl (lv_at hl 0 rfl) ?_
  refine roi (As := []) (rest := []) ⟨hx, hb, hml, hown, hts⟩ (k_noStation l D cB cI cJ cZ cS cT x0 r_tape r_reader r_now r_trial r_images r_kept r_slots r_night r_other r_circle r_words r_law r_place r_drawn n_signs n_posts n_acts ) (cvB (n := 0) (inr22 _ (List.mem_of_getElem? (i := 11) rfl)) (inr22 _ (List.mem_of_getElem? (i := 12) rfl)) (inr22 _ (List.mem_of_getElem? (i := 13) rfl)) (inr1 _ (List.mem_of_getElem? (i := 2) rfl)) (inr22 _ (List.mem_of_getElem? (i := 14) rfl)) (by decide +kernel) hts rfl rfl ⟨Nat.le_of_ble_eq_true rfl, Nat.le_of_ble_eq_true rfl⟩) 0 11 rfl rfl rfl (hP.sub [0, 1] rfl) hK rfl hl.1 rfl (Nat.le_of_ble_eq_true rfl) ⟨Nat.le_of_ble_eq_true rfl, Nat.le_of_ble_eq_true rfl⟩ dX11_spread_1 (fun r_1 h_2 => ?_)
  obtain rfl := h_2
  refine lv_if_ne (tgt := 19) hx hb dX11_spread_4 (by decide) (fun _ => ?_) (fun c0 => absurd c0 (by decide))
  refine lv_bipush (v := (-2)) hx hb dX11_spread_19 (by decide) ?_
  exact W.iret (v := (-2)) hx hb hr (fun t ht hW => ⟨_, rfl, rfl, ht⟩) (fun _ h => by cases h) dX11_spread_21

set_option maxHeartbeats 4000000 in
set_option maxRecDepth 100000 in
theorem kx_blind (l : Launch) (D : va_G) (cB cI cJ cZ cS cT : ClassId) (x0 : Nat) (r_tape : Nat) (r_reader : Nat) (r_now : Nat) (r_trial : Nat) (r_images : Nat) (r_kept : Nat) (r_slots : Nat) (r_night : Nat) (r_other : Nat) (r_circle : Nat) (r_words : Nat) (r_law : Nat) (r_place : Nat) (r_drawn : Nat) (n_signs : Nat) (n_posts : Nat) (n_acts : Nat)  : Met l yX11_blind (Cond.code yX11_blind cX11_blind 4 (some .int) :: wsL_law) ({ frames := 2, cells := 0, slots := 0, locals := 40 }) (roP D (tyL cB cI cJ cZ cS cT) [(x0, .inr (11, [.ref r_tape, .ref r_reader, .ref r_now, .ref r_trial, .ref r_images, .ref r_kept, .ref r_slots, .ref r_night, .ref r_other, .ref r_circle, .ref r_words, .ref r_law, .ref r_place, .ref r_drawn])), (r_now, .inr (8, [.int 0, .int 0, .int 0, .int 0, .int 0, .int 0, .int 0, .ref n_signs, .int 0, .ref n_posts, .int 0, .ref n_acts]))] [.ref x0]) (vp_Si (fun r : Int32 => r = (-2))) 0 0 (fun _ => False) := by
  refine Met.ofW (cc := cX11_blind) (maxL := 4) (ret := (some .int)) (by decide) rfl ?_
  intro p e s m args below meth c s₁ B hml hv
  obtain ⟨rfl, hP, hK⟩ := hv
  have hx := B.exec
  have hb := B.bytes
  have hr := B.returns
  have hts : ∀ w ∈ wsL_law, w.before ([.ref x0] : List Value).toArray s = true := fun w h => atoms_spec (ws := Cond.code yX11_blind cX11_blind 4 (some .int) :: wsL_law) B.pre w (List.mem_cons_of_mem _ h)
  have hown : s.vm.findClass RX11 = some m.cls := findClass_of_methodNamed B.named
  have hlocks := B.notSynchronized
  have hl := lv_entry ([.ref x0]) (n := 4) (Nat.le_of_ble_eq_true rfl)
  rw [lg_entry_eq]
  generalize (lg_sl ([.ref x0]) ++ List.replicate (4 - (lg_sl ([.ref x0])).length) Slot.unset).toArray = ls at hl ⊢
  have hl : lv_has ls 4 [(0, .ref x0)] := hl
  have hP : va_P D vwCl [(x0, .inr (11, [.ref r_tape, .ref r_reader, .ref r_now, .ref r_trial, .ref r_images, .ref r_kept, .ref r_slots, .ref r_night, .ref r_other, .ref r_circle, .ref r_words, .ref r_law, .ref r_place, .ref r_drawn])), (r_now, .inr (8, [.int 0, .int 0, .int 0, .int 0, .int 0, .int 0, .int 0, .ref n_signs, .int 0, .ref n_posts, .int 0, .ref n_acts]))] s.heap := hP
  refine lv_aload_n hx hb dX11_blind_0 rfl (lv_at hl 0 rfl) ?_
  refine roi (As := []) (rest := []) ⟨hx, hb, hml, hown, hts⟩ (k_noStation l D cB cI cJ cZ cS cT x0 r_tape r_reader r_now r_trial r_images r_kept r_slots r_night r_other r_circle r_words r_law r_place r_drawn n_signs n_posts n_acts ) (cvB (n := 0) (inr22 _ (List.mem_of_getElem? (i := 11) rfl)) (inr22 _ (List.mem_of_getElem? (i := 12) rfl)) (inr22 _ (List.mem_of_getElem? (i := 13) rfl)) (inr1 _ (List.mem_of_getElem? (i := 2) rfl)) (inr22 _ (List.mem_of_getElem? (i := 14) rfl)) (by decide +kernel) hts rfl rfl ⟨Nat.le_of_ble_eq_true rfl, Nat.le_of_ble_eq_true rfl⟩) 0 11 rfl rfl rfl (hP.sub [0, 1] rfl) hK rfl hl.1 rfl (Nat.le_of_ble_eq_true rfl) ⟨Nat.le_of_ble_eq_true rfl, Nat.le_of_ble_eq_true rfl⟩ dX11_blind_1 (fun r_1 h_2 => ?_)
  obtain rfl := h_2
  refine lv_if_eq (tgt := 10) hx hb dX11_blind_4 (by decide) (fun c0 => absurd c0 (by decide)) (fun _ => ?_)
  refine lv_bipush (v := (-2)) hx hb dX11_blind_7 (by decide) ?_
  exact W.iret (v := (-2)) hx hb hr (fun t ht hW => ⟨_, rfl, rfl, ht⟩) (fun _ h => by cases h) dX11_blind_9

set_option maxHeartbeats 4000000 in
set_option maxRecDepth 100000 in
theorem kx_settles (l : Launch) (D : va_G) (cB cI cJ cZ cS cT : ClassId) (x0 : Nat) (r_tape : Nat) (r_reader : Nat) (r_now : Nat) (r_trial : Nat) (r_images : Nat) (r_kept : Nat) (r_slots : Nat) (r_night : Nat) (r_other : Nat) (r_circle : Nat) (r_words : Nat) (r_law : Nat) (r_place : Nat) (r_drawn : Nat) (n_signs : Nat) (n_posts : Nat) (n_acts : Nat)  : Met l yX11_settles (Cond.code yX11_settles cX11_settles 1 (some .int) :: wsL_law) ({ frames := 2, cells := 0, slots := 0, locals := 40 }) (roP D (tyL cB cI cJ cZ cS cT) [(x0, .inr (11, [.ref r_tape, .ref r_reader, .ref r_now, .ref r_trial, .ref r_images, .ref r_kept, .ref r_slots, .ref r_night, .ref r_other, .ref r_circle, .ref r_words, .ref r_law, .ref r_place, .ref r_drawn])), (r_now, .inr (8, [.int 0, .int 0, .int 0, .int 0, .int 0, .int 0, .int 0, .ref n_signs, .int 0, .ref n_posts, .int 0, .ref n_acts]))] [.ref x0]) (vp_Si (fun r : Int32 => r = (-2))) 0 0 (fun _ => False) := by
  refine Met.ofW (cc := cX11_settles) (maxL := 1) (ret := (some .int)) (by decide) rfl ?_
  intro p e s m args below meth c s₁ B hml hv
  obtain ⟨rfl, hP, hK⟩ := hv
  have hx := B.exec
  have hb := B.bytes
  have hr := B.returns
  have hts : ∀ w ∈ wsL_law, w.before ([.ref x0] : List Value).toArray s = true := fun w h => atoms_spec (ws := Cond.code yX11_settles cX11_settles 1 (some .int) :: wsL_law) B.pre w (List.mem_cons_of_mem _ h)
  have hown : s.vm.findClass RX11 = some m.cls := findClass_of_methodNamed B.named
  have hlocks := B.notSynchronized
  have hl := lv_entry ([.ref x0]) (n := 1) (Nat.le_of_ble_eq_true rfl)
  rw [lg_entry_eq]
  generalize (lg_sl ([.ref x0]) ++ List.replicate (1 - (lg_sl ([.ref x0])).length) Slot.unset).toArray = ls at hl ⊢
  have hl : lv_has ls 1 [(0, .ref x0)] := hl
  have hP : va_P D vwCl [(x0, .inr (11, [.ref r_tape, .ref r_reader, .ref r_now, .ref r_trial, .ref r_images, .ref r_kept, .ref r_slots, .ref r_night, .ref r_other, .ref r_circle, .ref r_words, .ref r_law, .ref r_place, .ref r_drawn])), (r_now, .inr (8, [.int 0, .int 0, .int 0, .int 0, .int 0, .int 0, .int 0, .ref n_signs, .int 0, .ref n_posts, .int 0, .ref n_acts]))] s.heap := hP
  refine lv_aload_n hx hb dX11_settles_0 rfl (lv_at hl 0 rfl) ?_
  refine roi (As := []) (rest := []) ⟨hx, hb, hml, hown, hts⟩ (k_noStation l D cB cI cJ cZ cS cT x0 r_tape r_reader r_now r_trial r_images r_kept r_slots r_night r_other r_circle r_words r_law r_place r_drawn n_signs n_posts n_acts ) (cvB (n := 0) (inr22 _ (List.mem_of_getElem? (i := 11) rfl)) (inr22 _ (List.mem_of_getElem? (i := 12) rfl)) (inr22 _ (List.mem_of_getElem? (i := 13) rfl)) (inr1 _ (List.mem_of_getElem? (i := 2) rfl)) (inr22 _ (List.mem_of_getElem? (i := 14) rfl)) (by decide +kernel) hts rfl rfl ⟨Nat.le_of_ble_eq_true rfl, Nat.le_of_ble_eq_true rfl⟩) 0 11 rfl rfl rfl (hP.sub [0, 1] rfl) hK rfl hl.1 rfl (Nat.le_of_ble_eq_true rfl) ⟨Nat.le_of_ble_eq_true rfl, Nat.le_of_ble_eq_true rfl⟩ dX11_settles_1 (fun r_1 h_2 => ?_)
  obtain rfl := h_2
  refine lv_if_eq (tgt := 10) hx hb dX11_settles_4 (by decide) (fun c0 => absurd c0 (by decide)) (fun _ => ?_)
  refine lv_bipush (v := (-2)) hx hb dX11_settles_7 (by decide) ?_
  exact W.iret (v := (-2)) hx hb hr (fun t ht hW => ⟨_, rfl, rfl, ht⟩) (fun _ h => by cases h) dX11_settles_9

set_option maxHeartbeats 4000000 in
set_option maxRecDepth 100000 in
theorem kx_round (l : Launch) (D : va_G) (cB cI cJ cZ cS cT : ClassId) (x0 : Nat) (r_tape : Nat) (r_reader : Nat) (r_now : Nat) (r_trial : Nat) (r_images : Nat) (r_kept : Nat) (r_slots : Nat) (r_night : Nat) (r_other : Nat) (r_circle : Nat) (r_words : Nat) (r_law : Nat) (r_place : Nat) (r_drawn : Nat) (n_signs : Nat) (n_posts : Nat) (n_acts : Nat)  : Met l yX11_round (Cond.code yX11_round cX11_round 1 (some .int) :: wsL_law) ({ frames := 2, cells := 0, slots := 0, locals := 40 }) (roP D (tyL cB cI cJ cZ cS cT) [(x0, .inr (11, [.ref r_tape, .ref r_reader, .ref r_now, .ref r_trial, .ref r_images, .ref r_kept, .ref r_slots, .ref r_night, .ref r_other, .ref r_circle, .ref r_words, .ref r_law, .ref r_place, .ref r_drawn])), (r_now, .inr (8, [.int 0, .int 0, .int 0, .int 0, .int 0, .int 0, .int 0, .ref n_signs, .int 0, .ref n_posts, .int 0, .ref n_acts]))] [.ref x0]) (vp_Si (fun r : Int32 => r = (-2))) 0 0 (fun _ => False) := by
  refine Met.ofW (cc := cX11_round) (maxL := 1) (ret := (some .int)) (by decide) rfl ?_
  intro p e s m args below meth c s₁ B hml hv
  obtain ⟨rfl, hP, hK⟩ := hv
  have hx := B.exec
  have hb := B.bytes
  have hr := B.returns
  have hts : ∀ w ∈ wsL_law, w.before ([.ref x0] : List Value).toArray s = true := fun w h => atoms_spec (ws := Cond.code yX11_round cX11_round 1 (some .int) :: wsL_law) B.pre w (List.mem_cons_of_mem _ h)
  have hown : s.vm.findClass RX11 = some m.cls := findClass_of_methodNamed B.named
  have hlocks := B.notSynchronized
  have hl := lv_entry ([.ref x0]) (n := 1) (Nat.le_of_ble_eq_true rfl)
  rw [lg_entry_eq]
  generalize (lg_sl ([.ref x0]) ++ List.replicate (1 - (lg_sl ([.ref x0])).length) Slot.unset).toArray = ls at hl ⊢
  have hl : lv_has ls 1 [(0, .ref x0)] := hl
  have hP : va_P D vwCl [(x0, .inr (11, [.ref r_tape, .ref r_reader, .ref r_now, .ref r_trial, .ref r_images, .ref r_kept, .ref r_slots, .ref r_night, .ref r_other, .ref r_circle, .ref r_words, .ref r_law, .ref r_place, .ref r_drawn])), (r_now, .inr (8, [.int 0, .int 0, .int 0, .int 0, .int 0, .int 0, .int 0, .ref n_signs, .int 0, .ref n_posts, .int 0, .ref n_acts]))] s.heap := hP
  refine lv_aload_n hx hb dX11_round_0 rfl (lv_at hl 0 rfl) ?_
  refine roi (As := []) (rest := []) ⟨hx, hb, hml, hown, hts⟩ (k_noStation l D cB cI cJ cZ cS cT x0 r_tape r_reader r_now r_trial r_images r_kept r_slots r_night r_other r_circle r_words r_law r_place r_drawn n_signs n_posts n_acts ) (cvB (n := 0) (inr22 _ (List.mem_of_getElem? (i := 11) rfl)) (inr22 _ (List.mem_of_getElem? (i := 12) rfl)) (inr22 _ (List.mem_of_getElem? (i := 13) rfl)) (inr1 _ (List.mem_of_getElem? (i := 2) rfl)) (inr22 _ (List.mem_of_getElem? (i := 14) rfl)) (by decide +kernel) hts rfl rfl ⟨Nat.le_of_ble_eq_true rfl, Nat.le_of_ble_eq_true rfl⟩) 0 11 rfl rfl rfl (hP.sub [0, 1] rfl) hK rfl hl.1 rfl (Nat.le_of_ble_eq_true rfl) ⟨Nat.le_of_ble_eq_true rfl, Nat.le_of_ble_eq_true rfl⟩ dX11_round_1 (fun r_1 h_2 => ?_)
  obtain rfl := h_2
  refine lv_if_eq (tgt := 10) hx hb dX11_round_4 (by decide) (fun c0 => absurd c0 (by decide)) (fun _ => ?_)
  refine lv_bipush (v := (-2)) hx hb dX11_round_7 (by decide) ?_
  exact W.iret (v := (-2)) hx hb hr (fun t ht hW => ⟨_, rfl, rfl, ht⟩) (fun _ h => by cases h) dX11_round_9

set_option maxHeartbeats 4000000 in
set_option maxRecDepth 100000 in
theorem kx_births (l : Launch) (D : va_G) (cB cI cJ cZ cS cT : ClassId) (x0 : Nat) (r_tape : Nat) (r_reader : Nat) (r_now : Nat) (r_trial : Nat) (r_images : Nat) (r_kept : Nat) (r_slots : Nat) (r_night : Nat) (r_other : Nat) (r_circle : Nat) (r_words : Nat) (r_law : Nat) (r_place : Nat) (r_drawn : Nat) (n_signs : Nat) (n_posts : Nat) (n_acts : Nat)  : Met l yX11_births (Cond.code yX11_births cX11_births 1 (some .int) :: wsL_law) ({ frames := 2, cells := 0, slots := 0, locals := 40 }) (roP D (tyL cB cI cJ cZ cS cT) [(x0, .inr (11, [.ref r_tape, .ref r_reader, .ref r_now, .ref r_trial, .ref r_images, .ref r_kept, .ref r_slots, .ref r_night, .ref r_other, .ref r_circle, .ref r_words, .ref r_law, .ref r_place, .ref r_drawn])), (r_now, .inr (8, [.int 0, .int 0, .int 0, .int 0, .int 0, .int 0, .int 0, .ref n_signs, .int 0, .ref n_posts, .int 0, .ref n_acts]))] [.ref x0]) (vp_Si (fun r : Int32 => r = (-2))) 0 0 (fun _ => False) := by
  refine Met.ofW (cc := cX11_births) (maxL := 1) (ret := (some .int)) (by decide) rfl ?_
  intro p e s m args below meth c s₁ B hml hv
  obtain ⟨rfl, hP, hK⟩ := hv
  have hx := B.exec
  have hb := B.bytes
  have hr := B.returns
  have hts : ∀ w ∈ wsL_law, w.before ([.ref x0] : List Value).toArray s = true := fun w h => atoms_spec (ws := Cond.code yX11_births cX11_births 1 (some .int) :: wsL_law) B.pre w (List.mem_cons_of_mem _ h)
  have hown : s.vm.findClass RX11 = some m.cls := findClass_of_methodNamed B.named
  have hlocks := B.notSynchronized
  have hl := lv_entry ([.ref x0]) (n := 1) (Nat.le_of_ble_eq_true rfl)
  rw [lg_entry_eq]
  generalize (lg_sl ([.ref x0]) ++ List.replicate (1 - (lg_sl ([.ref x0])).length) Slot.unset).toArray = ls at hl ⊢
  have hl : lv_has ls 1 [(0, .ref x0)] := hl
  have hP : va_P D vwCl [(x0, .inr (11, [.ref r_tape, .ref r_reader, .ref r_now, .ref r_trial, .ref r_images, .ref r_kept, .ref r_slots, .ref r_night, .ref r_other, .ref r_circle, .ref r_words, .ref r_law, .ref r_place, .ref r_drawn])), (r_now, .inr (8, [.int 0, .int 0, .int 0, .int 0, .int 0, .int 0, .int 0, .ref n_signs, .int 0, .ref n_posts, .int 0, .ref n_acts]))] s.heap := hP
  refine lv_aload_n hx hb dX11_births_0 rfl (lv_at hl 0 rfl) ?_
  refine roi (As := []) (rest := []) ⟨hx, hb, hml, hown, hts⟩ (k_noStation l D cB cI cJ cZ cS cT x0 r_tape r_reader r_now r_trial r_images r_kept r_slots r_night r_other r_circle r_words r_law r_place r_drawn n_signs n_posts n_acts ) (cvB (n := 0) (inr22 _ (List.mem_of_getElem? (i := 11) rfl)) (inr22 _ (List.mem_of_getElem? (i := 12) rfl)) (inr22 _ (List.mem_of_getElem? (i := 13) rfl)) (inr1 _ (List.mem_of_getElem? (i := 2) rfl)) (inr22 _ (List.mem_of_getElem? (i := 14) rfl)) (by decide +kernel) hts rfl rfl ⟨Nat.le_of_ble_eq_true rfl, Nat.le_of_ble_eq_true rfl⟩) 0 11 rfl rfl rfl (hP.sub [0, 1] rfl) hK rfl hl.1 rfl (Nat.le_of_ble_eq_true rfl) ⟨Nat.le_of_ble_eq_true rfl, Nat.le_of_ble_eq_true rfl⟩ dX11_births_1 (fun r_1 h_2 => ?_)
  obtain rfl := h_2
  refine lv_if_eq (tgt := 10) hx hb dX11_births_4 (by decide) (fun c0 => absurd c0 (by decide)) (fun _ => ?_)
  refine lv_bipush (v := (-2)) hx hb dX11_births_7 (by decide) ?_
  exact W.iret (v := (-2)) hx hb hr (fun t ht hW => ⟨_, rfl, rfl, ht⟩) (fun _ h => by cases h) dX11_births_9

set_option maxHeartbeats 4000000 in
set_option maxRecDepth 100000 in
theorem kx_far (l : Launch) (D : va_G) (cB cI cJ cZ cS cT : ClassId) (x0 : Nat) (r_tape : Nat) (r_reader : Nat) (r_now : Nat) (r_trial : Nat) (r_images : Nat) (r_kept : Nat) (r_slots : Nat) (r_night : Nat) (r_other : Nat) (r_circle : Nat) (r_words : Nat) (r_law : Nat) (r_place : Nat) (r_drawn : Nat) (n_signs : Nat) (n_posts : Nat) (n_acts : Nat) (a1 : Int32)  : Met l yX11_far (Cond.code yX11_far cX11_far 2 (some .int) :: wsL_law) ({ frames := 2, cells := 0, slots := 0, locals := 40 }) (roP D (tyL cB cI cJ cZ cS cT) [(x0, .inr (11, [.ref r_tape, .ref r_reader, .ref r_now, .ref r_trial, .ref r_images, .ref r_kept, .ref r_slots, .ref r_night, .ref r_other, .ref r_circle, .ref r_words, .ref r_law, .ref r_place, .ref r_drawn])), (r_now, .inr (8, [.int 0, .int 0, .int 0, .int 0, .int 0, .int 0, .int 0, .ref n_signs, .int 0, .ref n_posts, .int 0, .ref n_acts]))] [.ref x0, .int a1]) (vp_Si (fun r : Int32 => r = (-2))) 0 0 (fun _ => False) := by
  refine Met.ofW (cc := cX11_far) (maxL := 2) (ret := (some .int)) (by decide) rfl ?_
  intro p e s m args below meth c s₁ B hml hv
  obtain ⟨rfl, hP, hK⟩ := hv
  have hx := B.exec
  have hb := B.bytes
  have hr := B.returns
  have hts : ∀ w ∈ wsL_law, w.before ([.ref x0, .int a1] : List Value).toArray s = true := fun w h => atoms_spec (ws := Cond.code yX11_far cX11_far 2 (some .int) :: wsL_law) B.pre w (List.mem_cons_of_mem _ h)
  have hown : s.vm.findClass RX11 = some m.cls := findClass_of_methodNamed B.named
  have hlocks := B.notSynchronized
  have hl := lv_entry ([.ref x0, .int a1]) (n := 2) (Nat.le_of_ble_eq_true rfl)
  rw [lg_entry_eq]
  generalize (lg_sl ([.ref x0, .int a1]) ++ List.replicate (2 - (lg_sl ([.ref x0, .int a1])).length) Slot.unset).toArray = ls at hl ⊢
  have hl : lv_has ls 2 [(0, .ref x0), (1, .int a1)] := hl
  have hP : va_P D vwCl [(x0, .inr (11, [.ref r_tape, .ref r_reader, .ref r_now, .ref r_trial, .ref r_images, .ref r_kept, .ref r_slots, .ref r_night, .ref r_other, .ref r_circle, .ref r_words, .ref r_law, .ref r_place, .ref r_drawn])), (r_now, .inr (8, [.int 0, .int 0, .int 0, .int 0, .int 0, .int 0, .int 0, .ref n_signs, .int 0, .ref n_posts, .int 0, .ref n_acts]))] s.heap := hP
  refine lv_aload_n hx hb dX11_far_0 rfl (lv_at hl 0 rfl) ?_
  refine roi (As := []) (rest := []) ⟨hx, hb, hml, hown, hts⟩ (k_noStation l D cB cI cJ cZ cS cT x0 r_tape r_reader r_now r_trial r_images r_kept r_slots r_night r_other r_circle r_words r_law r_place r_drawn n_signs n_posts n_acts ) (cvB (n := 0) (inr22 _ (List.mem_of_getElem? (i := 11) rfl)) (inr22 _ (List.mem_of_getElem? (i := 12) rfl)) (inr22 _ (List.mem_of_getElem? (i := 13) rfl)) (inr1 _ (List.mem_of_getElem? (i := 2) rfl)) (inr22 _ (List.mem_of_getElem? (i := 14) rfl)) (by decide +kernel) hts rfl rfl ⟨Nat.le_of_ble_eq_true rfl, Nat.le_of_ble_eq_true rfl⟩) 0 11 rfl rfl rfl (hP.sub [0, 1] rfl) hK rfl hl.1 rfl (Nat.le_of_ble_eq_true rfl) ⟨Nat.le_of_ble_eq_true rfl, Nat.le_of_ble_eq_true rfl⟩ dX11_far_1 (fun r_1 h_2 => ?_)
  obtain rfl := h_2
  refine lv_if_ne (tgt := 19) hx hb dX11_far_4 (by decide) (fun _ => ?_) (fun c0 => absurd c0 (by decide))
  refine lv_bipush (v := (-2)) hx hb dX11_far_19 (by decide) ?_
  exact W.iret (v := (-2)) hx hb hr (fun t ht hW => ⟨_, rfl, rfl, ht⟩) (fun _ h => by cases h) dX11_far_21

set_option maxHeartbeats 4000000 in
set_option maxRecDepth 100000 in
theorem kx_needs (l : Launch) (D : va_G) (cB cI cJ cZ cS cT : ClassId) (x0 : Nat) (r_tape : Nat) (r_reader : Nat) (r_now : Nat) (r_trial : Nat) (r_images : Nat) (r_kept : Nat) (r_slots : Nat) (r_night : Nat) (r_other : Nat) (r_circle : Nat) (r_words : Nat) (r_law : Nat) (r_place : Nat) (r_drawn : Nat) (n_signs : Nat) (n_posts : Nat) (n_acts : Nat) (a1 : Int32) (a2 : Int32)  : Met l yX11_needs (Cond.code yX11_needs cX11_needs 3 (some .int) :: wsL_law) ({ frames := 3, cells := 0, slots := 0, locals := 61 }) (roP D (tyL cB cI cJ cZ cS cT) [(x0, .inr (11, [.ref r_tape, .ref r_reader, .ref r_now, .ref r_trial, .ref r_images, .ref r_kept, .ref r_slots, .ref r_night, .ref r_other, .ref r_circle, .ref r_words, .ref r_law, .ref r_place, .ref r_drawn])), (r_now, .inr (8, [.int 0, .int 0, .int 0, .int 0, .int 0, .int 0, .int 0, .ref n_signs, .int 0, .ref n_posts, .int 0, .ref n_acts]))] [.ref x0, .int a1, .int a2]) (vp_Si (fun r : Int32 => r = (-2))) 0 0 (fun _ => False) := by
  refine Met.ofW (cc := cX11_needs) (maxL := 3) (ret := (some .int)) (by decide) rfl ?_
  intro p e s m args below meth c s₁ B hml hv
  obtain ⟨rfl, hP, hK⟩ := hv
  have hx := B.exec
  have hb := B.bytes
  have hr := B.returns
  have hts : ∀ w ∈ wsL_law, w.before ([.ref x0, .int a1, .int a2] : List Value).toArray s = true := fun w h => atoms_spec (ws := Cond.code yX11_needs cX11_needs 3 (some .int) :: wsL_law) B.pre w (List.mem_cons_of_mem _ h)
  have hown : s.vm.findClass RX11 = some m.cls := findClass_of_methodNamed B.named
  have hlocks := B.notSynchronized
  have hl := lv_entry ([.ref x0, .int a1, .int a2]) (n := 3) (Nat.le_of_ble_eq_true rfl)
  rw [lg_entry_eq]
  generalize (lg_sl ([.ref x0, .int a1, .int a2]) ++ List.replicate (3 - (lg_sl ([.ref x0, .int a1, .int a2])).length) Slot.unset).toArray = ls at hl ⊢
  have hl : lv_has ls 3 [(0, .ref x0), (1, .int a1), (2, .int a2)] := hl
  have hP : va_P D vwCl [(x0, .inr (11, [.ref r_tape, .ref r_reader, .ref r_now, .ref r_trial, .ref r_images, .ref r_kept, .ref r_slots, .ref r_night, .ref r_other, .ref r_circle, .ref r_words, .ref r_law, .ref r_place, .ref r_drawn])), (r_now, .inr (8, [.int 0, .int 0, .int 0, .int 0, .int 0, .int 0, .int 0, .ref n_signs, .int 0, .ref n_posts, .int 0, .ref n_acts]))] s.heap := hP
  refine lv_aload_n hx hb dX11_needs_0 rfl (lv_at hl 0 rfl) ?_
  refine lv_iload_n hx hb dX11_needs_1 rfl (lv_at hl 1 rfl) ?_
  refine roi (As := [.int a1]) (rest := []) ⟨hx, hb, hml, hown, hts⟩ (k_noPlanStep l D cB cI cJ cZ cS cT x0 r_tape r_reader r_now r_trial r_images r_kept r_slots r_night r_other r_circle r_words r_law r_place r_drawn n_signs n_posts n_acts a1 ) (cvB (n := 1) (inr40 _ (List.mem_of_getElem? (i := 14) rfl)) (inr40 _ (List.mem_of_getElem? (i := 15) rfl)) (inr40 _ (List.mem_of_getElem? (i := 16) rfl)) (inr1 _ (List.mem_of_getElem? (i := 2) rfl)) (inr40 _ (List.mem_of_getElem? (i := 17) rfl)) (by decide +kernel) hts rfl rfl ⟨Nat.le_of_ble_eq_true rfl, Nat.le_of_ble_eq_true rfl⟩) 0 11 rfl rfl rfl (hP.sub [0, 1] rfl) hK rfl hl.1 rfl (Nat.le_of_ble_eq_true rfl) ⟨Nat.le_of_ble_eq_true rfl, Nat.le_of_ble_eq_true rfl⟩ dX11_needs_2 (fun r_1 h_2 => ?_)
  obtain rfl := h_2
  refine lv_if_ne (tgt := 16) hx hb dX11_needs_5 (by decide) (fun _ => ?_) (fun c0 => absurd c0 (by decide))
  refine lv_bipush (v := (-2)) hx hb dX11_needs_16 (by decide) ?_
  refine lv_goto (tgt := 35) hx hb dX11_needs_18 (by decide) ?_
  exact W.iret (v := (-2)) hx hb hr (fun t ht hW => ⟨_, rfl, rfl, ht⟩) (fun _ h => by cases h) dX11_needs_35

set_option maxHeartbeats 4000000 in
set_option maxRecDepth 100000 in
theorem kx_plan (l : Launch) (D : va_G) (cB cI cJ cZ cS cT : ClassId) (x0 : Nat) (r_tape : Nat) (r_reader : Nat) (r_now : Nat) (r_trial : Nat) (r_images : Nat) (r_kept : Nat) (r_slots : Nat) (r_night : Nat) (r_other : Nat) (r_circle : Nat) (r_words : Nat) (r_law : Nat) (r_place : Nat) (r_drawn : Nat) (n_signs : Nat) (n_posts : Nat) (n_acts : Nat) (a1 : Int32) (a2 : Int32) (a3 : Int32)  : Met l yX11_plan (Cond.code yX11_plan cX11_plan 4 (some .int) :: wsL_law) ({ frames := 3, cells := 0, slots := 0, locals := 61 }) (roP D (tyL cB cI cJ cZ cS cT) [(x0, .inr (11, [.ref r_tape, .ref r_reader, .ref r_now, .ref r_trial, .ref r_images, .ref r_kept, .ref r_slots, .ref r_night, .ref r_other, .ref r_circle, .ref r_words, .ref r_law, .ref r_place, .ref r_drawn])), (r_now, .inr (8, [.int 0, .int 0, .int 0, .int 0, .int 0, .int 0, .int 0, .ref n_signs, .int 0, .ref n_posts, .int 0, .ref n_acts]))] [.ref x0, .int a1, .int a2, .int a3]) (vp_Si (fun r : Int32 => r = (-2))) 0 0 (fun _ => False) := by
  refine Met.ofW (cc := cX11_plan) (maxL := 4) (ret := (some .int)) (by decide) rfl ?_
  intro p e s m args below meth c s₁ B hml hv
  obtain ⟨rfl, hP, hK⟩ := hv
  have hx := B.exec
  have hb := B.bytes
  have hr := B.returns
  have hts : ∀ w ∈ wsL_law, w.before ([.ref x0, .int a1, .int a2, .int a3] : List Value).toArray s = true := fun w h => atoms_spec (ws := Cond.code yX11_plan cX11_plan 4 (some .int) :: wsL_law) B.pre w (List.mem_cons_of_mem _ h)
  have hown : s.vm.findClass RX11 = some m.cls := findClass_of_methodNamed B.named
  have hlocks := B.notSynchronized
  have hl := lv_entry ([.ref x0, .int a1, .int a2, .int a3]) (n := 4) (Nat.le_of_ble_eq_true rfl)
  rw [lg_entry_eq]
  generalize (lg_sl ([.ref x0, .int a1, .int a2, .int a3]) ++ List.replicate (4 - (lg_sl ([.ref x0, .int a1, .int a2, .int a3])).length) Slot.unset).toArray = ls at hl ⊢
  have hl : lv_has ls 4 [(0, .ref x0), (1, .int a1), (2, .int a2), (3, .int a3)] := hl
  have hP : va_P D vwCl [(x0, .inr (11, [.ref r_tape, .ref r_reader, .ref r_now, .ref r_trial, .ref r_images, .ref r_kept, .ref r_slots, .ref r_night, .ref r_other, .ref r_circle, .ref r_words, .ref r_law, .ref r_place, .ref r_drawn])), (r_now, .inr (8, [.int 0, .int 0, .int 0, .int 0, .int 0, .int 0, .int 0, .ref n_signs, .int 0, .ref n_posts, .int 0, .ref n_acts]))] s.heap := hP
  refine lv_aload_n hx hb dX11_plan_0 rfl (lv_at hl 0 rfl) ?_
  refine lv_iload_n hx hb dX11_plan_1 rfl (lv_at hl 1 rfl) ?_
  refine roi (As := [.int a1]) (rest := []) ⟨hx, hb, hml, hown, hts⟩ (k_noPlanStep l D cB cI cJ cZ cS cT x0 r_tape r_reader r_now r_trial r_images r_kept r_slots r_night r_other r_circle r_words r_law r_place r_drawn n_signs n_posts n_acts a1 ) (cvB (n := 1) (inr40 _ (List.mem_of_getElem? (i := 14) rfl)) (inr40 _ (List.mem_of_getElem? (i := 15) rfl)) (inr40 _ (List.mem_of_getElem? (i := 16) rfl)) (inr1 _ (List.mem_of_getElem? (i := 2) rfl)) (inr40 _ (List.mem_of_getElem? (i := 17) rfl)) (by decide +kernel) hts rfl rfl ⟨Nat.le_of_ble_eq_true rfl, Nat.le_of_ble_eq_true rfl⟩) 0 11 rfl rfl rfl (hP.sub [0, 1] rfl) hK rfl hl.1 rfl (Nat.le_of_ble_eq_true rfl) ⟨Nat.le_of_ble_eq_true rfl, Nat.le_of_ble_eq_true rfl⟩ dX11_plan_2 (fun r_1 h_2 => ?_)
  obtain rfl := h_2
  refine lv_if_ne (tgt := 24) hx hb dX11_plan_5 (by decide) (fun _ => ?_) (fun c0 => absurd c0 (by decide))
  refine lv_bipush (v := (-2)) hx hb dX11_plan_24 (by decide) ?_
  exact W.iret (v := (-2)) hx hb hr (fun t ht hW => ⟨_, rfl, rfl, ht⟩) (fun _ h => by cases h) dX11_plan_26

set_option maxHeartbeats 4000000 in
set_option maxRecDepth 100000 in
theorem kx_quietly (l : Launch) (D : va_G) (cB cI cJ cZ cS cT : ClassId) (x0 : Nat) (r_tape : Nat) (r_reader : Nat) (r_now : Nat) (r_trial : Nat) (r_images : Nat) (r_kept : Nat) (r_slots : Nat) (r_night : Nat) (r_other : Nat) (r_circle : Nat) (r_words : Nat) (r_law : Nat) (r_place : Nat) (r_drawn : Nat) (n_signs : Nat) (n_posts : Nat) (n_acts : Nat) (a1 : Int32) (a2 : Int32)  : Met l yX11_quietly (Cond.code yX11_quietly cX11_quietly 3 (some .int) :: wsL_law) ({ frames := 3, cells := 0, slots := 0, locals := 61 }) (roP D (tyL cB cI cJ cZ cS cT) [(x0, .inr (11, [.ref r_tape, .ref r_reader, .ref r_now, .ref r_trial, .ref r_images, .ref r_kept, .ref r_slots, .ref r_night, .ref r_other, .ref r_circle, .ref r_words, .ref r_law, .ref r_place, .ref r_drawn])), (r_now, .inr (8, [.int 0, .int 0, .int 0, .int 0, .int 0, .int 0, .int 0, .ref n_signs, .int 0, .ref n_posts, .int 0, .ref n_acts]))] [.ref x0, .int a1, .int a2]) (vp_Si (fun r : Int32 => r = (-2))) 0 0 (fun _ => False) := by
  refine Met.ofW (cc := cX11_quietly) (maxL := 3) (ret := (some .int)) (by decide) rfl ?_
  intro p e s m args below meth c s₁ B hml hv
  obtain ⟨rfl, hP, hK⟩ := hv
  have hx := B.exec
  have hb := B.bytes
  have hr := B.returns
  have hts : ∀ w ∈ wsL_law, w.before ([.ref x0, .int a1, .int a2] : List Value).toArray s = true := fun w h => atoms_spec (ws := Cond.code yX11_quietly cX11_quietly 3 (some .int) :: wsL_law) B.pre w (List.mem_cons_of_mem _ h)
  have hown : s.vm.findClass RX11 = some m.cls := findClass_of_methodNamed B.named
  have hlocks := B.notSynchronized
  have hl := lv_entry ([.ref x0, .int a1, .int a2]) (n := 3) (Nat.le_of_ble_eq_true rfl)
  rw [lg_entry_eq]
  generalize (lg_sl ([.ref x0, .int a1, .int a2]) ++ List.replicate (3 - (lg_sl ([.ref x0, .int a1, .int a2])).length) Slot.unset).toArray = ls at hl ⊢
  have hl : lv_has ls 3 [(0, .ref x0), (1, .int a1), (2, .int a2)] := hl
  have hP : va_P D vwCl [(x0, .inr (11, [.ref r_tape, .ref r_reader, .ref r_now, .ref r_trial, .ref r_images, .ref r_kept, .ref r_slots, .ref r_night, .ref r_other, .ref r_circle, .ref r_words, .ref r_law, .ref r_place, .ref r_drawn])), (r_now, .inr (8, [.int 0, .int 0, .int 0, .int 0, .int 0, .int 0, .int 0, .ref n_signs, .int 0, .ref n_posts, .int 0, .ref n_acts]))] s.heap := hP
  refine lv_aload_n hx hb dX11_quietly_0 rfl (lv_at hl 0 rfl) ?_
  refine lv_iload_n hx hb dX11_quietly_1 rfl (lv_at hl 1 rfl) ?_
  refine roi (As := [.int a1]) (rest := []) ⟨hx, hb, hml, hown, hts⟩ (k_noPlanStep l D cB cI cJ cZ cS cT x0 r_tape r_reader r_now r_trial r_images r_kept r_slots r_night r_other r_circle r_words r_law r_place r_drawn n_signs n_posts n_acts a1 ) (cvB (n := 1) (inr40 _ (List.mem_of_getElem? (i := 14) rfl)) (inr40 _ (List.mem_of_getElem? (i := 15) rfl)) (inr40 _ (List.mem_of_getElem? (i := 16) rfl)) (inr1 _ (List.mem_of_getElem? (i := 2) rfl)) (inr40 _ (List.mem_of_getElem? (i := 17) rfl)) (by decide +kernel) hts rfl rfl ⟨Nat.le_of_ble_eq_true rfl, Nat.le_of_ble_eq_true rfl⟩) 0 11 rfl rfl rfl (hP.sub [0, 1] rfl) hK rfl hl.1 rfl (Nat.le_of_ble_eq_true rfl) ⟨Nat.le_of_ble_eq_true rfl, Nat.le_of_ble_eq_true rfl⟩ dX11_quietly_2 (fun r_1 h_2 => ?_)
  obtain rfl := h_2
  refine lv_if_ne (tgt := 16) hx hb dX11_quietly_5 (by decide) (fun _ => ?_) (fun c0 => absurd c0 (by decide))
  refine lv_bipush (v := (-2)) hx hb dX11_quietly_16 (by decide) ?_
  refine lv_goto (tgt := 35) hx hb dX11_quietly_18 (by decide) ?_
  exact W.iret (v := (-2)) hx hb hr (fun t ht hW => ⟨_, rfl, rfl, ht⟩) (fun _ h => by cases h) dX11_quietly_35

set_option maxHeartbeats 4000000 in
set_option maxRecDepth 100000 in
theorem kx_sooner (l : Launch) (D : va_G) (cB cI cJ cZ cS cT : ClassId) (x0 : Nat) (r_tape : Nat) (r_reader : Nat) (r_now : Nat) (r_trial : Nat) (r_images : Nat) (r_kept : Nat) (r_slots : Nat) (r_night : Nat) (r_other : Nat) (r_circle : Nat) (r_words : Nat) (r_law : Nat) (r_place : Nat) (r_drawn : Nat) (n_signs : Nat) (n_posts : Nat) (n_acts : Nat) (a1 : Int32) (a2 : Int32)  : Met l yX11_sooner (Cond.code yX11_sooner cX11_sooner 3 (some .int) :: wsL_law) ({ frames := 3, cells := 0, slots := 0, locals := 61 }) (roP D (tyL cB cI cJ cZ cS cT) [(x0, .inr (11, [.ref r_tape, .ref r_reader, .ref r_now, .ref r_trial, .ref r_images, .ref r_kept, .ref r_slots, .ref r_night, .ref r_other, .ref r_circle, .ref r_words, .ref r_law, .ref r_place, .ref r_drawn])), (r_now, .inr (8, [.int 0, .int 0, .int 0, .int 0, .int 0, .int 0, .int 0, .ref n_signs, .int 0, .ref n_posts, .int 0, .ref n_acts]))] [.ref x0, .int a1, .int a2]) (vp_Si (fun r : Int32 => r = (-2))) 0 0 (fun _ => False) := by
  refine Met.ofW (cc := cX11_sooner) (maxL := 3) (ret := (some .int)) (by decide) rfl ?_
  intro p e s m args below meth c s₁ B hml hv
  obtain ⟨rfl, hP, hK⟩ := hv
  have hx := B.exec
  have hb := B.bytes
  have hr := B.returns
  have hts : ∀ w ∈ wsL_law, w.before ([.ref x0, .int a1, .int a2] : List Value).toArray s = true := fun w h => atoms_spec (ws := Cond.code yX11_sooner cX11_sooner 3 (some .int) :: wsL_law) B.pre w (List.mem_cons_of_mem _ h)
  have hown : s.vm.findClass RX11 = some m.cls := findClass_of_methodNamed B.named
  have hlocks := B.notSynchronized
  have hl := lv_entry ([.ref x0, .int a1, .int a2]) (n := 3) (Nat.le_of_ble_eq_true rfl)
  rw [lg_entry_eq]
  generalize (lg_sl ([.ref x0, .int a1, .int a2]) ++ List.replicate (3 - (lg_sl ([.ref x0, .int a1, .int a2])).length) Slot.unset).toArray = ls at hl ⊢
  have hl : lv_has ls 3 [(0, .ref x0), (1, .int a1), (2, .int a2)] := hl
  have hP : va_P D vwCl [(x0, .inr (11, [.ref r_tape, .ref r_reader, .ref r_now, .ref r_trial, .ref r_images, .ref r_kept, .ref r_slots, .ref r_night, .ref r_other, .ref r_circle, .ref r_words, .ref r_law, .ref r_place, .ref r_drawn])), (r_now, .inr (8, [.int 0, .int 0, .int 0, .int 0, .int 0, .int 0, .int 0, .ref n_signs, .int 0, .ref n_posts, .int 0, .ref n_acts]))] s.heap := hP
  refine lv_aload_n hx hb dX11_sooner_0 rfl (lv_at hl 0 rfl) ?_
  refine lv_iload_n hx hb dX11_sooner_1 rfl (lv_at hl 1 rfl) ?_
  refine roi (As := [.int a1]) (rest := []) ⟨hx, hb, hml, hown, hts⟩ (k_noStep l D cB cI cJ cZ cS cT x0 r_tape r_reader r_now r_trial r_images r_kept r_slots r_night r_other r_circle r_words r_law r_place r_drawn n_signs n_posts n_acts a1 ) (cvB (n := 1) (inr22 _ (List.mem_of_getElem? (i := 6) rfl)) (inr22 _ (List.mem_of_getElem? (i := 7) rfl)) (inr22 _ (List.mem_of_getElem? (i := 8) rfl)) (inr1 _ (List.mem_of_getElem? (i := 2) rfl)) (inr22 _ (List.mem_of_getElem? (i := 9) rfl)) (by decide +kernel) hts rfl rfl ⟨Nat.le_of_ble_eq_true rfl, Nat.le_of_ble_eq_true rfl⟩) 0 11 rfl rfl rfl (hP.sub [0, 1] rfl) hK rfl hl.1 rfl (Nat.le_of_ble_eq_true rfl) ⟨Nat.le_of_ble_eq_true rfl, Nat.le_of_ble_eq_true rfl⟩ dX11_sooner_2 (fun r_1 h_2 => ?_)
  obtain rfl := h_2
  refine lv_if_ne (tgt := 16) hx hb dX11_sooner_5 (by decide) (fun _ => ?_) (fun c0 => absurd c0 (by decide))
  refine lv_bipush (v := (-2)) hx hb dX11_sooner_16 (by decide) ?_
  refine lv_goto (tgt := 31) hx hb dX11_sooner_18 (by decide) ?_
  exact W.iret (v := (-2)) hx hb hr (fun t ht hW => ⟨_, rfl, rfl, ht⟩) (fun _ h => by cases h) dX11_sooner_31

set_option maxHeartbeats 4000000 in
set_option maxRecDepth 100000 in
theorem kx_mend (l : Launch) (D : va_G) (cB cI cJ cZ cS cT : ClassId) (x0 : Nat) (r_tape : Nat) (r_reader : Nat) (r_now : Nat) (r_trial : Nat) (r_images : Nat) (r_kept : Nat) (r_slots : Nat) (r_night : Nat) (r_other : Nat) (r_circle : Nat) (r_words : Nat) (r_law : Nat) (r_place : Nat) (r_drawn : Nat) (n_signs : Nat) (n_posts : Nat) (n_acts : Nat) (a1 : Int32) (a2 : Int32)  : Met l yX11_mend (Cond.code yX11_mend cX11_mend 3 (some .int) :: wsL_law) ({ frames := 3, cells := 0, slots := 0, locals := 61 }) (roP D (tyL cB cI cJ cZ cS cT) [(x0, .inr (11, [.ref r_tape, .ref r_reader, .ref r_now, .ref r_trial, .ref r_images, .ref r_kept, .ref r_slots, .ref r_night, .ref r_other, .ref r_circle, .ref r_words, .ref r_law, .ref r_place, .ref r_drawn])), (r_now, .inr (8, [.int 0, .int 0, .int 0, .int 0, .int 0, .int 0, .int 0, .ref n_signs, .int 0, .ref n_posts, .int 0, .ref n_acts]))] [.ref x0, .int a1, .int a2]) (vp_Si (fun r : Int32 => r = (-2))) 0 0 (fun _ => False) := by
  refine Met.ofW (cc := cX11_mend) (maxL := 3) (ret := (some .int)) (by decide) rfl ?_
  intro p e s m args below meth c s₁ B hml hv
  obtain ⟨rfl, hP, hK⟩ := hv
  have hx := B.exec
  have hb := B.bytes
  have hr := B.returns
  have hts : ∀ w ∈ wsL_law, w.before ([.ref x0, .int a1, .int a2] : List Value).toArray s = true := fun w h => atoms_spec (ws := Cond.code yX11_mend cX11_mend 3 (some .int) :: wsL_law) B.pre w (List.mem_cons_of_mem _ h)
  have hown : s.vm.findClass RX11 = some m.cls := findClass_of_methodNamed B.named
  have hlocks := B.notSynchronized
  have hl := lv_entry ([.ref x0, .int a1, .int a2]) (n := 3) (Nat.le_of_ble_eq_true rfl)
  rw [lg_entry_eq]
  generalize (lg_sl ([.ref x0, .int a1, .int a2]) ++ List.replicate (3 - (lg_sl ([.ref x0, .int a1, .int a2])).length) Slot.unset).toArray = ls at hl ⊢
  have hl : lv_has ls 3 [(0, .ref x0), (1, .int a1), (2, .int a2)] := hl
  have hP : va_P D vwCl [(x0, .inr (11, [.ref r_tape, .ref r_reader, .ref r_now, .ref r_trial, .ref r_images, .ref r_kept, .ref r_slots, .ref r_night, .ref r_other, .ref r_circle, .ref r_words, .ref r_law, .ref r_place, .ref r_drawn])), (r_now, .inr (8, [.int 0, .int 0, .int 0, .int 0, .int 0, .int 0, .int 0, .ref n_signs, .int 0, .ref n_posts, .int 0, .ref n_acts]))] s.heap := hP
  refine lv_aload_n hx hb dX11_mend_0 rfl (lv_at hl 0 rfl) ?_
  refine lv_iload_n hx hb dX11_mend_1 rfl (lv_at hl 1 rfl) ?_
  refine roi (As := [.int a1]) (rest := []) ⟨hx, hb, hml, hown, hts⟩ (k_noPlanStep l D cB cI cJ cZ cS cT x0 r_tape r_reader r_now r_trial r_images r_kept r_slots r_night r_other r_circle r_words r_law r_place r_drawn n_signs n_posts n_acts a1 ) (cvB (n := 1) (inr40 _ (List.mem_of_getElem? (i := 14) rfl)) (inr40 _ (List.mem_of_getElem? (i := 15) rfl)) (inr40 _ (List.mem_of_getElem? (i := 16) rfl)) (inr1 _ (List.mem_of_getElem? (i := 2) rfl)) (inr40 _ (List.mem_of_getElem? (i := 17) rfl)) (by decide +kernel) hts rfl rfl ⟨Nat.le_of_ble_eq_true rfl, Nat.le_of_ble_eq_true rfl⟩) 0 11 rfl rfl rfl (hP.sub [0, 1] rfl) hK rfl hl.1 rfl (Nat.le_of_ble_eq_true rfl) ⟨Nat.le_of_ble_eq_true rfl, Nat.le_of_ble_eq_true rfl⟩ dX11_mend_2 (fun r_1 h_2 => ?_)
  obtain rfl := h_2
  refine lv_if_ne (tgt := 16) hx hb dX11_mend_5 (by decide) (fun _ => ?_) (fun c0 => absurd c0 (by decide))
  refine lv_bipush (v := (-2)) hx hb dX11_mend_16 (by decide) ?_
  exact W.iret (v := (-2)) hx hb hr (fun t ht hW => ⟨_, rfl, rfl, ht⟩) (fun _ h => by cases h) dX11_mend_18

set_option maxHeartbeats 4000000 in
set_option maxRecDepth 100000 in
theorem kx_laws (l : Launch) (D : va_G) (cB cI cJ cZ cS cT : ClassId) (x0 : Nat) (r_tape : Nat) (r_reader : Nat) (r_now : Nat) (r_trial : Nat) (r_images : Nat) (r_kept : Nat) (r_slots : Nat) (r_night : Nat) (r_other : Nat) (r_circle : Nat) (r_words : Nat) (r_law : Nat) (r_place : Nat) (r_drawn : Nat) (n_signs : Nat) (n_posts : Nat) (n_acts : Nat) (a1 : Int32)  : Met l yX11_laws (Cond.code yX11_laws cX11_laws 3 (some .int) :: wsL_law) ({ frames := 4, cells := 0, slots := 0, locals := 91 }) (roP D (tyL cB cI cJ cZ cS cT) [(x0, .inr (11, [.ref r_tape, .ref r_reader, .ref r_now, .ref r_trial, .ref r_images, .ref r_kept, .ref r_slots, .ref r_night, .ref r_other, .ref r_circle, .ref r_words, .ref r_law, .ref r_place, .ref r_drawn])), (r_now, .inr (8, [.int 0, .int 0, .int 0, .int 0, .int 0, .int 0, .int 0, .ref n_signs, .int 0, .ref n_posts, .int 0, .ref n_acts]))] [.ref x0, .int a1]) (vp_Si (fun r : Int32 => r = (-2))) 0 0 (fun _ => False) := by
  refine Met.ofW (cc := cX11_laws) (maxL := 3) (ret := (some .int)) (by decide) rfl ?_
  intro p e s m args below meth c s₁ B hml hv
  obtain ⟨rfl, hP, hK⟩ := hv
  have hx := B.exec
  have hb := B.bytes
  have hr := B.returns
  have hts : ∀ w ∈ wsL_law, w.before ([.ref x0, .int a1] : List Value).toArray s = true := fun w h => atoms_spec (ws := Cond.code yX11_laws cX11_laws 3 (some .int) :: wsL_law) B.pre w (List.mem_cons_of_mem _ h)
  have hown : s.vm.findClass RX11 = some m.cls := findClass_of_methodNamed B.named
  have hlocks := B.notSynchronized
  have hl := lv_entry ([.ref x0, .int a1]) (n := 3) (Nat.le_of_ble_eq_true rfl)
  rw [lg_entry_eq]
  generalize (lg_sl ([.ref x0, .int a1]) ++ List.replicate (3 - (lg_sl ([.ref x0, .int a1])).length) Slot.unset).toArray = ls at hl ⊢
  have hl : lv_has ls 3 [(0, .ref x0), (1, .int a1)] := hl
  have hP : va_P D vwCl [(x0, .inr (11, [.ref r_tape, .ref r_reader, .ref r_now, .ref r_trial, .ref r_images, .ref r_kept, .ref r_slots, .ref r_night, .ref r_other, .ref r_circle, .ref r_words, .ref r_law, .ref r_place, .ref r_drawn])), (r_now, .inr (8, [.int 0, .int 0, .int 0, .int 0, .int 0, .int 0, .int 0, .ref n_signs, .int 0, .ref n_posts, .int 0, .ref n_acts]))] s.heap := hP
  refine lv_aload_n hx hb dX11_laws_0 rfl (lv_at hl 0 rfl) ?_
  refine lv_iload_n hx hb dX11_laws_1 rfl (lv_at hl 1 rfl) ?_
  refine roi (As := [.int a1]) (rest := []) ⟨hx, hb, hml, hown, hts⟩ (k_lawTrouble l D cB cI cJ cZ cS cT x0 r_tape r_reader r_now r_trial r_images r_kept r_slots r_night r_other r_circle r_words r_law r_place r_drawn n_signs n_posts n_acts a1 ) (cvB (n := 1) (inr51 _ (List.mem_of_getElem? (i := 11) rfl)) (inr51 _ (List.mem_of_getElem? (i := 12) rfl)) (inr51 _ (List.mem_of_getElem? (i := 13) rfl)) (inr1 _ (List.mem_of_getElem? (i := 2) rfl)) (inr51 _ (List.mem_of_getElem? (i := 14) rfl)) (by decide +kernel) hts rfl rfl ⟨Nat.le_of_ble_eq_true rfl, Nat.le_of_ble_eq_true rfl⟩) 0 11 rfl rfl rfl (hP.sub [0, 1] rfl) hK rfl hl.1 rfl (Nat.le_of_ble_eq_true rfl) ⟨Nat.le_of_ble_eq_true rfl, Nat.le_of_ble_eq_true rfl⟩ dX11_laws_2 (fun r_1 h_2 => ?_)
  obtain rfl := h_2
  refine lv_istore_n (lv' := [(2, .int (-2)), (0, .ref x0), (1, .int a1)]) hx hb dX11_laws_5 rfl hl (by decide) rfl (fun ls hl => ?_)
  refine lv_iload_n hx hb dX11_laws_6 rfl (lv_at hl 0 rfl) ?_
  refine lv_if_eq (tgt := 12) hx hb dX11_laws_7 (by decide) (fun c0 => absurd c0 (by decide)) (fun _ => ?_)
  refine lv_iload_n hx hb dX11_laws_10 rfl (lv_at hl 0 rfl) ?_
  exact W.iret (v := (-2)) hx hb hr (fun t ht hW => ⟨_, rfl, rfl, ht⟩) (fun _ h => by cases h) dX11_laws_11

set_option maxHeartbeats 4000000 in
set_option maxRecDepth 100000 in
theorem kx_law (l : Launch) (D : va_G) (cB cI cJ cZ cS cT : ClassId) (x0 : Nat) (r_tape : Nat) (r_reader : Nat) (r_now : Nat) (r_trial : Nat) (r_images : Nat) (r_kept : Nat) (r_slots : Nat) (r_night : Nat) (r_other : Nat) (r_circle : Nat) (r_words : Nat) (r_law : Nat) (r_place : Nat) (r_drawn : Nat) (n_signs : Nat) (n_posts : Nat) (n_acts : Nat) (a1 : Int32)  : Met l yX11_law (Cond.code yX11_law cX11_law 3 (some .int) :: wsL_law) ({ frames := 4, cells := 0, slots := 0, locals := 91 }) (roP D (tyL cB cI cJ cZ cS cT) [(x0, .inr (11, [.ref r_tape, .ref r_reader, .ref r_now, .ref r_trial, .ref r_images, .ref r_kept, .ref r_slots, .ref r_night, .ref r_other, .ref r_circle, .ref r_words, .ref r_law, .ref r_place, .ref r_drawn])), (r_now, .inr (8, [.int 0, .int 0, .int 0, .int 0, .int 0, .int 0, .int 0, .ref n_signs, .int 0, .ref n_posts, .int 0, .ref n_acts]))] [.ref x0, .int a1]) (vp_Si (fun r : Int32 => r = (-2))) 0 0 (fun _ => False) := by
  refine Met.ofW (cc := cX11_law) (maxL := 3) (ret := (some .int)) (by decide) rfl ?_
  intro p e s m args below meth c s₁ B hml hv
  obtain ⟨rfl, hP, hK⟩ := hv
  have hx := B.exec
  have hb := B.bytes
  have hr := B.returns
  have hts : ∀ w ∈ wsL_law, w.before ([.ref x0, .int a1] : List Value).toArray s = true := fun w h => atoms_spec (ws := Cond.code yX11_law cX11_law 3 (some .int) :: wsL_law) B.pre w (List.mem_cons_of_mem _ h)
  have hown : s.vm.findClass RX11 = some m.cls := findClass_of_methodNamed B.named
  have hlocks := B.notSynchronized
  have hl := lv_entry ([.ref x0, .int a1]) (n := 3) (Nat.le_of_ble_eq_true rfl)
  rw [lg_entry_eq]
  generalize (lg_sl ([.ref x0, .int a1]) ++ List.replicate (3 - (lg_sl ([.ref x0, .int a1])).length) Slot.unset).toArray = ls at hl ⊢
  have hl : lv_has ls 3 [(0, .ref x0), (1, .int a1)] := hl
  have hP : va_P D vwCl [(x0, .inr (11, [.ref r_tape, .ref r_reader, .ref r_now, .ref r_trial, .ref r_images, .ref r_kept, .ref r_slots, .ref r_night, .ref r_other, .ref r_circle, .ref r_words, .ref r_law, .ref r_place, .ref r_drawn])), (r_now, .inr (8, [.int 0, .int 0, .int 0, .int 0, .int 0, .int 0, .int 0, .ref n_signs, .int 0, .ref n_posts, .int 0, .ref n_acts]))] s.heap := hP
  refine lv_aload_n hx hb dX11_law_0 rfl (lv_at hl 0 rfl) ?_
  refine lv_iload_n hx hb dX11_law_1 rfl (lv_at hl 1 rfl) ?_
  refine roi (As := [.int a1]) (rest := []) ⟨hx, hb, hml, hown, hts⟩ (k_lawTrouble l D cB cI cJ cZ cS cT x0 r_tape r_reader r_now r_trial r_images r_kept r_slots r_night r_other r_circle r_words r_law r_place r_drawn n_signs n_posts n_acts a1 ) (cvB (n := 1) (inr51 _ (List.mem_of_getElem? (i := 11) rfl)) (inr51 _ (List.mem_of_getElem? (i := 12) rfl)) (inr51 _ (List.mem_of_getElem? (i := 13) rfl)) (inr1 _ (List.mem_of_getElem? (i := 2) rfl)) (inr51 _ (List.mem_of_getElem? (i := 14) rfl)) (by decide +kernel) hts rfl rfl ⟨Nat.le_of_ble_eq_true rfl, Nat.le_of_ble_eq_true rfl⟩) 0 11 rfl rfl rfl (hP.sub [0, 1] rfl) hK rfl hl.1 rfl (Nat.le_of_ble_eq_true rfl) ⟨Nat.le_of_ble_eq_true rfl, Nat.le_of_ble_eq_true rfl⟩ dX11_law_2 (fun r_1 h_2 => ?_)
  obtain rfl := h_2
  refine lv_istore_n (lv' := [(2, .int (-2)), (0, .ref x0), (1, .int a1)]) hx hb dX11_law_5 rfl hl (by decide) rfl (fun ls hl => ?_)
  refine lv_iload_n hx hb dX11_law_6 rfl (lv_at hl 0 rfl) ?_
  refine lv_if_eq (tgt := 12) hx hb dX11_law_7 (by decide) (fun c0 => absurd c0 (by decide)) (fun _ => ?_)
  refine lv_iload_n hx hb dX11_law_10 rfl (lv_at hl 0 rfl) ?_
  exact W.iret (v := (-2)) hx hb hr (fun t ht hW => ⟨_, rfl, rfl, ht⟩) (fun _ h => by cases h) dX11_law_11

set_option maxHeartbeats 4000000 in
set_option maxRecDepth 100000 in
theorem kx_ask (l : Launch) (D : va_G) (cB cI cJ cZ cS cT : ClassId) (x0 : Nat) (r_tape : Nat) (r_reader : Nat) (r_now : Nat) (r_trial : Nat) (r_images : Nat) (r_kept : Nat) (r_slots : Nat) (r_night : Nat) (r_other : Nat) (r_circle : Nat) (r_words : Nat) (r_law : Nat) (r_place : Nat) (r_drawn : Nat) (n_signs : Nat) (n_posts : Nat) (n_acts : Nat) (a1 : Int32)  : Met l yX11_ask (Cond.code yX11_ask cX11_ask 3 (some .int) :: wsL_law) ({ frames := 4, cells := 0, slots := 0, locals := 91 }) (roP D (tyL cB cI cJ cZ cS cT) [(x0, .inr (11, [.ref r_tape, .ref r_reader, .ref r_now, .ref r_trial, .ref r_images, .ref r_kept, .ref r_slots, .ref r_night, .ref r_other, .ref r_circle, .ref r_words, .ref r_law, .ref r_place, .ref r_drawn])), (r_now, .inr (8, [.int 0, .int 0, .int 0, .int 0, .int 0, .int 0, .int 0, .ref n_signs, .int 0, .ref n_posts, .int 0, .ref n_acts]))] [.ref x0, .int a1]) (vp_Si (fun r : Int32 => r = (-2))) 0 0 (fun _ => False) := by
  refine Met.ofW (cc := cX11_ask) (maxL := 3) (ret := (some .int)) (by decide) rfl ?_
  intro p e s m args below meth c s₁ B hml hv
  obtain ⟨rfl, hP, hK⟩ := hv
  have hx := B.exec
  have hb := B.bytes
  have hr := B.returns
  have hts : ∀ w ∈ wsL_law, w.before ([.ref x0, .int a1] : List Value).toArray s = true := fun w h => atoms_spec (ws := Cond.code yX11_ask cX11_ask 3 (some .int) :: wsL_law) B.pre w (List.mem_cons_of_mem _ h)
  have hown : s.vm.findClass RX11 = some m.cls := findClass_of_methodNamed B.named
  have hlocks := B.notSynchronized
  have hl := lv_entry ([.ref x0, .int a1]) (n := 3) (Nat.le_of_ble_eq_true rfl)
  rw [lg_entry_eq]
  generalize (lg_sl ([.ref x0, .int a1]) ++ List.replicate (3 - (lg_sl ([.ref x0, .int a1])).length) Slot.unset).toArray = ls at hl ⊢
  have hl : lv_has ls 3 [(0, .ref x0), (1, .int a1)] := hl
  have hP : va_P D vwCl [(x0, .inr (11, [.ref r_tape, .ref r_reader, .ref r_now, .ref r_trial, .ref r_images, .ref r_kept, .ref r_slots, .ref r_night, .ref r_other, .ref r_circle, .ref r_words, .ref r_law, .ref r_place, .ref r_drawn])), (r_now, .inr (8, [.int 0, .int 0, .int 0, .int 0, .int 0, .int 0, .int 0, .ref n_signs, .int 0, .ref n_posts, .int 0, .ref n_acts]))] s.heap := hP
  refine lv_aload_n hx hb dX11_ask_0 rfl (lv_at hl 0 rfl) ?_
  refine lv_iload_n hx hb dX11_ask_1 rfl (lv_at hl 1 rfl) ?_
  refine roi (As := [.int a1]) (rest := []) ⟨hx, hb, hml, hown, hts⟩ (k_lawTrouble l D cB cI cJ cZ cS cT x0 r_tape r_reader r_now r_trial r_images r_kept r_slots r_night r_other r_circle r_words r_law r_place r_drawn n_signs n_posts n_acts a1 ) (cvB (n := 1) (inr51 _ (List.mem_of_getElem? (i := 11) rfl)) (inr51 _ (List.mem_of_getElem? (i := 12) rfl)) (inr51 _ (List.mem_of_getElem? (i := 13) rfl)) (inr1 _ (List.mem_of_getElem? (i := 2) rfl)) (inr51 _ (List.mem_of_getElem? (i := 14) rfl)) (by decide +kernel) hts rfl rfl ⟨Nat.le_of_ble_eq_true rfl, Nat.le_of_ble_eq_true rfl⟩) 0 11 rfl rfl rfl (hP.sub [0, 1] rfl) hK rfl hl.1 rfl (Nat.le_of_ble_eq_true rfl) ⟨Nat.le_of_ble_eq_true rfl, Nat.le_of_ble_eq_true rfl⟩ dX11_ask_2 (fun r_1 h_2 => ?_)
  obtain rfl := h_2
  refine lv_istore_n (lv' := [(2, .int (-2)), (0, .ref x0), (1, .int a1)]) hx hb dX11_ask_5 rfl hl (by decide) rfl (fun ls hl => ?_)
  refine lv_iload_n hx hb dX11_ask_6 rfl (lv_at hl 0 rfl) ?_
  refine lv_if_eq (tgt := 12) hx hb dX11_ask_7 (by decide) (fun c0 => absurd c0 (by decide)) (fun _ => ?_)
  refine lv_iload_n hx hb dX11_ask_10 rfl (lv_at hl 0 rfl) ?_
  exact W.iret (v := (-2)) hx hb hr (fun t ht hW => ⟨_, rfl, rfl, ht⟩) (fun _ h => by cases h) dX11_ask_11

set_option maxHeartbeats 4000000 in
set_option maxRecDepth 100000 in
theorem kx_leaves (l : Launch) (D : va_G) (cB cI cJ cZ cS cT : ClassId) (x0 : Nat) (r_tape : Nat) (r_reader : Nat) (r_now : Nat) (r_trial : Nat) (r_images : Nat) (r_kept : Nat) (r_slots : Nat) (r_night : Nat) (r_other : Nat) (r_circle : Nat) (r_words : Nat) (r_law : Nat) (r_place : Nat) (r_drawn : Nat) (n_signs : Nat) (n_posts : Nat) (n_acts : Nat) (a1 : Int32)  : Met l yX11_leaves (Cond.code yX11_leaves cX11_leaves 3 (some .int) :: wsL_law) ({ frames := 4, cells := 0, slots := 0, locals := 91 }) (roP D (tyL cB cI cJ cZ cS cT) [(x0, .inr (11, [.ref r_tape, .ref r_reader, .ref r_now, .ref r_trial, .ref r_images, .ref r_kept, .ref r_slots, .ref r_night, .ref r_other, .ref r_circle, .ref r_words, .ref r_law, .ref r_place, .ref r_drawn])), (r_now, .inr (8, [.int 0, .int 0, .int 0, .int 0, .int 0, .int 0, .int 0, .ref n_signs, .int 0, .ref n_posts, .int 0, .ref n_acts]))] [.ref x0, .int a1]) (vp_Si (fun r : Int32 => r = (-2))) 0 0 (fun _ => False) := by
  refine Met.ofW (cc := cX11_leaves) (maxL := 3) (ret := (some .int)) (by decide) rfl ?_
  intro p e s m args below meth c s₁ B hml hv
  obtain ⟨rfl, hP, hK⟩ := hv
  have hx := B.exec
  have hb := B.bytes
  have hr := B.returns
  have hts : ∀ w ∈ wsL_law, w.before ([.ref x0, .int a1] : List Value).toArray s = true := fun w h => atoms_spec (ws := Cond.code yX11_leaves cX11_leaves 3 (some .int) :: wsL_law) B.pre w (List.mem_cons_of_mem _ h)
  have hown : s.vm.findClass RX11 = some m.cls := findClass_of_methodNamed B.named
  have hlocks := B.notSynchronized
  have hl := lv_entry ([.ref x0, .int a1]) (n := 3) (Nat.le_of_ble_eq_true rfl)
  rw [lg_entry_eq]
  generalize (lg_sl ([.ref x0, .int a1]) ++ List.replicate (3 - (lg_sl ([.ref x0, .int a1])).length) Slot.unset).toArray = ls at hl ⊢
  have hl : lv_has ls 3 [(0, .ref x0), (1, .int a1)] := hl
  have hP : va_P D vwCl [(x0, .inr (11, [.ref r_tape, .ref r_reader, .ref r_now, .ref r_trial, .ref r_images, .ref r_kept, .ref r_slots, .ref r_night, .ref r_other, .ref r_circle, .ref r_words, .ref r_law, .ref r_place, .ref r_drawn])), (r_now, .inr (8, [.int 0, .int 0, .int 0, .int 0, .int 0, .int 0, .int 0, .ref n_signs, .int 0, .ref n_posts, .int 0, .ref n_acts]))] s.heap := hP
  refine lv_aload_n hx hb dX11_leaves_0 rfl (lv_at hl 0 rfl) ?_
  refine lv_iload_n hx hb dX11_leaves_1 rfl (lv_at hl 1 rfl) ?_
  refine roi (As := [.int a1]) (rest := []) ⟨hx, hb, hml, hown, hts⟩ (k_lawTrouble l D cB cI cJ cZ cS cT x0 r_tape r_reader r_now r_trial r_images r_kept r_slots r_night r_other r_circle r_words r_law r_place r_drawn n_signs n_posts n_acts a1 ) (cvB (n := 1) (inr51 _ (List.mem_of_getElem? (i := 11) rfl)) (inr51 _ (List.mem_of_getElem? (i := 12) rfl)) (inr51 _ (List.mem_of_getElem? (i := 13) rfl)) (inr1 _ (List.mem_of_getElem? (i := 2) rfl)) (inr51 _ (List.mem_of_getElem? (i := 14) rfl)) (by decide +kernel) hts rfl rfl ⟨Nat.le_of_ble_eq_true rfl, Nat.le_of_ble_eq_true rfl⟩) 0 11 rfl rfl rfl (hP.sub [0, 1] rfl) hK rfl hl.1 rfl (Nat.le_of_ble_eq_true rfl) ⟨Nat.le_of_ble_eq_true rfl, Nat.le_of_ble_eq_true rfl⟩ dX11_leaves_2 (fun r_1 h_2 => ?_)
  obtain rfl := h_2
  refine lv_istore_n (lv' := [(2, .int (-2)), (0, .ref x0), (1, .int a1)]) hx hb dX11_leaves_5 rfl hl (by decide) rfl (fun ls hl => ?_)
  refine lv_iload_n hx hb dX11_leaves_6 rfl (lv_at hl 0 rfl) ?_
  refine lv_if_eq (tgt := 12) hx hb dX11_leaves_7 (by decide) (fun c0 => absurd c0 (by decide)) (fun _ => ?_)
  refine lv_iload_n hx hb dX11_leaves_10 rfl (lv_at hl 0 rfl) ?_
  exact W.iret (v := (-2)) hx hb hr (fun t ht hW => ⟨_, rfl, rfl, ht⟩) (fun _ h => by cases h) dX11_leaves_11

set_option maxHeartbeats 4000000 in
set_option maxRecDepth 100000 in
theorem kx_places (l : Launch) (D : va_G) (cB cI cJ cZ cS cT : ClassId) (x0 : Nat) (r_tape : Nat) (r_reader : Nat) (r_now : Nat) (r_trial : Nat) (r_images : Nat) (r_kept : Nat) (r_slots : Nat) (r_night : Nat) (r_other : Nat) (r_circle : Nat) (r_words : Nat) (r_law : Nat) (r_place : Nat) (r_drawn : Nat) (n_signs : Nat) (n_posts : Nat) (n_acts : Nat) (a1 : Int32)  : Met l yX11_places (Cond.code yX11_places cX11_places 3 (some .int) :: wsL_law) ({ frames := 4, cells := 0, slots := 0, locals := 91 }) (roP D (tyL cB cI cJ cZ cS cT) [(x0, .inr (11, [.ref r_tape, .ref r_reader, .ref r_now, .ref r_trial, .ref r_images, .ref r_kept, .ref r_slots, .ref r_night, .ref r_other, .ref r_circle, .ref r_words, .ref r_law, .ref r_place, .ref r_drawn])), (r_now, .inr (8, [.int 0, .int 0, .int 0, .int 0, .int 0, .int 0, .int 0, .ref n_signs, .int 0, .ref n_posts, .int 0, .ref n_acts]))] [.ref x0, .int a1]) (vp_Si (fun r : Int32 => r = (-2))) 0 0 (fun _ => False) := by
  refine Met.ofW (cc := cX11_places) (maxL := 3) (ret := (some .int)) (by decide) rfl ?_
  intro p e s m args below meth c s₁ B hml hv
  obtain ⟨rfl, hP, hK⟩ := hv
  have hx := B.exec
  have hb := B.bytes
  have hr := B.returns
  have hts : ∀ w ∈ wsL_law, w.before ([.ref x0, .int a1] : List Value).toArray s = true := fun w h => atoms_spec (ws := Cond.code yX11_places cX11_places 3 (some .int) :: wsL_law) B.pre w (List.mem_cons_of_mem _ h)
  have hown : s.vm.findClass RX11 = some m.cls := findClass_of_methodNamed B.named
  have hlocks := B.notSynchronized
  have hl := lv_entry ([.ref x0, .int a1]) (n := 3) (Nat.le_of_ble_eq_true rfl)
  rw [lg_entry_eq]
  generalize (lg_sl ([.ref x0, .int a1]) ++ List.replicate (3 - (lg_sl ([.ref x0, .int a1])).length) Slot.unset).toArray = ls at hl ⊢
  have hl : lv_has ls 3 [(0, .ref x0), (1, .int a1)] := hl
  have hP : va_P D vwCl [(x0, .inr (11, [.ref r_tape, .ref r_reader, .ref r_now, .ref r_trial, .ref r_images, .ref r_kept, .ref r_slots, .ref r_night, .ref r_other, .ref r_circle, .ref r_words, .ref r_law, .ref r_place, .ref r_drawn])), (r_now, .inr (8, [.int 0, .int 0, .int 0, .int 0, .int 0, .int 0, .int 0, .ref n_signs, .int 0, .ref n_posts, .int 0, .ref n_acts]))] s.heap := hP
  refine lv_aload_n hx hb dX11_places_0 rfl (lv_at hl 0 rfl) ?_
  refine lv_iload_n hx hb dX11_places_1 rfl (lv_at hl 1 rfl) ?_
  refine roi (As := [.int a1]) (rest := []) ⟨hx, hb, hml, hown, hts⟩ (k_placeTrouble l D cB cI cJ cZ cS cT x0 r_tape r_reader r_now r_trial r_images r_kept r_slots r_night r_other r_circle r_words r_law r_place r_drawn n_signs n_posts n_acts a1 ) (cvB (n := 1) (inr56 _ (List.mem_of_getElem? (i := 14) rfl)) (inr56 _ (List.mem_of_getElem? (i := 15) rfl)) (inr56 _ (List.mem_of_getElem? (i := 16) rfl)) (inr1 _ (List.mem_of_getElem? (i := 2) rfl)) (inr56 _ (List.mem_of_getElem? (i := 17) rfl)) (by decide +kernel) hts rfl rfl ⟨Nat.le_of_ble_eq_true rfl, Nat.le_of_ble_eq_true rfl⟩) 0 11 rfl rfl rfl (hP.sub [0, 1] rfl) hK rfl hl.1 rfl (Nat.le_of_ble_eq_true rfl) ⟨Nat.le_of_ble_eq_true rfl, Nat.le_of_ble_eq_true rfl⟩ dX11_places_2 (fun r_1 h_2 => ?_)
  obtain rfl := h_2
  refine lv_istore_n (lv' := [(2, .int (-2)), (0, .ref x0), (1, .int a1)]) hx hb dX11_places_5 rfl hl (by decide) rfl (fun ls hl => ?_)
  refine lv_iload_n hx hb dX11_places_6 rfl (lv_at hl 0 rfl) ?_
  refine lv_if_eq (tgt := 12) hx hb dX11_places_7 (by decide) (fun c0 => absurd c0 (by decide)) (fun _ => ?_)
  refine lv_iload_n hx hb dX11_places_10 rfl (lv_at hl 0 rfl) ?_
  exact W.iret (v := (-2)) hx hb hr (fun t ht hW => ⟨_, rfl, rfl, ht⟩) (fun _ h => by cases h) dX11_places_11

set_option maxHeartbeats 4000000 in
set_option maxRecDepth 100000 in
theorem kx_place (l : Launch) (D : va_G) (cB cI cJ cZ cS cT : ClassId) (x0 : Nat) (r_tape : Nat) (r_reader : Nat) (r_now : Nat) (r_trial : Nat) (r_images : Nat) (r_kept : Nat) (r_slots : Nat) (r_night : Nat) (r_other : Nat) (r_circle : Nat) (r_words : Nat) (r_law : Nat) (r_place : Nat) (r_drawn : Nat) (n_signs : Nat) (n_posts : Nat) (n_acts : Nat) (a1 : Int32)  : Met l yX11_place (Cond.code yX11_place cX11_place 3 (some .int) :: wsL_law) ({ frames := 4, cells := 0, slots := 0, locals := 91 }) (roP D (tyL cB cI cJ cZ cS cT) [(x0, .inr (11, [.ref r_tape, .ref r_reader, .ref r_now, .ref r_trial, .ref r_images, .ref r_kept, .ref r_slots, .ref r_night, .ref r_other, .ref r_circle, .ref r_words, .ref r_law, .ref r_place, .ref r_drawn])), (r_now, .inr (8, [.int 0, .int 0, .int 0, .int 0, .int 0, .int 0, .int 0, .ref n_signs, .int 0, .ref n_posts, .int 0, .ref n_acts]))] [.ref x0, .int a1]) (vp_Si (fun r : Int32 => r = (-2))) 0 0 (fun _ => False) := by
  refine Met.ofW (cc := cX11_place) (maxL := 3) (ret := (some .int)) (by decide) rfl ?_
  intro p e s m args below meth c s₁ B hml hv
  obtain ⟨rfl, hP, hK⟩ := hv
  have hx := B.exec
  have hb := B.bytes
  have hr := B.returns
  have hts : ∀ w ∈ wsL_law, w.before ([.ref x0, .int a1] : List Value).toArray s = true := fun w h => atoms_spec (ws := Cond.code yX11_place cX11_place 3 (some .int) :: wsL_law) B.pre w (List.mem_cons_of_mem _ h)
  have hown : s.vm.findClass RX11 = some m.cls := findClass_of_methodNamed B.named
  have hlocks := B.notSynchronized
  have hl := lv_entry ([.ref x0, .int a1]) (n := 3) (Nat.le_of_ble_eq_true rfl)
  rw [lg_entry_eq]
  generalize (lg_sl ([.ref x0, .int a1]) ++ List.replicate (3 - (lg_sl ([.ref x0, .int a1])).length) Slot.unset).toArray = ls at hl ⊢
  have hl : lv_has ls 3 [(0, .ref x0), (1, .int a1)] := hl
  have hP : va_P D vwCl [(x0, .inr (11, [.ref r_tape, .ref r_reader, .ref r_now, .ref r_trial, .ref r_images, .ref r_kept, .ref r_slots, .ref r_night, .ref r_other, .ref r_circle, .ref r_words, .ref r_law, .ref r_place, .ref r_drawn])), (r_now, .inr (8, [.int 0, .int 0, .int 0, .int 0, .int 0, .int 0, .int 0, .ref n_signs, .int 0, .ref n_posts, .int 0, .ref n_acts]))] s.heap := hP
  refine lv_aload_n hx hb dX11_place_0 rfl (lv_at hl 0 rfl) ?_
  refine lv_iload_n hx hb dX11_place_1 rfl (lv_at hl 1 rfl) ?_
  refine roi (As := [.int a1]) (rest := []) ⟨hx, hb, hml, hown, hts⟩ (k_placeTrouble l D cB cI cJ cZ cS cT x0 r_tape r_reader r_now r_trial r_images r_kept r_slots r_night r_other r_circle r_words r_law r_place r_drawn n_signs n_posts n_acts a1 ) (cvB (n := 1) (inr56 _ (List.mem_of_getElem? (i := 14) rfl)) (inr56 _ (List.mem_of_getElem? (i := 15) rfl)) (inr56 _ (List.mem_of_getElem? (i := 16) rfl)) (inr1 _ (List.mem_of_getElem? (i := 2) rfl)) (inr56 _ (List.mem_of_getElem? (i := 17) rfl)) (by decide +kernel) hts rfl rfl ⟨Nat.le_of_ble_eq_true rfl, Nat.le_of_ble_eq_true rfl⟩) 0 11 rfl rfl rfl (hP.sub [0, 1] rfl) hK rfl hl.1 rfl (Nat.le_of_ble_eq_true rfl) ⟨Nat.le_of_ble_eq_true rfl, Nat.le_of_ble_eq_true rfl⟩ dX11_place_2 (fun r_1 h_2 => ?_)
  obtain rfl := h_2
  refine lv_istore_n (lv' := [(2, .int (-2)), (0, .ref x0), (1, .int a1)]) hx hb dX11_place_5 rfl hl (by decide) rfl (fun ls hl => ?_)
  refine lv_iload_n hx hb dX11_place_6 rfl (lv_at hl 0 rfl) ?_
  refine lv_if_eq (tgt := 12) hx hb dX11_place_7 (by decide) (fun c0 => absurd c0 (by decide)) (fun _ => ?_)
  refine lv_iload_n hx hb dX11_place_10 rfl (lv_at hl 0 rfl) ?_
  exact W.iret (v := (-2)) hx hb hr (fun t ht hW => ⟨_, rfl, rfl, ht⟩) (fun _ h => by cases h) dX11_place_11

set_option maxHeartbeats 4000000 in
set_option maxRecDepth 100000 in
theorem kx_farther (l : Launch) (D : va_G) (cB cI cJ cZ cS cT : ClassId) (x0 : Nat) (r_tape : Nat) (r_reader : Nat) (r_now : Nat) (r_trial : Nat) (r_images : Nat) (r_kept : Nat) (r_slots : Nat) (r_night : Nat) (r_other : Nat) (r_circle : Nat) (r_words : Nat) (r_law : Nat) (r_place : Nat) (r_drawn : Nat) (n_signs : Nat) (n_posts : Nat) (n_acts : Nat) (a1 : Int32)  : Met l yX11_farther (Cond.code yX11_farther cX11_farther 3 (some .int) :: wsL_law) ({ frames := 4, cells := 0, slots := 0, locals := 91 }) (roP D (tyL cB cI cJ cZ cS cT) [(x0, .inr (11, [.ref r_tape, .ref r_reader, .ref r_now, .ref r_trial, .ref r_images, .ref r_kept, .ref r_slots, .ref r_night, .ref r_other, .ref r_circle, .ref r_words, .ref r_law, .ref r_place, .ref r_drawn])), (r_now, .inr (8, [.int 0, .int 0, .int 0, .int 0, .int 0, .int 0, .int 0, .ref n_signs, .int 0, .ref n_posts, .int 0, .ref n_acts]))] [.ref x0, .int a1]) (vp_Si (fun r : Int32 => r = (-2))) 0 0 (fun _ => False) := by
  refine Met.ofW (cc := cX11_farther) (maxL := 3) (ret := (some .int)) (by decide) rfl ?_
  intro p e s m args below meth c s₁ B hml hv
  obtain ⟨rfl, hP, hK⟩ := hv
  have hx := B.exec
  have hb := B.bytes
  have hr := B.returns
  have hts : ∀ w ∈ wsL_law, w.before ([.ref x0, .int a1] : List Value).toArray s = true := fun w h => atoms_spec (ws := Cond.code yX11_farther cX11_farther 3 (some .int) :: wsL_law) B.pre w (List.mem_cons_of_mem _ h)
  have hown : s.vm.findClass RX11 = some m.cls := findClass_of_methodNamed B.named
  have hlocks := B.notSynchronized
  have hl := lv_entry ([.ref x0, .int a1]) (n := 3) (Nat.le_of_ble_eq_true rfl)
  rw [lg_entry_eq]
  generalize (lg_sl ([.ref x0, .int a1]) ++ List.replicate (3 - (lg_sl ([.ref x0, .int a1])).length) Slot.unset).toArray = ls at hl ⊢
  have hl : lv_has ls 3 [(0, .ref x0), (1, .int a1)] := hl
  have hP : va_P D vwCl [(x0, .inr (11, [.ref r_tape, .ref r_reader, .ref r_now, .ref r_trial, .ref r_images, .ref r_kept, .ref r_slots, .ref r_night, .ref r_other, .ref r_circle, .ref r_words, .ref r_law, .ref r_place, .ref r_drawn])), (r_now, .inr (8, [.int 0, .int 0, .int 0, .int 0, .int 0, .int 0, .int 0, .ref n_signs, .int 0, .ref n_posts, .int 0, .ref n_acts]))] s.heap := hP
  refine lv_aload_n hx hb dX11_farther_0 rfl (lv_at hl 0 rfl) ?_
  refine lv_iload_n hx hb dX11_farther_1 rfl (lv_at hl 1 rfl) ?_
  refine roi (As := [.int a1]) (rest := []) ⟨hx, hb, hml, hown, hts⟩ (k_placeTrouble l D cB cI cJ cZ cS cT x0 r_tape r_reader r_now r_trial r_images r_kept r_slots r_night r_other r_circle r_words r_law r_place r_drawn n_signs n_posts n_acts a1 ) (cvB (n := 1) (inr56 _ (List.mem_of_getElem? (i := 14) rfl)) (inr56 _ (List.mem_of_getElem? (i := 15) rfl)) (inr56 _ (List.mem_of_getElem? (i := 16) rfl)) (inr1 _ (List.mem_of_getElem? (i := 2) rfl)) (inr56 _ (List.mem_of_getElem? (i := 17) rfl)) (by decide +kernel) hts rfl rfl ⟨Nat.le_of_ble_eq_true rfl, Nat.le_of_ble_eq_true rfl⟩) 0 11 rfl rfl rfl (hP.sub [0, 1] rfl) hK rfl hl.1 rfl (Nat.le_of_ble_eq_true rfl) ⟨Nat.le_of_ble_eq_true rfl, Nat.le_of_ble_eq_true rfl⟩ dX11_farther_2 (fun r_1 h_2 => ?_)
  obtain rfl := h_2
  refine lv_istore_n (lv' := [(2, .int (-2)), (0, .ref x0), (1, .int a1)]) hx hb dX11_farther_5 rfl hl (by decide) rfl (fun ls hl => ?_)
  refine lv_iload_n hx hb dX11_farther_6 rfl (lv_at hl 0 rfl) ?_
  refine lv_if_eq (tgt := 12) hx hb dX11_farther_7 (by decide) (fun c0 => absurd c0 (by decide)) (fun _ => ?_)
  refine lv_iload_n hx hb dX11_farther_10 rfl (lv_at hl 0 rfl) ?_
  exact W.iret (v := (-2)) hx hb hr (fun t ht hW => ⟨_, rfl, rfl, ht⟩) (fun _ h => by cases h) dX11_farther_11

set_option maxHeartbeats 4000000 in
set_option maxRecDepth 100000 in
theorem kx_set (l : Launch) (D : va_G) (cB cI cJ cZ cS cT : ClassId) (x0 : Nat) (r_tape : Nat) (r_reader : Nat) (r_now : Nat) (r_trial : Nat) (r_images : Nat) (r_kept : Nat) (r_slots : Nat) (r_night : Nat) (r_other : Nat) (r_circle : Nat) (r_words : Nat) (r_law : Nat) (r_place : Nat) (r_drawn : Nat) (n_signs : Nat) (n_posts : Nat) (n_acts : Nat) (a1 : Int32)  : Met l yX11_set (Cond.code yX11_set cX11_set 3 (some .int) :: wsL_law) ({ frames := 4, cells := 0, slots := 0, locals := 91 }) (roP D (tyL cB cI cJ cZ cS cT) [(x0, .inr (11, [.ref r_tape, .ref r_reader, .ref r_now, .ref r_trial, .ref r_images, .ref r_kept, .ref r_slots, .ref r_night, .ref r_other, .ref r_circle, .ref r_words, .ref r_law, .ref r_place, .ref r_drawn])), (r_now, .inr (8, [.int 0, .int 0, .int 0, .int 0, .int 0, .int 0, .int 0, .ref n_signs, .int 0, .ref n_posts, .int 0, .ref n_acts]))] [.ref x0, .int a1]) (vp_Si (fun r : Int32 => r = (-2))) 0 0 (fun _ => False) := by
  refine Met.ofW (cc := cX11_set) (maxL := 3) (ret := (some .int)) (by decide) rfl ?_
  intro p e s m args below meth c s₁ B hml hv
  obtain ⟨rfl, hP, hK⟩ := hv
  have hx := B.exec
  have hb := B.bytes
  have hr := B.returns
  have hts : ∀ w ∈ wsL_law, w.before ([.ref x0, .int a1] : List Value).toArray s = true := fun w h => atoms_spec (ws := Cond.code yX11_set cX11_set 3 (some .int) :: wsL_law) B.pre w (List.mem_cons_of_mem _ h)
  have hown : s.vm.findClass RX11 = some m.cls := findClass_of_methodNamed B.named
  have hlocks := B.notSynchronized
  have hl := lv_entry ([.ref x0, .int a1]) (n := 3) (Nat.le_of_ble_eq_true rfl)
  rw [lg_entry_eq]
  generalize (lg_sl ([.ref x0, .int a1]) ++ List.replicate (3 - (lg_sl ([.ref x0, .int a1])).length) Slot.unset).toArray = ls at hl ⊢
  have hl : lv_has ls 3 [(0, .ref x0), (1, .int a1)] := hl
  have hP : va_P D vwCl [(x0, .inr (11, [.ref r_tape, .ref r_reader, .ref r_now, .ref r_trial, .ref r_images, .ref r_kept, .ref r_slots, .ref r_night, .ref r_other, .ref r_circle, .ref r_words, .ref r_law, .ref r_place, .ref r_drawn])), (r_now, .inr (8, [.int 0, .int 0, .int 0, .int 0, .int 0, .int 0, .int 0, .ref n_signs, .int 0, .ref n_posts, .int 0, .ref n_acts]))] s.heap := hP
  refine lv_aload_n hx hb dX11_set_0 rfl (lv_at hl 0 rfl) ?_
  refine lv_iload_n hx hb dX11_set_1 rfl (lv_at hl 1 rfl) ?_
  refine roi (As := [.int a1]) (rest := []) ⟨hx, hb, hml, hown, hts⟩ (k_placeTrouble l D cB cI cJ cZ cS cT x0 r_tape r_reader r_now r_trial r_images r_kept r_slots r_night r_other r_circle r_words r_law r_place r_drawn n_signs n_posts n_acts a1 ) (cvB (n := 1) (inr56 _ (List.mem_of_getElem? (i := 14) rfl)) (inr56 _ (List.mem_of_getElem? (i := 15) rfl)) (inr56 _ (List.mem_of_getElem? (i := 16) rfl)) (inr1 _ (List.mem_of_getElem? (i := 2) rfl)) (inr56 _ (List.mem_of_getElem? (i := 17) rfl)) (by decide +kernel) hts rfl rfl ⟨Nat.le_of_ble_eq_true rfl, Nat.le_of_ble_eq_true rfl⟩) 0 11 rfl rfl rfl (hP.sub [0, 1] rfl) hK rfl hl.1 rfl (Nat.le_of_ble_eq_true rfl) ⟨Nat.le_of_ble_eq_true rfl, Nat.le_of_ble_eq_true rfl⟩ dX11_set_2 (fun r_1 h_2 => ?_)
  obtain rfl := h_2
  refine lv_istore_n (lv' := [(2, .int (-2)), (0, .ref x0), (1, .int a1)]) hx hb dX11_set_5 rfl hl (by decide) rfl (fun ls hl => ?_)
  refine lv_iload_n hx hb dX11_set_6 rfl (lv_at hl 0 rfl) ?_
  refine lv_if_eq (tgt := 12) hx hb dX11_set_7 (by decide) (fun c0 => absurd c0 (by decide)) (fun _ => ?_)
  refine lv_iload_n hx hb dX11_set_10 rfl (lv_at hl 0 rfl) ?_
  exact W.iret (v := (-2)) hx hb hr (fun t ht hW => ⟨_, rfl, rfl, ht⟩) (fun _ h => by cases h) dX11_set_11

set_option maxHeartbeats 4000000 in
set_option maxRecDepth 100000 in
theorem kx_parents (l : Launch) (D : va_G) (cB cI cJ cZ cS cT : ClassId) (x0 : Nat) (r_tape : Nat) (r_reader : Nat) (r_now : Nat) (r_trial : Nat) (r_images : Nat) (r_kept : Nat) (r_slots : Nat) (r_night : Nat) (r_other : Nat) (r_circle : Nat) (r_words : Nat) (r_law : Nat) (r_place : Nat) (r_drawn : Nat) (n_signs : Nat) (n_posts : Nat) (n_acts : Nat) (a1 : Int32)  : Met l yX11_parents (Cond.code yX11_parents cX11_parents 5 (some .int) :: wsL_law) ({ frames := 3, cells := 0, slots := 0, locals := 61 }) (roP D (tyL cB cI cJ cZ cS cT) [(x0, .inr (11, [.ref r_tape, .ref r_reader, .ref r_now, .ref r_trial, .ref r_images, .ref r_kept, .ref r_slots, .ref r_night, .ref r_other, .ref r_circle, .ref r_words, .ref r_law, .ref r_place, .ref r_drawn])), (r_now, .inr (8, [.int 0, .int 0, .int 0, .int 0, .int 0, .int 0, .int 0, .ref n_signs, .int 0, .ref n_posts, .int 0, .ref n_acts]))] [.ref x0, .int a1]) (vp_Si (fun r : Int32 => r = (-2))) 0 0 (fun _ => False) := by
  refine Met.ofW (cc := cX11_parents) (maxL := 5) (ret := (some .int)) (by decide) rfl ?_
  intro p e s m args below meth c s₁ B hml hv
  obtain ⟨rfl, hP, hK⟩ := hv
  have hx := B.exec
  have hb := B.bytes
  have hr := B.returns
  have hts : ∀ w ∈ wsL_law, w.before ([.ref x0, .int a1] : List Value).toArray s = true := fun w h => atoms_spec (ws := Cond.code yX11_parents cX11_parents 5 (some .int) :: wsL_law) B.pre w (List.mem_cons_of_mem _ h)
  have hown : s.vm.findClass RX11 = some m.cls := findClass_of_methodNamed B.named
  have hlocks := B.notSynchronized
  have hl := lv_entry ([.ref x0, .int a1]) (n := 5) (Nat.le_of_ble_eq_true rfl)
  rw [lg_entry_eq]
  generalize (lg_sl ([.ref x0, .int a1]) ++ List.replicate (5 - (lg_sl ([.ref x0, .int a1])).length) Slot.unset).toArray = ls at hl ⊢
  have hl : lv_has ls 5 [(0, .ref x0), (1, .int a1)] := hl
  have hP : va_P D vwCl [(x0, .inr (11, [.ref r_tape, .ref r_reader, .ref r_now, .ref r_trial, .ref r_images, .ref r_kept, .ref r_slots, .ref r_night, .ref r_other, .ref r_circle, .ref r_words, .ref r_law, .ref r_place, .ref r_drawn])), (r_now, .inr (8, [.int 0, .int 0, .int 0, .int 0, .int 0, .int 0, .int 0, .ref n_signs, .int 0, .ref n_posts, .int 0, .ref n_acts]))] s.heap := hP
  refine lv_aload_n hx hb dX11_parents_0 rfl (lv_at hl 0 rfl) ?_
  refine lv_iload_n hx hb dX11_parents_1 rfl (lv_at hl 1 rfl) ?_
  refine roi (As := [.int a1]) (rest := []) ⟨hx, hb, hml, hown, hts⟩ (k_noTone l D cB cI cJ cZ cS cT x0 r_tape r_reader r_now r_trial r_images r_kept r_slots r_night r_other r_circle r_words r_law r_place r_drawn n_signs n_posts n_acts a1 ) (cvB (n := 1) (inr29 _ (List.mem_of_getElem? (i := 11) rfl)) (inr29 _ (List.mem_of_getElem? (i := 12) rfl)) (inr29 _ (List.mem_of_getElem? (i := 13) rfl)) (inr1 _ (List.mem_of_getElem? (i := 2) rfl)) (inr29 _ (List.mem_of_getElem? (i := 14) rfl)) (by decide +kernel) hts rfl rfl ⟨Nat.le_of_ble_eq_true rfl, Nat.le_of_ble_eq_true rfl⟩) 0 11 rfl rfl rfl (hP.sub [0, 1] rfl) hK rfl hl.1 rfl (Nat.le_of_ble_eq_true rfl) ⟨Nat.le_of_ble_eq_true rfl, Nat.le_of_ble_eq_true rfl⟩ dX11_parents_2 (fun r_1 h_2 => ?_)
  obtain rfl := h_2
  refine lv_if_eq (tgt := 11) hx hb dX11_parents_5 (by decide) (fun c0 => absurd c0 (by decide)) (fun _ => ?_)
  refine lv_bipush (v := (-2)) hx hb dX11_parents_8 (by decide) ?_
  exact W.iret (v := (-2)) hx hb hr (fun t ht hW => ⟨_, rfl, rfl, ht⟩) (fun _ h => by cases h) dX11_parents_10

set_option maxHeartbeats 4000000 in
set_option maxRecDepth 100000 in
theorem kx_parent (l : Launch) (D : va_G) (cB cI cJ cZ cS cT : ClassId) (x0 : Nat) (r_tape : Nat) (r_reader : Nat) (r_now : Nat) (r_trial : Nat) (r_images : Nat) (r_kept : Nat) (r_slots : Nat) (r_night : Nat) (r_other : Nat) (r_circle : Nat) (r_words : Nat) (r_law : Nat) (r_place : Nat) (r_drawn : Nat) (n_signs : Nat) (n_posts : Nat) (n_acts : Nat) (a1 : Int32)  : Met l yX11_parent (Cond.code yX11_parent cX11_parent 4 (some .int) :: wsL_law) ({ frames := 3, cells := 0, slots := 0, locals := 61 }) (roP D (tyL cB cI cJ cZ cS cT) [(x0, .inr (11, [.ref r_tape, .ref r_reader, .ref r_now, .ref r_trial, .ref r_images, .ref r_kept, .ref r_slots, .ref r_night, .ref r_other, .ref r_circle, .ref r_words, .ref r_law, .ref r_place, .ref r_drawn])), (r_now, .inr (8, [.int 0, .int 0, .int 0, .int 0, .int 0, .int 0, .int 0, .ref n_signs, .int 0, .ref n_posts, .int 0, .ref n_acts]))] [.ref x0, .int a1]) (vp_Si (fun r : Int32 => r = (-2))) 0 0 (fun _ => False) := by
  refine Met.ofW (cc := cX11_parent) (maxL := 4) (ret := (some .int)) (by decide) rfl ?_
  intro p e s m args below meth c s₁ B hml hv
  obtain ⟨rfl, hP, hK⟩ := hv
  have hx := B.exec
  have hb := B.bytes
  have hr := B.returns
  have hts : ∀ w ∈ wsL_law, w.before ([.ref x0, .int a1] : List Value).toArray s = true := fun w h => atoms_spec (ws := Cond.code yX11_parent cX11_parent 4 (some .int) :: wsL_law) B.pre w (List.mem_cons_of_mem _ h)
  have hown : s.vm.findClass RX11 = some m.cls := findClass_of_methodNamed B.named
  have hlocks := B.notSynchronized
  have hl := lv_entry ([.ref x0, .int a1]) (n := 4) (Nat.le_of_ble_eq_true rfl)
  rw [lg_entry_eq]
  generalize (lg_sl ([.ref x0, .int a1]) ++ List.replicate (4 - (lg_sl ([.ref x0, .int a1])).length) Slot.unset).toArray = ls at hl ⊢
  have hl : lv_has ls 4 [(0, .ref x0), (1, .int a1)] := hl
  have hP : va_P D vwCl [(x0, .inr (11, [.ref r_tape, .ref r_reader, .ref r_now, .ref r_trial, .ref r_images, .ref r_kept, .ref r_slots, .ref r_night, .ref r_other, .ref r_circle, .ref r_words, .ref r_law, .ref r_place, .ref r_drawn])), (r_now, .inr (8, [.int 0, .int 0, .int 0, .int 0, .int 0, .int 0, .int 0, .ref n_signs, .int 0, .ref n_posts, .int 0, .ref n_acts]))] s.heap := hP
  refine lv_aload_n hx hb dX11_parent_0 rfl (lv_at hl 0 rfl) ?_
  refine lv_iload_n hx hb dX11_parent_1 rfl (lv_at hl 1 rfl) ?_
  refine roi (As := [.int a1]) (rest := []) ⟨hx, hb, hml, hown, hts⟩ (k_noTone l D cB cI cJ cZ cS cT x0 r_tape r_reader r_now r_trial r_images r_kept r_slots r_night r_other r_circle r_words r_law r_place r_drawn n_signs n_posts n_acts a1 ) (cvB (n := 1) (inr29 _ (List.mem_of_getElem? (i := 11) rfl)) (inr29 _ (List.mem_of_getElem? (i := 12) rfl)) (inr29 _ (List.mem_of_getElem? (i := 13) rfl)) (inr1 _ (List.mem_of_getElem? (i := 2) rfl)) (inr29 _ (List.mem_of_getElem? (i := 14) rfl)) (by decide +kernel) hts rfl rfl ⟨Nat.le_of_ble_eq_true rfl, Nat.le_of_ble_eq_true rfl⟩) 0 11 rfl rfl rfl (hP.sub [0, 1] rfl) hK rfl hl.1 rfl (Nat.le_of_ble_eq_true rfl) ⟨Nat.le_of_ble_eq_true rfl, Nat.le_of_ble_eq_true rfl⟩ dX11_parent_2 (fun r_1 h_2 => ?_)
  obtain rfl := h_2
  refine lv_if_eq (tgt := 11) hx hb dX11_parent_5 (by decide) (fun c0 => absurd c0 (by decide)) (fun _ => ?_)
  refine lv_bipush (v := (-2)) hx hb dX11_parent_8 (by decide) ?_
  exact W.iret (v := (-2)) hx hb hr (fun t ht hW => ⟨_, rfl, rfl, ht⟩) (fun _ h => by cases h) dX11_parent_10

set_option maxHeartbeats 4000000 in
set_option maxRecDepth 100000 in
theorem kx_clock (l : Launch) (D : va_G) (cB cI cJ cZ cS cT : ClassId) (x0 : Nat) (r_tape : Nat) (r_reader : Nat) (r_now : Nat) (r_trial : Nat) (r_images : Nat) (r_kept : Nat) (r_slots : Nat) (r_night : Nat) (r_other : Nat) (r_circle : Nat) (r_words : Nat) (r_law : Nat) (r_place : Nat) (r_drawn : Nat) (n_signs : Nat) (n_posts : Nat) (n_acts : Nat) (a1 : Int32) (a2 : Int32)  : Met l yX11_clock (Cond.code yX11_clock cX11_clock 6 (some .int) :: wsL_law) ({ frames := 2, cells := 0, slots := 0, locals := 40 }) (roP D (tyL cB cI cJ cZ cS cT) [(x0, .inr (11, [.ref r_tape, .ref r_reader, .ref r_now, .ref r_trial, .ref r_images, .ref r_kept, .ref r_slots, .ref r_night, .ref r_other, .ref r_circle, .ref r_words, .ref r_law, .ref r_place, .ref r_drawn])), (r_now, .inr (8, [.int 0, .int 0, .int 0, .int 0, .int 0, .int 0, .int 0, .ref n_signs, .int 0, .ref n_posts, .int 0, .ref n_acts]))] [.ref x0, .int a1, .int a2]) (vp_Si (fun r : Int32 => r = (-1000000))) 0 0 (fun _ => False) := by
  refine Met.ofW (cc := cX11_clock) (maxL := 6) (ret := (some .int)) (by decide) rfl ?_
  intro p e s m args below meth c s₁ B hml hv
  obtain ⟨rfl, hP, hK⟩ := hv
  have hx := B.exec
  have hb := B.bytes
  have hr := B.returns
  have hts : ∀ w ∈ wsL_law, w.before ([.ref x0, .int a1, .int a2] : List Value).toArray s = true := fun w h => atoms_spec (ws := Cond.code yX11_clock cX11_clock 6 (some .int) :: wsL_law) B.pre w (List.mem_cons_of_mem _ h)
  have hown : s.vm.findClass RX11 = some m.cls := findClass_of_methodNamed B.named
  have hlocks := B.notSynchronized
  have hl := lv_entry ([.ref x0, .int a1, .int a2]) (n := 6) (Nat.le_of_ble_eq_true rfl)
  rw [lg_entry_eq]
  generalize (lg_sl ([.ref x0, .int a1, .int a2]) ++ List.replicate (6 - (lg_sl ([.ref x0, .int a1, .int a2])).length) Slot.unset).toArray = ls at hl ⊢
  have hl : lv_has ls 6 [(0, .ref x0), (1, .int a1), (2, .int a2)] := hl
  have hP : va_P D vwCl [(x0, .inr (11, [.ref r_tape, .ref r_reader, .ref r_now, .ref r_trial, .ref r_images, .ref r_kept, .ref r_slots, .ref r_night, .ref r_other, .ref r_circle, .ref r_words, .ref r_law, .ref r_place, .ref r_drawn])), (r_now, .inr (8, [.int 0, .int 0, .int 0, .int 0, .int 0, .int 0, .int 0, .ref n_signs, .int 0, .ref n_posts, .int 0, .ref n_acts]))] s.heap := hP
  refine lv_aload_n hx hb dX11_clock_0 rfl (lv_at hl 0 rfl) ?_
  refine roi (As := []) (rest := []) ⟨hx, hb, hml, hown, hts⟩ (k_noStation l D cB cI cJ cZ cS cT x0 r_tape r_reader r_now r_trial r_images r_kept r_slots r_night r_other r_circle r_words r_law r_place r_drawn n_signs n_posts n_acts ) (cvB (n := 0) (inr22 _ (List.mem_of_getElem? (i := 11) rfl)) (inr22 _ (List.mem_of_getElem? (i := 12) rfl)) (inr22 _ (List.mem_of_getElem? (i := 13) rfl)) (inr1 _ (List.mem_of_getElem? (i := 2) rfl)) (inr22 _ (List.mem_of_getElem? (i := 14) rfl)) (by decide +kernel) hts rfl rfl ⟨Nat.le_of_ble_eq_true rfl, Nat.le_of_ble_eq_true rfl⟩) 0 11 rfl rfl rfl (hP.sub [0, 1] rfl) hK rfl hl.1 rfl (Nat.le_of_ble_eq_true rfl) ⟨Nat.le_of_ble_eq_true rfl, Nat.le_of_ble_eq_true rfl⟩ dX11_clock_1 (fun r_1 h_2 => ?_)
  obtain rfl := h_2
  refine lv_if_ne (tgt := 33) hx hb dX11_clock_4 (by decide) (fun _ => ?_) (fun c0 => absurd c0 (by decide))
  refine lv_ldc hx hb hown (hts _ (inr61 _ (List.mem_of_getElem? (i := 9) rfl))) dX11_clock_33 ?_
  exact W.iret (v := (-1000000)) hx hb hr (fun t ht hW => ⟨_, rfl, rfl, ht⟩) (fun _ h => by cases h) dX11_clock_35

set_option maxHeartbeats 4000000 in
set_option maxRecDepth 100000 in
theorem kx_cool (l : Launch) (D : va_G) (cB cI cJ cZ cS cT : ClassId) (x0 : Nat) (r_tape : Nat) (r_reader : Nat) (r_now : Nat) (r_trial : Nat) (r_images : Nat) (r_kept : Nat) (r_slots : Nat) (r_night : Nat) (r_other : Nat) (r_circle : Nat) (r_words : Nat) (r_law : Nat) (r_place : Nat) (r_drawn : Nat) (n_signs : Nat) (n_posts : Nat) (n_acts : Nat)  : Met l yX11_cool (Cond.code yX11_cool cX11_cool 1 (some .int) :: wsL_law) ({ frames := 2, cells := 0, slots := 0, locals := 40 }) (roP D (tyL cB cI cJ cZ cS cT) [(x0, .inr (11, [.ref r_tape, .ref r_reader, .ref r_now, .ref r_trial, .ref r_images, .ref r_kept, .ref r_slots, .ref r_night, .ref r_other, .ref r_circle, .ref r_words, .ref r_law, .ref r_place, .ref r_drawn])), (r_now, .inr (8, [.int 0, .int 0, .int 0, .int 0, .int 0, .int 0, .int 0, .ref n_signs, .int 0, .ref n_posts, .int 0, .ref n_acts]))] [.ref x0]) (vp_Si (fun r : Int32 => r = (-2))) 0 0 (fun _ => False) := by
  refine Met.ofW (cc := cX11_cool) (maxL := 1) (ret := (some .int)) (by decide) rfl ?_
  intro p e s m args below meth c s₁ B hml hv
  obtain ⟨rfl, hP, hK⟩ := hv
  have hx := B.exec
  have hb := B.bytes
  have hr := B.returns
  have hts : ∀ w ∈ wsL_law, w.before ([.ref x0] : List Value).toArray s = true := fun w h => atoms_spec (ws := Cond.code yX11_cool cX11_cool 1 (some .int) :: wsL_law) B.pre w (List.mem_cons_of_mem _ h)
  have hown : s.vm.findClass RX11 = some m.cls := findClass_of_methodNamed B.named
  have hlocks := B.notSynchronized
  have hl := lv_entry ([.ref x0]) (n := 1) (Nat.le_of_ble_eq_true rfl)
  rw [lg_entry_eq]
  generalize (lg_sl ([.ref x0]) ++ List.replicate (1 - (lg_sl ([.ref x0])).length) Slot.unset).toArray = ls at hl ⊢
  have hl : lv_has ls 1 [(0, .ref x0)] := hl
  have hP : va_P D vwCl [(x0, .inr (11, [.ref r_tape, .ref r_reader, .ref r_now, .ref r_trial, .ref r_images, .ref r_kept, .ref r_slots, .ref r_night, .ref r_other, .ref r_circle, .ref r_words, .ref r_law, .ref r_place, .ref r_drawn])), (r_now, .inr (8, [.int 0, .int 0, .int 0, .int 0, .int 0, .int 0, .int 0, .ref n_signs, .int 0, .ref n_posts, .int 0, .ref n_acts]))] s.heap := hP
  refine lv_aload_n hx hb dX11_cool_0 rfl (lv_at hl 0 rfl) ?_
  refine roi (As := []) (rest := []) ⟨hx, hb, hml, hown, hts⟩ (k_noStation l D cB cI cJ cZ cS cT x0 r_tape r_reader r_now r_trial r_images r_kept r_slots r_night r_other r_circle r_words r_law r_place r_drawn n_signs n_posts n_acts ) (cvB (n := 0) (inr22 _ (List.mem_of_getElem? (i := 11) rfl)) (inr22 _ (List.mem_of_getElem? (i := 12) rfl)) (inr22 _ (List.mem_of_getElem? (i := 13) rfl)) (inr1 _ (List.mem_of_getElem? (i := 2) rfl)) (inr22 _ (List.mem_of_getElem? (i := 14) rfl)) (by decide +kernel) hts rfl rfl ⟨Nat.le_of_ble_eq_true rfl, Nat.le_of_ble_eq_true rfl⟩) 0 11 rfl rfl rfl (hP.sub [0, 1] rfl) hK rfl hl.1 rfl (Nat.le_of_ble_eq_true rfl) ⟨Nat.le_of_ble_eq_true rfl, Nat.le_of_ble_eq_true rfl⟩ dX11_cool_1 (fun r_1 h_2 => ?_)
  obtain rfl := h_2
  refine lv_if_eq (tgt := 12) hx hb dX11_cool_4 (by decide) (fun c0 => absurd c0 (by decide)) (fun _ => ?_)
  refine lv_bipush (v := (-2)) hx hb dX11_cool_7 (by decide) ?_
  refine lv_goto (tgt := 19) hx hb dX11_cool_9 (by decide) ?_
  exact W.iret (v := (-2)) hx hb hr (fun t ht hW => ⟨_, rfl, rfl, ht⟩) (fun _ h => by cases h) dX11_cool_19

set_option maxHeartbeats 4000000 in
set_option maxRecDepth 100000 in
theorem kx_sure (l : Launch) (D : va_G) (cB cI cJ cZ cS cT : ClassId) (x0 : Nat) (r_tape : Nat) (r_reader : Nat) (r_now : Nat) (r_trial : Nat) (r_images : Nat) (r_kept : Nat) (r_slots : Nat) (r_night : Nat) (r_other : Nat) (r_circle : Nat) (r_words : Nat) (r_law : Nat) (r_place : Nat) (r_drawn : Nat) (n_signs : Nat) (n_posts : Nat) (n_acts : Nat) (a1 : Int32)  : Met l yX11_sure (Cond.code yX11_sure cX11_sure 3 (some .int) :: wsL_law) ({ frames := 2, cells := 0, slots := 0, locals := 40 }) (roP D (tyL cB cI cJ cZ cS cT) [(x0, .inr (11, [.ref r_tape, .ref r_reader, .ref r_now, .ref r_trial, .ref r_images, .ref r_kept, .ref r_slots, .ref r_night, .ref r_other, .ref r_circle, .ref r_words, .ref r_law, .ref r_place, .ref r_drawn])), (r_now, .inr (8, [.int 0, .int 0, .int 0, .int 0, .int 0, .int 0, .int 0, .ref n_signs, .int 0, .ref n_posts, .int 0, .ref n_acts]))] [.ref x0, .int a1]) (vp_Si (fun r : Int32 => r = (-2))) 0 0 (fun _ => False) := by
  refine Met.ofW (cc := cX11_sure) (maxL := 3) (ret := (some .int)) (by decide) rfl ?_
  intro p e s m args below meth c s₁ B hml hv
  obtain ⟨rfl, hP, hK⟩ := hv
  have hx := B.exec
  have hb := B.bytes
  have hr := B.returns
  have hts : ∀ w ∈ wsL_law, w.before ([.ref x0, .int a1] : List Value).toArray s = true := fun w h => atoms_spec (ws := Cond.code yX11_sure cX11_sure 3 (some .int) :: wsL_law) B.pre w (List.mem_cons_of_mem _ h)
  have hown : s.vm.findClass RX11 = some m.cls := findClass_of_methodNamed B.named
  have hlocks := B.notSynchronized
  have hl := lv_entry ([.ref x0, .int a1]) (n := 3) (Nat.le_of_ble_eq_true rfl)
  rw [lg_entry_eq]
  generalize (lg_sl ([.ref x0, .int a1]) ++ List.replicate (3 - (lg_sl ([.ref x0, .int a1])).length) Slot.unset).toArray = ls at hl ⊢
  have hl : lv_has ls 3 [(0, .ref x0), (1, .int a1)] := hl
  have hP : va_P D vwCl [(x0, .inr (11, [.ref r_tape, .ref r_reader, .ref r_now, .ref r_trial, .ref r_images, .ref r_kept, .ref r_slots, .ref r_night, .ref r_other, .ref r_circle, .ref r_words, .ref r_law, .ref r_place, .ref r_drawn])), (r_now, .inr (8, [.int 0, .int 0, .int 0, .int 0, .int 0, .int 0, .int 0, .ref n_signs, .int 0, .ref n_posts, .int 0, .ref n_acts]))] s.heap := hP
  refine lv_aload_n hx hb dX11_sure_0 rfl (lv_at hl 0 rfl) ?_
  refine roi (As := []) (rest := []) ⟨hx, hb, hml, hown, hts⟩ (k_noStation l D cB cI cJ cZ cS cT x0 r_tape r_reader r_now r_trial r_images r_kept r_slots r_night r_other r_circle r_words r_law r_place r_drawn n_signs n_posts n_acts ) (cvB (n := 0) (inr22 _ (List.mem_of_getElem? (i := 11) rfl)) (inr22 _ (List.mem_of_getElem? (i := 12) rfl)) (inr22 _ (List.mem_of_getElem? (i := 13) rfl)) (inr1 _ (List.mem_of_getElem? (i := 2) rfl)) (inr22 _ (List.mem_of_getElem? (i := 14) rfl)) (by decide +kernel) hts rfl rfl ⟨Nat.le_of_ble_eq_true rfl, Nat.le_of_ble_eq_true rfl⟩) 0 11 rfl rfl rfl (hP.sub [0, 1] rfl) hK rfl hl.1 rfl (Nat.le_of_ble_eq_true rfl) ⟨Nat.le_of_ble_eq_true rfl, Nat.le_of_ble_eq_true rfl⟩ dX11_sure_1 (fun r_1 h_2 => ?_)
  obtain rfl := h_2
  refine lv_if_ne (tgt := 19) hx hb dX11_sure_4 (by decide) (fun _ => ?_) (fun c0 => absurd c0 (by decide))
  refine lv_bipush (v := (-2)) hx hb dX11_sure_19 (by decide) ?_
  exact W.iret (v := (-2)) hx hb hr (fun t ht hW => ⟨_, rfl, rfl, ht⟩) (fun _ h => by cases h) dX11_sure_21

set_option maxHeartbeats 4000000 in
set_option maxRecDepth 100000 in
theorem kx_speak (l : Launch) (D : va_G) (cB cI cJ cZ cS cT : ClassId) (x0 : Nat) (r_tape : Nat) (r_reader : Nat) (r_now : Nat) (r_trial : Nat) (r_images : Nat) (r_kept : Nat) (r_slots : Nat) (r_night : Nat) (r_other : Nat) (r_circle : Nat) (r_words : Nat) (r_law : Nat) (r_place : Nat) (r_drawn : Nat) (n_signs : Nat) (n_posts : Nat) (n_acts : Nat) (a1 : Int32) (a2 : Int32)  : Met l yX11_speak (Cond.code yX11_speak cX11_speak 4 (some .int) :: wsL_law) ({ frames := 3, cells := 0, slots := 0, locals := 61 }) (roP D (tyL cB cI cJ cZ cS cT) [(x0, .inr (11, [.ref r_tape, .ref r_reader, .ref r_now, .ref r_trial, .ref r_images, .ref r_kept, .ref r_slots, .ref r_night, .ref r_other, .ref r_circle, .ref r_words, .ref r_law, .ref r_place, .ref r_drawn])), (r_now, .inr (8, [.int 0, .int 0, .int 0, .int 0, .int 0, .int 0, .int 0, .ref n_signs, .int 0, .ref n_posts, .int 0, .ref n_acts]))] [.ref x0, .int a1, .int a2]) (vp_Si (fun r : Int32 => r = (-2))) 0 0 (fun _ => False) := by
  refine Met.ofW (cc := cX11_speak) (maxL := 4) (ret := (some .int)) (by decide) rfl ?_
  intro p e s m args below meth c s₁ B hml hv
  obtain ⟨rfl, hP, hK⟩ := hv
  have hx := B.exec
  have hb := B.bytes
  have hr := B.returns
  have hts : ∀ w ∈ wsL_law, w.before ([.ref x0, .int a1, .int a2] : List Value).toArray s = true := fun w h => atoms_spec (ws := Cond.code yX11_speak cX11_speak 4 (some .int) :: wsL_law) B.pre w (List.mem_cons_of_mem _ h)
  have hown : s.vm.findClass RX11 = some m.cls := findClass_of_methodNamed B.named
  have hlocks := B.notSynchronized
  have hl := lv_entry ([.ref x0, .int a1, .int a2]) (n := 4) (Nat.le_of_ble_eq_true rfl)
  rw [lg_entry_eq]
  generalize (lg_sl ([.ref x0, .int a1, .int a2]) ++ List.replicate (4 - (lg_sl ([.ref x0, .int a1, .int a2])).length) Slot.unset).toArray = ls at hl ⊢
  have hl : lv_has ls 4 [(0, .ref x0), (1, .int a1), (2, .int a2)] := hl
  have hP : va_P D vwCl [(x0, .inr (11, [.ref r_tape, .ref r_reader, .ref r_now, .ref r_trial, .ref r_images, .ref r_kept, .ref r_slots, .ref r_night, .ref r_other, .ref r_circle, .ref r_words, .ref r_law, .ref r_place, .ref r_drawn])), (r_now, .inr (8, [.int 0, .int 0, .int 0, .int 0, .int 0, .int 0, .int 0, .ref n_signs, .int 0, .ref n_posts, .int 0, .ref n_acts]))] s.heap := hP
  refine lv_aload_n hx hb dX11_speak_0 rfl (lv_at hl 0 rfl) ?_
  refine lv_iload_n hx hb dX11_speak_1 rfl (lv_at hl 1 rfl) ?_
  refine roi (As := [.int a1]) (rest := []) ⟨hx, hb, hml, hown, hts⟩ (k_noStep l D cB cI cJ cZ cS cT x0 r_tape r_reader r_now r_trial r_images r_kept r_slots r_night r_other r_circle r_words r_law r_place r_drawn n_signs n_posts n_acts a1 ) (cvB (n := 1) (inr22 _ (List.mem_of_getElem? (i := 6) rfl)) (inr22 _ (List.mem_of_getElem? (i := 7) rfl)) (inr22 _ (List.mem_of_getElem? (i := 8) rfl)) (inr1 _ (List.mem_of_getElem? (i := 2) rfl)) (inr22 _ (List.mem_of_getElem? (i := 9) rfl)) (by decide +kernel) hts rfl rfl ⟨Nat.le_of_ble_eq_true rfl, Nat.le_of_ble_eq_true rfl⟩) 0 11 rfl rfl rfl (hP.sub [0, 1] rfl) hK rfl hl.1 rfl (Nat.le_of_ble_eq_true rfl) ⟨Nat.le_of_ble_eq_true rfl, Nat.le_of_ble_eq_true rfl⟩ dX11_speak_2 (fun r_1 h_2 => ?_)
  obtain rfl := h_2
  refine lv_if_ne (tgt := 21) hx hb dX11_speak_5 (by decide) (fun _ => ?_) (fun c0 => absurd c0 (by decide))
  refine lv_bipush (v := (-2)) hx hb dX11_speak_21 (by decide) ?_
  exact W.iret (v := (-2)) hx hb hr (fun t ht hW => ⟨_, rfl, rfl, ht⟩) (fun _ h => by cases h) dX11_speak_23

set_option maxHeartbeats 4000000 in
set_option maxRecDepth 100000 in
theorem kx_spoken (l : Launch) (D : va_G) (cB cI cJ cZ cS cT : ClassId) (x0 : Nat) (r_tape : Nat) (r_reader : Nat) (r_now : Nat) (r_trial : Nat) (r_images : Nat) (r_kept : Nat) (r_slots : Nat) (r_night : Nat) (r_other : Nat) (r_circle : Nat) (r_words : Nat) (r_law : Nat) (r_place : Nat) (r_drawn : Nat) (n_signs : Nat) (n_posts : Nat) (n_acts : Nat) (a1 : Int32)  : Met l yX11_spoken (Cond.code yX11_spoken cX11_spoken 2 (some .int) :: wsL_law) ({ frames := 3, cells := 0, slots := 0, locals := 61 }) (roP D (tyL cB cI cJ cZ cS cT) [(x0, .inr (11, [.ref r_tape, .ref r_reader, .ref r_now, .ref r_trial, .ref r_images, .ref r_kept, .ref r_slots, .ref r_night, .ref r_other, .ref r_circle, .ref r_words, .ref r_law, .ref r_place, .ref r_drawn])), (r_now, .inr (8, [.int 0, .int 0, .int 0, .int 0, .int 0, .int 0, .int 0, .ref n_signs, .int 0, .ref n_posts, .int 0, .ref n_acts]))] [.ref x0, .int a1]) (vp_Si (fun r : Int32 => r = (-2))) 0 0 (fun _ => False) := by
  refine Met.ofW (cc := cX11_spoken) (maxL := 2) (ret := (some .int)) (by decide) rfl ?_
  intro p e s m args below meth c s₁ B hml hv
  obtain ⟨rfl, hP, hK⟩ := hv
  have hx := B.exec
  have hb := B.bytes
  have hr := B.returns
  have hts : ∀ w ∈ wsL_law, w.before ([.ref x0, .int a1] : List Value).toArray s = true := fun w h => atoms_spec (ws := Cond.code yX11_spoken cX11_spoken 2 (some .int) :: wsL_law) B.pre w (List.mem_cons_of_mem _ h)
  have hown : s.vm.findClass RX11 = some m.cls := findClass_of_methodNamed B.named
  have hlocks := B.notSynchronized
  have hl := lv_entry ([.ref x0, .int a1]) (n := 2) (Nat.le_of_ble_eq_true rfl)
  rw [lg_entry_eq]
  generalize (lg_sl ([.ref x0, .int a1]) ++ List.replicate (2 - (lg_sl ([.ref x0, .int a1])).length) Slot.unset).toArray = ls at hl ⊢
  have hl : lv_has ls 2 [(0, .ref x0), (1, .int a1)] := hl
  have hP : va_P D vwCl [(x0, .inr (11, [.ref r_tape, .ref r_reader, .ref r_now, .ref r_trial, .ref r_images, .ref r_kept, .ref r_slots, .ref r_night, .ref r_other, .ref r_circle, .ref r_words, .ref r_law, .ref r_place, .ref r_drawn])), (r_now, .inr (8, [.int 0, .int 0, .int 0, .int 0, .int 0, .int 0, .int 0, .ref n_signs, .int 0, .ref n_posts, .int 0, .ref n_acts]))] s.heap := hP
  refine lv_aload_n hx hb dX11_spoken_0 rfl (lv_at hl 0 rfl) ?_
  refine lv_iload_n hx hb dX11_spoken_1 rfl (lv_at hl 1 rfl) ?_
  refine roi (As := [.int a1]) (rest := []) ⟨hx, hb, hml, hown, hts⟩ (k_noStep l D cB cI cJ cZ cS cT x0 r_tape r_reader r_now r_trial r_images r_kept r_slots r_night r_other r_circle r_words r_law r_place r_drawn n_signs n_posts n_acts a1 ) (cvB (n := 1) (inr22 _ (List.mem_of_getElem? (i := 6) rfl)) (inr22 _ (List.mem_of_getElem? (i := 7) rfl)) (inr22 _ (List.mem_of_getElem? (i := 8) rfl)) (inr1 _ (List.mem_of_getElem? (i := 2) rfl)) (inr22 _ (List.mem_of_getElem? (i := 9) rfl)) (by decide +kernel) hts rfl rfl ⟨Nat.le_of_ble_eq_true rfl, Nat.le_of_ble_eq_true rfl⟩) 0 11 rfl rfl rfl (hP.sub [0, 1] rfl) hK rfl hl.1 rfl (Nat.le_of_ble_eq_true rfl) ⟨Nat.le_of_ble_eq_true rfl, Nat.le_of_ble_eq_true rfl⟩ dX11_spoken_2 (fun r_1 h_2 => ?_)
  obtain rfl := h_2
  refine lv_if_eq (tgt := 13) hx hb dX11_spoken_5 (by decide) (fun c0 => absurd c0 (by decide)) (fun _ => ?_)
  refine lv_bipush (v := (-2)) hx hb dX11_spoken_8 (by decide) ?_
  refine lv_goto (tgt := 24) hx hb dX11_spoken_10 (by decide) ?_
  exact W.iret (v := (-2)) hx hb hr (fun t ht hW => ⟨_, rfl, rfl, ht⟩) (fun _ h => by cases h) dX11_spoken_24

set_option maxHeartbeats 4000000 in
set_option maxRecDepth 100000 in
theorem kx_undo (l : Launch) (D : va_G) (cB cI cJ cZ cS cT : ClassId) (x0 : Nat) (r_tape : Nat) (r_reader : Nat) (r_now : Nat) (r_trial : Nat) (r_images : Nat) (r_kept : Nat) (r_slots : Nat) (r_night : Nat) (r_other : Nat) (r_circle : Nat) (r_words : Nat) (r_law : Nat) (r_place : Nat) (r_drawn : Nat) (n_signs : Nat) (n_posts : Nat) (n_acts : Nat)  : Met l yX11_undo (Cond.code yX11_undo cX11_undo 1 (some .int) :: wsL_law) ({ frames := 2, cells := 0, slots := 0, locals := 40 }) (roP D (tyL cB cI cJ cZ cS cT) [(x0, .inr (11, [.ref r_tape, .ref r_reader, .ref r_now, .ref r_trial, .ref r_images, .ref r_kept, .ref r_slots, .ref r_night, .ref r_other, .ref r_circle, .ref r_words, .ref r_law, .ref r_place, .ref r_drawn])), (r_now, .inr (8, [.int 0, .int 0, .int 0, .int 0, .int 0, .int 0, .int 0, .ref n_signs, .int 0, .ref n_posts, .int 0, .ref n_acts]))] [.ref x0]) (vp_Si (fun r : Int32 => r = (-2))) 0 0 (fun _ => False) := by
  refine Met.ofW (cc := cX11_undo) (maxL := 1) (ret := (some .int)) (by decide) rfl ?_
  intro p e s m args below meth c s₁ B hml hv
  obtain ⟨rfl, hP, hK⟩ := hv
  have hx := B.exec
  have hb := B.bytes
  have hr := B.returns
  have hts : ∀ w ∈ wsL_law, w.before ([.ref x0] : List Value).toArray s = true := fun w h => atoms_spec (ws := Cond.code yX11_undo cX11_undo 1 (some .int) :: wsL_law) B.pre w (List.mem_cons_of_mem _ h)
  have hown : s.vm.findClass RX11 = some m.cls := findClass_of_methodNamed B.named
  have hlocks := B.notSynchronized
  have hl := lv_entry ([.ref x0]) (n := 1) (Nat.le_of_ble_eq_true rfl)
  rw [lg_entry_eq]
  generalize (lg_sl ([.ref x0]) ++ List.replicate (1 - (lg_sl ([.ref x0])).length) Slot.unset).toArray = ls at hl ⊢
  have hl : lv_has ls 1 [(0, .ref x0)] := hl
  have hP : va_P D vwCl [(x0, .inr (11, [.ref r_tape, .ref r_reader, .ref r_now, .ref r_trial, .ref r_images, .ref r_kept, .ref r_slots, .ref r_night, .ref r_other, .ref r_circle, .ref r_words, .ref r_law, .ref r_place, .ref r_drawn])), (r_now, .inr (8, [.int 0, .int 0, .int 0, .int 0, .int 0, .int 0, .int 0, .ref n_signs, .int 0, .ref n_posts, .int 0, .ref n_acts]))] s.heap := hP
  refine lv_aload_n hx hb dX11_undo_0 rfl (lv_at hl 0 rfl) ?_
  refine roi (As := []) (rest := []) ⟨hx, hb, hml, hown, hts⟩ (k_noStation l D cB cI cJ cZ cS cT x0 r_tape r_reader r_now r_trial r_images r_kept r_slots r_night r_other r_circle r_words r_law r_place r_drawn n_signs n_posts n_acts ) (cvB (n := 0) (inr22 _ (List.mem_of_getElem? (i := 11) rfl)) (inr22 _ (List.mem_of_getElem? (i := 12) rfl)) (inr22 _ (List.mem_of_getElem? (i := 13) rfl)) (inr1 _ (List.mem_of_getElem? (i := 2) rfl)) (inr22 _ (List.mem_of_getElem? (i := 14) rfl)) (by decide +kernel) hts rfl rfl ⟨Nat.le_of_ble_eq_true rfl, Nat.le_of_ble_eq_true rfl⟩) 0 11 rfl rfl rfl (hP.sub [0, 1] rfl) hK rfl hl.1 rfl (Nat.le_of_ble_eq_true rfl) ⟨Nat.le_of_ble_eq_true rfl, Nat.le_of_ble_eq_true rfl⟩ dX11_undo_1 (fun r_1 h_2 => ?_)
  obtain rfl := h_2
  refine lv_if_eq (tgt := 10) hx hb dX11_undo_4 (by decide) (fun c0 => absurd c0 (by decide)) (fun _ => ?_)
  refine lv_bipush (v := (-2)) hx hb dX11_undo_7 (by decide) ?_
  exact W.iret (v := (-2)) hx hb hr (fun t ht hW => ⟨_, rfl, rfl, ht⟩) (fun _ h => by cases h) dX11_undo_9

set_option maxHeartbeats 4000000 in
set_option maxRecDepth 100000 in
theorem kx_anew (l : Launch) (D : va_G) (cB cI cJ cZ cS cT : ClassId) (x0 : Nat) (r_tape : Nat) (r_reader : Nat) (r_now : Nat) (r_trial : Nat) (r_images : Nat) (r_kept : Nat) (r_slots : Nat) (r_night : Nat) (r_other : Nat) (r_circle : Nat) (r_words : Nat) (r_law : Nat) (r_place : Nat) (r_drawn : Nat) (n_signs : Nat) (n_posts : Nat) (n_acts : Nat)  : Met l yX11_anew (Cond.code yX11_anew cX11_anew 2 (some .int) :: wsL_law) ({ frames := 2, cells := 0, slots := 0, locals := 40 }) (roP D (tyL cB cI cJ cZ cS cT) [(x0, .inr (11, [.ref r_tape, .ref r_reader, .ref r_now, .ref r_trial, .ref r_images, .ref r_kept, .ref r_slots, .ref r_night, .ref r_other, .ref r_circle, .ref r_words, .ref r_law, .ref r_place, .ref r_drawn])), (r_now, .inr (8, [.int 0, .int 0, .int 0, .int 0, .int 0, .int 0, .int 0, .ref n_signs, .int 0, .ref n_posts, .int 0, .ref n_acts]))] [.ref x0]) (vp_Si (fun r : Int32 => r = (-2))) 0 0 (fun _ => False) := by
  refine Met.ofW (cc := cX11_anew) (maxL := 2) (ret := (some .int)) (by decide) rfl ?_
  intro p e s m args below meth c s₁ B hml hv
  obtain ⟨rfl, hP, hK⟩ := hv
  have hx := B.exec
  have hb := B.bytes
  have hr := B.returns
  have hts : ∀ w ∈ wsL_law, w.before ([.ref x0] : List Value).toArray s = true := fun w h => atoms_spec (ws := Cond.code yX11_anew cX11_anew 2 (some .int) :: wsL_law) B.pre w (List.mem_cons_of_mem _ h)
  have hown : s.vm.findClass RX11 = some m.cls := findClass_of_methodNamed B.named
  have hlocks := B.notSynchronized
  have hl := lv_entry ([.ref x0]) (n := 2) (Nat.le_of_ble_eq_true rfl)
  rw [lg_entry_eq]
  generalize (lg_sl ([.ref x0]) ++ List.replicate (2 - (lg_sl ([.ref x0])).length) Slot.unset).toArray = ls at hl ⊢
  have hl : lv_has ls 2 [(0, .ref x0)] := hl
  have hP : va_P D vwCl [(x0, .inr (11, [.ref r_tape, .ref r_reader, .ref r_now, .ref r_trial, .ref r_images, .ref r_kept, .ref r_slots, .ref r_night, .ref r_other, .ref r_circle, .ref r_words, .ref r_law, .ref r_place, .ref r_drawn])), (r_now, .inr (8, [.int 0, .int 0, .int 0, .int 0, .int 0, .int 0, .int 0, .ref n_signs, .int 0, .ref n_posts, .int 0, .ref n_acts]))] s.heap := hP
  refine lv_aload_n hx hb dX11_anew_0 rfl (lv_at hl 0 rfl) ?_
  refine roi (As := []) (rest := []) ⟨hx, hb, hml, hown, hts⟩ (k_noStation l D cB cI cJ cZ cS cT x0 r_tape r_reader r_now r_trial r_images r_kept r_slots r_night r_other r_circle r_words r_law r_place r_drawn n_signs n_posts n_acts ) (cvB (n := 0) (inr22 _ (List.mem_of_getElem? (i := 11) rfl)) (inr22 _ (List.mem_of_getElem? (i := 12) rfl)) (inr22 _ (List.mem_of_getElem? (i := 13) rfl)) (inr1 _ (List.mem_of_getElem? (i := 2) rfl)) (inr22 _ (List.mem_of_getElem? (i := 14) rfl)) (by decide +kernel) hts rfl rfl ⟨Nat.le_of_ble_eq_true rfl, Nat.le_of_ble_eq_true rfl⟩) 0 11 rfl rfl rfl (hP.sub [0, 1] rfl) hK rfl hl.1 rfl (Nat.le_of_ble_eq_true rfl) ⟨Nat.le_of_ble_eq_true rfl, Nat.le_of_ble_eq_true rfl⟩ dX11_anew_1 (fun r_1 h_2 => ?_)
  obtain rfl := h_2
  refine lv_if_eq (tgt := 10) hx hb dX11_anew_4 (by decide) (fun c0 => absurd c0 (by decide)) (fun _ => ?_)
  refine lv_bipush (v := (-2)) hx hb dX11_anew_7 (by decide) ?_
  exact W.iret (v := (-2)) hx hb hr (fun t ht hW => ⟨_, rfl, rfl, ht⟩) (fun _ h => by cases h) dX11_anew_9

set_option maxHeartbeats 4000000 in
set_option maxRecDepth 100000 in
theorem kx_drawn (l : Launch) (D : va_G) (cB cI cJ cZ cS cT : ClassId) (x0 : Nat) (r_tape : Nat) (r_reader : Nat) (r_now : Nat) (r_trial : Nat) (r_images : Nat) (r_kept : Nat) (r_slots : Nat) (r_night : Nat) (r_other : Nat) (r_circle : Nat) (r_words : Nat) (r_law : Nat) (r_place : Nat) (r_drawn : Nat) (n_signs : Nat) (n_posts : Nat) (n_acts : Nat) (a1 : Int32) (a2 : Int32) (a3 : Int32)  : Met l yX11_drawn (Cond.code yX11_drawn cX11_drawn 4 (some .int) :: wsL_law) ({ frames := 3, cells := 0, slots := 0, locals := 61 }) (roP D (tyL cB cI cJ cZ cS cT) [(x0, .inr (11, [.ref r_tape, .ref r_reader, .ref r_now, .ref r_trial, .ref r_images, .ref r_kept, .ref r_slots, .ref r_night, .ref r_other, .ref r_circle, .ref r_words, .ref r_law, .ref r_place, .ref r_drawn])), (r_now, .inr (8, [.int 0, .int 0, .int 0, .int 0, .int 0, .int 0, .int 0, .ref n_signs, .int 0, .ref n_posts, .int 0, .ref n_acts]))] [.ref x0, .int a1, .int a2, .int a3]) (vp_Si (fun r : Int32 => r = (-2))) 0 0 (fun _ => False) := by
  refine Met.ofW (cc := cX11_drawn) (maxL := 4) (ret := (some .int)) (by decide) rfl ?_
  intro p e s m args below meth c s₁ B hml hv
  obtain ⟨rfl, hP, hK⟩ := hv
  have hx := B.exec
  have hb := B.bytes
  have hr := B.returns
  have hts : ∀ w ∈ wsL_law, w.before ([.ref x0, .int a1, .int a2, .int a3] : List Value).toArray s = true := fun w h => atoms_spec (ws := Cond.code yX11_drawn cX11_drawn 4 (some .int) :: wsL_law) B.pre w (List.mem_cons_of_mem _ h)
  have hown : s.vm.findClass RX11 = some m.cls := findClass_of_methodNamed B.named
  have hlocks := B.notSynchronized
  have hl := lv_entry ([.ref x0, .int a1, .int a2, .int a3]) (n := 4) (Nat.le_of_ble_eq_true rfl)
  rw [lg_entry_eq]
  generalize (lg_sl ([.ref x0, .int a1, .int a2, .int a3]) ++ List.replicate (4 - (lg_sl ([.ref x0, .int a1, .int a2, .int a3])).length) Slot.unset).toArray = ls at hl ⊢
  have hl : lv_has ls 4 [(0, .ref x0), (1, .int a1), (2, .int a2), (3, .int a3)] := hl
  have hP : va_P D vwCl [(x0, .inr (11, [.ref r_tape, .ref r_reader, .ref r_now, .ref r_trial, .ref r_images, .ref r_kept, .ref r_slots, .ref r_night, .ref r_other, .ref r_circle, .ref r_words, .ref r_law, .ref r_place, .ref r_drawn])), (r_now, .inr (8, [.int 0, .int 0, .int 0, .int 0, .int 0, .int 0, .int 0, .ref n_signs, .int 0, .ref n_posts, .int 0, .ref n_acts]))] s.heap := hP
  refine lv_aload_n hx hb dX11_drawn_0 rfl (lv_at hl 0 rfl) ?_
  refine lv_iload_n hx hb dX11_drawn_1 rfl (lv_at hl 2 rfl) ?_
  refine roi (As := [.int a2]) (rest := []) ⟨hx, hb, hml, hown, hts⟩ (k_noStep l D cB cI cJ cZ cS cT x0 r_tape r_reader r_now r_trial r_images r_kept r_slots r_night r_other r_circle r_words r_law r_place r_drawn n_signs n_posts n_acts a2 ) (cvB (n := 1) (inr22 _ (List.mem_of_getElem? (i := 6) rfl)) (inr22 _ (List.mem_of_getElem? (i := 7) rfl)) (inr22 _ (List.mem_of_getElem? (i := 8) rfl)) (inr1 _ (List.mem_of_getElem? (i := 2) rfl)) (inr22 _ (List.mem_of_getElem? (i := 9) rfl)) (by decide +kernel) hts rfl rfl ⟨Nat.le_of_ble_eq_true rfl, Nat.le_of_ble_eq_true rfl⟩) 0 11 rfl rfl rfl (hP.sub [0, 1] rfl) hK rfl hl.1 rfl (Nat.le_of_ble_eq_true rfl) ⟨Nat.le_of_ble_eq_true rfl, Nat.le_of_ble_eq_true rfl⟩ dX11_drawn_2 (fun r_1 h_2 => ?_)
  obtain rfl := h_2
  refine lv_if_ne (tgt := 32) hx hb dX11_drawn_5 (by decide) (fun _ => ?_) (fun c0 => absurd c0 (by decide))
  refine lv_bipush (v := (-2)) hx hb dX11_drawn_32 (by decide) ?_
  exact W.iret (v := (-2)) hx hb hr (fun t ht hW => ⟨_, rfl, rfl, ht⟩) (fun _ h => by cases h) dX11_drawn_34

set_option maxHeartbeats 4000000 in
set_option maxRecDepth 100000 in
theorem kx_luck (l : Launch) (D : va_G) (cB cI cJ cZ cS cT : ClassId) (x0 : Nat) (r_tape : Nat) (r_reader : Nat) (r_now : Nat) (r_trial : Nat) (r_images : Nat) (r_kept : Nat) (r_slots : Nat) (r_night : Nat) (r_other : Nat) (r_circle : Nat) (r_words : Nat) (r_law : Nat) (r_place : Nat) (r_drawn : Nat) (n_signs : Nat) (n_posts : Nat) (n_acts : Nat) (a1 : Int32) (a2 : Int32) (a3 : Int32) (a4 : Int32)  : Met l yX11_luck (Cond.code yX11_luck cX11_luck 7 (some .int) :: wsL_law) ({ frames := 3, cells := 0, slots := 0, locals := 61 }) (roP D (tyL cB cI cJ cZ cS cT) [(x0, .inr (11, [.ref r_tape, .ref r_reader, .ref r_now, .ref r_trial, .ref r_images, .ref r_kept, .ref r_slots, .ref r_night, .ref r_other, .ref r_circle, .ref r_words, .ref r_law, .ref r_place, .ref r_drawn])), (r_now, .inr (8, [.int 0, .int 0, .int 0, .int 0, .int 0, .int 0, .int 0, .ref n_signs, .int 0, .ref n_posts, .int 0, .ref n_acts]))] [.ref x0, .int a1, .int a2, .int a3, .int a4]) (vp_Si (fun r : Int32 => r = (-2))) 0 0 (fun _ => False) := by
  refine Met.ofW (cc := cX11_luck) (maxL := 7) (ret := (some .int)) (by decide) rfl ?_
  intro p e s m args below meth c s₁ B hml hv
  obtain ⟨rfl, hP, hK⟩ := hv
  have hx := B.exec
  have hb := B.bytes
  have hr := B.returns
  have hts : ∀ w ∈ wsL_law, w.before ([.ref x0, .int a1, .int a2, .int a3, .int a4] : List Value).toArray s = true := fun w h => atoms_spec (ws := Cond.code yX11_luck cX11_luck 7 (some .int) :: wsL_law) B.pre w (List.mem_cons_of_mem _ h)
  have hown : s.vm.findClass RX11 = some m.cls := findClass_of_methodNamed B.named
  have hlocks := B.notSynchronized
  have hl := lv_entry ([.ref x0, .int a1, .int a2, .int a3, .int a4]) (n := 7) (Nat.le_of_ble_eq_true rfl)
  rw [lg_entry_eq]
  generalize (lg_sl ([.ref x0, .int a1, .int a2, .int a3, .int a4]) ++ List.replicate (7 - (lg_sl ([.ref x0, .int a1, .int a2, .int a3, .int a4])).length) Slot.unset).toArray = ls at hl ⊢
  have hl : lv_has ls 7 [(0, .ref x0), (1, .int a1), (2, .int a2), (3, .int a3), (4, .int a4)] := hl
  have hP : va_P D vwCl [(x0, .inr (11, [.ref r_tape, .ref r_reader, .ref r_now, .ref r_trial, .ref r_images, .ref r_kept, .ref r_slots, .ref r_night, .ref r_other, .ref r_circle, .ref r_words, .ref r_law, .ref r_place, .ref r_drawn])), (r_now, .inr (8, [.int 0, .int 0, .int 0, .int 0, .int 0, .int 0, .int 0, .ref n_signs, .int 0, .ref n_posts, .int 0, .ref n_acts]))] s.heap := hP
  refine lv_aload_n hx hb dX11_luck_0 rfl (lv_at hl 0 rfl) ?_
  refine lv_iload_n hx hb dX11_luck_1 rfl (lv_at hl 3 rfl) ?_
  refine roi (As := [.int a3]) (rest := []) ⟨hx, hb, hml, hown, hts⟩ (k_noStep l D cB cI cJ cZ cS cT x0 r_tape r_reader r_now r_trial r_images r_kept r_slots r_night r_other r_circle r_words r_law r_place r_drawn n_signs n_posts n_acts a3 ) (cvB (n := 1) (inr22 _ (List.mem_of_getElem? (i := 6) rfl)) (inr22 _ (List.mem_of_getElem? (i := 7) rfl)) (inr22 _ (List.mem_of_getElem? (i := 8) rfl)) (inr1 _ (List.mem_of_getElem? (i := 2) rfl)) (inr22 _ (List.mem_of_getElem? (i := 9) rfl)) (by decide +kernel) hts rfl rfl ⟨Nat.le_of_ble_eq_true rfl, Nat.le_of_ble_eq_true rfl⟩) 0 11 rfl rfl rfl (hP.sub [0, 1] rfl) hK rfl hl.1 rfl (Nat.le_of_ble_eq_true rfl) ⟨Nat.le_of_ble_eq_true rfl, Nat.le_of_ble_eq_true rfl⟩ dX11_luck_2 (fun r_1 h_2 => ?_)
  obtain rfl := h_2
  refine lv_if_ne (tgt := 41) hx hb dX11_luck_5 (by decide) (fun _ => ?_) (fun c0 => absurd c0 (by decide))
  refine lv_bipush (v := (-2)) hx hb dX11_luck_41 (by decide) ?_
  exact W.iret (v := (-2)) hx hb hr (fun t ht hW => ⟨_, rfl, rfl, ht⟩) (fun _ h => by cases h) dX11_luck_43

set_option maxHeartbeats 4000000 in
set_option maxRecDepth 100000 in
theorem kx_tune (l : Launch) (D : va_G) (cB cI cJ cZ cS cT : ClassId) (x0 : Nat) (r_tape : Nat) (r_reader : Nat) (r_now : Nat) (r_trial : Nat) (r_images : Nat) (r_kept : Nat) (r_slots : Nat) (r_night : Nat) (r_other : Nat) (r_circle : Nat) (r_words : Nat) (r_law : Nat) (r_place : Nat) (r_drawn : Nat) (n_signs : Nat) (n_posts : Nat) (n_acts : Nat) (a1 : Int32)  : Met l yX11_tune (Cond.code yX11_tune cX11_tune 3 (some .int) :: wsL_law) ({ frames := 3, cells := 0, slots := 0, locals := 61 }) (roP D (tyL cB cI cJ cZ cS cT) [(x0, .inr (11, [.ref r_tape, .ref r_reader, .ref r_now, .ref r_trial, .ref r_images, .ref r_kept, .ref r_slots, .ref r_night, .ref r_other, .ref r_circle, .ref r_words, .ref r_law, .ref r_place, .ref r_drawn])), (r_now, .inr (8, [.int 0, .int 0, .int 0, .int 0, .int 0, .int 0, .int 0, .ref n_signs, .int 0, .ref n_posts, .int 0, .ref n_acts]))] [.ref x0, .int a1]) (vp_Si (fun r : Int32 => r = (-2))) 0 0 (fun _ => False) := by
  refine Met.ofW (cc := cX11_tune) (maxL := 3) (ret := (some .int)) (by decide) rfl ?_
  intro p e s m args below meth c s₁ B hml hv
  obtain ⟨rfl, hP, hK⟩ := hv
  have hx := B.exec
  have hb := B.bytes
  have hr := B.returns
  have hts : ∀ w ∈ wsL_law, w.before ([.ref x0, .int a1] : List Value).toArray s = true := fun w h => atoms_spec (ws := Cond.code yX11_tune cX11_tune 3 (some .int) :: wsL_law) B.pre w (List.mem_cons_of_mem _ h)
  have hown : s.vm.findClass RX11 = some m.cls := findClass_of_methodNamed B.named
  have hlocks := B.notSynchronized
  have hl := lv_entry ([.ref x0, .int a1]) (n := 3) (Nat.le_of_ble_eq_true rfl)
  rw [lg_entry_eq]
  generalize (lg_sl ([.ref x0, .int a1]) ++ List.replicate (3 - (lg_sl ([.ref x0, .int a1])).length) Slot.unset).toArray = ls at hl ⊢
  have hl : lv_has ls 3 [(0, .ref x0), (1, .int a1)] := hl
  have hP : va_P D vwCl [(x0, .inr (11, [.ref r_tape, .ref r_reader, .ref r_now, .ref r_trial, .ref r_images, .ref r_kept, .ref r_slots, .ref r_night, .ref r_other, .ref r_circle, .ref r_words, .ref r_law, .ref r_place, .ref r_drawn])), (r_now, .inr (8, [.int 0, .int 0, .int 0, .int 0, .int 0, .int 0, .int 0, .ref n_signs, .int 0, .ref n_posts, .int 0, .ref n_acts]))] s.heap := hP
  refine lv_aload_n hx hb dX11_tune_0 rfl (lv_at hl 0 rfl) ?_
  refine lv_iload_n hx hb dX11_tune_1 rfl (lv_at hl 1 rfl) ?_
  refine roi (As := [.int a1]) (rest := []) ⟨hx, hb, hml, hown, hts⟩ (k_noTone l D cB cI cJ cZ cS cT x0 r_tape r_reader r_now r_trial r_images r_kept r_slots r_night r_other r_circle r_words r_law r_place r_drawn n_signs n_posts n_acts a1 ) (cvB (n := 1) (inr29 _ (List.mem_of_getElem? (i := 11) rfl)) (inr29 _ (List.mem_of_getElem? (i := 12) rfl)) (inr29 _ (List.mem_of_getElem? (i := 13) rfl)) (inr1 _ (List.mem_of_getElem? (i := 2) rfl)) (inr29 _ (List.mem_of_getElem? (i := 14) rfl)) (by decide +kernel) hts rfl rfl ⟨Nat.le_of_ble_eq_true rfl, Nat.le_of_ble_eq_true rfl⟩) 0 11 rfl rfl rfl (hP.sub [0, 1] rfl) hK rfl hl.1 rfl (Nat.le_of_ble_eq_true rfl) ⟨Nat.le_of_ble_eq_true rfl, Nat.le_of_ble_eq_true rfl⟩ dX11_tune_2 (fun r_1 h_2 => ?_)
  obtain rfl := h_2
  refine lv_if_eq (tgt := 11) hx hb dX11_tune_5 (by decide) (fun c0 => absurd c0 (by decide)) (fun _ => ?_)
  refine lv_bipush (v := (-2)) hx hb dX11_tune_8 (by decide) ?_
  exact W.iret (v := (-2)) hx hb hr (fun t ht hW => ⟨_, rfl, rfl, ht⟩) (fun _ h => by cases h) dX11_tune_10

set_option maxHeartbeats 4000000 in
set_option maxRecDepth 100000 in
theorem kx_sign (l : Launch) (D : va_G) (cB cI cJ cZ cS cT : ClassId) (x0 : Nat) (r_tape : Nat) (r_reader : Nat) (r_now : Nat) (r_trial : Nat) (r_images : Nat) (r_kept : Nat) (r_slots : Nat) (r_night : Nat) (r_other : Nat) (r_circle : Nat) (r_words : Nat) (r_law : Nat) (r_place : Nat) (r_drawn : Nat) (n_signs : Nat) (n_posts : Nat) (n_acts : Nat) (a1 : Int32)  : Met l yX11_sign (Cond.code yX11_sign cX11_sign 2 (some .int) :: wsL_law) ({ frames := 1, cells := 0, slots := 0, locals := 25 }) (roP D (tyL cB cI cJ cZ cS cT) [(x0, .inr (11, [.ref r_tape, .ref r_reader, .ref r_now, .ref r_trial, .ref r_images, .ref r_kept, .ref r_slots, .ref r_night, .ref r_other, .ref r_circle, .ref r_words, .ref r_law, .ref r_place, .ref r_drawn])), (r_now, .inr (8, [.int 0, .int 0, .int 0, .int 0, .int 0, .int 0, .int 0, .ref n_signs, .int 0, .ref n_posts, .int 0, .ref n_acts]))] [.ref x0, .int a1]) (vp_Si (fun r : Int32 => r = (-2))) 0 0 (fun _ => False) := by
  refine Met.ofW (cc := cX11_sign) (maxL := 2) (ret := (some .int)) (by decide) rfl ?_
  intro p e s m args below meth c s₁ B hml hv
  obtain ⟨rfl, hP, hK⟩ := hv
  have hx := B.exec
  have hb := B.bytes
  have hr := B.returns
  have hts : ∀ w ∈ wsL_law, w.before ([.ref x0, .int a1] : List Value).toArray s = true := fun w h => atoms_spec (ws := Cond.code yX11_sign cX11_sign 2 (some .int) :: wsL_law) B.pre w (List.mem_cons_of_mem _ h)
  have hown : s.vm.findClass RX11 = some m.cls := findClass_of_methodNamed B.named
  have hlocks := B.notSynchronized
  have hl := lv_entry ([.ref x0, .int a1]) (n := 2) (Nat.le_of_ble_eq_true rfl)
  rw [lg_entry_eq]
  generalize (lg_sl ([.ref x0, .int a1]) ++ List.replicate (2 - (lg_sl ([.ref x0, .int a1])).length) Slot.unset).toArray = ls at hl ⊢
  have hl : lv_has ls 2 [(0, .ref x0), (1, .int a1)] := hl
  have hP : va_P D vwCl [(x0, .inr (11, [.ref r_tape, .ref r_reader, .ref r_now, .ref r_trial, .ref r_images, .ref r_kept, .ref r_slots, .ref r_night, .ref r_other, .ref r_circle, .ref r_words, .ref r_law, .ref r_place, .ref r_drawn])), (r_now, .inr (8, [.int 0, .int 0, .int 0, .int 0, .int 0, .int 0, .int 0, .ref n_signs, .int 0, .ref n_posts, .int 0, .ref n_acts]))] s.heap := hP
  refine lv_iload_n hx hb dX11_sign_0 rfl (lv_at hl 1 rfl) ?_
  obtain ⟨t_1, et_1⟩ : ∃ v9 : Int64, (a1 : Int32).toInt64 = v9 := ⟨_, rfl⟩
  refine lv_i2l (v := t_1) hx hb dX11_sign_1 et_1 ?_
  have ft_1 : t_1.toInt = a1.toInt := by rw [← et_1]; exact Int32.toInt_toInt64 _
  refine lv_lconst (v := 0) hx hb dX11_sign_2 (by decide) ?_
  refine lv_aload_n hx hb dX11_sign_3 rfl (lv_at hl 0 rfl) ?_
  refine va_get (D := D) (ci := 11) (v := .ref r_now) (C := RX11) (T := TX11) (N := 14) hx hb hts inlX11 hown hK hP 0 rfl rfl 2 (by decide) (hts _ (inr2 _ (List.mem_of_getElem? (i := 0) rfl))) (fun _ h9 => h9) rfl dX11_sign_4 ?_
  refine roi (As := []) (rest := [.long 0, .long t_1]) ⟨hx, hb, hml, hown, hts⟩ (k_St_signCount l D cB cI cJ cZ cS cT r_now 0 0 0 0 0 0 0 n_signs 0 n_posts 0 n_acts ) (cvB (n := 0) (inr21 _ (List.mem_of_getElem? (i := 4) rfl)) (inr15 _ (List.mem_of_getElem? (i := 10) rfl)) (inr15 _ (List.mem_of_getElem? (i := 11) rfl)) (inr1 _ (List.mem_of_getElem? (i := 23) rfl)) (inr15 _ (List.mem_of_getElem? (i := 12) rfl)) (by decide +kernel) hts rfl rfl ⟨Nat.le_of_ble_eq_true rfl, Nat.le_of_ble_eq_true rfl⟩) 0 8 rfl rfl rfl (hP.sub [1] rfl) hK rfl hl.1 rfl (Nat.le_of_ble_eq_true rfl) ⟨Nat.le_of_ble_eq_true rfl, Nat.le_of_ble_eq_true rfl⟩ dX11_sign_7 (fun r_2 h_3 => ?_)
  obtain rfl := h_3
  refine lv_iconst (v := 1) hx hb dX11_sign_10 (by decide) ?_
  refine z_isub (v := (-1)) hx hb dX11_sign_11 (by decide) ?_
  refine lv_i2l (v := (-1)) hx hb dX11_sign_12 (by decide) ?_
  refine rosi (As := [.long t_1, .long 0, .long (-1)]) (rest := []) ⟨hx, hb, hml, hown, hts⟩ (k_outside l D cB cI cJ cZ cS cT t_1 0 (-1) ) (csB (n := 3) (inr8 _ (List.mem_of_getElem? (i := 16) rfl)) (inr8 _ (List.mem_of_getElem? (i := 17) rfl)) (inr1 _ (List.mem_of_getElem? (i := 2) rfl)) (inr8 _ (List.mem_of_getElem? (i := 18) rfl)) (by decide +kernel) hts rfl rfl ⟨Nat.le_of_ble_eq_true rfl, Nat.le_of_ble_eq_true rfl⟩) (hP.sub [] rfl) hK rfl hl.1 rfl (Nat.le_of_ble_eq_true rfl) ⟨Nat.le_of_ble_eq_true rfl, Nat.le_of_ble_eq_true rfl⟩ dX11_sign_13 (fun r_4 h_5 => ?_)
  rcases h_5 with ⟨rfl, k_6⟩ | ⟨rfl, k_6⟩
  · have k_6 : t_1.toInt < 0 ∨ (-1) < t_1.toInt := k_6
    refine lv_if_eq (tgt := 24) hx hb dX11_sign_16 (by decide) (fun c0 => absurd c0 (by decide)) (fun _ => ?_)
    refine lv_bipush (v := (-2)) hx hb dX11_sign_19 (by decide) ?_
    refine lv_goto (tgt := 32) hx hb dX11_sign_21 (by decide) ?_
    exact W.iret (v := (-2)) hx hb hr (fun t ht hW => ⟨_, rfl, rfl, ht⟩) (fun _ h => by cases h) dX11_sign_32
  · have k_6 : 0 ≤ t_1.toInt ∧ t_1.toInt ≤ (-1) := k_6
    omega

set_option maxHeartbeats 4000000 in
set_option maxRecDepth 100000 in
theorem kx_post (l : Launch) (D : va_G) (cB cI cJ cZ cS cT : ClassId) (x0 : Nat) (r_tape : Nat) (r_reader : Nat) (r_now : Nat) (r_trial : Nat) (r_images : Nat) (r_kept : Nat) (r_slots : Nat) (r_night : Nat) (r_other : Nat) (r_circle : Nat) (r_words : Nat) (r_law : Nat) (r_place : Nat) (r_drawn : Nat) (n_signs : Nat) (n_posts : Nat) (n_acts : Nat) (a1 : Int32)  : Met l yX11_post (Cond.code yX11_post cX11_post 2 (some .int) :: wsL_law) ({ frames := 1, cells := 0, slots := 0, locals := 25 }) (roP D (tyL cB cI cJ cZ cS cT) [(x0, .inr (11, [.ref r_tape, .ref r_reader, .ref r_now, .ref r_trial, .ref r_images, .ref r_kept, .ref r_slots, .ref r_night, .ref r_other, .ref r_circle, .ref r_words, .ref r_law, .ref r_place, .ref r_drawn])), (r_now, .inr (8, [.int 0, .int 0, .int 0, .int 0, .int 0, .int 0, .int 0, .ref n_signs, .int 0, .ref n_posts, .int 0, .ref n_acts]))] [.ref x0, .int a1]) (vp_Si (fun r : Int32 => r = (-2))) 0 0 (fun _ => False) := by
  refine Met.ofW (cc := cX11_post) (maxL := 2) (ret := (some .int)) (by decide) rfl ?_
  intro p e s m args below meth c s₁ B hml hv
  obtain ⟨rfl, hP, hK⟩ := hv
  have hx := B.exec
  have hb := B.bytes
  have hr := B.returns
  have hts : ∀ w ∈ wsL_law, w.before ([.ref x0, .int a1] : List Value).toArray s = true := fun w h => atoms_spec (ws := Cond.code yX11_post cX11_post 2 (some .int) :: wsL_law) B.pre w (List.mem_cons_of_mem _ h)
  have hown : s.vm.findClass RX11 = some m.cls := findClass_of_methodNamed B.named
  have hlocks := B.notSynchronized
  have hl := lv_entry ([.ref x0, .int a1]) (n := 2) (Nat.le_of_ble_eq_true rfl)
  rw [lg_entry_eq]
  generalize (lg_sl ([.ref x0, .int a1]) ++ List.replicate (2 - (lg_sl ([.ref x0, .int a1])).length) Slot.unset).toArray = ls at hl ⊢
  have hl : lv_has ls 2 [(0, .ref x0), (1, .int a1)] := hl
  have hP : va_P D vwCl [(x0, .inr (11, [.ref r_tape, .ref r_reader, .ref r_now, .ref r_trial, .ref r_images, .ref r_kept, .ref r_slots, .ref r_night, .ref r_other, .ref r_circle, .ref r_words, .ref r_law, .ref r_place, .ref r_drawn])), (r_now, .inr (8, [.int 0, .int 0, .int 0, .int 0, .int 0, .int 0, .int 0, .ref n_signs, .int 0, .ref n_posts, .int 0, .ref n_acts]))] s.heap := hP
  refine lv_iload_n hx hb dX11_post_0 rfl (lv_at hl 1 rfl) ?_
  obtain ⟨t_1, et_1⟩ : ∃ v9 : Int64, (a1 : Int32).toInt64 = v9 := ⟨_, rfl⟩
  refine lv_i2l (v := t_1) hx hb dX11_post_1 et_1 ?_
  have ft_1 : t_1.toInt = a1.toInt := by rw [← et_1]; exact Int32.toInt_toInt64 _
  refine lv_lconst (v := 0) hx hb dX11_post_2 (by decide) ?_
  refine lv_aload_n hx hb dX11_post_3 rfl (lv_at hl 0 rfl) ?_
  refine va_get (D := D) (ci := 11) (v := .ref r_now) (C := RX11) (T := TX11) (N := 14) hx hb hts inlX11 hown hK hP 0 rfl rfl 2 (by decide) (hts _ (inr2 _ (List.mem_of_getElem? (i := 0) rfl))) (fun _ h9 => h9) rfl dX11_post_4 ?_
  refine roi (As := []) (rest := [.long 0, .long t_1]) ⟨hx, hb, hml, hown, hts⟩ (k_St_postCount l D cB cI cJ cZ cS cT r_now 0 0 0 0 0 0 0 n_signs 0 n_posts 0 n_acts ) (cvB (n := 0) (inr21 _ (List.mem_of_getElem? (i := 17) rfl)) (inr16 _ (List.mem_of_getElem? (i := 6) rfl)) (inr16 _ (List.mem_of_getElem? (i := 7) rfl)) (inr1 _ (List.mem_of_getElem? (i := 23) rfl)) (inr16 _ (List.mem_of_getElem? (i := 8) rfl)) (by decide +kernel) hts rfl rfl ⟨Nat.le_of_ble_eq_true rfl, Nat.le_of_ble_eq_true rfl⟩) 0 8 rfl rfl rfl (hP.sub [1] rfl) hK rfl hl.1 rfl (Nat.le_of_ble_eq_true rfl) ⟨Nat.le_of_ble_eq_true rfl, Nat.le_of_ble_eq_true rfl⟩ dX11_post_7 (fun r_2 h_3 => ?_)
  obtain rfl := h_3
  refine lv_iconst (v := 1) hx hb dX11_post_10 (by decide) ?_
  refine z_isub (v := (-1)) hx hb dX11_post_11 (by decide) ?_
  refine lv_i2l (v := (-1)) hx hb dX11_post_12 (by decide) ?_
  refine rosi (As := [.long t_1, .long 0, .long (-1)]) (rest := []) ⟨hx, hb, hml, hown, hts⟩ (k_outside l D cB cI cJ cZ cS cT t_1 0 (-1) ) (csB (n := 3) (inr8 _ (List.mem_of_getElem? (i := 16) rfl)) (inr8 _ (List.mem_of_getElem? (i := 17) rfl)) (inr1 _ (List.mem_of_getElem? (i := 2) rfl)) (inr8 _ (List.mem_of_getElem? (i := 18) rfl)) (by decide +kernel) hts rfl rfl ⟨Nat.le_of_ble_eq_true rfl, Nat.le_of_ble_eq_true rfl⟩) (hP.sub [] rfl) hK rfl hl.1 rfl (Nat.le_of_ble_eq_true rfl) ⟨Nat.le_of_ble_eq_true rfl, Nat.le_of_ble_eq_true rfl⟩ dX11_post_13 (fun r_4 h_5 => ?_)
  rcases h_5 with ⟨rfl, k_6⟩ | ⟨rfl, k_6⟩
  · have k_6 : t_1.toInt < 0 ∨ (-1) < t_1.toInt := k_6
    refine lv_if_eq (tgt := 24) hx hb dX11_post_16 (by decide) (fun c0 => absurd c0 (by decide)) (fun _ => ?_)
    refine lv_bipush (v := (-2)) hx hb dX11_post_19 (by decide) ?_
    refine lv_goto (tgt := 32) hx hb dX11_post_21 (by decide) ?_
    exact W.iret (v := (-2)) hx hb hr (fun t ht hW => ⟨_, rfl, rfl, ht⟩) (fun _ h => by cases h) dX11_post_32
  · have k_6 : 0 ≤ t_1.toInt ∧ t_1.toInt ≤ (-1) := k_6
    omega

set_option maxHeartbeats 4000000 in
set_option maxRecDepth 100000 in
theorem kx_chance (l : Launch) (D : va_G) (cB cI cJ cZ cS cT : ClassId) (x0 : Nat) (r_tape : Nat) (r_reader : Nat) (r_now : Nat) (r_trial : Nat) (r_images : Nat) (r_kept : Nat) (r_slots : Nat) (r_night : Nat) (r_other : Nat) (r_circle : Nat) (r_words : Nat) (r_law : Nat) (r_place : Nat) (r_drawn : Nat) (n_signs : Nat) (n_posts : Nat) (n_acts : Nat) (a1 : Int32) (a2 : Int32)  : Met l yX11_chance (Cond.code yX11_chance cX11_chance 6 (some .long) :: wsL_law) ({ frames := 2, cells := 0, slots := 0, locals := 40 }) (roP D (tyL cB cI cJ cZ cS cT) [(x0, .inr (11, [.ref r_tape, .ref r_reader, .ref r_now, .ref r_trial, .ref r_images, .ref r_kept, .ref r_slots, .ref r_night, .ref r_other, .ref r_circle, .ref r_words, .ref r_law, .ref r_place, .ref r_drawn])), (r_now, .inr (8, [.int 0, .int 0, .int 0, .int 0, .int 0, .int 0, .int 0, .ref n_signs, .int 0, .ref n_posts, .int 0, .ref n_acts]))] [.ref x0, .int a1, .int a2]) (vp_Sl (fun r : Int64 => r = -2)) 0 0 (fun _ => False) := by
  refine Met.ofW (cc := cX11_chance) (maxL := 6) (ret := (some .long)) (by decide) rfl ?_
  intro p e s m args below meth c s₁ B hml hv
  obtain ⟨rfl, hP, hK⟩ := hv
  have hx := B.exec
  have hb := B.bytes
  have hr := B.returns
  have hts : ∀ w ∈ wsL_law, w.before ([.ref x0, .int a1, .int a2] : List Value).toArray s = true := fun w h => atoms_spec (ws := Cond.code yX11_chance cX11_chance 6 (some .long) :: wsL_law) B.pre w (List.mem_cons_of_mem _ h)
  have hown : s.vm.findClass RX11 = some m.cls := findClass_of_methodNamed B.named
  have hlocks := B.notSynchronized
  have hl := lv_entry ([.ref x0, .int a1, .int a2]) (n := 6) (Nat.le_of_ble_eq_true rfl)
  rw [lg_entry_eq]
  generalize (lg_sl ([.ref x0, .int a1, .int a2]) ++ List.replicate (6 - (lg_sl ([.ref x0, .int a1, .int a2])).length) Slot.unset).toArray = ls at hl ⊢
  have hl : lv_has ls 6 [(0, .ref x0), (1, .int a1), (2, .int a2)] := hl
  have hP : va_P D vwCl [(x0, .inr (11, [.ref r_tape, .ref r_reader, .ref r_now, .ref r_trial, .ref r_images, .ref r_kept, .ref r_slots, .ref r_night, .ref r_other, .ref r_circle, .ref r_words, .ref r_law, .ref r_place, .ref r_drawn])), (r_now, .inr (8, [.int 0, .int 0, .int 0, .int 0, .int 0, .int 0, .int 0, .ref n_signs, .int 0, .ref n_posts, .int 0, .ref n_acts]))] s.heap := hP
  refine lv_aload_n hx hb dX11_chance_0 rfl (lv_at hl 0 rfl) ?_
  refine roi (As := []) (rest := []) ⟨hx, hb, hml, hown, hts⟩ (k_noStation l D cB cI cJ cZ cS cT x0 r_tape r_reader r_now r_trial r_images r_kept r_slots r_night r_other r_circle r_words r_law r_place r_drawn n_signs n_posts n_acts ) (cvB (n := 0) (inr22 _ (List.mem_of_getElem? (i := 11) rfl)) (inr22 _ (List.mem_of_getElem? (i := 12) rfl)) (inr22 _ (List.mem_of_getElem? (i := 13) rfl)) (inr1 _ (List.mem_of_getElem? (i := 2) rfl)) (inr22 _ (List.mem_of_getElem? (i := 14) rfl)) (by decide +kernel) hts rfl rfl ⟨Nat.le_of_ble_eq_true rfl, Nat.le_of_ble_eq_true rfl⟩) 0 11 rfl rfl rfl (hP.sub [0, 1] rfl) hK rfl hl.1 rfl (Nat.le_of_ble_eq_true rfl) ⟨Nat.le_of_ble_eq_true rfl, Nat.le_of_ble_eq_true rfl⟩ dX11_chance_1 (fun r_1 h_2 => ?_)
  obtain rfl := h_2
  refine lv_if_ne (tgt := 29) hx hb dX11_chance_4 (by decide) (fun _ => ?_) (fun c0 => absurd c0 (by decide))
  refine lv_ldc2 hx hb hown (hts _ (inr64 _ (List.mem_of_getElem? (i := 2) rfl))) dX11_chance_29 ?_
  exact W.lret (v := (-2)) hx hb hr (fun t ht hW => ⟨_, rfl, rfl, ht⟩) (fun _ h => by cases h) dX11_chance_32
