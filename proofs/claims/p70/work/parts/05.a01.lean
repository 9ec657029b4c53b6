theorem dJ0_charAt_5068e_0 : decode cJ0_charAt_5068e 0 = .ok (.aload_n 0, 1) := by decide +kernel
theorem dJ0_charAt_5068e_1 : decode cJ0_charAt_5068e 1 = .ok (.invokevirtual 492, 3) := by decide +kernel
theorem dJ0_charAt_5068e_11 : decode cJ0_charAt_5068e 11 = .ok (.iload_n 1, 1) := by decide +kernel
theorem dJ0_charAt_5068e_12 : decode cJ0_charAt_5068e 12 = .ok (.invokestatic 495, 3) := by decide +kernel
theorem dJ0_charAt_5068e_15 : decode cJ0_charAt_5068e 15 = .ok (.ireturn, 1) := by decide +kernel
theorem dJ0_charAt_5068e_4 : decode cJ0_charAt_5068e 4 = .ok (.ifCond .eq 12, 3) := by decide +kernel
theorem dJ0_charAt_5068e_7 : decode cJ0_charAt_5068e 7 = .ok (.aload_n 0, 1) := by decide +kernel
theorem dJ0_charAt_5068e_8 : decode cJ0_charAt_5068e 8 = .ok (.getfield 9, 3) := by decide +kernel
theorem dJ0_checkIndex_df160_0 : decode cJ0_checkIndex_df160 0 = .ok (.iload_n 0, 1) := by decide +kernel
theorem dJ0_checkIndex_df160_1 : decode cJ0_checkIndex_df160 1 = .ok (.iload_n 1, 1) := by decide +kernel
theorem dJ0_checkIndex_df160_2 : decode cJ0_checkIndex_df160 2 = .ok (.getstatic 1053, 3) := by decide +kernel
theorem dJ0_checkIndex_df160_5 : decode cJ0_checkIndex_df160 5 = .ok (.invokestatic 1059, 3) := by decide +kernel
theorem dJ0_checkIndex_df160_8 : decode cJ0_checkIndex_df160 8 = .ok (.pop, 1) := by decide +kernel
theorem dJ0_checkIndex_df160_9 : decode cJ0_checkIndex_df160 9 = .ok (.return_, 1) := by decide +kernel
theorem dJ0_coder_7d493_0 : decode cJ0_coder_7d493 0 = .ok (.getstatic 38, 3) := by decide +kernel
theorem dJ0_coder_7d493_10 : decode cJ0_coder_7d493 10 = .ok (.goto 4, 3) := by decide +kernel
theorem dJ0_coder_7d493_14 : decode cJ0_coder_7d493 14 = .ok (.ireturn, 1) := by decide +kernel
theorem dJ0_coder_7d493_3 : decode cJ0_coder_7d493 3 = .ok (.ifCond .eq 10, 3) := by decide +kernel
theorem dJ0_coder_7d493_6 : decode cJ0_coder_7d493 6 = .ok (.aload_n 0, 1) := by decide +kernel
theorem dJ0_coder_7d493_7 : decode cJ0_coder_7d493 7 = .ok (.getfield 15, 3) := by decide +kernel
theorem dJ0_isLatin1_aae02_0 : decode cJ0_isLatin1_aae02 0 = .ok (.getstatic 38, 3) := by decide +kernel
theorem dJ0_isLatin1_aae02_10 : decode cJ0_isLatin1_aae02 10 = .ok (.ifCond .ne 7, 3) := by decide +kernel
theorem dJ0_isLatin1_aae02_13 : decode cJ0_isLatin1_aae02 13 = .ok (.iconst 1, 1) := by decide +kernel
theorem dJ0_isLatin1_aae02_14 : decode cJ0_isLatin1_aae02 14 = .ok (.goto 4, 3) := by decide +kernel
theorem dJ0_isLatin1_aae02_18 : decode cJ0_isLatin1_aae02 18 = .ok (.ireturn, 1) := by decide +kernel
theorem dJ0_isLatin1_aae02_3 : decode cJ0_isLatin1_aae02 3 = .ok (.ifCond .eq 14, 3) := by decide +kernel
theorem dJ0_isLatin1_aae02_6 : decode cJ0_isLatin1_aae02 6 = .ok (.aload_n 0, 1) := by decide +kernel
theorem dJ0_isLatin1_aae02_7 : decode cJ0_isLatin1_aae02 7 = .ok (.getfield 15, 3) := by decide +kernel
theorem dJ0_length_8abf5_0 : decode cJ0_length_8abf5 0 = .ok (.aload_n 0, 1) := by decide +kernel
theorem dJ0_length_8abf5_1 : decode cJ0_length_8abf5 1 = .ok (.getfield 9, 3) := by decide +kernel
theorem dJ0_length_8abf5_10 : decode cJ0_length_8abf5 10 = .ok (.ireturn, 1) := by decide +kernel
theorem dJ0_length_8abf5_4 : decode cJ0_length_8abf5 4 = .ok (.arraylength, 1) := by decide +kernel
theorem dJ0_length_8abf5_5 : decode cJ0_length_8abf5 5 = .ok (.aload_n 0, 1) := by decide +kernel
theorem dJ0_length_8abf5_6 : decode cJ0_length_8abf5 6 = .ok (.invokevirtual 335, 3) := by decide +kernel
theorem dJ0_length_8abf5_9 : decode cJ0_length_8abf5 9 = .ok (.ishr, 1) := by decide +kernel
theorem dJ1_charAt_3b067_0 : decode cJ1_charAt_3b067 0 = .ok (.iload_n 1, 1) := by decide +kernel
theorem dJ1_charAt_3b067_1 : decode cJ1_charAt_3b067 1 = .ok (.aload_n 0, 1) := by decide +kernel
theorem dJ1_charAt_3b067_12 : decode cJ1_charAt_3b067 12 = .ok (.iand, 1) := by decide +kernel
theorem dJ1_charAt_3b067_13 : decode cJ1_charAt_3b067 13 = .ok (.i2c, 1) := by decide +kernel
theorem dJ1_charAt_3b067_14 : decode cJ1_charAt_3b067 14 = .ok (.ireturn, 1) := by decide +kernel
theorem dJ1_charAt_3b067_2 : decode cJ1_charAt_3b067 2 = .ok (.arraylength, 1) := by decide +kernel
theorem dJ1_charAt_3b067_3 : decode cJ1_charAt_3b067 3 = .ok (.invokestatic 9, 3) := by decide +kernel
theorem dJ1_charAt_3b067_6 : decode cJ1_charAt_3b067 6 = .ok (.aload_n 0, 1) := by decide +kernel
theorem dJ1_charAt_3b067_7 : decode cJ1_charAt_3b067 7 = .ok (.iload_n 1, 1) := by decide +kernel
theorem dJ1_charAt_3b067_8 : decode cJ1_charAt_3b067 8 = .ok (.baload, 1) := by decide +kernel
theorem dJ1_charAt_3b067_9 : decode cJ1_charAt_3b067 9 = .ok (.sipush 255, 3) := by decide +kernel
theorem dJ3_checkIndex_8e157_0 : decode cJ3_checkIndex_8e157 0 = .ok (.iload_n 0, 1) := by decide +kernel
theorem dJ3_checkIndex_8e157_1 : decode cJ3_checkIndex_8e157 1 = .ok (.ifCond .lt 8, 3) := by decide +kernel
theorem dJ3_checkIndex_8e157_16 : decode cJ3_checkIndex_8e157 16 = .ok (.iload_n 0, 1) := by decide +kernel
theorem dJ3_checkIndex_8e157_17 : decode cJ3_checkIndex_8e157 17 = .ok (.ireturn, 1) := by decide +kernel
theorem dJ3_checkIndex_8e157_4 : decode cJ3_checkIndex_8e157 4 = .ok (.iload_n 0, 1) := by decide +kernel
theorem dJ3_checkIndex_8e157_5 : decode cJ3_checkIndex_8e157 5 = .ok (.iload_n 1, 1) := by decide +kernel
theorem dJ3_checkIndex_8e157_6 : decode cJ3_checkIndex_8e157 6 = .ok (.if_icmp .lt 10, 3) := by decide +kernel
theorem dJ6_bitCount_0f7a4_0 : decode cJ6_bitCount_0f7a4 0 = .ok (.iload_n 0, 1) := by decide +kernel
theorem dJ6_bitCount_0f7a4_1 : decode cJ6_bitCount_0f7a4 1 = .ok (.iload_n 0, 1) := by decide +kernel
theorem dJ6_bitCount_0f7a4_10 : decode cJ6_bitCount_0f7a4 10 = .ok (.iload_n 0, 1) := by decide +kernel
theorem dJ6_bitCount_0f7a4_11 : decode cJ6_bitCount_0f7a4 11 = .ok (.ldc_w 266, 3) := by decide +kernel
theorem dJ6_bitCount_0f7a4_14 : decode cJ6_bitCount_0f7a4 14 = .ok (.iand, 1) := by decide +kernel
theorem dJ6_bitCount_0f7a4_15 : decode cJ6_bitCount_0f7a4 15 = .ok (.iload_n 0, 1) := by decide +kernel
theorem dJ6_bitCount_0f7a4_16 : decode cJ6_bitCount_0f7a4 16 = .ok (.iconst 2, 1) := by decide +kernel
theorem dJ6_bitCount_0f7a4_17 : decode cJ6_bitCount_0f7a4 17 = .ok (.iushr, 1) := by decide +kernel
theorem dJ6_bitCount_0f7a4_18 : decode cJ6_bitCount_0f7a4 18 = .ok (.ldc_w 266, 3) := by decide +kernel
theorem dJ6_bitCount_0f7a4_2 : decode cJ6_bitCount_0f7a4 2 = .ok (.iconst 1, 1) := by decide +kernel
theorem dJ6_bitCount_0f7a4_21 : decode cJ6_bitCount_0f7a4 21 = .ok (.iand, 1) := by decide +kernel
theorem dJ6_bitCount_0f7a4_22 : decode cJ6_bitCount_0f7a4 22 = .ok (.iadd, 1) := by decide +kernel
theorem dJ6_bitCount_0f7a4_23 : decode cJ6_bitCount_0f7a4 23 = .ok (.istore_n 0, 1) := by decide +kernel
theorem dJ6_bitCount_0f7a4_24 : decode cJ6_bitCount_0f7a4 24 = .ok (.iload_n 0, 1) := by decide +kernel
theorem dJ6_bitCount_0f7a4_25 : decode cJ6_bitCount_0f7a4 25 = .ok (.iload_n 0, 1) := by decide +kernel
theorem dJ6_bitCount_0f7a4_26 : decode cJ6_bitCount_0f7a4 26 = .ok (.iconst 4, 1) := by decide +kernel
theorem dJ6_bitCount_0f7a4_27 : decode cJ6_bitCount_0f7a4 27 = .ok (.iushr, 1) := by decide +kernel
theorem dJ6_bitCount_0f7a4_28 : decode cJ6_bitCount_0f7a4 28 = .ok (.iadd, 1) := by decide +kernel
theorem dJ6_bitCount_0f7a4_29 : decode cJ6_bitCount_0f7a4 29 = .ok (.ldc_w 267, 3) := by decide +kernel
theorem dJ6_bitCount_0f7a4_3 : decode cJ6_bitCount_0f7a4 3 = .ok (.iushr, 1) := by decide +kernel
theorem dJ6_bitCount_0f7a4_32 : decode cJ6_bitCount_0f7a4 32 = .ok (.iand, 1) := by decide +kernel
theorem dJ6_bitCount_0f7a4_33 : decode cJ6_bitCount_0f7a4 33 = .ok (.istore_n 0, 1) := by decide +kernel
theorem dJ6_bitCount_0f7a4_34 : decode cJ6_bitCount_0f7a4 34 = .ok (.iload_n 0, 1) := by decide +kernel
theorem dJ6_bitCount_0f7a4_35 : decode cJ6_bitCount_0f7a4 35 = .ok (.iload_n 0, 1) := by decide +kernel
theorem dJ6_bitCount_0f7a4_36 : decode cJ6_bitCount_0f7a4 36 = .ok (.bipush 8, 2) := by decide +kernel
theorem dJ6_bitCount_0f7a4_38 : decode cJ6_bitCount_0f7a4 38 = .ok (.iushr, 1) := by decide +kernel
theorem dJ6_bitCount_0f7a4_39 : decode cJ6_bitCount_0f7a4 39 = .ok (.iadd, 1) := by decide +kernel
theorem dJ6_bitCount_0f7a4_4 : decode cJ6_bitCount_0f7a4 4 = .ok (.ldc_w 265, 3) := by decide +kernel
theorem dJ6_bitCount_0f7a4_40 : decode cJ6_bitCount_0f7a4 40 = .ok (.istore_n 0, 1) := by decide +kernel
theorem dJ6_bitCount_0f7a4_41 : decode cJ6_bitCount_0f7a4 41 = .ok (.iload_n 0, 1) := by decide +kernel
theorem dJ6_bitCount_0f7a4_42 : decode cJ6_bitCount_0f7a4 42 = .ok (.iload_n 0, 1) := by decide +kernel
theorem dJ6_bitCount_0f7a4_43 : decode cJ6_bitCount_0f7a4 43 = .ok (.bipush 16, 2) := by decide +kernel
theorem dJ6_bitCount_0f7a4_45 : decode cJ6_bitCount_0f7a4 45 = .ok (.iushr, 1) := by decide +kernel
theorem dJ6_bitCount_0f7a4_46 : decode cJ6_bitCount_0f7a4 46 = .ok (.iadd, 1) := by decide +kernel
theorem dJ6_bitCount_0f7a4_47 : decode cJ6_bitCount_0f7a4 47 = .ok (.istore_n 0, 1) := by decide +kernel
theorem dJ6_bitCount_0f7a4_48 : decode cJ6_bitCount_0f7a4 48 = .ok (.iload_n 0, 1) := by decide +kernel
theorem dJ6_bitCount_0f7a4_49 : decode cJ6_bitCount_0f7a4 49 = .ok (.bipush 63, 2) := by decide +kernel
theorem dJ6_bitCount_0f7a4_51 : decode cJ6_bitCount_0f7a4 51 = .ok (.iand, 1) := by decide +kernel
theorem dJ6_bitCount_0f7a4_52 : decode cJ6_bitCount_0f7a4 52 = .ok (.ireturn, 1) := by decide +kernel
theorem dJ6_bitCount_0f7a4_7 : decode cJ6_bitCount_0f7a4 7 = .ok (.iand, 1) := by decide +kernel
theorem dJ6_bitCount_0f7a4_8 : decode cJ6_bitCount_0f7a4 8 = .ok (.isub, 1) := by decide +kernel
theorem dJ6_bitCount_0f7a4_9 : decode cJ6_bitCount_0f7a4 9 = .ok (.istore_n 0, 1) := by decide +kernel
theorem dJ7_fill_53178_0 : decode cJ7_fill_53178 0 = .ok (.iconst 0, 1) := by decide +kernel
theorem dJ7_fill_53178_1 : decode cJ7_fill_53178 1 = .ok (.istore_n 2, 1) := by decide +kernel
theorem dJ7_fill_53178_10 : decode cJ7_fill_53178 10 = .ok (.aload_n 0, 1) := by decide +kernel
theorem dJ7_fill_53178_11 : decode cJ7_fill_53178 11 = .ok (.iload_n 2, 1) := by decide +kernel
theorem dJ7_fill_53178_12 : decode cJ7_fill_53178 12 = .ok (.iload_n 1, 1) := by decide +kernel
theorem dJ7_fill_53178_13 : decode cJ7_fill_53178 13 = .ok (.iastore, 1) := by decide +kernel
theorem dJ7_fill_53178_14 : decode cJ7_fill_53178 14 = .ok (.iinc 2 1, 3) := by decide +kernel
theorem dJ7_fill_53178_17 : decode cJ7_fill_53178 17 = .ok (.goto (-12), 3) := by decide +kernel
theorem dJ7_fill_53178_2 : decode cJ7_fill_53178 2 = .ok (.aload_n 0, 1) := by decide +kernel
theorem dJ7_fill_53178_20 : decode cJ7_fill_53178 20 = .ok (.return_, 1) := by decide +kernel
theorem dJ7_fill_53178_3 : decode cJ7_fill_53178 3 = .ok (.arraylength, 1) := by decide +kernel
theorem dJ7_fill_53178_4 : decode cJ7_fill_53178 4 = .ok (.istore_n 3, 1) := by decide +kernel
theorem dJ7_fill_53178_5 : decode cJ7_fill_53178 5 = .ok (.iload_n 2, 1) := by decide +kernel
theorem dJ7_fill_53178_6 : decode cJ7_fill_53178 6 = .ok (.iload_n 3, 1) := by decide +kernel
theorem dJ7_fill_53178_7 : decode cJ7_fill_53178 7 = .ok (.if_icmp .ge 13, 3) := by decide +kernel
theorem dJ7_fill_d0a16_0 : decode cJ7_fill_d0a16 0 = .ok (.iconst 0, 1) := by decide +kernel
theorem dJ7_fill_d0a16_1 : decode cJ7_fill_d0a16 1 = .ok (.istore_n 3, 1) := by decide +kernel
theorem dJ7_fill_d0a16_12 : decode cJ7_fill_d0a16 12 = .ok (.aload_n 0, 1) := by decide +kernel
theorem dJ7_fill_d0a16_13 : decode cJ7_fill_d0a16 13 = .ok (.iload_n 3, 1) := by decide +kernel
theorem dJ7_fill_d0a16_14 : decode cJ7_fill_d0a16 14 = .ok (.lload_n 1, 1) := by decide +kernel
theorem dJ7_fill_d0a16_15 : decode cJ7_fill_d0a16 15 = .ok (.lastore, 1) := by decide +kernel
theorem dJ7_fill_d0a16_16 : decode cJ7_fill_d0a16 16 = .ok (.iinc 3 1, 3) := by decide +kernel
theorem dJ7_fill_d0a16_19 : decode cJ7_fill_d0a16 19 = .ok (.goto (-13), 3) := by decide +kernel
theorem dJ7_fill_d0a16_2 : decode cJ7_fill_d0a16 2 = .ok (.aload_n 0, 1) := by decide +kernel
theorem dJ7_fill_d0a16_22 : decode cJ7_fill_d0a16 22 = .ok (.return_, 1) := by decide +kernel
theorem dJ7_fill_d0a16_3 : decode cJ7_fill_d0a16 3 = .ok (.arraylength, 1) := by decide +kernel
theorem dJ7_fill_d0a16_4 : decode cJ7_fill_d0a16 4 = .ok (.istore 4, 2) := by decide +kernel
theorem dJ7_fill_d0a16_6 : decode cJ7_fill_d0a16 6 = .ok (.iload_n 3, 1) := by decide +kernel
theorem dJ7_fill_d0a16_7 : decode cJ7_fill_d0a16 7 = .ok (.iload 4, 2) := by decide +kernel
theorem dJ7_fill_d0a16_9 : decode cJ7_fill_d0a16 9 = .ok (.if_icmp .ge 13, 3) := by decide +kernel
set_option maxHeartbeats 4000000 in
set_option maxRecDepth 100000 in
theorem b_coder (l : Launch) (G : Gho) (D : va_G) (cB cI cJ cZ cS cT : ClassId) (j : Nat) (hj : j < 11) : Met l yJ0_coder_7d493 (Cond.code yJ0_coder_7d493 cJ0_coder_7d493 1 (some .byte) :: wsL_law) ({ frames := 0, cells := 0, slots := 0, locals := 0 }) (roP G D (tyL cB cI cJ cZ cS cT) [] [.ref (G.2.1 j)]) (vp_Si (fun r : Int32 => r = 0)) 0 0 (fun _ => False) := by
  refine metROT (own := RJ0) (by decide) rfl (fun r h => by rw [h]; rfl) ?_
  intro p e s m below meth c Q C hP ret
  obtain ⟨hx, hb, hml, hown, hts, hK, hN, hT⟩ := id C
  have hl := lv_entry ([.ref (G.2.1 j)]) (n := 1) (Nat.le_of_ble_eq_true rfl)
  rw [lg_entry_eq]
  generalize (lg_sl ([.ref (G.2.1 j)]) ++ List.replicate (1 - (lg_sl ([.ref (G.2.1 j)])).length) Slot.unset).toArray = ls at hl ⊢
  have hl : lv_has ls 1 [(0, .ref (G.2.1 j))] := hl
  have hP : va_P D vwCl [] s.heap := hP
  have hjl := strL_lt j hj
  have hnj : (nI (strL.getD j 0)).toInt = ((strL.getD j 0 : Nat) : Int) := nI_toInt (by omega)
  refine va_gets hx hb hT.2.2.1 va_S.rf hown (hts _ (inr13 _ (List.mem_of_getElem? (i := 4) rfl))) (fun _ h9 => h9) dJ0_coder_7d493_0 ?_
  refine lv_if_eq (tgt := 13) hx hb dJ0_coder_7d493_3 (by decide) (fun c0 => absurd c0 (by decide)) (fun _ => ?_)
  refine lv_aload_n hx hb dJ0_coder_7d493_6 rfl (lv_at hl 0 rfl) ?_
  refine vk_getf hx hb ((hT.1.1 j hj).2.1) va_S.rf hown (hts _ (inr13 _ (List.mem_of_getElem? (i := 5) rfl))) (fun _ h9 => h9) dJ0_coder_7d493_7 ?_
  refine lv_goto (tgt := 14) hx hb dJ0_coder_7d493_10 (by decide) ?_
  exact ret _ _ 0 dJ0_coder_7d493_14 rfl

set_option maxHeartbeats 4000000 in
set_option maxRecDepth 100000 in
theorem b_isLatin1 (l : Launch) (G : Gho) (D : va_G) (cB cI cJ cZ cS cT : ClassId) (j : Nat) (hj : j < 11) : Met l yJ0_isLatin1_aae02 (Cond.code yJ0_isLatin1_aae02 cJ0_isLatin1_aae02 1 (some .boolean) :: wsL_law) ({ frames := 0, cells := 0, slots := 0, locals := 0 }) (roP G D (tyL cB cI cJ cZ cS cT) [] [.ref (G.2.1 j)]) (vp_Si (fun r : Int32 => r = 1)) 0 0 (fun _ => False) := by
  refine metROT (own := RJ0) (by decide) rfl (fun r h => by rw [h]; rfl) ?_
  intro p e s m below meth c Q C hP ret
  obtain ⟨hx, hb, hml, hown, hts, hK, hN, hT⟩ := id C
  have hl := lv_entry ([.ref (G.2.1 j)]) (n := 1) (Nat.le_of_ble_eq_true rfl)
  rw [lg_entry_eq]
  generalize (lg_sl ([.ref (G.2.1 j)]) ++ List.replicate (1 - (lg_sl ([.ref (G.2.1 j)])).length) Slot.unset).toArray = ls at hl ⊢
  have hl : lv_has ls 1 [(0, .ref (G.2.1 j))] := hl
  have hP : va_P D vwCl [] s.heap := hP
  have hjl := strL_lt j hj
  have hnj : (nI (strL.getD j 0)).toInt = ((strL.getD j 0 : Nat) : Int) := nI_toInt (by omega)
  refine va_gets hx hb hT.2.2.1 va_S.rf hown (hts _ (inr13 _ (List.mem_of_getElem? (i := 4) rfl))) (fun _ h9 => h9) dJ0_isLatin1_aae02_0 ?_
  refine lv_if_eq (tgt := 17) hx hb dJ0_isLatin1_aae02_3 (by decide) (fun c0 => absurd c0 (by decide)) (fun _ => ?_)
  refine lv_aload_n hx hb dJ0_isLatin1_aae02_6 rfl (lv_at hl 0 rfl) ?_
  refine vk_getf hx hb ((hT.1.1 j hj).2.1) va_S.rf hown (hts _ (inr13 _ (List.mem_of_getElem? (i := 5) rfl))) (fun _ h9 => h9) dJ0_isLatin1_aae02_7 ?_
  refine lv_if_ne (tgt := 17) hx hb dJ0_isLatin1_aae02_10 (by decide) (fun c0 => absurd c0 (by decide)) (fun _ => ?_)
  refine lv_iconst (v := 1) hx hb dJ0_isLatin1_aae02_13 (by decide) ?_
  refine lv_goto (tgt := 18) hx hb dJ0_isLatin1_aae02_14 (by decide) ?_
  exact ret _ _ 1 dJ0_isLatin1_aae02_18 rfl

set_option maxHeartbeats 4000000 in
set_option maxRecDepth 100000 in
theorem b_length (l : Launch) (G : Gho) (D : va_G) (cB cI cJ cZ cS cT : ClassId) (j : Nat) (hj : j < 11) : Met l yJ0_length_8abf5 (Cond.code yJ0_length_8abf5 cJ0_length_8abf5 1 (some .int) :: wsL_law) ({ frames := 1, cells := 0, slots := 0, locals := 20 }) (roP G D (tyL cB cI cJ cZ cS cT) [] [.ref (G.2.1 j)]) (vp_Si (fun r : Int32 => r.toInt = ((strL.getD j 0 : Nat) : Int))) 0 0 (fun _ => False) := by
  refine metRO (own := RJ0) (by decide) rfl ?_
  intro p e s m below meth c Q C hP ret
  obtain ⟨hx, hb, hml, hown, hts, hK, hN, hT⟩ := id C
  have hl := lv_entry ([.ref (G.2.1 j)]) (n := 1) (Nat.le_of_ble_eq_true rfl)
  rw [lg_entry_eq]
  generalize (lg_sl ([.ref (G.2.1 j)]) ++ List.replicate (1 - (lg_sl ([.ref (G.2.1 j)])).length) Slot.unset).toArray = ls at hl ⊢
  have hl : lv_has ls 1 [(0, .ref (G.2.1 j))] := hl
  have hP : va_P D vwCl [] s.heap := hP
  have hjl := strL_lt j hj
  have hnj : (nI (strL.getD j 0)).toInt = ((strL.getD j 0 : Nat) : Int) := nI_toInt (by omega)
  refine lv_aload_n hx hb dJ0_length_8abf5_0 rfl (lv_at hl 0 rfl) ?_
  refine vk_getf hx hb ((hT.1.1 j hj).2.2.1) va_S.rf hown (hts _ (inr12 _ (List.mem_of_getElem? (i := 23) rfl))) (fun _ h9 => h9) dJ0_length_8abf5_1 ?_
  refine va_tlen (v := nI (strL.getD j 0)) hx hb (hT.1.1 j hj).2.2.2 va_S.rf rfl dJ0_length_8abf5_4 ?_
  refine lv_aload_n hx hb dJ0_length_8abf5_5 rfl (lv_at hl 0 rfl) ?_
  refine roSi (As := []) (rest := [.int (nI (strL.getD j 0))]) ⟨hx, hb, hml, hown, hts⟩ (b_coder l G D cB cI cJ cZ cS cT j (by first | assumption | omega | decide)) (cvB (n := 0) (inr13 _ (List.mem_of_getElem? (i := 0) rfl)) (inr13 _ (List.mem_of_getElem? (i := 1) rfl)) (inr13 _ (List.mem_of_getElem? (i := 2) rfl)) (inr12 _ (List.mem_of_getElem? (i := 21) rfl)) (inr13 _ (List.mem_of_getElem? (i := 3) rfl)) (by decide +kernel) hts rfl rfl ⟨Nat.le_of_ble_eq_true rfl, Nat.le_of_ble_eq_true rfl⟩) (by first | assumption | decide) (hP.sub [] rfl) hK hN hT rfl hl.1 rfl (Nat.le_of_ble_eq_true rfl) ⟨Nat.le_of_ble_eq_true rfl, Nat.le_of_ble_eq_true rfl⟩ dJ0_length_8abf5_6 (fun r_1 h_2 => ?_)
  have h_2 : (r_1 = 0) := h_2
  have i_3 := h_2
  obtain rfl := i_3
  obtain ⟨t_4, et_4⟩ : ∃ v9 : Int32, (nI (strL.getD j 0)) >>> (0 &&& 31) = v9 := ⟨_, rfl⟩
  refine z_ishr (v := t_4) hx hb dJ0_length_8abf5_9 et_4 ?_
  exact ret _ _ t_4 dJ0_length_8abf5_10 (strShr j hj _ (by first | exact et_4 | (rw [← et_4])))

set_option maxHeartbeats 4000000 in
set_option maxRecDepth 100000 in
theorem b_chkN (l : Launch) (G : Gho) (D : va_G) (cB cI cJ cZ cS cT : ClassId) (i : Int32) (n : Int32) (h0 : 0 ≤ i.toInt) (h1 : i.toInt < n.toInt) : Met l yJ3_checkIndex_8e157 (Cond.code yJ3_checkIndex_8e157 cJ3_checkIndex_8e157 3 (some .int) :: wsL_law) ({ frames := 0, cells := 0, slots := 0, locals := 0 }) (roP G D (tyL cB cI cJ cZ cS cT) [] [.int i, .int n, .null]) (vp_Si (fun r : Int32 => True)) 0 0 (fun _ => False) := by
  refine metRO (own := RJ3) (by decide) rfl ?_
  intro p e s m below meth c Q C hP ret
  obtain ⟨hx, hb, hml, hown, hts, hK, hN, hT⟩ := id C
  have hl := lv_entry ([.int i, .int n, .null]) (n := 3) (Nat.le_of_ble_eq_true rfl)
  rw [lg_entry_eq]
  generalize (lg_sl ([.int i, .int n, .null]) ++ List.replicate (3 - (lg_sl ([.int i, .int n, .null])).length) Slot.unset).toArray = ls at hl ⊢
  have hl : lv_has ls 3 [(0, .int i), (1, .int n), (2, .null)] := hl
  have hP : va_P D vwCl [] s.heap := hP
  refine lv_iload_n hx hb dJ3_checkIndex_8e157_0 rfl (lv_at hl 0 rfl) ?_
  refine lv_if_lt (tgt := 9) hx hb dJ3_checkIndex_8e157_1 (by decide) (fun c_1 => ?_) (fun c_1 => ?_)
  · have c_1 : i.toInt < 0 := ci_lt_t c_1
    have b_i := i32b i
    exfalso
    omega
  · have c_1 : 0 ≤ i.toInt := ci_lt_f c_1
    have b_i := i32b i
    refine lv_iload_n hx hb dJ3_checkIndex_8e157_4 rfl (lv_at hl 0 rfl) ?_
    refine lv_iload_n hx hb dJ3_checkIndex_8e157_5 rfl (lv_at hl 1 rfl) ?_
    refine lv_icmp_lt (tgt := 16) hx hb dJ3_checkIndex_8e157_6 (by decide) (fun c_2 => ?_) (fun c_2 => ?_)
    · have c_2 : i.toInt < n.toInt := ci_lt_t c_2
      have b_n := i32b n
      refine lv_iload_n hx hb dJ3_checkIndex_8e157_16 rfl (lv_at hl 0 rfl) ?_
      exact ret _ _ i dJ3_checkIndex_8e157_17 trivial
    · have c_2 : n.toInt ≤ i.toInt := ci_lt_f c_2
      have b_n := i32b n
      exfalso
      omega

set_option maxHeartbeats 4000000 in
set_option maxRecDepth 100000 in
theorem b_chkR (l : Launch) (G : Gho) (D : va_G) (cB cI cJ cZ cS cT : ClassId) (i : Int32) (n : Int32) (tz : Nat) (h0 : 0 ≤ i.toInt) (h1 : i.toInt < n.toInt) : Met l yJ3_checkIndex_8e157 (Cond.code yJ3_checkIndex_8e157 cJ3_checkIndex_8e157 3 (some .int) :: wsL_law) ({ frames := 0, cells := 0, slots := 0, locals := 0 }) (roP G D (tyL cB cI cJ cZ cS cT) [] [.int i, .int n, .ref tz]) (vp_Si (fun r : Int32 => True)) 0 0 (fun _ => False) := by
  refine metRO (own := RJ3) (by decide) rfl ?_
  intro p e s m below meth c Q C hP ret
  obtain ⟨hx, hb, hml, hown, hts, hK, hN, hT⟩ := id C
  have hl := lv_entry ([.int i, .int n, .ref tz]) (n := 3) (Nat.le_of_ble_eq_true rfl)
  rw [lg_entry_eq]
  generalize (lg_sl ([.int i, .int n, .ref tz]) ++ List.replicate (3 - (lg_sl ([.int i, .int n, .ref tz])).length) Slot.unset).toArray = ls at hl ⊢
  have hl : lv_has ls 3 [(0, .int i), (1, .int n), (2, .ref tz)] := hl
  have hP : va_P D vwCl [] s.heap := hP
  refine lv_iload_n hx hb dJ3_checkIndex_8e157_0 rfl (lv_at hl 0 rfl) ?_
  refine lv_if_lt (tgt := 9) hx hb dJ3_checkIndex_8e157_1 (by decide) (fun c_1 => ?_) (fun c_1 => ?_)
  · have c_1 : i.toInt < 0 := ci_lt_t c_1
    have b_i := i32b i
    exfalso
    omega
  · have c_1 : 0 ≤ i.toInt := ci_lt_f c_1
    have b_i := i32b i
    refine lv_iload_n hx hb dJ3_checkIndex_8e157_4 rfl (lv_at hl 0 rfl) ?_
    refine lv_iload_n hx hb dJ3_checkIndex_8e157_5 rfl (lv_at hl 1 rfl) ?_
    refine lv_icmp_lt (tgt := 16) hx hb dJ3_checkIndex_8e157_6 (by decide) (fun c_2 => ?_) (fun c_2 => ?_)
    · have c_2 : i.toInt < n.toInt := ci_lt_t c_2
      have b_n := i32b n
      refine lv_iload_n hx hb dJ3_checkIndex_8e157_16 rfl (lv_at hl 0 rfl) ?_
      exact ret _ _ i dJ3_checkIndex_8e157_17 trivial
    · have c_2 : n.toInt ≤ i.toInt := ci_lt_f c_2
      have b_n := i32b n
      exfalso
      omega

set_option maxHeartbeats 4000000 in
set_option maxRecDepth 100000 in
theorem b_chk0 (l : Launch) (G : Gho) (D : va_G) (cB cI cJ cZ cS cT : ClassId) (i : Int32) (n : Int32) (h0 : 0 ≤ i.toInt) (h1 : i.toInt < n.toInt) : Met l yJ0_checkIndex_df160 (Cond.code yJ0_checkIndex_df160 cJ0_checkIndex_df160 2 none :: wsL_law) ({ frames := 1, cells := 0, slots := 0, locals := 22 }) (roP G D (tyL cB cI cJ cZ cS cT) [] [.int i, .int n]) (vp_Sv True) 0 0 (fun _ => False) := by
  refine metROV (own := RJ0) (by decide) rfl ?_
  intro p e s m below meth c Q C hP ret
  obtain ⟨hx, hb, hml, hown, hts, hK, hN, hT⟩ := id C
  have hl := lv_entry ([.int i, .int n]) (n := 2) (Nat.le_of_ble_eq_true rfl)
  rw [lg_entry_eq]
  generalize (lg_sl ([.int i, .int n]) ++ List.replicate (2 - (lg_sl ([.int i, .int n])).length) Slot.unset).toArray = ls at hl ⊢
  have hl : lv_has ls 2 [(0, .int i), (1, .int n)] := hl
  have hP : va_P D vwCl [] s.heap := hP
  refine lv_iload_n hx hb dJ0_checkIndex_df160_0 rfl (lv_at hl 0 rfl) ?_
  refine lv_iload_n hx hb dJ0_checkIndex_df160_1 rfl (lv_at hl 1 rfl) ?_
  rcases hT.2.2.2 with hZ | ⟨tz, hZ⟩
  · refine va_gets hx hb hZ va_S.rf hown (hts _ (inr13 _ (List.mem_of_getElem? (i := 21) rfl))) (fun _ h9 => h9) dJ0_checkIndex_df160_2 ?_
    refine rosi (As := [.int i, .int n, .null]) (rest := []) ⟨hx, hb, hml, hown, hts⟩ (b_chkN l G D cB cI cJ cZ cS cT i n (by first | assumption | omega | decide) (by first | assumption | omega | decide)) (csX (n := 3) (inr13 _ (List.mem_of_getElem? (i := 22) rfl)) (inr13 _ (List.mem_of_getElem? (i := 23) rfl)) (inr14 _ (List.mem_of_getElem? (i := 0) rfl)) (inr14 _ (List.mem_of_getElem? (i := 1) rfl)) (by decide +kernel) hts rfl rfl ⟨Nat.le_of_ble_eq_true rfl, Nat.le_of_ble_eq_true rfl⟩) (hP.sub [] rfl) hK hN hT rfl hl.1 rfl (Nat.le_of_ble_eq_true rfl) ⟨Nat.le_of_ble_eq_true rfl, Nat.le_of_ble_eq_true rfl⟩ dJ0_checkIndex_df160_5 (fun r_1 h_2 => ?_)
    have h_2 : (True) := h_2
    have i_3 := h_2
    refine lv_pop hx hb dJ0_checkIndex_df160_8 rfl ?_
    exact ret _ _ dJ0_checkIndex_df160_9
  · refine va_gets hx hb hZ va_S.rf hown (hts _ (inr13 _ (List.mem_of_getElem? (i := 21) rfl))) (fun _ h9 => h9) dJ0_checkIndex_df160_2 ?_
    refine rosi (As := [.int i, .int n, .ref tz]) (rest := []) ⟨hx, hb, hml, hown, hts⟩ (b_chkR l G D cB cI cJ cZ cS cT i n tz (by first | assumption | omega | decide) (by first | assumption | omega | decide)) (csX (n := 3) (inr13 _ (List.mem_of_getElem? (i := 22) rfl)) (inr13 _ (List.mem_of_getElem? (i := 23) rfl)) (inr14 _ (List.mem_of_getElem? (i := 0) rfl)) (inr14 _ (List.mem_of_getElem? (i := 1) rfl)) (by decide +kernel) hts rfl rfl ⟨Nat.le_of_ble_eq_true rfl, Nat.le_of_ble_eq_true rfl⟩) (hP.sub [] rfl) hK hN hT rfl hl.1 rfl (Nat.le_of_ble_eq_true rfl) ⟨Nat.le_of_ble_eq_true rfl, Nat.le_of_ble_eq_true rfl⟩ dJ0_checkIndex_df160_5 (fun r_4 h_5 => ?_)
    have h_5 : (True) := h_5
    have i_6 := h_5
    refine lv_pop hx hb dJ0_checkIndex_df160_8 rfl ?_
    exact ret _ _ dJ0_checkIndex_df160_9

set_option maxHeartbeats 4000000 in
set_option maxRecDepth 100000 in
theorem b_charL (l : Launch) (G : Gho) (D : va_G) (cB cI cJ cZ cS cT : ClassId) (j : Nat) (i : Int32) (hj : j < 11) (h0 : 0 ≤ i.toInt) (h1 : i.toInt < ((strL.getD j 0 : Nat) : Int)) : Met l yJ1_charAt_3b067 (Cond.code yJ1_charAt_3b067 cJ1_charAt_3b067 2 (some .char) :: wsL_law) ({ frames := 2, cells := 0, slots := 0, locals := 43 }) (roP G D (tyL cB cI cJ cZ cS cT) [] [.ref (G.2.2 j), .int i]) (vp_Si (fun r : Int32 => narrow .char (.int r) = .int r)) 0 0 (fun _ => False) := by
  refine metROT (own := RJ1) (by decide) rfl (fun r h => h) ?_
  intro p e s m below meth c Q C hP ret
  obtain ⟨hx, hb, hml, hown, hts, hK, hN, hT⟩ := id C
  have hl := lv_entry ([.ref (G.2.2 j), .int i]) (n := 2) (Nat.le_of_ble_eq_true rfl)
  rw [lg_entry_eq]
  generalize (lg_sl ([.ref (G.2.2 j), .int i]) ++ List.replicate (2 - (lg_sl ([.ref (G.2.2 j), .int i])).length) Slot.unset).toArray = ls at hl ⊢
  have hl : lv_has ls 2 [(0, .ref (G.2.2 j)), (1, .int i)] := hl
  have hP : va_P D vwCl [] s.heap := hP
  have hjl := strL_lt j hj
  have hnj : (nI (strL.getD j 0)).toInt = ((strL.getD j 0 : Nat) : Int) := nI_toInt (by omega)
  refine lv_iload_n hx hb dJ1_charAt_3b067_0 rfl (lv_at hl 1 rfl) ?_
  refine lv_aload_n hx hb dJ1_charAt_3b067_1 rfl (lv_at hl 0 rfl) ?_
  refine va_tlen (v := nI (strL.getD j 0)) hx hb (hT.1.1 j hj).2.2.2 va_S.rf rfl dJ1_charAt_3b067_2 ?_
  refine rosv (As := [.int i, .int (nI (strL.getD j 0))]) (rest := []) ⟨hx, hb, hml, hown, hts⟩ (b_chk0 l G D cB cI cJ cZ cS cT i (nI (strL.getD j 0)) (by first | assumption | omega | decide) (by first | assumption | omega | decide)) (csX (n := 2) (inr13 _ (List.mem_of_getElem? (i := 18) rfl)) (inr13 _ (List.mem_of_getElem? (i := 19) rfl)) (inr12 _ (List.mem_of_getElem? (i := 21) rfl)) (inr13 _ (List.mem_of_getElem? (i := 20) rfl)) (by decide +kernel) hts rfl rfl ⟨Nat.le_of_ble_eq_true rfl, Nat.le_of_ble_eq_true rfl⟩) (hP.sub [] rfl) hK hN hT rfl hl.1 rfl (Nat.le_of_ble_eq_true rfl) ⟨Nat.le_of_ble_eq_true rfl, Nat.le_of_ble_eq_true rfl⟩ dJ1_charAt_3b067_3 (fun h_2 => ?_)
  refine lv_aload_n hx hb dJ1_charAt_3b067_6 rfl (lv_at hl 0 rfl) ?_
  refine lv_iload_n hx hb dJ1_charAt_3b067_7 rfl (lv_at hl 1 rfl) ?_
  obtain ⟨t_3, et_3⟩ : ∃ v9 : Int32, (strB.getD j []).getD (i : Int32).toNatClampNeg 0 = v9 := ⟨_, rfl⟩
  refine va_tb (v := .int t_3) hx hb (hT.1.1 j hj).2.2.2 va_S.rf (vin_nat (by omega) (by omega)) (by rw [← et_3]) dJ1_charAt_3b067_8 ?_
  refine lv_sipush (v := 255) hx hb dJ1_charAt_3b067_9 (by decide) ?_
  obtain ⟨t_4, et_4⟩ : ∃ v9 : Int32, t_3 &&& 255 = v9 := ⟨_, rfl⟩
  refine z_iand (v := t_4) hx hb dJ1_charAt_3b067_12 et_4 ?_
  obtain ⟨t_5, et_5⟩ : ∃ v9 : Int32, ((t_4 : Int32).toUInt32 % 65536).toInt32 = v9 := ⟨_, rfl⟩
  refine lv_i2c (v := t_5) hx hb dJ1_charAt_3b067_13 et_5 ?_
  exact ret _ _ t_5 dJ1_charAt_3b067_14 (by rw [← et_5]; exact pk_nc _)

set_option maxHeartbeats 4000000 in
set_option maxRecDepth 100000 in
theorem b_charAt (l : Launch) (G : Gho) (D : va_G) (cB cI cJ cZ cS cT : ClassId) (j : Nat) (i : Int32) (hj : j < 11) (h0 : 0 ≤ i.toInt) (h1 : i.toInt < ((strL.getD j 0 : Nat) : Int)) : Met l yJ0_charAt_5068e (Cond.code yJ0_charAt_5068e cJ0_charAt_5068e 2 (some .char) :: wsL_law) ({ frames := 3, cells := 0, slots := 0, locals := 64 }) (roP G D (tyL cB cI cJ cZ cS cT) [] [.ref (G.2.1 j), .int i]) (vp_Si (fun r : Int32 => narrow .char (.int r) = .int r)) 0 0 (fun _ => False) := by
  refine metROT (own := RJ0) (by decide) rfl (fun r h => h) ?_
  intro p e s m below meth c Q C hP ret
  obtain ⟨hx, hb, hml, hown, hts, hK, hN, hT⟩ := id C
  have hl := lv_entry ([.ref (G.2.1 j), .int i]) (n := 2) (Nat.le_of_ble_eq_true rfl)
  rw [lg_entry_eq]
  generalize (lg_sl ([.ref (G.2.1 j), .int i]) ++ List.replicate (2 - (lg_sl ([.ref (G.2.1 j), .int i])).length) Slot.unset).toArray = ls at hl ⊢
  have hl : lv_has ls 2 [(0, .ref (G.2.1 j)), (1, .int i)] := hl
  have hP : va_P D vwCl [] s.heap := hP
  have hjl := strL_lt j hj
  have hnj : (nI (strL.getD j 0)).toInt = ((strL.getD j 0 : Nat) : Int) := nI_toInt (by omega)
  refine lv_aload_n hx hb dJ0_charAt_5068e_0 rfl (lv_at hl 0 rfl) ?_
  refine roSi (As := []) (rest := []) ⟨hx, hb, hml, hown, hts⟩ (b_isLatin1 l G D cB cI cJ cZ cS cT j (by first | assumption | omega | decide)) (cvB (n := 0) (inr13 _ (List.mem_of_getElem? (i := 10) rfl)) (inr13 _ (List.mem_of_getElem? (i := 11) rfl)) (inr13 _ (List.mem_of_getElem? (i := 12) rfl)) (inr12 _ (List.mem_of_getElem? (i := 21) rfl)) (inr13 _ (List.mem_of_getElem? (i := 13) rfl)) (by decide +kernel) hts rfl rfl ⟨Nat.le_of_ble_eq_true rfl, Nat.le_of_ble_eq_true rfl⟩) (by first | assumption | decide) (hP.sub [] rfl) hK hN hT rfl hl.1 rfl (Nat.le_of_ble_eq_true rfl) ⟨Nat.le_of_ble_eq_true rfl, Nat.le_of_ble_eq_true rfl⟩ dJ0_charAt_5068e_1 (fun r_1 h_2 => ?_)
  have h_2 : (r_1 = 1) := h_2
  have i_3 := h_2
  obtain rfl := i_3
  refine lv_if_eq (tgt := 16) hx hb dJ0_charAt_5068e_4 (by decide) (fun c0 => absurd c0 (by decide)) (fun _ => ?_)
  refine lv_aload_n hx hb dJ0_charAt_5068e_7 rfl (lv_at hl 0 rfl) ?_
  refine vk_getf hx hb ((hT.1.1 j hj).2.2.1) va_S.rf hown (hts _ (inr12 _ (List.mem_of_getElem? (i := 23) rfl))) (fun _ h9 => h9) dJ0_charAt_5068e_8 ?_
  refine lv_iload_n hx hb dJ0_charAt_5068e_11 rfl (lv_at hl 1 rfl) ?_
  refine rosi (As := [.ref (G.2.2 j), .int i]) (rest := []) ⟨hx, hb, hml, hown, hts⟩ (b_charL l G D cB cI cJ cZ cS cT j i (by first | assumption | omega | decide) (by first | assumption | omega | decide) (by first | assumption | omega | decide)) (csX (n := 2) (inr13 _ (List.mem_of_getElem? (i := 14) rfl)) (inr13 _ (List.mem_of_getElem? (i := 15) rfl)) (inr13 _ (List.mem_of_getElem? (i := 16) rfl)) (inr13 _ (List.mem_of_getElem? (i := 17) rfl)) (by decide +kernel) hts rfl rfl ⟨Nat.le_of_ble_eq_true rfl, Nat.le_of_ble_eq_true rfl⟩) (hP.sub [] rfl) hK hN hT rfl hl.1 rfl (Nat.le_of_ble_eq_true rfl) ⟨Nat.le_of_ble_eq_true rfl, Nat.le_of_ble_eq_true rfl⟩ dJ0_charAt_5068e_12 (fun r_4 h_5 => ?_)
  have h_5 : (narrow .char (.int r_4) = .int r_4) := h_5
  have i_6 := h_5
  exact ret _ _ r_4 dJ0_charAt_5068e_15 i_6

set_option maxHeartbeats 4000000 in
set_option maxRecDepth 100000 in
theorem b_J6_bitCount_0f7a4 (l : Launch) (G : Gho) (D : va_G) (cB cI cJ cZ cS cT : ClassId) (v0 : Int32)  : Met l yJ6_bitCount_0f7a4 (Cond.code yJ6_bitCount_0f7a4 cJ6_bitCount_0f7a4 1 (some .int) :: wsL_law) ({ frames := 0, cells := 0, slots := 0, locals := 0 }) (roP G D (tyL cB cI cJ cZ cS cT) [] [.int v0]) (vp_Si (fun r : Int32 => True)) 0 0 (fun _ => False) := by
  refine metRO (own := RJ6) (by decide) rfl ?_
  intro p e s m below meth c Q C hP ret
  obtain ⟨hx, hb, hml, hown, hts, hK, hN, hT⟩ := id C
  have hl := lv_entry ([.int v0]) (n := 1) (Nat.le_of_ble_eq_true rfl)
  rw [lg_entry_eq]
  generalize (lg_sl ([.int v0]) ++ List.replicate (1 - (lg_sl ([.int v0])).length) Slot.unset).toArray = ls at hl ⊢
  have hl : lv_has ls 1 [(0, .int v0)] := hl
  have hP : va_P D vwCl [] s.heap := hP
  refine lv_iload_n hx hb dJ6_bitCount_0f7a4_0 rfl (lv_at hl 0 rfl) ?_
  refine lv_iload_n hx hb dJ6_bitCount_0f7a4_1 rfl (lv_at hl 0 rfl) ?_
  refine lv_iconst (v := 1) hx hb dJ6_bitCount_0f7a4_2 (by decide) ?_
  obtain ⟨t_1, et_1⟩ : ∃ v9 : Int32, ((v0 : Int32).toUInt32 >>> ((1 : Int32).toUInt32 &&& Int32.toUInt32 31)).toInt32 = v9 := ⟨_, rfl⟩
  refine lv_iushr (v := t_1) hx hb dJ6_bitCount_0f7a4_3 et_1 ?_
  refine lv_ldcw hx hb hown (hts _ (inr33 _ (List.mem_of_getElem? (i := 8) rfl))) dJ6_bitCount_0f7a4_4 ?_
  obtain ⟨t_2, et_2⟩ : ∃ v9 : Int32, t_1 &&& 1431655765 = v9 := ⟨_, rfl⟩
  refine z_iand (v := t_2) hx hb dJ6_bitCount_0f7a4_7 et_2 ?_
  obtain ⟨t_3, et_3⟩ : ∃ v9 : Int32, v0 - t_2 = v9 := ⟨_, rfl⟩
  refine z_isub (v := t_3) hx hb dJ6_bitCount_0f7a4_8 et_3 ?_
  refine lv_istore_n (lv' := [(0, .int t_3)]) hx hb dJ6_bitCount_0f7a4_9 rfl hl (by decide) rfl (fun ls hl => ?_)
  refine lv_iload_n hx hb dJ6_bitCount_0f7a4_10 rfl (lv_at hl 0 rfl) ?_
  refine lv_ldcw hx hb hown (hts _ (inr33 _ (List.mem_of_getElem? (i := 9) rfl))) dJ6_bitCount_0f7a4_11 ?_
  obtain ⟨t_4, et_4⟩ : ∃ v9 : Int32, t_3 &&& 858993459 = v9 := ⟨_, rfl⟩
  refine z_iand (v := t_4) hx hb dJ6_bitCount_0f7a4_14 et_4 ?_
  refine lv_iload_n hx hb dJ6_bitCount_0f7a4_15 rfl (lv_at hl 0 rfl) ?_
  refine lv_iconst (v := 2) hx hb dJ6_bitCount_0f7a4_16 (by decide) ?_
  obtain ⟨t_5, et_5⟩ : ∃ v9 : Int32, ((t_3 : Int32).toUInt32 >>> ((2 : Int32).toUInt32 &&& Int32.toUInt32 31)).toInt32 = v9 := ⟨_, rfl⟩
  refine lv_iushr (v := t_5) hx hb dJ6_bitCount_0f7a4_17 et_5 ?_
  refine lv_ldcw hx hb hown (hts _ (inr33 _ (List.mem_of_getElem? (i := 9) rfl))) dJ6_bitCount_0f7a4_18 ?_
  obtain ⟨t_6, et_6⟩ : ∃ v9 : Int32, t_5 &&& 858993459 = v9 := ⟨_, rfl⟩
  refine z_iand (v := t_6) hx hb dJ6_bitCount_0f7a4_21 et_6 ?_
  obtain ⟨t_7, et_7⟩ : ∃ v9 : Int32, t_4 + t_6 = v9 := ⟨_, rfl⟩
  refine z_iadd (v := t_7) hx hb dJ6_bitCount_0f7a4_22 et_7 ?_
  refine lv_istore_n (lv' := [(0, .int t_7)]) hx hb dJ6_bitCount_0f7a4_23 rfl hl (by decide) rfl (fun ls hl => ?_)
  refine lv_iload_n hx hb dJ6_bitCount_0f7a4_24 rfl (lv_at hl 0 rfl) ?_
  refine lv_iload_n hx hb dJ6_bitCount_0f7a4_25 rfl (lv_at hl 0 rfl) ?_
  refine lv_iconst (v := 4) hx hb dJ6_bitCount_0f7a4_26 (by decide) ?_
  obtain ⟨t_8, et_8⟩ : ∃ v9 : Int32, ((t_7 : Int32).toUInt32 >>> ((4 : Int32).toUInt32 &&& Int32.toUInt32 31)).toInt32 = v9 := ⟨_, rfl⟩
  refine lv_iushr (v := t_8) hx hb dJ6_bitCount_0f7a4_27 et_8 ?_
  obtain ⟨t_9, et_9⟩ : ∃ v9 : Int32, t_7 + t_8 = v9 := ⟨_, rfl⟩
  refine z_iadd (v := t_9) hx hb dJ6_bitCount_0f7a4_28 et_9 ?_
  refine lv_ldcw hx hb hown (hts _ (inr33 _ (List.mem_of_getElem? (i := 10) rfl))) dJ6_bitCount_0f7a4_29 ?_
  obtain ⟨t_10, et_10⟩ : ∃ v9 : Int32, t_9 &&& 252645135 = v9 := ⟨_, rfl⟩
  refine z_iand (v := t_10) hx hb dJ6_bitCount_0f7a4_32 et_10 ?_
  refine lv_istore_n (lv' := [(0, .int t_10)]) hx hb dJ6_bitCount_0f7a4_33 rfl hl (by decide) rfl (fun ls hl => ?_)
  refine lv_iload_n hx hb dJ6_bitCount_0f7a4_34 rfl (lv_at hl 0 rfl) ?_
  refine lv_iload_n hx hb dJ6_bitCount_0f7a4_35 rfl (lv_at hl 0 rfl) ?_
  refine lv_bipush (v := 8) hx hb dJ6_bitCount_0f7a4_36 (by decide) ?_
  obtain ⟨t_11, et_11⟩ : ∃ v9 : Int32, ((t_10 : Int32).toUInt32 >>> ((8 : Int32).toUInt32 &&& Int32.toUInt32 31)).toInt32 = v9 := ⟨_, rfl⟩
  refine lv_iushr (v := t_11) hx hb dJ6_bitCount_0f7a4_38 et_11 ?_
  obtain ⟨t_12, et_12⟩ : ∃ v9 : Int32, t_10 + t_11 = v9 := ⟨_, rfl⟩
  refine z_iadd (v := t_12) hx hb dJ6_bitCount_0f7a4_39 et_12 ?_
  refine lv_istore_n (lv' := [(0, .int t_12)]) hx hb dJ6_bitCount_0f7a4_40 rfl hl (by decide) rfl (fun ls hl => ?_)
  refine lv_iload_n hx hb dJ6_bitCount_0f7a4_41 rfl (lv_at hl 0 rfl) ?_
  refine lv_iload_n hx hb dJ6_bitCount_0f7a4_42 rfl (lv_at hl 0 rfl) ?_
  refine lv_bipush (v := 16) hx hb dJ6_bitCount_0f7a4_43 (by decide) ?_
  obtain ⟨t_13, et_13⟩ : ∃ v9 : Int32, ((t_12 : Int32).toUInt32 >>> ((16 : Int32).toUInt32 &&& Int32.toUInt32 31)).toInt32 = v9 := ⟨_, rfl⟩
  refine lv_iushr (v := t_13) hx hb dJ6_bitCount_0f7a4_45 et_13 ?_
  obtain ⟨t_14, et_14⟩ : ∃ v9 : Int32, t_12 + t_13 = v9 := ⟨_, rfl⟩
  refine z_iadd (v := t_14) hx hb dJ6_bitCount_0f7a4_46 et_14 ?_
  refine lv_istore_n (lv' := [(0, .int t_14)]) hx hb dJ6_bitCount_0f7a4_47 rfl hl (by decide) rfl (fun ls hl => ?_)
  refine lv_iload_n hx hb dJ6_bitCount_0f7a4_48 rfl (lv_at hl 0 rfl) ?_
  refine lv_bipush (v := 63) hx hb dJ6_bitCount_0f7a4_49 (by decide) ?_
  obtain ⟨t_15, et_15⟩ : ∃ v9 : Int32, t_14 &&& 63 = v9 := ⟨_, rfl⟩
  refine z_iand (v := t_15) hx hb dJ6_bitCount_0f7a4_51 et_15 ?_
  exact ret _ _ _ dJ6_bitCount_0f7a4_52 trivial

set_option maxHeartbeats 4000000 in
set_option maxRecDepth 100000 in
theorem lp_b_fillI {p : Program} {l : Launch} {e : Env} {R : Room} {s : State} {m : MethodId} {args : Array Value} {below : List Frame} {meth : Method} {c : Code} {Q : State → Prop} {G : Gho} {D : va_G} {cB cI cJ cZ cS cT : ClassId} {A : Nat → Prop} {H0 : Heap} {a n : Nat} {v : Int32} (hn : n < 2147483648) (hx : p.tables.exec = Jvm.exec) (hb : c.code = cJ7_fill_53178) (hK : va_K D vwCl (tyL cB cI cJ cZ cS cT) s) (exit : ∀ (f : Nat → Int32) (H : Heap) (locs : List Loc) (ls : Array Slot), (∀ j, j < n → f j = v) → va_P D vwCl [(a, .inl (cI, n, .inl f))] H → va_D A [(a, .inl (cI, n, .inl f))] → va_S A H0 H locs → W p l e R s m args below meth c H locs 0 0 Q (F0 m 20 ls [])) :
    ∀ (N i : Nat) (f : Nat → Int32) (H : Heap) (locs : List Loc) (ls : Array Slot), i ≤ n → n - i < N → (∀ j, j < i → f j = v) → va_P D vwCl [(a, .inl (cI, n, .inl f))] H → va_D A [(a, .inl (cI, n, .inl f))] → va_S A H0 H locs → lv_has ls 4 [(2, .int (nI i)), (3, .int (nI n)), (0, .ref a), (1, .int v)] → W p l e R s m args below meth c H locs 0 0 Q (F0 m 5 ls []) := by
  intro N
  induction N with
  | zero =>
    intro i f H locs ls h1 h2
    omega
  | succ N ih =>
    intro i f H locs ls hi hN2 hf hP hD hS hl
    refine lv_iload_n hx hb dJ7_fill_53178_5 rfl (lv_at hl 0 rfl) ?_
    refine lv_iload_n hx hb dJ7_fill_53178_6 rfl (lv_at hl 1 rfl) ?_
    refine lv_icmp_ge (tgt := 20) hx hb dJ7_fill_53178_7 (by decide) (fun c_1 => ?_) (fun c_1 => ?_)
    · skip
      have hni : i = n := by
        rcases Nat.lt_or_ge i n with q | q
        · exact absurd c_1 (nI_ge q (by omega))
        · omega
      subst hni
      exact exit _ _ _ _ hf hP hD hS
    · skip
      have hlt : i < n := by
        rcases Nat.lt_or_ge i n with q | q
        · exact q
        · exact absurd (nI_le q (by omega)) c_1
      refine lv_aload_n hx hb dJ7_fill_53178_10 rfl (lv_at hl 2 rfl) ?_
      refine lv_iload_n hx hb dJ7_fill_53178_11 rfl (lv_at hl 0 rfl) ?_
      refine lv_iload_n hx hb dJ7_fill_53178_12 rfl (lv_at hl 3 rfl) ?_
      refine va_iast hx hb hK hP hD hS 0 1 rfl rfl (vp_in_nI hlt (by omega)) dJ7_fill_53178_13 (fun H locs hP hD hS => ?_)
      have hP : va_P D vwCl [(a, .inl (cI, n, .inl (upd f ((nI i) : Int32).toNatClampNeg v)))] H := hP
      have hD : va_D A [(a, .inl (cI, n, .inl (upd f ((nI i) : Int32).toNatClampNeg v)))] := hD
      obtain ⟨g_2, eg_2⟩ : ∃ v9 : Nat → Int32, (upd f ((nI i) : Int32).toNatClampNeg v) = v9 := ⟨_, rfl⟩
      rw [eg_2] at hP hD
      have hP : va_P D vwCl [(a, .inl (cI, n, .inl g_2))] H := hP
      have hD : va_D A [(a, .inl (cI, n, .inl g_2))] := hD
      obtain ⟨t_3, et_3⟩ : ∃ v9 : Int32, (nI i) + 1 = v9 := ⟨_, rfl⟩
      refine lv_iinc (v := t_3) (lv' := [(2, .int t_3), (3, .int (nI n)), (0, .ref a), (1, .int v)]) hx hb dJ7_fill_53178_14 hl (k := 0) rfl (by rw [← et_3]; rfl) (by decide) rfl (fun ls hl => ?_)
      refine lv_goto (tgt := 5) hx hb dJ7_fill_53178_17 (by decide) ?_
      rw [nI_1] at et_3
      subst et_3
      have hf2 : ∀ j, j < i + 1 → g_2 j = v := by
        intro j hj
        rw [← eg_2]
        unfold upd
        rw [nI_clamp (by omega)]
        split
        · rfl
        · exact hf j (by omega)
      exact ih (i + 1) _ _ _ _ (by omega) (by omega) hf2 hP hD hS (lv_sub hl [0, 1, 2, 3] rfl)

set_option maxHeartbeats 4000000 in
set_option maxRecDepth 100000 in
theorem b_fillI (l : Launch) (G : Gho) (D : va_G) (cB cI cJ cZ cS cT : ClassId) (sz : Nat) (a n : Nat) (f : Nat → Int32) (v : Int32) (hn : n < 2147483648) : Met l yJ7_fill_53178 (Cond.code yJ7_fill_53178 cJ7_fill_53178 4 none :: wsL_law) ({ frames := 0, cells := 0, slots := 0, locals := 0 }) (wrP G D (tyL cB cI cJ cZ cS cT) [(a, .inl (cI, n, .inl f))] sz [.ref a, .int v]) (va_Qv (fun x : Nat → Int32 => ∀ j, j < n → x j = v) (atW D (tyL cB cI cJ cZ cS cT) (va_A [(a, .inl (cI, n, .inl f))] sz) (fun x : Nat → Int32 => [(a, .inl (cI, n, .inl x))])) (va_A [(a, .inl (cI, n, .inl f))] sz)) 0 0 (va_A [(a, .inl (cI, n, .inl f))] sz) := by
  refine metV (own := RJ7) (by decide) rfl ?_
  intro p e s m below meth c Q hsz C hG hP hD hAB ret
  obtain ⟨hx, hb, hml, hown, hts, hK, hN, hT⟩ := id C
  subst hsz
  generalize hAe : va_A [(a, .inl (cI, n, .inl f))] s.heap.size = A at hD hAB ret ⊢
  have hS : va_S A s.heap s.heap [] := va_S.rf
  have hl := lv_entry ([.ref a, .int v]) (n := 4) (Nat.le_of_ble_eq_true rfl)
  rw [lg_entry_eq]
  generalize (lg_sl ([.ref a, .int v]) ++ List.replicate (4 - (lg_sl ([.ref a, .int v])).length) Slot.unset).toArray = ls at hl ⊢
  have hl : lv_has ls 4 [(0, .ref a), (1, .int v)] := hl
  refine lv_iconst (v := 0) hx hb dJ7_fill_53178_0 (by decide) ?_
  refine lv_istore_n (lv' := [(2, .int 0), (0, .ref a), (1, .int v)]) hx hb dJ7_fill_53178_1 rfl hl (by decide) rfl (fun ls hl => ?_)
  refine lv_aload_n hx hb dJ7_fill_53178_2 rfl (lv_at hl 1 rfl) ?_
  refine va_alen (v := nI n) hx hb hK hP 0 1 rfl rfl rfl dJ7_fill_53178_3 ?_
  refine lv_istore_n (lv' := [(3, .int (nI n)), (2, .int 0), (0, .ref a), (1, .int v)]) hx hb dJ7_fill_53178_4 rfl hl (by decide) rfl (fun ls hl => ?_)
  refine lp_b_fillI (G := G) (n := n) hn hx hb hK (fun g H locs ls hf hP hD hS => ?_) (n + 1) 0 f _ _ _ (Nat.zero_le _) (by omega) (fun j hj => absurd hj (Nat.not_lt_zero _)) hP hD hS (lv_sub hl [1, 0, 2, 3] rfl)
  exact ret _ _ _ _ g dJ7_fill_53178_20 hf hP hD hS

set_option maxHeartbeats 4000000 in
set_option maxRecDepth 100000 in
theorem lp_b_fillJ {p : Program} {l : Launch} {e : Env} {R : Room} {s : State} {m : MethodId} {args : Array Value} {below : List Frame} {meth : Method} {c : Code} {Q : State → Prop} {G : Gho} {D : va_G} {cB cI cJ cZ cS cT : ClassId} {A : Nat → Prop} {H0 : Heap} {a n : Nat} {v : Int64} (hn : n < 2147483648) (hx : p.tables.exec = Jvm.exec) (hb : c.code = cJ7_fill_d0a16) (hK : va_K D vwCl (tyL cB cI cJ cZ cS cT) s) (exit : ∀ (f : Nat → Int64) (H : Heap) (locs : List Loc) (ls : Array Slot), (∀ j, j < n → f j = v) → va_P D vwCl [(a, .inl (cJ, n, .inr (.inl f)))] H → va_D A [(a, .inl (cJ, n, .inr (.inl f)))] → va_S A H0 H locs → W p l e R s m args below meth c H locs 0 0 Q (F0 m 22 ls [])) :
    ∀ (N i : Nat) (f : Nat → Int64) (H : Heap) (locs : List Loc) (ls : Array Slot), i ≤ n → n - i < N → (∀ j, j < i → f j = v) → va_P D vwCl [(a, .inl (cJ, n, .inr (.inl f)))] H → va_D A [(a, .inl (cJ, n, .inr (.inl f)))] → va_S A H0 H locs → lv_has ls 5 [(3, .int (nI i)), (4, .int (nI n)), (0, .ref a), (1, .long v)] → W p l e R s m args below meth c H locs 0 0 Q (F0 m 6 ls []) := by
  intro N
  induction N with
  | zero =>
    intro i f H locs ls h1 h2
    omega
  | succ N ih =>
    intro i f H locs ls hi hN2 hf hP hD hS hl
    refine lv_iload_n hx hb dJ7_fill_d0a16_6 rfl (lv_at hl 0 rfl) ?_
    refine lv_iload hx hb dJ7_fill_d0a16_7 (lv_at hl 1 rfl) ?_
    refine lv_icmp_ge (tgt := 22) hx hb dJ7_fill_d0a16_9 (by decide) (fun c_1 => ?_) (fun c_1 => ?_)
    · skip
      have hni : i = n := by
        rcases Nat.lt_or_ge i n with q | q
        · exact absurd c_1 (nI_ge q (by omega))
        · omega
      subst hni
      exact exit _ _ _ _ hf hP hD hS
    · skip
      have hlt : i < n := by
        rcases Nat.lt_or_ge i n with q | q
        · exact q
        · exact absurd (nI_le q (by omega)) c_1
      refine lv_aload_n hx hb dJ7_fill_d0a16_12 rfl (lv_at hl 2 rfl) ?_
      refine lv_iload_n hx hb dJ7_fill_d0a16_13 rfl (lv_at hl 0 rfl) ?_
      refine lv_lload_n hx hb dJ7_fill_d0a16_14 rfl (lv_at hl 3 rfl) ?_
      refine va_last hx hb hK hP hD hS 0 2 rfl rfl (vp_in_nI hlt (by omega)) dJ7_fill_d0a16_15 (fun H locs hP hD hS => ?_)
      have hP : va_P D vwCl [(a, .inl (cJ, n, .inr (.inl (vp_updL f ((nI i) : Int32).toNatClampNeg v))))] H := hP
      have hD : va_D A [(a, .inl (cJ, n, .inr (.inl (vp_updL f ((nI i) : Int32).toNatClampNeg v))))] := hD
      obtain ⟨g_2, eg_2⟩ : ∃ v9 : Nat → Int64, (vp_updL f ((nI i) : Int32).toNatClampNeg v) = v9 := ⟨_, rfl⟩
      rw [eg_2] at hP hD
      have hP : va_P D vwCl [(a, .inl (cJ, n, .inr (.inl g_2)))] H := hP
      have hD : va_D A [(a, .inl (cJ, n, .inr (.inl g_2)))] := hD
      obtain ⟨t_3, et_3⟩ : ∃ v9 : Int32, (nI i) + 1 = v9 := ⟨_, rfl⟩
      refine lv_iinc (v := t_3) (lv' := [(3, .int t_3), (4, .int (nI n)), (0, .ref a), (1, .long v)]) hx hb dJ7_fill_d0a16_16 hl (k := 0) rfl (by rw [← et_3]; rfl) (by decide) rfl (fun ls hl => ?_)
      refine lv_goto (tgt := 6) hx hb dJ7_fill_d0a16_19 (by decide) ?_
      rw [nI_1] at et_3
      subst et_3
      have hf2 : ∀ j, j < i + 1 → g_2 j = v := by
        intro j hj
        rw [← eg_2]
        unfold vp_updL
        rw [nI_clamp (by omega)]
        split
        · rfl
        · exact hf j (by omega)
      exact ih (i + 1) _ _ _ _ (by omega) (by omega) hf2 hP hD hS (lv_sub hl [0, 1, 2, 3] rfl)

set_option maxHeartbeats 4000000 in
set_option maxRecDepth 100000 in
theorem b_fillJ (l : Launch) (G : Gho) (D : va_G) (cB cI cJ cZ cS cT : ClassId) (sz : Nat) (a n : Nat) (f : Nat → Int64) (v : Int64) (hn : n < 2147483648) : Met l yJ7_fill_d0a16 (Cond.code yJ7_fill_d0a16 cJ7_fill_d0a16 5 none :: wsL_law) ({ frames := 0, cells := 0, slots := 0, locals := 0 }) (wrP G D (tyL cB cI cJ cZ cS cT) [(a, .inl (cJ, n, .inr (.inl f)))] sz [.ref a, .long v]) (va_Qv (fun x : Nat → Int64 => ∀ j, j < n → x j = v) (atW D (tyL cB cI cJ cZ cS cT) (va_A [(a, .inl (cJ, n, .inr (.inl f)))] sz) (fun x : Nat → Int64 => [(a, .inl (cJ, n, .inr (.inl x)))])) (va_A [(a, .inl (cJ, n, .inr (.inl f)))] sz)) 0 0 (va_A [(a, .inl (cJ, n, .inr (.inl f)))] sz) := by
  refine metV (own := RJ7) (by decide) rfl ?_
  intro p e s m below meth c Q hsz C hG hP hD hAB ret
  obtain ⟨hx, hb, hml, hown, hts, hK, hN, hT⟩ := id C
  subst hsz
  generalize hAe : va_A [(a, .inl (cJ, n, .inr (.inl f)))] s.heap.size = A at hD hAB ret ⊢
  have hS : va_S A s.heap s.heap [] := va_S.rf
  have hl := lv_entry ([.ref a, .long v]) (n := 5) (Nat.le_of_ble_eq_true rfl)
  rw [lg_entry_eq]
  generalize (lg_sl ([.ref a, .long v]) ++ List.replicate (5 - (lg_sl ([.ref a, .long v])).length) Slot.unset).toArray = ls at hl ⊢
  have hl : lv_has ls 5 [(0, .ref a), (1, .long v)] := hl
  refine lv_iconst (v := 0) hx hb dJ7_fill_d0a16_0 (by decide) ?_
  refine lv_istore_n (lv' := [(3, .int 0), (0, .ref a), (1, .long v)]) hx hb dJ7_fill_d0a16_1 rfl hl (by decide) rfl (fun ls hl => ?_)
  refine lv_aload_n hx hb dJ7_fill_d0a16_2 rfl (lv_at hl 1 rfl) ?_
  refine va_alen (v := nI n) hx hb hK hP 0 2 rfl rfl rfl dJ7_fill_d0a16_3 ?_
  refine lv_istore (lv' := [(4, .int (nI n)), (3, .int 0), (0, .ref a), (1, .long v)]) hx hb dJ7_fill_d0a16_4 hl (by decide) rfl (fun ls hl => ?_)
  refine lp_b_fillJ (G := G) (n := n) hn hx hb hK (fun g H locs ls hf hP hD hS => ?_) (n + 1) 0 f _ _ _ (Nat.zero_le _) (by omega) (fun j hj => absurd hj (Nat.not_lt_zero _)) hP hD hS (lv_sub hl [1, 0, 2, 3] rfl)
  exact ret _ _ _ _ g dJ7_fill_d0a16_22 hf hP hD hS
