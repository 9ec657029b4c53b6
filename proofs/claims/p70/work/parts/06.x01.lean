theorem dX0_add_0 : decode cX0_add 0 = .ok (.aload_n 0, 1) := by decide +kernel
theorem dX0_add_1 : decode cX0_add 1 = .ok (.getfield 27, 3) := by decide +kernel
theorem dX0_add_12 : decode cX0_add 12 = .ok (.aload_n 0, 1) := by decide +kernel
theorem dX0_add_13 : decode cX0_add 13 = .ok (.getfield 15, 3) := by decide +kernel
theorem dX0_add_16 : decode cX0_add 16 = .ok (.aload_n 0, 1) := by decide +kernel
theorem dX0_add_17 : decode cX0_add 17 = .ok (.getfield 27, 3) := by decide +kernel
theorem dX0_add_20 : decode cX0_add 20 = .ok (.iload_n 1, 1) := by decide +kernel
theorem dX0_add_21 : decode cX0_add 21 = .ok (.iastore, 1) := by decide +kernel
theorem dX0_add_22 : decode cX0_add 22 = .ok (.aload_n 0, 1) := by decide +kernel
theorem dX0_add_23 : decode cX0_add 23 = .ok (.getfield 18, 3) := by decide +kernel
theorem dX0_add_26 : decode cX0_add 26 = .ok (.aload_n 0, 1) := by decide +kernel
theorem dX0_add_27 : decode cX0_add 27 = .ok (.getfield 27, 3) := by decide +kernel
theorem dX0_add_30 : decode cX0_add 30 = .ok (.aload_n 0, 1) := by decide +kernel
theorem dX0_add_31 : decode cX0_add 31 = .ok (.iload_n 1, 1) := by decide +kernel
theorem dX0_add_32 : decode cX0_add 32 = .ok (.invokevirtual 31, 3) := by decide +kernel
theorem dX0_add_35 : decode cX0_add 35 = .ok (.iastore, 1) := by decide +kernel
theorem dX0_add_36 : decode cX0_add 36 = .ok (.aload_n 0, 1) := by decide +kernel
theorem dX0_add_37 : decode cX0_add 37 = .ok (.dup, 1) := by decide +kernel
theorem dX0_add_38 : decode cX0_add 38 = .ok (.getfield 27, 3) := by decide +kernel
theorem dX0_add_4 : decode cX0_add 4 = .ok (.aload_n 0, 1) := by decide +kernel
theorem dX0_add_41 : decode cX0_add 41 = .ok (.iconst 1, 1) := by decide +kernel
theorem dX0_add_42 : decode cX0_add 42 = .ok (.iadd, 1) := by decide +kernel
theorem dX0_add_43 : decode cX0_add 43 = .ok (.putfield 27, 3) := by decide +kernel
theorem dX0_add_46 : decode cX0_add 46 = .ok (.aload_n 0, 1) := by decide +kernel
theorem dX0_add_47 : decode cX0_add 47 = .ok (.iload_n 1, 1) := by decide +kernel
theorem dX0_add_48 : decode cX0_add 48 = .ok (.iload_n 2, 1) := by decide +kernel
theorem dX0_add_49 : decode cX0_add 49 = .ok (.invokevirtual 35, 3) := by decide +kernel
theorem dX0_add_5 : decode cX0_add 5 = .ok (.getfield 15, 3) := by decide +kernel
theorem dX0_add_52 : decode cX0_add 52 = .ok (.return_, 1) := by decide +kernel
theorem dX0_add_8 : decode cX0_add 8 = .ok (.arraylength, 1) := by decide +kernel
theorem dX0_add_9 : decode cX0_add 9 = .ok (.if_icmp .ge 43, 3) := by decide +kernel
theorem dX0_clear_0 : decode cX0_clear 0 = .ok (.aload_n 0, 1) := by decide +kernel
theorem dX0_clear_1 : decode cX0_clear 1 = .ok (.getfield 9, 3) := by decide +kernel
theorem dX0_clear_10 : decode cX0_clear 10 = .ok (.putfield 27, 3) := by decide +kernel
theorem dX0_clear_13 : decode cX0_clear 13 = .ok (.return_, 1) := by decide +kernel
theorem dX0_clear_4 : decode cX0_clear 4 = .ok (.iconst (-1), 1) := by decide +kernel
theorem dX0_clear_5 : decode cX0_clear 5 = .ok (.invokestatic 21, 3) := by decide +kernel
theorem dX0_clear_8 : decode cX0_clear 8 = .ok (.aload_n 0, 1) := by decide +kernel
theorem dX0_clear_9 : decode cX0_clear 9 = .ok (.iconst 0, 1) := by decide +kernel
theorem dX0_copyFrom_0 : decode cX0_copyFrom 0 = .ok (.aload_n 1, 1) := by decide +kernel
theorem dX0_copyFrom_1 : decode cX0_copyFrom 1 = .ok (.getfield 9, 3) := by decide +kernel
theorem dX0_copyFrom_10 : decode cX0_copyFrom 10 = .ok (.bipush 61, 2) := by decide +kernel
theorem dX0_copyFrom_12 : decode cX0_copyFrom 12 = .ok (.invokestatic 39, 3) := by decide +kernel
theorem dX0_copyFrom_15 : decode cX0_copyFrom 15 = .ok (.aload_n 1, 1) := by decide +kernel
theorem dX0_copyFrom_16 : decode cX0_copyFrom 16 = .ok (.getfield 15, 3) := by decide +kernel
theorem dX0_copyFrom_19 : decode cX0_copyFrom 19 = .ok (.iconst 0, 1) := by decide +kernel
theorem dX0_copyFrom_20 : decode cX0_copyFrom 20 = .ok (.aload_n 0, 1) := by decide +kernel
theorem dX0_copyFrom_21 : decode cX0_copyFrom 21 = .ok (.getfield 15, 3) := by decide +kernel
theorem dX0_copyFrom_24 : decode cX0_copyFrom 24 = .ok (.iconst 0, 1) := by decide +kernel
theorem dX0_copyFrom_25 : decode cX0_copyFrom 25 = .ok (.bipush 30, 2) := by decide +kernel
theorem dX0_copyFrom_27 : decode cX0_copyFrom 27 = .ok (.invokestatic 39, 3) := by decide +kernel
theorem dX0_copyFrom_30 : decode cX0_copyFrom 30 = .ok (.aload_n 1, 1) := by decide +kernel
theorem dX0_copyFrom_31 : decode cX0_copyFrom 31 = .ok (.getfield 18, 3) := by decide +kernel
theorem dX0_copyFrom_34 : decode cX0_copyFrom 34 = .ok (.iconst 0, 1) := by decide +kernel
theorem dX0_copyFrom_35 : decode cX0_copyFrom 35 = .ok (.aload_n 0, 1) := by decide +kernel
theorem dX0_copyFrom_36 : decode cX0_copyFrom 36 = .ok (.getfield 18, 3) := by decide +kernel
theorem dX0_copyFrom_39 : decode cX0_copyFrom 39 = .ok (.iconst 0, 1) := by decide +kernel
theorem dX0_copyFrom_4 : decode cX0_copyFrom 4 = .ok (.iconst 0, 1) := by decide +kernel
theorem dX0_copyFrom_40 : decode cX0_copyFrom 40 = .ok (.bipush 30, 2) := by decide +kernel
theorem dX0_copyFrom_42 : decode cX0_copyFrom 42 = .ok (.invokestatic 39, 3) := by decide +kernel
theorem dX0_copyFrom_45 : decode cX0_copyFrom 45 = .ok (.aload_n 0, 1) := by decide +kernel
theorem dX0_copyFrom_46 : decode cX0_copyFrom 46 = .ok (.aload_n 1, 1) := by decide +kernel
theorem dX0_copyFrom_47 : decode cX0_copyFrom 47 = .ok (.getfield 27, 3) := by decide +kernel
theorem dX0_copyFrom_5 : decode cX0_copyFrom 5 = .ok (.aload_n 0, 1) := by decide +kernel
theorem dX0_copyFrom_50 : decode cX0_copyFrom 50 = .ok (.putfield 27, 3) := by decide +kernel
theorem dX0_copyFrom_53 : decode cX0_copyFrom 53 = .ok (.return_, 1) := by decide +kernel
theorem dX0_copyFrom_6 : decode cX0_copyFrom 6 = .ok (.getfield 9, 3) := by decide +kernel
theorem dX0_copyFrom_9 : decode cX0_copyFrom 9 = .ok (.iconst 0, 1) := by decide +kernel
theorem dX0_overStep_0 : decode cX0_overStep 0 = .ok (.iload_n 1, 1) := by decide +kernel
theorem dX0_overStep_1 : decode cX0_overStep 1 = .ok (.ifCond .lt 21, 3) := by decide +kernel
theorem dX0_overStep_10 : decode cX0_overStep 10 = .ok (.if_icmp .ge 12, 3) := by decide +kernel
theorem dX0_overStep_13 : decode cX0_overStep 13 = .ok (.aload_n 0, 1) := by decide +kernel
theorem dX0_overStep_14 : decode cX0_overStep 14 = .ok (.getfield 9, 3) := by decide +kernel
theorem dX0_overStep_17 : decode cX0_overStep 17 = .ok (.iload_n 1, 1) := by decide +kernel
theorem dX0_overStep_18 : decode cX0_overStep 18 = .ok (.iaload, 1) := by decide +kernel
theorem dX0_overStep_19 : decode cX0_overStep 19 = .ok (.goto 4, 3) := by decide +kernel
theorem dX0_overStep_22 : decode cX0_overStep 22 = .ok (.iconst (-1), 1) := by decide +kernel
theorem dX0_overStep_23 : decode cX0_overStep 23 = .ok (.ireturn, 1) := by decide +kernel
theorem dX0_overStep_4 : decode cX0_overStep 4 = .ok (.iload_n 1, 1) := by decide +kernel
theorem dX0_overStep_5 : decode cX0_overStep 5 = .ok (.aload_n 0, 1) := by decide +kernel
theorem dX0_overStep_6 : decode cX0_overStep 6 = .ok (.getfield 9, 3) := by decide +kernel
theorem dX0_overStep_9 : decode cX0_overStep 9 = .ok (.arraylength, 1) := by decide +kernel
theorem dX0_putOver_0 : decode cX0_putOver 0 = .ok (.iload_n 1, 1) := by decide +kernel
theorem dX0_putOver_1 : decode cX0_putOver 1 = .ok (.ifCond .lt 19, 3) := by decide +kernel
theorem dX0_putOver_10 : decode cX0_putOver 10 = .ok (.if_icmp .ge 10, 3) := by decide +kernel
theorem dX0_putOver_13 : decode cX0_putOver 13 = .ok (.aload_n 0, 1) := by decide +kernel
theorem dX0_putOver_14 : decode cX0_putOver 14 = .ok (.getfield 9, 3) := by decide +kernel
theorem dX0_putOver_17 : decode cX0_putOver 17 = .ok (.iload_n 1, 1) := by decide +kernel
theorem dX0_putOver_18 : decode cX0_putOver 18 = .ok (.iload_n 2, 1) := by decide +kernel
theorem dX0_putOver_19 : decode cX0_putOver 19 = .ok (.iastore, 1) := by decide +kernel
theorem dX0_putOver_20 : decode cX0_putOver 20 = .ok (.return_, 1) := by decide +kernel
theorem dX0_putOver_4 : decode cX0_putOver 4 = .ok (.iload_n 1, 1) := by decide +kernel
theorem dX0_putOver_5 : decode cX0_putOver 5 = .ok (.aload_n 0, 1) := by decide +kernel
theorem dX0_putOver_6 : decode cX0_putOver 6 = .ok (.getfield 9, 3) := by decide +kernel
theorem dX0_putOver_9 : decode cX0_putOver 9 = .ok (.arraylength, 1) := by decide +kernel
theorem dX0_size_0 : decode cX0_size 0 = .ok (.aload_n 0, 1) := by decide +kernel
theorem dX0_size_1 : decode cX0_size 1 = .ok (.getfield 27, 3) := by decide +kernel
theorem dX0_size_4 : decode cX0_size 4 = .ok (.ireturn, 1) := by decide +kernel
theorem dX0_takeBack_0 : decode cX0_takeBack 0 = .ok (.aload_n 0, 1) := by decide +kernel
theorem dX0_takeBack_1 : decode cX0_takeBack 1 = .ok (.getfield 27, 3) := by decide +kernel
theorem dX0_takeBack_12 : decode cX0_takeBack 12 = .ok (.iconst 1, 1) := by decide +kernel
theorem dX0_takeBack_13 : decode cX0_takeBack 13 = .ok (.isub, 1) := by decide +kernel
theorem dX0_takeBack_14 : decode cX0_takeBack 14 = .ok (.putfield 27, 3) := by decide +kernel
theorem dX0_takeBack_17 : decode cX0_takeBack 17 = .ok (.aload_n 0, 1) := by decide +kernel
theorem dX0_takeBack_18 : decode cX0_takeBack 18 = .ok (.aload_n 0, 1) := by decide +kernel
theorem dX0_takeBack_19 : decode cX0_takeBack 19 = .ok (.getfield 15, 3) := by decide +kernel
theorem dX0_takeBack_22 : decode cX0_takeBack 22 = .ok (.aload_n 0, 1) := by decide +kernel
theorem dX0_takeBack_23 : decode cX0_takeBack 23 = .ok (.getfield 27, 3) := by decide +kernel
theorem dX0_takeBack_26 : decode cX0_takeBack 26 = .ok (.iaload, 1) := by decide +kernel
theorem dX0_takeBack_27 : decode cX0_takeBack 27 = .ok (.aload_n 0, 1) := by decide +kernel
theorem dX0_takeBack_28 : decode cX0_takeBack 28 = .ok (.getfield 18, 3) := by decide +kernel
theorem dX0_takeBack_31 : decode cX0_takeBack 31 = .ok (.aload_n 0, 1) := by decide +kernel
theorem dX0_takeBack_32 : decode cX0_takeBack 32 = .ok (.getfield 27, 3) := by decide +kernel
theorem dX0_takeBack_35 : decode cX0_takeBack 35 = .ok (.iaload, 1) := by decide +kernel
theorem dX0_takeBack_36 : decode cX0_takeBack 36 = .ok (.invokevirtual 35, 3) := by decide +kernel
theorem dX0_takeBack_39 : decode cX0_takeBack 39 = .ok (.return_, 1) := by decide +kernel
theorem dX0_takeBack_4 : decode cX0_takeBack 4 = .ok (.ifCond .le 35, 3) := by decide +kernel
theorem dX0_takeBack_7 : decode cX0_takeBack 7 = .ok (.aload_n 0, 1) := by decide +kernel
theorem dX0_takeBack_8 : decode cX0_takeBack 8 = .ok (.dup, 1) := by decide +kernel
theorem dX0_takeBack_9 : decode cX0_takeBack 9 = .ok (.getfield 27, 3) := by decide +kernel
theorem dX1_from_0 : decode cX1_from 0 = .ok (.aload_n 0, 1) := by decide +kernel
theorem dX1_from_1 : decode cX1_from 1 = .ok (.getfield 22, 3) := by decide +kernel
theorem dX1_from_4 : decode cX1_from 4 = .ok (.ireturn, 1) := by decide +kernel
theorem dX1_goRound_0 : decode cX1_goRound 0 = .ok (.aload_n 0, 1) := by decide +kernel
theorem dX1_goRound_1 : decode cX1_goRound 1 = .ok (.iconst (-1), 1) := by decide +kernel
theorem dX1_goRound_10 : decode cX1_goRound 10 = .ok (.aload_n 1, 1) := by decide +kernel
theorem dX1_goRound_100 : decode cX1_goRound 100 = .ok (.putfield 22, 3) := by decide +kernel
theorem dX1_goRound_103 : decode cX1_goRound 103 = .ok (.aload_n 0, 1) := by decide +kernel
theorem dX1_goRound_104 : decode cX1_goRound 104 = .ok (.iload 4, 2) := by decide +kernel
theorem dX1_goRound_106 : decode cX1_goRound 106 = .ok (.putfield 26, 3) := by decide +kernel
theorem dX1_goRound_109 : decode cX1_goRound 109 = .ok (.goto 105, 3) := by decide +kernel
theorem dX1_goRound_11 : decode cX1_goRound 11 = .ok (.invokevirtual 29, 3) := by decide +kernel
theorem dX1_goRound_112 : decode cX1_goRound 112 = .ok (.iload 4, 2) := by decide +kernel
theorem dX1_goRound_114 : decode cX1_goRound 114 = .ok (.sipush 648, 3) := by decide +kernel
theorem dX1_goRound_117 : decode cX1_goRound 117 = .ok (.if_icmp .ge 97, 3) := by decide +kernel
theorem dX1_goRound_120 : decode cX1_goRound 120 = .ok (.aload_n 0, 1) := by decide +kernel
theorem dX1_goRound_121 : decode cX1_goRound 121 = .ok (.getfield 11, 3) := by decide +kernel
theorem dX1_goRound_124 : decode cX1_goRound 124 = .ok (.iload 5, 2) := by decide +kernel
theorem dX1_goRound_126 : decode cX1_goRound 126 = .ok (.iload 4, 2) := by decide +kernel
theorem dX1_goRound_128 : decode cX1_goRound 128 = .ok (.iastore, 1) := by decide +kernel
theorem dX1_goRound_129 : decode cX1_goRound 129 = .ok (.aload_n 1, 1) := by decide +kernel
theorem dX1_goRound_130 : decode cX1_goRound 130 = .ok (.iload 4, 2) := by decide +kernel
theorem dX1_goRound_132 : decode cX1_goRound 132 = .ok (.invokevirtual 45, 3) := by decide +kernel
theorem dX1_goRound_135 : decode cX1_goRound 135 = .ok (.istore 6, 2) := by decide +kernel
theorem dX1_goRound_137 : decode cX1_goRound 137 = .ok (.aload_n 0, 1) := by decide +kernel
theorem dX1_goRound_138 : decode cX1_goRound 138 = .ok (.getfield 15, 3) := by decide +kernel
theorem dX1_goRound_14 : decode cX1_goRound 14 = .ok (.ifCond .ne 4, 3) := by decide +kernel
theorem dX1_goRound_141 : decode cX1_goRound 141 = .ok (.iload 4, 2) := by decide +kernel
theorem dX1_goRound_143 : decode cX1_goRound 143 = .ok (.aload_n 1, 1) := by decide +kernel
theorem dX1_goRound_144 : decode cX1_goRound 144 = .ok (.iload 4, 2) := by decide +kernel
theorem dX1_goRound_146 : decode cX1_goRound 146 = .ok (.iload_n 2, 1) := by decide +kernel
theorem dX1_goRound_147 : decode cX1_goRound 147 = .ok (.iload_n 3, 1) := by decide +kernel
theorem dX1_goRound_148 : decode cX1_goRound 148 = .ok (.invokevirtual 49, 3) := by decide +kernel
theorem dX1_goRound_151 : decode cX1_goRound 151 = .ok (.iastore, 1) := by decide +kernel
theorem dX1_goRound_152 : decode cX1_goRound 152 = .ok (.aload_n 0, 1) := by decide +kernel
theorem dX1_goRound_153 : decode cX1_goRound 153 = .ok (.getfield 18, 3) := by decide +kernel
theorem dX1_goRound_156 : decode cX1_goRound 156 = .ok (.iload 4, 2) := by decide +kernel
theorem dX1_goRound_158 : decode cX1_goRound 158 = .ok (.iload 6, 2) := by decide +kernel
theorem dX1_goRound_160 : decode cX1_goRound 160 = .ok (.ifCond .eq 18, 3) := by decide +kernel
theorem dX1_goRound_163 : decode cX1_goRound 163 = .ok (.aload_n 0, 1) := by decide +kernel
theorem dX1_goRound_164 : decode cX1_goRound 164 = .ok (.getfield 15, 3) := by decide +kernel
theorem dX1_goRound_167 : decode cX1_goRound 167 = .ok (.iload 4, 2) := by decide +kernel
theorem dX1_goRound_169 : decode cX1_goRound 169 = .ok (.iaload, 1) := by decide +kernel
theorem dX1_goRound_17 : decode cX1_goRound 17 = .ok (.return_, 1) := by decide +kernel
theorem dX1_goRound_170 : decode cX1_goRound 170 = .ok (.iload_n 2, 1) := by decide +kernel
theorem dX1_goRound_171 : decode cX1_goRound 171 = .ok (.if_icmp .ne 7, 3) := by decide +kernel
theorem dX1_goRound_174 : decode cX1_goRound 174 = .ok (.iconst 1, 1) := by decide +kernel
theorem dX1_goRound_175 : decode cX1_goRound 175 = .ok (.goto 4, 3) := by decide +kernel
theorem dX1_goRound_178 : decode cX1_goRound 178 = .ok (.iconst 0, 1) := by decide +kernel
theorem dX1_goRound_179 : decode cX1_goRound 179 = .ok (.bastore, 1) := by decide +kernel
theorem dX1_goRound_18 : decode cX1_goRound 18 = .ok (.aload_n 0, 1) := by decide +kernel
theorem dX1_goRound_180 : decode cX1_goRound 180 = .ok (.iload 6, 2) := by decide +kernel
theorem dX1_goRound_182 : decode cX1_goRound 182 = .ok (.ifCond .eq 7, 3) := by decide +kernel
theorem dX1_goRound_185 : decode cX1_goRound 185 = .ok (.iload_n 2, 1) := by decide +kernel
theorem dX1_goRound_186 : decode cX1_goRound 186 = .ok (.goto 10, 3) := by decide +kernel
theorem dX1_goRound_189 : decode cX1_goRound 189 = .ok (.aload_n 0, 1) := by decide +kernel
theorem dX1_goRound_19 : decode cX1_goRound 19 = .ok (.getfield 11, 3) := by decide +kernel
theorem dX1_goRound_190 : decode cX1_goRound 190 = .ok (.getfield 15, 3) := by decide +kernel
theorem dX1_goRound_193 : decode cX1_goRound 193 = .ok (.iload 4, 2) := by decide +kernel
theorem dX1_goRound_195 : decode cX1_goRound 195 = .ok (.iaload, 1) := by decide +kernel
theorem dX1_goRound_196 : decode cX1_goRound 196 = .ok (.istore_n 2, 1) := by decide +kernel
theorem dX1_goRound_197 : decode cX1_goRound 197 = .ok (.iload 6, 2) := by decide +kernel
theorem dX1_goRound_199 : decode cX1_goRound 199 = .ok (.ifCond .eq 13, 3) := by decide +kernel
theorem dX1_goRound_2 : decode cX1_goRound 2 = .ok (.putfield 22, 3) := by decide +kernel
theorem dX1_goRound_202 : decode cX1_goRound 202 = .ok (.aload_n 0, 1) := by decide +kernel
theorem dX1_goRound_203 : decode cX1_goRound 203 = .ok (.getfield 15, 3) := by decide +kernel
theorem dX1_goRound_206 : decode cX1_goRound 206 = .ok (.iload 4, 2) := by decide +kernel
theorem dX1_goRound_208 : decode cX1_goRound 208 = .ok (.iaload, 1) := by decide +kernel
theorem dX1_goRound_209 : decode cX1_goRound 209 = .ok (.goto 4, 3) := by decide +kernel
theorem dX1_goRound_212 : decode cX1_goRound 212 = .ok (.iload_n 3, 1) := by decide +kernel
theorem dX1_goRound_213 : decode cX1_goRound 213 = .ok (.istore_n 3, 1) := by decide +kernel
theorem dX1_goRound_214 : decode cX1_goRound 214 = .ok (.iinc 4 1, 3) := by decide +kernel
theorem dX1_goRound_217 : decode cX1_goRound 217 = .ok (.goto (-184), 3) := by decide +kernel
theorem dX1_goRound_22 : decode cX1_goRound 22 = .ok (.iconst (-1), 1) := by decide +kernel
theorem dX1_goRound_220 : decode cX1_goRound 220 = .ok (.return_, 1) := by decide +kernel
theorem dX1_goRound_23 : decode cX1_goRound 23 = .ok (.invokestatic 35, 3) := by decide +kernel
theorem dX1_goRound_26 : decode cX1_goRound 26 = .ok (.iconst 0, 1) := by decide +kernel
theorem dX1_goRound_27 : decode cX1_goRound 27 = .ok (.istore_n 2, 1) := by decide +kernel
theorem dX1_goRound_28 : decode cX1_goRound 28 = .ok (.iconst 0, 1) := by decide +kernel
theorem dX1_goRound_29 : decode cX1_goRound 29 = .ok (.istore_n 3, 1) := by decide +kernel
theorem dX1_goRound_30 : decode cX1_goRound 30 = .ok (.iconst 0, 1) := by decide +kernel
theorem dX1_goRound_31 : decode cX1_goRound 31 = .ok (.istore 4, 2) := by decide +kernel
theorem dX1_goRound_33 : decode cX1_goRound 33 = .ok (.iload 4, 2) := by decide +kernel
theorem dX1_goRound_35 : decode cX1_goRound 35 = .ok (.sipush 648, 3) := by decide +kernel
theorem dX1_goRound_38 : decode cX1_goRound 38 = .ok (.if_icmp .gt 182, 3) := by decide +kernel
theorem dX1_goRound_41 : decode cX1_goRound 41 = .ok (.aload_n 0, 1) := by decide +kernel
theorem dX1_goRound_42 : decode cX1_goRound 42 = .ok (.getfield 22, 3) := by decide +kernel
theorem dX1_goRound_45 : decode cX1_goRound 45 = .ok (.iconst (-1), 1) := by decide +kernel
theorem dX1_goRound_46 : decode cX1_goRound 46 = .ok (.if_icmp .ne 174, 3) := by decide +kernel
theorem dX1_goRound_49 : decode cX1_goRound 49 = .ok (.aload_n 1, 1) := by decide +kernel
theorem dX1_goRound_5 : decode cX1_goRound 5 = .ok (.aload_n 0, 1) := by decide +kernel
theorem dX1_goRound_50 : decode cX1_goRound 50 = .ok (.iload 4, 2) := by decide +kernel
theorem dX1_goRound_52 : decode cX1_goRound 52 = .ok (.invokevirtual 41, 3) := by decide +kernel
theorem dX1_goRound_55 : decode cX1_goRound 55 = .ok (.bipush 9, 2) := by decide +kernel
theorem dX1_goRound_57 : decode cX1_goRound 57 = .ok (.imul, 1) := by decide +kernel
theorem dX1_goRound_58 : decode cX1_goRound 58 = .ok (.iload_n 2, 1) := by decide +kernel
theorem dX1_goRound_59 : decode cX1_goRound 59 = .ok (.iadd, 1) := by decide +kernel
theorem dX1_goRound_6 : decode cX1_goRound 6 = .ok (.iconst (-1), 1) := by decide +kernel
theorem dX1_goRound_60 : decode cX1_goRound 60 = .ok (.bipush 9, 2) := by decide +kernel
theorem dX1_goRound_62 : decode cX1_goRound 62 = .ok (.imul, 1) := by decide +kernel
theorem dX1_goRound_63 : decode cX1_goRound 63 = .ok (.iload_n 3, 1) := by decide +kernel
theorem dX1_goRound_64 : decode cX1_goRound 64 = .ok (.iadd, 1) := by decide +kernel
theorem dX1_goRound_65 : decode cX1_goRound 65 = .ok (.istore 5, 2) := by decide +kernel
theorem dX1_goRound_67 : decode cX1_goRound 67 = .ok (.iload 5, 2) := by decide +kernel
theorem dX1_goRound_69 : decode cX1_goRound 69 = .ok (.ifCond .lt 11, 3) := by decide +kernel
theorem dX1_goRound_7 : decode cX1_goRound 7 = .ok (.putfield 26, 3) := by decide +kernel
theorem dX1_goRound_72 : decode cX1_goRound 72 = .ok (.iload 5, 2) := by decide +kernel
theorem dX1_goRound_74 : decode cX1_goRound 74 = .ok (.sipush 648, 3) := by decide +kernel
theorem dX1_goRound_77 : decode cX1_goRound 77 = .ok (.if_icmp .lt 4, 3) := by decide +kernel
theorem dX1_goRound_80 : decode cX1_goRound 80 = .ok (.return_, 1) := by decide +kernel
theorem dX1_goRound_81 : decode cX1_goRound 81 = .ok (.aload_n 0, 1) := by decide +kernel
theorem dX1_goRound_82 : decode cX1_goRound 82 = .ok (.getfield 11, 3) := by decide +kernel
theorem dX1_goRound_85 : decode cX1_goRound 85 = .ok (.iload 5, 2) := by decide +kernel
theorem dX1_goRound_87 : decode cX1_goRound 87 = .ok (.iaload, 1) := by decide +kernel
theorem dX1_goRound_88 : decode cX1_goRound 88 = .ok (.iconst (-1), 1) := by decide +kernel
theorem dX1_goRound_89 : decode cX1_goRound 89 = .ok (.if_icmp .eq 23, 3) := by decide +kernel
theorem dX1_goRound_92 : decode cX1_goRound 92 = .ok (.aload_n 0, 1) := by decide +kernel
theorem dX1_goRound_93 : decode cX1_goRound 93 = .ok (.aload_n 0, 1) := by decide +kernel
theorem dX1_goRound_94 : decode cX1_goRound 94 = .ok (.getfield 11, 3) := by decide +kernel
theorem dX1_goRound_97 : decode cX1_goRound 97 = .ok (.iload 5, 2) := by decide +kernel
theorem dX1_goRound_99 : decode cX1_goRound 99 = .ok (.iaload, 1) := by decide +kernel
theorem dX1_pipsInside_0 : decode cX1_pipsInside 0 = .ok (.aload_n 0, 1) := by decide +kernel
theorem dX1_pipsInside_1 : decode cX1_pipsInside 1 = .ok (.getfield 22, 3) := by decide +kernel
theorem dX1_pipsInside_10 : decode cX1_pipsInside 10 = .ok (.iconst 0, 1) := by decide +kernel
theorem dX1_pipsInside_11 : decode cX1_pipsInside 11 = .ok (.istore_n 1, 1) := by decide +kernel
theorem dX1_pipsInside_12 : decode cX1_pipsInside 12 = .ok (.aload_n 0, 1) := by decide +kernel
theorem dX1_pipsInside_13 : decode cX1_pipsInside 13 = .ok (.getfield 22, 3) := by decide +kernel
theorem dX1_pipsInside_16 : decode cX1_pipsInside 16 = .ok (.istore_n 2, 1) := by decide +kernel
theorem dX1_pipsInside_17 : decode cX1_pipsInside 17 = .ok (.iload_n 2, 1) := by decide +kernel
theorem dX1_pipsInside_18 : decode cX1_pipsInside 18 = .ok (.aload_n 0, 1) := by decide +kernel
theorem dX1_pipsInside_19 : decode cX1_pipsInside 19 = .ok (.getfield 26, 3) := by decide +kernel
theorem dX1_pipsInside_22 : decode cX1_pipsInside 22 = .ok (.if_icmp .ge 28, 3) := by decide +kernel
theorem dX1_pipsInside_25 : decode cX1_pipsInside 25 = .ok (.iload_n 2, 1) := by decide +kernel
theorem dX1_pipsInside_26 : decode cX1_pipsInside 26 = .ok (.sipush 648, 3) := by decide +kernel
theorem dX1_pipsInside_29 : decode cX1_pipsInside 29 = .ok (.if_icmp .ge 21, 3) := by decide +kernel
theorem dX1_pipsInside_32 : decode cX1_pipsInside 32 = .ok (.aload_n 0, 1) := by decide +kernel
theorem dX1_pipsInside_33 : decode cX1_pipsInside 33 = .ok (.getfield 18, 3) := by decide +kernel
theorem dX1_pipsInside_36 : decode cX1_pipsInside 36 = .ok (.iload_n 2, 1) := by decide +kernel
theorem dX1_pipsInside_37 : decode cX1_pipsInside 37 = .ok (.baload, 1) := by decide +kernel
theorem dX1_pipsInside_38 : decode cX1_pipsInside 38 = .ok (.ifCond .eq 6, 3) := by decide +kernel
theorem dX1_pipsInside_4 : decode cX1_pipsInside 4 = .ok (.iconst (-1), 1) := by decide +kernel
theorem dX1_pipsInside_41 : decode cX1_pipsInside 41 = .ok (.iinc 1 1, 3) := by decide +kernel
theorem dX1_pipsInside_44 : decode cX1_pipsInside 44 = .ok (.iinc 2 1, 3) := by decide +kernel
theorem dX1_pipsInside_47 : decode cX1_pipsInside 47 = .ok (.goto (-30), 3) := by decide +kernel
theorem dX1_pipsInside_5 : decode cX1_pipsInside 5 = .ok (.if_icmp .ne 5, 3) := by decide +kernel
theorem dX1_pipsInside_50 : decode cX1_pipsInside 50 = .ok (.iload_n 1, 1) := by decide +kernel
theorem dX1_pipsInside_51 : decode cX1_pipsInside 51 = .ok (.ireturn, 1) := by decide +kernel
theorem dX1_pipsInside_8 : decode cX1_pipsInside 8 = .ok (.iconst (-1), 1) := by decide +kernel
theorem dX1_pipsInside_9 : decode cX1_pipsInside 9 = .ok (.ireturn, 1) := by decide +kernel
theorem dX1_steps_0 : decode cX1_steps 0 = .ok (.aload_n 0, 1) := by decide +kernel
theorem dX1_steps_1 : decode cX1_steps 1 = .ok (.getfield 22, 3) := by decide +kernel
theorem dX1_steps_12 : decode cX1_steps 12 = .ok (.aload_n 0, 1) := by decide +kernel
theorem dX1_steps_13 : decode cX1_steps 13 = .ok (.getfield 26, 3) := by decide +kernel
theorem dX1_steps_16 : decode cX1_steps 16 = .ok (.aload_n 0, 1) := by decide +kernel
theorem dX1_steps_17 : decode cX1_steps 17 = .ok (.getfield 22, 3) := by decide +kernel
theorem dX1_steps_20 : decode cX1_steps 20 = .ok (.isub, 1) := by decide +kernel
theorem dX1_steps_21 : decode cX1_steps 21 = .ok (.ireturn, 1) := by decide +kernel
theorem dX1_steps_4 : decode cX1_steps 4 = .ok (.iconst (-1), 1) := by decide +kernel
theorem dX1_steps_5 : decode cX1_steps 5 = .ok (.if_icmp .ne 7, 3) := by decide +kernel
theorem dX1_steps_8 : decode cX1_steps 8 = .ok (.iconst (-1), 1) := by decide +kernel
theorem dX1_steps_9 : decode cX1_steps 9 = .ok (.goto 12, 3) := by decide +kernel
theorem dX1_toneAt_0 : decode cX1_toneAt 0 = .ok (.aload_n 0, 1) := by decide +kernel
theorem dX1_toneAt_1 : decode cX1_toneAt 1 = .ok (.invokevirtual 53, 3) := by decide +kernel
theorem dX1_toneAt_10 : decode cX1_toneAt 10 = .ok (.ifCond .ge 5, 3) := by decide +kernel
theorem dX1_toneAt_13 : decode cX1_toneAt 13 = .ok (.iconst (-1), 1) := by decide +kernel
theorem dX1_toneAt_14 : decode cX1_toneAt 14 = .ok (.ireturn, 1) := by decide +kernel
theorem dX1_toneAt_15 : decode cX1_toneAt 15 = .ok (.iload_n 1, 1) := by decide +kernel
theorem dX1_toneAt_16 : decode cX1_toneAt 16 = .ok (.aload_n 0, 1) := by decide +kernel
theorem dX1_toneAt_17 : decode cX1_toneAt 17 = .ok (.getfield 26, 3) := by decide +kernel
theorem dX1_toneAt_20 : decode cX1_toneAt 20 = .ok (.if_icmp .ge 7, 3) := by decide +kernel
theorem dX1_toneAt_23 : decode cX1_toneAt 23 = .ok (.iload_n 1, 1) := by decide +kernel
theorem dX1_toneAt_24 : decode cX1_toneAt 24 = .ok (.goto 16, 3) := by decide +kernel
theorem dX1_toneAt_27 : decode cX1_toneAt 27 = .ok (.aload_n 0, 1) := by decide +kernel
theorem dX1_toneAt_28 : decode cX1_toneAt 28 = .ok (.getfield 22, 3) := by decide +kernel
theorem dX1_toneAt_31 : decode cX1_toneAt 31 = .ok (.iload_n 1, 1) := by decide +kernel
theorem dX1_toneAt_32 : decode cX1_toneAt 32 = .ok (.aload_n 0, 1) := by decide +kernel
theorem dX1_toneAt_33 : decode cX1_toneAt 33 = .ok (.getfield 22, 3) := by decide +kernel
theorem dX1_toneAt_36 : decode cX1_toneAt 36 = .ok (.isub, 1) := by decide +kernel
theorem dX1_toneAt_37 : decode cX1_toneAt 37 = .ok (.iload_n 2, 1) := by decide +kernel
theorem dX1_toneAt_38 : decode cX1_toneAt 38 = .ok (.irem, 1) := by decide +kernel
theorem dX1_toneAt_39 : decode cX1_toneAt 39 = .ok (.iadd, 1) := by decide +kernel
theorem dX1_toneAt_4 : decode cX1_toneAt 4 = .ok (.istore_n 2, 1) := by decide +kernel
theorem dX1_toneAt_40 : decode cX1_toneAt 40 = .ok (.istore_n 3, 1) := by decide +kernel
theorem dX1_toneAt_41 : decode cX1_toneAt 41 = .ok (.iload_n 3, 1) := by decide +kernel
theorem dX1_toneAt_42 : decode cX1_toneAt 42 = .ok (.ifCond .lt 19, 3) := by decide +kernel
theorem dX1_toneAt_45 : decode cX1_toneAt 45 = .ok (.iload_n 3, 1) := by decide +kernel
theorem dX1_toneAt_46 : decode cX1_toneAt 46 = .ok (.sipush 648, 3) := by decide +kernel
theorem dX1_toneAt_49 : decode cX1_toneAt 49 = .ok (.if_icmp .ge 12, 3) := by decide +kernel
theorem dX1_toneAt_5 : decode cX1_toneAt 5 = .ok (.iload_n 2, 1) := by decide +kernel
theorem dX1_toneAt_52 : decode cX1_toneAt 52 = .ok (.aload_n 0, 1) := by decide +kernel
theorem dX1_toneAt_53 : decode cX1_toneAt 53 = .ok (.getfield 15, 3) := by decide +kernel
theorem dX1_toneAt_56 : decode cX1_toneAt 56 = .ok (.iload_n 3, 1) := by decide +kernel
theorem dX1_toneAt_57 : decode cX1_toneAt 57 = .ok (.iaload, 1) := by decide +kernel
theorem dX1_toneAt_58 : decode cX1_toneAt 58 = .ok (.goto 4, 3) := by decide +kernel
theorem dX1_toneAt_6 : decode cX1_toneAt 6 = .ok (.ifCond .le 7, 3) := by decide +kernel
theorem dX1_toneAt_61 : decode cX1_toneAt 61 = .ok (.iconst (-1), 1) := by decide +kernel
theorem dX1_toneAt_62 : decode cX1_toneAt 62 = .ok (.ireturn, 1) := by decide +kernel
theorem dX1_toneAt_9 : decode cX1_toneAt 9 = .ok (.iload_n 1, 1) := by decide +kernel
theorem dX2_answerBehind_0 : decode cX2_answerBehind 0 = .ok (.aload_n 0, 1) := by decide +kernel
theorem dX2_answerBehind_1 : decode cX2_answerBehind 1 = .ok (.getfield 18, 3) := by decide +kernel
theorem dX2_answerBehind_4 : decode cX2_answerBehind 4 = .ok (.ireturn, 1) := by decide +kernel
theorem dX2_answersLost_0 : decode cX2_answersLost 0 = .ok (.aload_n 0, 1) := by decide +kernel
theorem dX2_answersLost_1 : decode cX2_answersLost 1 = .ok (.getfield 15, 3) := by decide +kernel
theorem dX2_answersLost_4 : decode cX2_answersLost 4 = .ok (.ireturn, 1) := by decide +kernel
theorem dX2_drawAnswer_0 : decode cX2_drawAnswer 0 = .ok (.aload_n 1, 1) := by decide +kernel
theorem dX2_drawAnswer_1 : decode cX2_drawAnswer 1 = .ok (.invokevirtual 39, 3) := by decide +kernel
theorem dX2_drawAnswer_12 : decode cX2_drawAnswer 12 = .ok (.aload_n 0, 1) := by decide +kernel
theorem dX2_drawAnswer_13 : decode cX2_drawAnswer 13 = .ok (.invokevirtual 49, 3) := by decide +kernel
theorem dX2_drawAnswer_16 : decode cX2_drawAnswer 16 = .ok (.aload_n 1, 1) := by decide +kernel
theorem dX2_drawAnswer_17 : decode cX2_drawAnswer 17 = .ok (.invokevirtual 53, 3) := by decide +kernel
theorem dX2_drawAnswer_20 : decode cX2_drawAnswer 20 = .ok (.if_icmp .ge 21, 3) := by decide +kernel
theorem dX2_drawAnswer_23 : decode cX2_drawAnswer 23 = .ok (.aload_n 0, 1) := by decide +kernel
theorem dX2_drawAnswer_24 : decode cX2_drawAnswer 24 = .ok (.dup, 1) := by decide +kernel
theorem dX2_drawAnswer_25 : decode cX2_drawAnswer 25 = .ok (.getfield 15, 3) := by decide +kernel
theorem dX2_drawAnswer_28 : decode cX2_drawAnswer 28 = .ok (.iconst 1, 1) := by decide +kernel
theorem dX2_drawAnswer_29 : decode cX2_drawAnswer 29 = .ok (.iadd, 1) := by decide +kernel
theorem dX2_drawAnswer_30 : decode cX2_drawAnswer 30 = .ok (.putfield 15, 3) := by decide +kernel
theorem dX2_drawAnswer_33 : decode cX2_drawAnswer 33 = .ok (.aload_n 0, 1) := by decide +kernel
theorem dX2_drawAnswer_34 : decode cX2_drawAnswer 34 = .ok (.iconst (-1), 1) := by decide +kernel
theorem dX2_drawAnswer_35 : decode cX2_drawAnswer 35 = .ok (.putfield 9, 3) := by decide +kernel
theorem dX2_drawAnswer_38 : decode cX2_drawAnswer 38 = .ok (.goto 11, 3) := by decide +kernel
theorem dX2_drawAnswer_4 : decode cX2_drawAnswer 4 = .ok (.iload_n 2, 1) := by decide +kernel
theorem dX2_drawAnswer_41 : decode cX2_drawAnswer 41 = .ok (.aload_n 0, 1) := by decide +kernel
theorem dX2_drawAnswer_42 : decode cX2_drawAnswer 42 = .ok (.aload_n 0, 1) := by decide +kernel
theorem dX2_drawAnswer_43 : decode cX2_drawAnswer 43 = .ok (.getfield 9, 3) := by decide +kernel
theorem dX2_drawAnswer_46 : decode cX2_drawAnswer 46 = .ok (.putfield 18, 3) := by decide +kernel
theorem dX2_drawAnswer_49 : decode cX2_drawAnswer 49 = .ok (.return_, 1) := by decide +kernel
theorem dX2_drawAnswer_5 : decode cX2_drawAnswer 5 = .ok (.invokevirtual 43, 3) := by decide +kernel
theorem dX2_drawAnswer_8 : decode cX2_drawAnswer 8 = .ok (.iconst (-1), 1) := by decide +kernel
theorem dX2_drawAnswer_9 : decode cX2_drawAnswer 9 = .ok (.if_icmp .ne 32, 3) := by decide +kernel
theorem dX2_draw_0 : decode cX2_draw 0 = .ok (.aload_n 0, 1) := by decide +kernel
theorem dX2_draw_1 : decode cX2_draw 1 = .ok (.iload_n 2, 1) := by decide +kernel
theorem dX2_draw_11 : decode cX2_draw 11 = .ok (.aload_n 0, 1) := by decide +kernel
theorem dX2_draw_12 : decode cX2_draw 12 = .ok (.iconst 0, 1) := by decide +kernel
theorem dX2_draw_13 : decode cX2_draw 13 = .ok (.putfield 15, 3) := by decide +kernel
theorem dX2_draw_16 : decode cX2_draw 16 = .ok (.aload_n 0, 1) := by decide +kernel
theorem dX2_draw_17 : decode cX2_draw 17 = .ok (.iconst 0, 1) := by decide +kernel
theorem dX2_draw_18 : decode cX2_draw 18 = .ok (.putfield 18, 3) := by decide +kernel
theorem dX2_draw_2 : decode cX2_draw 2 = .ok (.i2l, 1) := by decide +kernel
theorem dX2_draw_21 : decode cX2_draw 21 = .ok (.iconst 0, 1) := by decide +kernel
theorem dX2_draw_22 : decode cX2_draw 22 = .ok (.istore 4, 2) := by decide +kernel
theorem dX2_draw_24 : decode cX2_draw 24 = .ok (.iconst 0, 1) := by decide +kernel
theorem dX2_draw_25 : decode cX2_draw 25 = .ok (.istore 5, 2) := by decide +kernel
theorem dX2_draw_27 : decode cX2_draw 27 = .ok (.iload 5, 2) := by decide +kernel
theorem dX2_draw_29 : decode cX2_draw 29 = .ok (.iload_n 3, 1) := by decide +kernel
theorem dX2_draw_3 : decode cX2_draw 3 = .ok (.putfield 21, 3) := by decide +kernel
theorem dX2_draw_30 : decode cX2_draw 30 = .ok (.if_icmp .gt 65, 3) := by decide +kernel
theorem dX2_draw_33 : decode cX2_draw 33 = .ok (.iload 5, 2) := by decide +kernel
theorem dX2_draw_35 : decode cX2_draw 35 = .ok (.bipush 61, 2) := by decide +kernel
theorem dX2_draw_37 : decode cX2_draw 37 = .ok (.if_icmp .ge 58, 3) := by decide +kernel
theorem dX2_draw_40 : decode cX2_draw 40 = .ok (.aload_n 0, 1) := by decide +kernel
theorem dX2_draw_41 : decode cX2_draw 41 = .ok (.aload_n 1, 1) := by decide +kernel
theorem dX2_draw_42 : decode cX2_draw 42 = .ok (.iload 5, 2) := by decide +kernel
theorem dX2_draw_44 : decode cX2_draw 44 = .ok (.iload 4, 2) := by decide +kernel
theorem dX2_draw_46 : decode cX2_draw 46 = .ok (.aload_n 0, 1) := by decide +kernel
theorem dX2_draw_47 : decode cX2_draw 47 = .ok (.getfield 18, 3) := by decide +kernel
theorem dX2_draw_50 : decode cX2_draw 50 = .ok (.invokevirtual 25, 3) := by decide +kernel
theorem dX2_draw_53 : decode cX2_draw 53 = .ok (.putfield 9, 3) := by decide +kernel
theorem dX2_draw_56 : decode cX2_draw 56 = .ok (.aload_n 1, 1) := by decide +kernel
theorem dX2_draw_57 : decode cX2_draw 57 = .ok (.iload 5, 2) := by decide +kernel
theorem dX2_draw_59 : decode cX2_draw 59 = .ok (.invokevirtual 31, 3) := by decide +kernel
theorem dX2_draw_6 : decode cX2_draw 6 = .ok (.aload_n 0, 1) := by decide +kernel
theorem dX2_draw_62 : decode cX2_draw 62 = .ok (.ifCond .eq 13, 3) := by decide +kernel
theorem dX2_draw_65 : decode cX2_draw 65 = .ok (.aload_n 0, 1) := by decide +kernel
theorem dX2_draw_66 : decode cX2_draw 66 = .ok (.aload_n 1, 1) := by decide +kernel
theorem dX2_draw_67 : decode cX2_draw 67 = .ok (.iload 5, 2) := by decide +kernel
theorem dX2_draw_69 : decode cX2_draw 69 = .ok (.invokevirtual 35, 3) := by decide +kernel
theorem dX2_draw_7 : decode cX2_draw 7 = .ok (.iconst (-1), 1) := by decide +kernel
theorem dX2_draw_72 : decode cX2_draw 72 = .ok (.goto 17, 3) := by decide +kernel
theorem dX2_draw_75 : decode cX2_draw 75 = .ok (.aload_n 0, 1) := by decide +kernel
theorem dX2_draw_76 : decode cX2_draw 76 = .ok (.getfield 9, 3) := by decide +kernel
theorem dX2_draw_79 : decode cX2_draw 79 = .ok (.iconst (-1), 1) := by decide +kernel
theorem dX2_draw_8 : decode cX2_draw 8 = .ok (.putfield 9, 3) := by decide +kernel
theorem dX2_draw_80 : decode cX2_draw 80 = .ok (.if_icmp .eq 9, 3) := by decide +kernel
theorem dX2_draw_83 : decode cX2_draw 83 = .ok (.aload_n 0, 1) := by decide +kernel
theorem dX2_draw_84 : decode cX2_draw 84 = .ok (.getfield 9, 3) := by decide +kernel
theorem dX2_draw_87 : decode cX2_draw 87 = .ok (.istore 4, 2) := by decide +kernel
theorem dX2_draw_89 : decode cX2_draw 89 = .ok (.iinc 5 1, 3) := by decide +kernel
theorem dX2_draw_92 : decode cX2_draw 92 = .ok (.goto (-65), 3) := by decide +kernel
theorem dX2_draw_95 : decode cX2_draw 95 = .ok (.return_, 1) := by decide +kernel
theorem dX2_nextDraw_0 : decode cX2_nextDraw 0 = .ok (.aload_n 0, 1) := by decide +kernel
theorem dX2_nextDraw_1 : decode cX2_nextDraw 1 = .ok (.ldc2_w 56, 3) := by decide +kernel
theorem dX2_nextDraw_12 : decode cX2_nextDraw 12 = .ok (.ladd, 1) := by decide +kernel
theorem dX2_nextDraw_13 : decode cX2_nextDraw 13 = .ok (.ldc2_w 60, 3) := by decide +kernel
theorem dX2_nextDraw_16 : decode cX2_nextDraw 16 = .ok (.lrem, 1) := by decide +kernel
theorem dX2_nextDraw_17 : decode cX2_nextDraw 17 = .ok (.putfield 21, 3) := by decide +kernel
theorem dX2_nextDraw_20 : decode cX2_nextDraw 20 = .ok (.aload_n 0, 1) := by decide +kernel
theorem dX2_nextDraw_21 : decode cX2_nextDraw 21 = .ok (.getfield 21, 3) := by decide +kernel
theorem dX2_nextDraw_24 : decode cX2_nextDraw 24 = .ok (.ldc2_w 62, 3) := by decide +kernel
theorem dX2_nextDraw_27 : decode cX2_nextDraw 27 = .ok (.ldiv, 1) := by decide +kernel
theorem dX2_nextDraw_28 : decode cX2_nextDraw 28 = .ok (.ldc2_w 64, 3) := by decide +kernel
theorem dX2_nextDraw_31 : decode cX2_nextDraw 31 = .ok (.lrem, 1) := by decide +kernel
theorem dX2_nextDraw_32 : decode cX2_nextDraw 32 = .ok (.l2i, 1) := by decide +kernel
theorem dX2_nextDraw_33 : decode cX2_nextDraw 33 = .ok (.ireturn, 1) := by decide +kernel
theorem dX2_nextDraw_4 : decode cX2_nextDraw 4 = .ok (.aload_n 0, 1) := by decide +kernel
theorem dX2_nextDraw_5 : decode cX2_nextDraw 5 = .ok (.getfield 21, 3) := by decide +kernel
theorem dX2_nextDraw_8 : decode cX2_nextDraw 8 = .ok (.lmul, 1) := by decide +kernel
theorem dX2_nextDraw_9 : decode cX2_nextDraw 9 = .ok (.ldc2_w 58, 3) := by decide +kernel
theorem dX2_toneAtEnd_0 : decode cX2_toneAtEnd 0 = .ok (.aload_n 0, 1) := by decide +kernel
theorem dX2_toneAtEnd_1 : decode cX2_toneAtEnd 1 = .ok (.getfield 9, 3) := by decide +kernel
theorem dX2_toneAtEnd_4 : decode cX2_toneAtEnd 4 = .ok (.ireturn, 1) := by decide +kernel
theorem dX3_begin_0 : decode cX3_begin 0 = .ok (.aload_n 0, 1) := by decide +kernel
theorem dX3_begin_1 : decode cX3_begin 1 = .ok (.getfield 12, 3) := by decide +kernel
theorem dX3_begin_12 : decode cX3_begin 12 = .ok (.invokevirtual 96, 3) := by decide +kernel
theorem dX3_begin_15 : decode cX3_begin 15 = .ok (.invokevirtual 100, 3) := by decide +kernel
theorem dX3_begin_18 : decode cX3_begin 18 = .ok (.return_, 1) := by decide +kernel
theorem dX3_begin_4 : decode cX3_begin 4 = .ok (.aload_n 1, 1) := by decide +kernel
theorem dX3_begin_5 : decode cX3_begin 5 = .ok (.invokevirtual 93, 3) := by decide +kernel
theorem dX3_begin_8 : decode cX3_begin 8 = .ok (.aload_n 0, 1) := by decide +kernel
theorem dX3_begin_9 : decode cX3_begin 9 = .ok (.getfield 12, 3) := by decide +kernel
theorem dX3_firstFitting_0 : decode cX3_firstFitting 0 = .ok (.aload_n 0, 1) := by decide +kernel
theorem dX3_firstFitting_1 : decode cX3_firstFitting 1 = .ok (.getfield 39, 3) := by decide +kernel
theorem dX3_firstFitting_4 : decode cX3_firstFitting 4 = .ok (.ireturn, 1) := by decide +kernel
theorem dX3_howMany_0 : decode cX3_howMany 0 = .ok (.aload_n 0, 1) := by decide +kernel
theorem dX3_howMany_1 : decode cX3_howMany 1 = .ok (.getfield 36, 3) := by decide +kernel
theorem dX3_howMany_4 : decode cX3_howMany 4 = .ok (.ireturn, 1) := by decide +kernel
theorem dX3_prettiest_0 : decode cX3_prettiest 0 = .ok (.aload_n 0, 1) := by decide +kernel
theorem dX3_prettiest_1 : decode cX3_prettiest 1 = .ok (.getfield 29, 3) := by decide +kernel
theorem dX3_prettiest_4 : decode cX3_prettiest 4 = .ok (.ireturn, 1) := by decide +kernel
theorem dX3_silentLaws_0 : decode cX3_silentLaws 0 = .ok (.aload_n 0, 1) := by decide +kernel
theorem dX3_silentLaws_1 : decode cX3_silentLaws 1 = .ok (.getfield 33, 3) := by decide +kernel
theorem dX3_silentLaws_4 : decode cX3_silentLaws 4 = .ok (.ireturn, 1) := by decide +kernel
theorem dX4_hear_0 : decode cX4_hear 0 = .ok (.iconst 0, 1) := by decide +kernel
theorem dX4_hear_1 : decode cX4_hear 1 = .ok (.istore_n 3, 1) := by decide +kernel
theorem dX4_hear_10 : decode cX4_hear 10 = .ok (.iload_n 2, 1) := by decide +kernel
theorem dX4_hear_101 : decode cX4_hear 101 = .ok (.iload 6, 2) := by decide +kernel
theorem dX4_hear_103 : decode cX4_hear 103 = .ok (.iconst (-1), 1) := by decide +kernel
theorem dX4_hear_104 : decode cX4_hear 104 = .ok (.if_icmp .eq 6, 3) := by decide +kernel
theorem dX4_hear_107 : decode cX4_hear 107 = .ok (.iload 6, 2) := by decide +kernel
theorem dX4_hear_109 : decode cX4_hear 109 = .ok (.istore_n 3, 1) := by decide +kernel
theorem dX4_hear_11 : decode cX4_hear 11 = .ok (.if_icmp .gt 105, 3) := by decide +kernel
theorem dX4_hear_110 : decode cX4_hear 110 = .ok (.iinc 5 1, 3) := by decide +kernel
theorem dX4_hear_113 : decode cX4_hear 113 = .ok (.goto (-105), 3) := by decide +kernel
theorem dX4_hear_116 : decode cX4_hear 116 = .ok (.return_, 1) := by decide +kernel
theorem dX4_hear_14 : decode cX4_hear 14 = .ok (.iload 5, 2) := by decide +kernel
theorem dX4_hear_16 : decode cX4_hear 16 = .ok (.bipush 61, 2) := by decide +kernel
theorem dX4_hear_18 : decode cX4_hear 18 = .ok (.if_icmp .ge 98, 3) := by decide +kernel
theorem dX4_hear_2 : decode cX4_hear 2 = .ok (.iconst 0, 1) := by decide +kernel
theorem dX4_hear_21 : decode cX4_hear 21 = .ok (.aload_n 1, 1) := by decide +kernel
theorem dX4_hear_22 : decode cX4_hear 22 = .ok (.iload 5, 2) := by decide +kernel
theorem dX4_hear_24 : decode cX4_hear 24 = .ok (.iload_n 3, 1) := by decide +kernel
theorem dX4_hear_25 : decode cX4_hear 25 = .ok (.iload 4, 2) := by decide +kernel
theorem dX4_hear_27 : decode cX4_hear 27 = .ok (.invokevirtual 25, 3) := by decide +kernel
theorem dX4_hear_3 : decode cX4_hear 3 = .ok (.istore 4, 2) := by decide +kernel
theorem dX4_hear_30 : decode cX4_hear 30 = .ok (.istore 6, 2) := by decide +kernel
theorem dX4_hear_32 : decode cX4_hear 32 = .ok (.aload_n 1, 1) := by decide +kernel
theorem dX4_hear_33 : decode cX4_hear 33 = .ok (.iload 5, 2) := by decide +kernel
theorem dX4_hear_35 : decode cX4_hear 35 = .ok (.invokevirtual 31, 3) := by decide +kernel
theorem dX4_hear_38 : decode cX4_hear 38 = .ok (.istore 7, 2) := by decide +kernel
theorem dX4_hear_40 : decode cX4_hear 40 = .ok (.aload_n 0, 1) := by decide +kernel
theorem dX4_hear_41 : decode cX4_hear 41 = .ok (.getfield 9, 3) := by decide +kernel
theorem dX4_hear_44 : decode cX4_hear 44 = .ok (.iload 5, 2) := by decide +kernel
theorem dX4_hear_46 : decode cX4_hear 46 = .ok (.iload 6, 2) := by decide +kernel
theorem dX4_hear_48 : decode cX4_hear 48 = .ok (.iastore, 1) := by decide +kernel
theorem dX4_hear_49 : decode cX4_hear 49 = .ok (.aload_n 0, 1) := by decide +kernel
theorem dX4_hear_5 : decode cX4_hear 5 = .ok (.iconst 0, 1) := by decide +kernel
theorem dX4_hear_50 : decode cX4_hear 50 = .ok (.getfield 15, 3) := by decide +kernel
theorem dX4_hear_53 : decode cX4_hear 53 = .ok (.iload 5, 2) := by decide +kernel
theorem dX4_hear_55 : decode cX4_hear 55 = .ok (.iload_n 3, 1) := by decide +kernel
theorem dX4_hear_56 : decode cX4_hear 56 = .ok (.iastore, 1) := by decide +kernel
theorem dX4_hear_57 : decode cX4_hear 57 = .ok (.aload_n 0, 1) := by decide +kernel
theorem dX4_hear_58 : decode cX4_hear 58 = .ok (.getfield 18, 3) := by decide +kernel
theorem dX4_hear_6 : decode cX4_hear 6 = .ok (.istore 5, 2) := by decide +kernel
theorem dX4_hear_61 : decode cX4_hear 61 = .ok (.iload 5, 2) := by decide +kernel
theorem dX4_hear_63 : decode cX4_hear 63 = .ok (.iload 4, 2) := by decide +kernel
theorem dX4_hear_65 : decode cX4_hear 65 = .ok (.iastore, 1) := by decide +kernel
theorem dX4_hear_66 : decode cX4_hear 66 = .ok (.aload_n 0, 1) := by decide +kernel
theorem dX4_hear_67 : decode cX4_hear 67 = .ok (.getfield 21, 3) := by decide +kernel
theorem dX4_hear_70 : decode cX4_hear 70 = .ok (.iload 5, 2) := by decide +kernel
theorem dX4_hear_72 : decode cX4_hear 72 = .ok (.iload 7, 2) := by decide +kernel
theorem dX4_hear_74 : decode cX4_hear 74 = .ok (.ifCond .eq 13, 3) := by decide +kernel
theorem dX4_hear_77 : decode cX4_hear 77 = .ok (.iload 6, 2) := by decide +kernel
theorem dX4_hear_79 : decode cX4_hear 79 = .ok (.iload_n 3, 1) := by decide +kernel
theorem dX4_hear_8 : decode cX4_hear 8 = .ok (.iload 5, 2) := by decide +kernel
theorem dX4_hear_80 : decode cX4_hear 80 = .ok (.if_icmp .ne 7, 3) := by decide +kernel
theorem dX4_hear_83 : decode cX4_hear 83 = .ok (.iconst 1, 1) := by decide +kernel
theorem dX4_hear_84 : decode cX4_hear 84 = .ok (.goto 4, 3) := by decide +kernel
theorem dX4_hear_87 : decode cX4_hear 87 = .ok (.iconst 0, 1) := by decide +kernel
theorem dX4_hear_88 : decode cX4_hear 88 = .ok (.bastore, 1) := by decide +kernel
theorem dX4_hear_89 : decode cX4_hear 89 = .ok (.iload 7, 2) := by decide +kernel
theorem dX4_hear_91 : decode cX4_hear 91 = .ok (.ifCond .eq 10, 3) := by decide +kernel
theorem dX4_hear_94 : decode cX4_hear 94 = .ok (.iload 6, 2) := by decide +kernel
theorem dX4_hear_96 : decode cX4_hear 96 = .ok (.istore 4, 2) := by decide +kernel
theorem dX4_hear_98 : decode cX4_hear 98 = .ok (.goto 12, 3) := by decide +kernel
theorem dX8_acts_0 : decode cX8_acts 0 = .ok (.aload_n 0, 1) := by decide +kernel
theorem dX8_acts_1 : decode cX8_acts 1 = .ok (.getfield 21, 3) := by decide +kernel
theorem dX8_acts_4 : decode cX8_acts 4 = .ok (.areturn, 1) := by decide +kernel
theorem dX8_copyFrom_0 : decode cX8_copyFrom 0 = .ok (.aload_n 0, 1) := by decide +kernel
theorem dX8_copyFrom_1 : decode cX8_copyFrom 1 = .ok (.aload_n 1, 1) := by decide +kernel
theorem dX8_copyFrom_10 : decode cX8_copyFrom 10 = .ok (.getfield 41, 3) := by decide +kernel
theorem dX8_copyFrom_13 : decode cX8_copyFrom 13 = .ok (.invokevirtual 53, 3) := by decide +kernel
theorem dX8_copyFrom_16 : decode cX8_copyFrom 16 = .ok (.aload_n 0, 1) := by decide +kernel
theorem dX8_copyFrom_17 : decode cX8_copyFrom 17 = .ok (.aload_n 1, 1) := by decide +kernel
theorem dX8_copyFrom_18 : decode cX8_copyFrom 18 = .ok (.getfield 29, 3) := by decide +kernel
theorem dX8_copyFrom_2 : decode cX8_copyFrom 2 = .ok (.getfield 25, 3) := by decide +kernel
theorem dX8_copyFrom_21 : decode cX8_copyFrom 21 = .ok (.aload_n 1, 1) := by decide +kernel
theorem dX8_copyFrom_22 : decode cX8_copyFrom 22 = .ok (.getfield 32, 3) := by decide +kernel
theorem dX8_copyFrom_25 : decode cX8_copyFrom 25 = .ok (.aload_n 1, 1) := by decide +kernel
theorem dX8_copyFrom_26 : decode cX8_copyFrom 26 = .ok (.getfield 35, 3) := by decide +kernel
theorem dX8_copyFrom_29 : decode cX8_copyFrom 29 = .ok (.invokevirtual 57, 3) := by decide +kernel
theorem dX8_copyFrom_32 : decode cX8_copyFrom 32 = .ok (.aload_n 0, 1) := by decide +kernel
theorem dX8_copyFrom_33 : decode cX8_copyFrom 33 = .ok (.aload_n 1, 1) := by decide +kernel
theorem dX8_copyFrom_34 : decode cX8_copyFrom 34 = .ok (.getfield 44, 3) := by decide +kernel
theorem dX8_copyFrom_37 : decode cX8_copyFrom 37 = .ok (.putfield 44, 3) := by decide +kernel
theorem dX8_copyFrom_40 : decode cX8_copyFrom 40 = .ok (.aload_n 0, 1) := by decide +kernel
theorem dX8_copyFrom_41 : decode cX8_copyFrom 41 = .ok (.aload_n 1, 1) := by decide +kernel
theorem dX8_copyFrom_42 : decode cX8_copyFrom 42 = .ok (.getfield 47, 3) := by decide +kernel
theorem dX8_copyFrom_45 : decode cX8_copyFrom 45 = .ok (.putfield 47, 3) := by decide +kernel
theorem dX8_copyFrom_48 : decode cX8_copyFrom 48 = .ok (.aload_n 1, 1) := by decide +kernel
theorem dX8_copyFrom_49 : decode cX8_copyFrom 49 = .ok (.getfield 9, 3) := by decide +kernel
theorem dX8_copyFrom_5 : decode cX8_copyFrom 5 = .ok (.aload_n 1, 1) := by decide +kernel
theorem dX8_copyFrom_52 : decode cX8_copyFrom 52 = .ok (.iconst 0, 1) := by decide +kernel
theorem dX8_copyFrom_53 : decode cX8_copyFrom 53 = .ok (.aload_n 0, 1) := by decide +kernel
theorem dX8_copyFrom_54 : decode cX8_copyFrom 54 = .ok (.getfield 9, 3) := by decide +kernel
theorem dX8_copyFrom_57 : decode cX8_copyFrom 57 = .ok (.iconst 0, 1) := by decide +kernel
theorem dX8_copyFrom_58 : decode cX8_copyFrom 58 = .ok (.bipush 8, 2) := by decide +kernel
theorem dX8_copyFrom_6 : decode cX8_copyFrom 6 = .ok (.getfield 38, 3) := by decide +kernel
theorem dX8_copyFrom_60 : decode cX8_copyFrom 60 = .ok (.invokestatic 63, 3) := by decide +kernel
theorem dX8_copyFrom_63 : decode cX8_copyFrom 63 = .ok (.aload_n 0, 1) := by decide +kernel
theorem dX8_copyFrom_64 : decode cX8_copyFrom 64 = .ok (.aload_n 1, 1) := by decide +kernel
theorem dX8_copyFrom_65 : decode cX8_copyFrom 65 = .ok (.getfield 50, 3) := by decide +kernel
theorem dX8_copyFrom_68 : decode cX8_copyFrom 68 = .ok (.putfield 50, 3) := by decide +kernel
theorem dX8_copyFrom_71 : decode cX8_copyFrom 71 = .ok (.aload_n 1, 1) := by decide +kernel
theorem dX8_copyFrom_72 : decode cX8_copyFrom 72 = .ok (.getfield 15, 3) := by decide +kernel
theorem dX8_copyFrom_75 : decode cX8_copyFrom 75 = .ok (.iconst 0, 1) := by decide +kernel
theorem dX8_copyFrom_76 : decode cX8_copyFrom 76 = .ok (.aload_n 0, 1) := by decide +kernel
theorem dX8_copyFrom_77 : decode cX8_copyFrom 77 = .ok (.getfield 15, 3) := by decide +kernel
theorem dX8_copyFrom_80 : decode cX8_copyFrom 80 = .ok (.iconst 0, 1) := by decide +kernel
theorem dX8_copyFrom_81 : decode cX8_copyFrom 81 = .ok (.iconst 5, 1) := by decide +kernel
theorem dX8_copyFrom_82 : decode cX8_copyFrom 82 = .ok (.invokestatic 63, 3) := by decide +kernel
theorem dX8_copyFrom_85 : decode cX8_copyFrom 85 = .ok (.aload_n 0, 1) := by decide +kernel
theorem dX8_copyFrom_86 : decode cX8_copyFrom 86 = .ok (.getfield 21, 3) := by decide +kernel
theorem dX8_copyFrom_89 : decode cX8_copyFrom 89 = .ok (.aload_n 1, 1) := by decide +kernel
theorem dX8_copyFrom_9 : decode cX8_copyFrom 9 = .ok (.aload_n 1, 1) := by decide +kernel
theorem dX8_copyFrom_90 : decode cX8_copyFrom 90 = .ok (.getfield 21, 3) := by decide +kernel
theorem dX8_copyFrom_93 : decode cX8_copyFrom 93 = .ok (.invokevirtual 69, 3) := by decide +kernel
theorem dX8_copyFrom_96 : decode cX8_copyFrom 96 = .ok (.return_, 1) := by decide +kernel
theorem dX8_isGap_0 : decode cX8_isGap 0 = .ok (.aload_n 0, 1) := by decide +kernel
theorem dX8_isGap_1 : decode cX8_isGap 1 = .ok (.getfield 47, 3) := by decide +kernel
theorem dX8_isGap_11 : decode cX8_isGap 11 = .ok (.aload_n 0, 1) := by decide +kernel
theorem dX8_isGap_12 : decode cX8_isGap 12 = .ok (.getfield 9, 3) := by decide +kernel
theorem dX8_isGap_15 : decode cX8_isGap 15 = .ok (.iload_n 1, 1) := by decide +kernel
theorem dX8_isGap_16 : decode cX8_isGap 16 = .ok (.aload_n 0, 1) := by decide +kernel
theorem dX8_isGap_17 : decode cX8_isGap 17 = .ok (.getfield 47, 3) := by decide +kernel
theorem dX8_isGap_20 : decode cX8_isGap 20 = .ok (.irem, 1) := by decide +kernel
theorem dX8_isGap_21 : decode cX8_isGap 21 = .ok (.iaload, 1) := by decide +kernel
theorem dX8_isGap_22 : decode cX8_isGap 22 = .ok (.iconst (-1), 1) := by decide +kernel
theorem dX8_isGap_23 : decode cX8_isGap 23 = .ok (.if_icmp .ne 7, 3) := by decide +kernel
theorem dX8_isGap_26 : decode cX8_isGap 26 = .ok (.iconst 1, 1) := by decide +kernel
theorem dX8_isGap_27 : decode cX8_isGap 27 = .ok (.goto 4, 3) := by decide +kernel
theorem dX8_isGap_30 : decode cX8_isGap 30 = .ok (.iconst 0, 1) := by decide +kernel
theorem dX8_isGap_31 : decode cX8_isGap 31 = .ok (.ireturn, 1) := by decide +kernel
theorem dX8_isGap_4 : decode cX8_isGap 4 = .ok (.ifCond .le 26, 3) := by decide +kernel
theorem dX8_isGap_7 : decode cX8_isGap 7 = .ok (.iload_n 1, 1) := by decide +kernel
theorem dX8_isGap_8 : decode cX8_isGap 8 = .ok (.ifCond .lt 22, 3) := by decide +kernel
theorem dX8_odds_0 : decode cX8_odds 0 = .ok (.aload_n 0, 1) := by decide +kernel
theorem dX8_odds_1 : decode cX8_odds 1 = .ok (.getfield 41, 3) := by decide +kernel
theorem dX8_odds_4 : decode cX8_odds 4 = .ok (.ireturn, 1) := by decide +kernel
theorem dX8_ownTone_0 : decode cX8_ownTone 0 = .ok (.aload_n 0, 1) := by decide +kernel
theorem dX8_ownTone_1 : decode cX8_ownTone 1 = .ok (.getfield 47, 3) := by decide +kernel
theorem dX8_ownTone_11 : decode cX8_ownTone 11 = .ok (.ifCond .le 7, 3) := by decide +kernel
theorem dX8_ownTone_14 : decode cX8_ownTone 14 = .ok (.iload_n 1, 1) := by decide +kernel
theorem dX8_ownTone_15 : decode cX8_ownTone 15 = .ok (.ifCond .ge 5, 3) := by decide +kernel
theorem dX8_ownTone_18 : decode cX8_ownTone 18 = .ok (.iconst (-1), 1) := by decide +kernel
theorem dX8_ownTone_19 : decode cX8_ownTone 19 = .ok (.ireturn, 1) := by decide +kernel
theorem dX8_ownTone_20 : decode cX8_ownTone 20 = .ok (.aload_n 0, 1) := by decide +kernel
theorem dX8_ownTone_21 : decode cX8_ownTone 21 = .ok (.getfield 9, 3) := by decide +kernel
theorem dX8_ownTone_24 : decode cX8_ownTone 24 = .ok (.iload_n 1, 1) := by decide +kernel
theorem dX8_ownTone_25 : decode cX8_ownTone 25 = .ok (.aload_n 0, 1) := by decide +kernel
theorem dX8_ownTone_26 : decode cX8_ownTone 26 = .ok (.getfield 47, 3) := by decide +kernel
theorem dX8_ownTone_29 : decode cX8_ownTone 29 = .ok (.irem, 1) := by decide +kernel
theorem dX8_ownTone_30 : decode cX8_ownTone 30 = .ok (.iaload, 1) := by decide +kernel
theorem dX8_ownTone_31 : decode cX8_ownTone 31 = .ok (.istore 4, 2) := by decide +kernel
theorem dX8_ownTone_33 : decode cX8_ownTone 33 = .ok (.iload 4, 2) := by decide +kernel
theorem dX8_ownTone_35 : decode cX8_ownTone 35 = .ok (.iconst (-1), 1) := by decide +kernel
theorem dX8_ownTone_36 : decode cX8_ownTone 36 = .ok (.if_icmp .ne 24, 3) := by decide +kernel
theorem dX8_ownTone_39 : decode cX8_ownTone 39 = .ok (.aload_n 0, 1) := by decide +kernel
theorem dX8_ownTone_4 : decode cX8_ownTone 4 = .ok (.ifCond .le 14, 3) := by decide +kernel
theorem dX8_ownTone_40 : decode cX8_ownTone 40 = .ok (.getfield 29, 3) := by decide +kernel
theorem dX8_ownTone_43 : decode cX8_ownTone 43 = .ok (.iload_n 2, 1) := by decide +kernel
theorem dX8_ownTone_44 : decode cX8_ownTone 44 = .ok (.imul, 1) := by decide +kernel
theorem dX8_ownTone_45 : decode cX8_ownTone 45 = .ok (.aload_n 0, 1) := by decide +kernel
theorem dX8_ownTone_46 : decode cX8_ownTone 46 = .ok (.getfield 32, 3) := by decide +kernel
theorem dX8_ownTone_49 : decode cX8_ownTone 49 = .ok (.iload_n 3, 1) := by decide +kernel
theorem dX8_ownTone_50 : decode cX8_ownTone 50 = .ok (.imul, 1) := by decide +kernel
theorem dX8_ownTone_51 : decode cX8_ownTone 51 = .ok (.iadd, 1) := by decide +kernel
theorem dX8_ownTone_52 : decode cX8_ownTone 52 = .ok (.aload_n 0, 1) := by decide +kernel
theorem dX8_ownTone_53 : decode cX8_ownTone 53 = .ok (.getfield 35, 3) := by decide +kernel
theorem dX8_ownTone_56 : decode cX8_ownTone 56 = .ok (.iadd, 1) := by decide +kernel
theorem dX8_ownTone_57 : decode cX8_ownTone 57 = .ok (.goto 12, 3) := by decide +kernel
theorem dX8_ownTone_60 : decode cX8_ownTone 60 = .ok (.iload 4, 2) := by decide +kernel
theorem dX8_ownTone_62 : decode cX8_ownTone 62 = .ok (.aload_n 0, 1) := by decide +kernel
theorem dX8_ownTone_63 : decode cX8_ownTone 63 = .ok (.getfield 38, 3) := by decide +kernel
theorem dX8_ownTone_66 : decode cX8_ownTone 66 = .ok (.iload_n 3, 1) := by decide +kernel
theorem dX8_ownTone_67 : decode cX8_ownTone 67 = .ok (.imul, 1) := by decide +kernel
theorem dX8_ownTone_68 : decode cX8_ownTone 68 = .ok (.iadd, 1) := by decide +kernel
theorem dX8_ownTone_69 : decode cX8_ownTone 69 = .ok (.istore 5, 2) := by decide +kernel
theorem dX8_ownTone_7 : decode cX8_ownTone 7 = .ok (.aload_n 0, 1) := by decide +kernel
theorem dX8_ownTone_71 : decode cX8_ownTone 71 = .ok (.iload 5, 2) := by decide +kernel
theorem dX8_ownTone_73 : decode cX8_ownTone 73 = .ok (.aload_n 0, 1) := by decide +kernel
theorem dX8_ownTone_74 : decode cX8_ownTone 74 = .ok (.getfield 25, 3) := by decide +kernel
theorem dX8_ownTone_77 : decode cX8_ownTone 77 = .ok (.irem, 1) := by decide +kernel
theorem dX8_ownTone_78 : decode cX8_ownTone 78 = .ok (.ireturn, 1) := by decide +kernel
theorem dX8_ownTone_8 : decode cX8_ownTone 8 = .ok (.getfield 25, 3) := by decide +kernel
theorem dX8_setHead_0 : decode cX8_setHead 0 = .ok (.aload_n 0, 1) := by decide +kernel
theorem dX8_setHead_1 : decode cX8_setHead 1 = .ok (.iload_n 1, 1) := by decide +kernel
theorem dX8_setHead_10 : decode cX8_setHead 10 = .ok (.aload_n 0, 1) := by decide +kernel
theorem dX8_setHead_11 : decode cX8_setHead 11 = .ok (.iload_n 3, 1) := by decide +kernel
theorem dX8_setHead_12 : decode cX8_setHead 12 = .ok (.putfield 41, 3) := by decide +kernel
theorem dX8_setHead_15 : decode cX8_setHead 15 = .ok (.return_, 1) := by decide +kernel
theorem dX8_setHead_2 : decode cX8_setHead 2 = .ok (.putfield 25, 3) := by decide +kernel
theorem dX8_setHead_5 : decode cX8_setHead 5 = .ok (.aload_n 0, 1) := by decide +kernel
theorem dX8_setHead_6 : decode cX8_setHead 6 = .ok (.iload_n 2, 1) := by decide +kernel
theorem dX8_setHead_7 : decode cX8_setHead 7 = .ok (.putfield 38, 3) := by decide +kernel
theorem dX8_setLaw_0 : decode cX8_setLaw 0 = .ok (.aload_n 0, 1) := by decide +kernel
theorem dX8_setLaw_1 : decode cX8_setLaw 1 = .ok (.iload_n 1, 1) := by decide +kernel
theorem dX8_setLaw_10 : decode cX8_setLaw 10 = .ok (.aload_n 0, 1) := by decide +kernel
theorem dX8_setLaw_11 : decode cX8_setLaw 11 = .ok (.iload_n 3, 1) := by decide +kernel
theorem dX8_setLaw_12 : decode cX8_setLaw 12 = .ok (.putfield 35, 3) := by decide +kernel
theorem dX8_setLaw_15 : decode cX8_setLaw 15 = .ok (.return_, 1) := by decide +kernel
theorem dX8_setLaw_2 : decode cX8_setLaw 2 = .ok (.putfield 29, 3) := by decide +kernel
theorem dX8_setLaw_5 : decode cX8_setLaw 5 = .ok (.aload_n 0, 1) := by decide +kernel
theorem dX8_setLaw_6 : decode cX8_setLaw 6 = .ok (.iload_n 2, 1) := by decide +kernel
theorem dX8_setLaw_7 : decode cX8_setLaw 7 = .ok (.putfield 32, 3) := by decide +kernel
theorem dX8_signCount_0 : decode cX8_signCount 0 = .ok (.aload_n 0, 1) := by decide +kernel
theorem dX8_signCount_1 : decode cX8_signCount 1 = .ok (.getfield 47, 3) := by decide +kernel
theorem dX8_signCount_4 : decode cX8_signCount 4 = .ok (.ireturn, 1) := by decide +kernel
theorem dX8_signNumber_0 : decode cX8_signNumber 0 = .ok (.aload_n 0, 1) := by decide +kernel
theorem dX8_signNumber_1 : decode cX8_signNumber 1 = .ok (.getfield 47, 3) := by decide +kernel
theorem dX8_signNumber_11 : decode cX8_signNumber 11 = .ok (.iload_n 1, 1) := by decide +kernel
theorem dX8_signNumber_12 : decode cX8_signNumber 12 = .ok (.aload_n 0, 1) := by decide +kernel
theorem dX8_signNumber_13 : decode cX8_signNumber 13 = .ok (.getfield 47, 3) := by decide +kernel
theorem dX8_signNumber_16 : decode cX8_signNumber 16 = .ok (.irem, 1) := by decide +kernel
theorem dX8_signNumber_17 : decode cX8_signNumber 17 = .ok (.goto 4, 3) := by decide +kernel
theorem dX8_signNumber_20 : decode cX8_signNumber 20 = .ok (.iconst (-1), 1) := by decide +kernel
theorem dX8_signNumber_21 : decode cX8_signNumber 21 = .ok (.ireturn, 1) := by decide +kernel
theorem dX8_signNumber_4 : decode cX8_signNumber 4 = .ok (.ifCond .le 16, 3) := by decide +kernel
theorem dX8_signNumber_7 : decode cX8_signNumber 7 = .ok (.iload_n 1, 1) := by decide +kernel
theorem dX8_signNumber_8 : decode cX8_signNumber 8 = .ok (.ifCond .lt 12, 3) := by decide +kernel
theorem dX8_toneHeard_0 : decode cX8_toneHeard 0 = .ok (.aload_n 0, 1) := by decide +kernel
theorem dX8_toneHeard_1 : decode cX8_toneHeard 1 = .ok (.getfield 47, 3) := by decide +kernel
theorem dX8_toneHeard_11 : decode cX8_toneHeard 11 = .ok (.iload_n 1, 1) := by decide +kernel
theorem dX8_toneHeard_12 : decode cX8_toneHeard 12 = .ok (.invokevirtual 89, 3) := by decide +kernel
theorem dX8_toneHeard_15 : decode cX8_toneHeard 15 = .ok (.goto 4, 3) := by decide +kernel
theorem dX8_toneHeard_18 : decode cX8_toneHeard 18 = .ok (.iconst (-1), 1) := by decide +kernel
theorem dX8_toneHeard_19 : decode cX8_toneHeard 19 = .ok (.istore 4, 2) := by decide +kernel
theorem dX8_toneHeard_21 : decode cX8_toneHeard 21 = .ok (.iload 4, 2) := by decide +kernel
theorem dX8_toneHeard_23 : decode cX8_toneHeard 23 = .ok (.iconst (-1), 1) := by decide +kernel
theorem dX8_toneHeard_24 : decode cX8_toneHeard 24 = .ok (.if_icmp .eq 8, 3) := by decide +kernel
theorem dX8_toneHeard_27 : decode cX8_toneHeard 27 = .ok (.iload 4, 2) := by decide +kernel
theorem dX8_toneHeard_29 : decode cX8_toneHeard 29 = .ok (.goto 10, 3) := by decide +kernel
theorem dX8_toneHeard_32 : decode cX8_toneHeard 32 = .ok (.aload_n 0, 1) := by decide +kernel
theorem dX8_toneHeard_33 : decode cX8_toneHeard 33 = .ok (.iload_n 1, 1) := by decide +kernel
theorem dX8_toneHeard_34 : decode cX8_toneHeard 34 = .ok (.iload_n 2, 1) := by decide +kernel
theorem dX8_toneHeard_35 : decode cX8_toneHeard 35 = .ok (.iload_n 3, 1) := by decide +kernel
theorem dX8_toneHeard_36 : decode cX8_toneHeard 36 = .ok (.invokevirtual 92, 3) := by decide +kernel
theorem dX8_toneHeard_39 : decode cX8_toneHeard 39 = .ok (.ireturn, 1) := by decide +kernel
theorem dX8_toneHeard_4 : decode cX8_toneHeard 4 = .ok (.ifCond .le 14, 3) := by decide +kernel
theorem dX8_toneHeard_7 : decode cX8_toneHeard 7 = .ok (.aload_n 0, 1) := by decide +kernel
theorem dX8_toneHeard_8 : decode cX8_toneHeard 8 = .ok (.getfield 21, 3) := by decide +kernel
set_option maxHeartbeats 4000000 in
set_option maxRecDepth 100000 in
theorem b_X0_size (l : Launch) (G : Gho) (D : va_G) (cB cI cJ cZ cS cT : ClassId) (h0 : Nat) (h_over : Nat) (h_steps : Nat) (h_before : Nat) (v0_size : Int32) (iv0_size : 0 ≤ v0_size.toInt ∧ v0_size.toInt ≤ 30) : Met l yX0_size (Cond.code yX0_size cX0_size 1 (some .int) :: wsL_law) ({ frames := 0, cells := 0, slots := 0, locals := 0 }) (roP G D (tyL cB cI cJ cZ cS cT) [(h0, .inr (0, [.ref h_over, .ref h_steps, .ref h_before, .int v0_size]))] [.ref h0]) (vp_Si (fun r : Int32 => (r = v0_size))) 0 0 (fun _ => False) := by
  refine metRO (own := RX0) (by decide) rfl ?_
  intro p e s m below meth c Q C hP ret
  obtain ⟨hx, hb, hml, hown, hts, hK, hN, hT⟩ := id C
  have hl := lv_entry ([.ref h0]) (n := 1) (Nat.le_of_ble_eq_true rfl)
  rw [lg_entry_eq]
  generalize (lg_sl ([.ref h0]) ++ List.replicate (1 - (lg_sl ([.ref h0])).length) Slot.unset).toArray = ls at hl ⊢
  have hl : lv_has ls 1 [(0, .ref h0)] := hl
  have hP : va_P D vwCl [(h0, .inr (0, [.ref h_over, .ref h_steps, .ref h_before, .int v0_size]))] s.heap := hP
  refine lv_aload_n hx hb dX0_size_0 rfl (lv_at hl 0 rfl) ?_
  refine va_get (D := D) (ci := 0) (v := .int v0_size) (C := RX0) (T := TX0) (N := 4) hx hb hts inlX0 hown hK hP 0 rfl rfl 3 (by decide) (hts _ (inr10 _ (List.mem_of_getElem? (i := 18) rfl))) (fun _ h9 => h9) rfl dX0_size_1 ?_
  exact ret _ _ _ dX0_size_4 (show (v0_size = v0_size) from rfl)

set_option maxHeartbeats 4000000 in
set_option maxRecDepth 100000 in
theorem b_X0_overStep (l : Launch) (G : Gho) (D : va_G) (cB cI cJ cZ cS cT : ClassId) (h0 : Nat) (h_over : Nat) (h_steps : Nat) (h_before : Nat) (v0_size : Int32) (f_over : Nat → Int32) (v1 : Int32) (iv0_size : 0 ≤ v0_size.toInt ∧ v0_size.toInt ≤ 30) : Met l yX0_overStep (Cond.code yX0_overStep cX0_overStep 2 (some .int) :: wsL_law) ({ frames := 0, cells := 0, slots := 0, locals := 0 }) (roP G D (tyL cB cI cJ cZ cS cT) [(h0, .inr (0, [.ref h_over, .ref h_steps, .ref h_before, .int v0_size])), (h_over, .inl (cI, 61, .inl f_over))] [.ref h0, .int v1]) (vp_Si (fun r : Int32 => True)) 0 0 (fun _ => False) := by
  refine metRO (own := RX0) (by decide) rfl ?_
  intro p e s m below meth c Q C hP ret
  obtain ⟨hx, hb, hml, hown, hts, hK, hN, hT⟩ := id C
  have hl := lv_entry ([.ref h0, .int v1]) (n := 2) (Nat.le_of_ble_eq_true rfl)
  rw [lg_entry_eq]
  generalize (lg_sl ([.ref h0, .int v1]) ++ List.replicate (2 - (lg_sl ([.ref h0, .int v1])).length) Slot.unset).toArray = ls at hl ⊢
  have hl : lv_has ls 2 [(0, .ref h0), (1, .int v1)] := hl
  have hP : va_P D vwCl [(h0, .inr (0, [.ref h_over, .ref h_steps, .ref h_before, .int v0_size])), (h_over, .inl (cI, 61, .inl f_over))] s.heap := hP
  refine lv_iload_n hx hb dX0_overStep_0 rfl (lv_at hl 1 rfl) ?_
  refine lv_if_lt (tgt := 22) hx hb dX0_overStep_1 (by decide) (fun c_1 => ?_) (fun c_1 => ?_)
  · have c_1 : v1.toInt < 0 := ci_lt_t c_1
    have b_v1 := i32b v1
    refine lv_iconst (v := (-1)) hx hb dX0_overStep_22 (by decide) ?_
    exact ret _ _ _ dX0_overStep_23 trivial
  · have c_1 : 0 ≤ v1.toInt := ci_lt_f c_1
    have b_v1 := i32b v1
    refine lv_iload_n hx hb dX0_overStep_4 rfl (lv_at hl 1 rfl) ?_
    refine lv_aload_n hx hb dX0_overStep_5 rfl (lv_at hl 0 rfl) ?_
    refine va_get (D := D) (ci := 0) (v := .ref h_over) (C := RX0) (T := TX0) (N := 4) hx hb hts inlX0 hown hK hP 0 rfl rfl 0 (by decide) (hts _ (inr4 _ (List.mem_of_getElem? (i := 11) rfl))) (fun _ h9 => h9) rfl dX0_overStep_6 ?_
    refine va_alen (v := 61) hx hb hK hP 1 1 rfl rfl rfl dX0_overStep_9 ?_
    refine lv_icmp_ge (tgt := 22) hx hb dX0_overStep_10 (by decide) (fun c_2 => ?_) (fun c_2 => ?_)
    · have c_2 : 61 ≤ v1.toInt := ci_ge_t c_2
      refine lv_iconst (v := (-1)) hx hb dX0_overStep_22 (by decide) ?_
      exact ret _ _ _ dX0_overStep_23 trivial
    · have c_2 : v1.toInt < 61 := ci_ge_f c_2
      refine lv_aload_n hx hb dX0_overStep_13 rfl (lv_at hl 0 rfl) ?_
      refine va_get (D := D) (ci := 0) (v := .ref h_over) (C := RX0) (T := TX0) (N := 4) hx hb hts inlX0 hown hK hP 0 rfl rfl 0 (by decide) (hts _ (inr4 _ (List.mem_of_getElem? (i := 11) rfl))) (fun _ h9 => h9) rfl dX0_overStep_14 ?_
      refine lv_iload_n hx hb dX0_overStep_17 rfl (lv_at hl 1 rfl) ?_
      obtain ⟨t_3, et_3⟩ : ∃ v9 : Int32, f_over (v1 : Int32).toNatClampNeg = v9 := ⟨_, rfl⟩
      refine z_iald (v := t_3) hx hb hK hP 1 1 rfl rfl (vin_nat (by omega) (by omega)) et_3 dX0_overStep_18 ?_
      refine lv_goto (tgt := 23) hx hb dX0_overStep_19 (by decide) ?_
      exact ret _ _ _ dX0_overStep_23 trivial

set_option maxHeartbeats 4000000 in
set_option maxRecDepth 100000 in
theorem b_X0_putOver (l : Launch) (G : Gho) (D : va_G) (cB cI cJ cZ cS cT : ClassId) (sz : Nat) (h0 : Nat) (h_over : Nat) (h_steps : Nat) (h_before : Nat) (v0_size : Int32) (f_over : Nat → Int32) (v1 : Int32) (v2 : Int32) (iv0_size : 0 ≤ v0_size.toInt ∧ v0_size.toInt ≤ 30) : Met l yX0_putOver (Cond.code yX0_putOver cX0_putOver 3 none :: wsL_law) ({ frames := 0, cells := 0, slots := 0, locals := 0 }) (wrP G D (tyL cB cI cJ cZ cS cT) [(h0, .inr (0, [.ref h_over, .ref h_steps, .ref h_before, .int v0_size])), (h_over, .inl (cI, 61, .inl f_over))] sz [.ref h0, .int v1, .int v2]) (va_Qv (fun x : (Nat → Int32) => True) (atW D (tyL cB cI cJ cZ cS cT) (va_A [(h0, .inr (0, [.ref h_over, .ref h_steps, .ref h_before, .int v0_size])), (h_over, .inl (cI, 61, .inl f_over))] sz) (fun x : (Nat → Int32) => [(h0, .inr (0, [.ref h_over, .ref h_steps, .ref h_before, .int v0_size])), (h_over, .inl (cI, 61, .inl x))])) (va_A [(h0, .inr (0, [.ref h_over, .ref h_steps, .ref h_before, .int v0_size])), (h_over, .inl (cI, 61, .inl f_over))] sz)) 0 0 (va_A [(h0, .inr (0, [.ref h_over, .ref h_steps, .ref h_before, .int v0_size])), (h_over, .inl (cI, 61, .inl f_over))] sz) := by
  refine metV (own := RX0) (by decide) rfl ?_
  intro p e s m below meth c Q hsz C hG hP hD hAB ret
  obtain ⟨hx, hb, hml, hown, hts, hK, hN, hT⟩ := id C
  subst hsz
  generalize hAe : va_A [(h0, .inr (0, [.ref h_over, .ref h_steps, .ref h_before, .int v0_size])), (h_over, .inl (cI, 61, .inl f_over))] s.heap.size = A at hD hAB ret ⊢
  have hA : ∀ q : Nat, s.heap.size ≤ q → A q := fun q h => by rw [← hAe]; exact Or.inr h
  have hS : va_S A s.heap s.heap [] := va_S.rf
  have hl := lv_entry ([.ref h0, .int v1, .int v2]) (n := 3) (Nat.le_of_ble_eq_true rfl)
  rw [lg_entry_eq]
  generalize (lg_sl ([.ref h0, .int v1, .int v2]) ++ List.replicate (3 - (lg_sl ([.ref h0, .int v1, .int v2])).length) Slot.unset).toArray = ls at hl ⊢
  have hl : lv_has ls 3 [(0, .ref h0), (1, .int v1), (2, .int v2)] := hl
  have hP : va_P D vwCl [(h0, .inr (0, [.ref h_over, .ref h_steps, .ref h_before, .int v0_size])), (h_over, .inl (cI, 61, .inl f_over))] s.heap := hP
  refine lv_iload_n hx hb dX0_putOver_0 rfl (lv_at hl 1 rfl) ?_
  refine lv_if_lt (tgt := 20) hx hb dX0_putOver_1 (by decide) (fun c_1 => ?_) (fun c_1 => ?_)
  · have c_1 : v1.toInt < 0 := ci_lt_t c_1
    have b_v1 := i32b v1
    exact ret _ _ _ _ f_over dX0_putOver_20 trivial (hP.sub [0, 1] rfl) (hD.sub [0, 1] (by decide) rfl) hS
  · have c_1 : 0 ≤ v1.toInt := ci_lt_f c_1
    have b_v1 := i32b v1
    refine lv_iload_n hx hb dX0_putOver_4 rfl (lv_at hl 1 rfl) ?_
    refine lv_aload_n hx hb dX0_putOver_5 rfl (lv_at hl 0 rfl) ?_
    refine va_get (D := D) (ci := 0) (v := .ref h_over) (C := RX0) (T := TX0) (N := 4) hx hb hts inlX0 hown hK hP 0 rfl rfl 0 (by decide) (hts _ (inr4 _ (List.mem_of_getElem? (i := 11) rfl))) (fun _ h9 => h9) rfl dX0_putOver_6 ?_
    refine va_alen (v := 61) hx hb hK hP 1 1 rfl rfl rfl dX0_putOver_9 ?_
    refine lv_icmp_ge (tgt := 20) hx hb dX0_putOver_10 (by decide) (fun c_2 => ?_) (fun c_2 => ?_)
    · have c_2 : 61 ≤ v1.toInt := ci_ge_t c_2
      exact ret _ _ _ _ f_over dX0_putOver_20 trivial (hP.sub [0, 1] rfl) (hD.sub [0, 1] (by decide) rfl) hS
    · have c_2 : v1.toInt < 61 := ci_ge_f c_2
      refine lv_aload_n hx hb dX0_putOver_13 rfl (lv_at hl 0 rfl) ?_
      refine va_get (D := D) (ci := 0) (v := .ref h_over) (C := RX0) (T := TX0) (N := 4) hx hb hts inlX0 hown hK hP 0 rfl rfl 0 (by decide) (hts _ (inr4 _ (List.mem_of_getElem? (i := 11) rfl))) (fun _ h9 => h9) rfl dX0_putOver_14 ?_
      refine lv_iload_n hx hb dX0_putOver_17 rfl (lv_at hl 1 rfl) ?_
      refine lv_iload_n hx hb dX0_putOver_18 rfl (lv_at hl 2 rfl) ?_
      refine va_iast hx hb hK hP hD hS 1 1 rfl rfl (vin_nat (by omega) (by omega)) dX0_putOver_19 (fun H locs hP hD hS => ?_)
      have hP : va_P D vwCl [(h0, .inr (0, [.ref h_over, .ref h_steps, .ref h_before, .int v0_size])), (h_over, .inl (cI, 61, .inl (upd f_over (v1 : Int32).toNatClampNeg v2)))] H := hP
      have hD : va_D A [(h0, .inr (0, [.ref h_over, .ref h_steps, .ref h_before, .int v0_size])), (h_over, .inl (cI, 61, .inl (upd f_over (v1 : Int32).toNatClampNeg v2)))] := hD
      obtain ⟨g_3, eg_3⟩ : ∃ v9 : Nat → Int32, (upd f_over (v1 : Int32).toNatClampNeg v2) = v9 := ⟨_, rfl⟩
      rw [eg_3] at hP hD
      have hP : va_P D vwCl [(h0, .inr (0, [.ref h_over, .ref h_steps, .ref h_before, .int v0_size])), (h_over, .inl (cI, 61, .inl g_3))] H := hP
      have hD : va_D A [(h0, .inr (0, [.ref h_over, .ref h_steps, .ref h_before, .int v0_size])), (h_over, .inl (cI, 61, .inl g_3))] := hD
      exact ret _ _ _ _ g_3 dX0_putOver_20 trivial (hP.sub [0, 1] rfl) (hD.sub [0, 1] (by decide) rfl) hS

set_option maxHeartbeats 4000000 in
set_option maxRecDepth 100000 in
theorem b_X0_add (l : Launch) (G : Gho) (D : va_G) (cB cI cJ cZ cS cT : ClassId) (sz : Nat) (h0 : Nat) (h_over : Nat) (h_steps : Nat) (h_before : Nat) (v0_size : Int32) (f_before : Nat → Int32) (f_over : Nat → Int32) (f_steps : Nat → Int32) (v1 : Int32) (v2 : Int32) (iv0_size : 0 ≤ v0_size.toInt ∧ v0_size.toInt ≤ 30) : Met l yX0_add (Cond.code yX0_add cX0_add 3 none :: wsL_law) ({ frames := 1, cells := 0, slots := 0, locals := 22 }) (wrP G D (tyL cB cI cJ cZ cS cT) [(h0, .inr (0, [.ref h_over, .ref h_steps, .ref h_before, .int v0_size])), (h_before, .inl (cI, 30, .inl f_before)), (h_over, .inl (cI, 61, .inl f_over)), (h_steps, .inl (cI, 30, .inl f_steps))] sz [.ref h0, .int v1, .int v2]) (va_Qv (fun x : Int32 × (Nat → Int32) × (Nat → Int32) × (Nat → Int32) => (0 ≤ x.1.toInt ∧ x.1.toInt ≤ 30)) (atW D (tyL cB cI cJ cZ cS cT) (va_A [(h0, .inr (0, [.ref h_over, .ref h_steps, .ref h_before, .int v0_size])), (h_before, .inl (cI, 30, .inl f_before)), (h_over, .inl (cI, 61, .inl f_over)), (h_steps, .inl (cI, 30, .inl f_steps))] sz) (fun x : Int32 × (Nat → Int32) × (Nat → Int32) × (Nat → Int32) => [(h0, .inr (0, [.ref h_over, .ref h_steps, .ref h_before, .int x.1])), (h_before, .inl (cI, 30, .inl x.2.1)), (h_over, .inl (cI, 61, .inl x.2.2.1)), (h_steps, .inl (cI, 30, .inl x.2.2.2))])) (va_A [(h0, .inr (0, [.ref h_over, .ref h_steps, .ref h_before, .int v0_size])), (h_before, .inl (cI, 30, .inl f_before)), (h_over, .inl (cI, 61, .inl f_over)), (h_steps, .inl (cI, 30, .inl f_steps))] sz)) 0 0 (va_A [(h0, .inr (0, [.ref h_over, .ref h_steps, .ref h_before, .int v0_size])), (h_before, .inl (cI, 30, .inl f_before)), (h_over, .inl (cI, 61, .inl f_over)), (h_steps, .inl (cI, 30, .inl f_steps))] sz) := by
  refine metV (own := RX0) (by decide) rfl ?_
  intro p e s m below meth c Q hsz C hG hP hD hAB ret
  obtain ⟨hx, hb, hml, hown, hts, hK, hN, hT⟩ := id C
  subst hsz
  generalize hAe : va_A [(h0, .inr (0, [.ref h_over, .ref h_steps, .ref h_before, .int v0_size])), (h_before, .inl (cI, 30, .inl f_before)), (h_over, .inl (cI, 61, .inl f_over)), (h_steps, .inl (cI, 30, .inl f_steps))] s.heap.size = A at hD hAB ret ⊢
  have hA : ∀ q : Nat, s.heap.size ≤ q → A q := fun q h => by rw [← hAe]; exact Or.inr h
  have hS : va_S A s.heap s.heap [] := va_S.rf
  have hl := lv_entry ([.ref h0, .int v1, .int v2]) (n := 3) (Nat.le_of_ble_eq_true rfl)
  rw [lg_entry_eq]
  generalize (lg_sl ([.ref h0, .int v1, .int v2]) ++ List.replicate (3 - (lg_sl ([.ref h0, .int v1, .int v2])).length) Slot.unset).toArray = ls at hl ⊢
  have hl : lv_has ls 3 [(0, .ref h0), (1, .int v1), (2, .int v2)] := hl
  have hP : va_P D vwCl [(h0, .inr (0, [.ref h_over, .ref h_steps, .ref h_before, .int v0_size])), (h_before, .inl (cI, 30, .inl f_before)), (h_over, .inl (cI, 61, .inl f_over)), (h_steps, .inl (cI, 30, .inl f_steps))] s.heap := hP
  refine lv_aload_n hx hb dX0_add_0 rfl (lv_at hl 0 rfl) ?_
  refine va_get (D := D) (ci := 0) (v := .int v0_size) (C := RX0) (T := TX0) (N := 4) hx hb hts inlX0 hown hK hP 0 rfl rfl 3 (by decide) (hts _ (inr10 _ (List.mem_of_getElem? (i := 18) rfl))) (fun _ h9 => h9) rfl dX0_add_1 ?_
  refine lv_aload_n hx hb dX0_add_4 rfl (lv_at hl 0 rfl) ?_
  refine va_get (D := D) (ci := 0) (v := .ref h_steps) (C := RX0) (T := TX0) (N := 4) hx hb hts inlX0 hown hK hP 0 rfl rfl 1 (by decide) (hts _ (inr4 _ (List.mem_of_getElem? (i := 12) rfl))) (fun _ h9 => h9) rfl dX0_add_5 ?_
  refine va_alen (v := 30) hx hb hK hP 3 1 rfl rfl rfl dX0_add_8 ?_
  refine lv_icmp_ge (tgt := 52) hx hb dX0_add_9 (by decide) (fun c_1 => ?_) (fun c_1 => ?_)
  · have c_1 : 30 ≤ v0_size.toInt := ci_ge_t c_1
    have b_v0_size := i32b v0_size
    exact ret _ _ _ _ (v0_size, f_before, f_over, f_steps) dX0_add_52 (show (0 ≤ v0_size.toInt ∧ v0_size.toInt ≤ 30) from (by first | assumption | omega | decide)) (hP.sub [0, 1, 2, 3] rfl) (hD.sub [0, 1, 2, 3] (by decide) rfl) hS
  · have c_1 : v0_size.toInt < 30 := ci_ge_f c_1
    have b_v0_size := i32b v0_size
    refine lv_aload_n hx hb dX0_add_12 rfl (lv_at hl 0 rfl) ?_
    refine va_get (D := D) (ci := 0) (v := .ref h_steps) (C := RX0) (T := TX0) (N := 4) hx hb hts inlX0 hown hK hP 0 rfl rfl 1 (by decide) (hts _ (inr4 _ (List.mem_of_getElem? (i := 12) rfl))) (fun _ h9 => h9) rfl dX0_add_13 ?_
    refine lv_aload_n hx hb dX0_add_16 rfl (lv_at hl 0 rfl) ?_
    refine va_get (D := D) (ci := 0) (v := .int v0_size) (C := RX0) (T := TX0) (N := 4) hx hb hts inlX0 hown hK hP 0 rfl rfl 3 (by decide) (hts _ (inr10 _ (List.mem_of_getElem? (i := 18) rfl))) (fun _ h9 => h9) rfl dX0_add_17 ?_
    refine lv_iload_n hx hb dX0_add_20 rfl (lv_at hl 1 rfl) ?_
    refine va_iast hx hb hK hP hD hS 3 1 rfl rfl (vin_nat (by omega) (by omega)) dX0_add_21 (fun H locs hP hD hS => ?_)
    have hP : va_P D vwCl [(h0, .inr (0, [.ref h_over, .ref h_steps, .ref h_before, .int v0_size])), (h_before, .inl (cI, 30, .inl f_before)), (h_over, .inl (cI, 61, .inl f_over)), (h_steps, .inl (cI, 30, .inl (upd f_steps (v0_size : Int32).toNatClampNeg v1)))] H := hP
    have hD : va_D A [(h0, .inr (0, [.ref h_over, .ref h_steps, .ref h_before, .int v0_size])), (h_before, .inl (cI, 30, .inl f_before)), (h_over, .inl (cI, 61, .inl f_over)), (h_steps, .inl (cI, 30, .inl (upd f_steps (v0_size : Int32).toNatClampNeg v1)))] := hD
    obtain ⟨g_2, eg_2⟩ : ∃ v9 : Nat → Int32, (upd f_steps (v0_size : Int32).toNatClampNeg v1) = v9 := ⟨_, rfl⟩
    rw [eg_2] at hP hD
    have hP : va_P D vwCl [(h0, .inr (0, [.ref h_over, .ref h_steps, .ref h_before, .int v0_size])), (h_before, .inl (cI, 30, .inl f_before)), (h_over, .inl (cI, 61, .inl f_over)), (h_steps, .inl (cI, 30, .inl g_2))] H := hP
    have hD : va_D A [(h0, .inr (0, [.ref h_over, .ref h_steps, .ref h_before, .int v0_size])), (h_before, .inl (cI, 30, .inl f_before)), (h_over, .inl (cI, 61, .inl f_over)), (h_steps, .inl (cI, 30, .inl g_2))] := hD
    refine lv_aload_n hx hb dX0_add_22 rfl (lv_at hl 0 rfl) ?_
    refine va_get (D := D) (ci := 0) (v := .ref h_before) (C := RX0) (T := TX0) (N := 4) hx hb hts inlX0 hown hK hP 0 rfl rfl 2 (by decide) (hts _ (inr4 _ (List.mem_of_getElem? (i := 13) rfl))) (fun _ h9 => h9) rfl dX0_add_23 ?_
    refine lv_aload_n hx hb dX0_add_26 rfl (lv_at hl 0 rfl) ?_
    refine va_get (D := D) (ci := 0) (v := .int v0_size) (C := RX0) (T := TX0) (N := 4) hx hb hts inlX0 hown hK hP 0 rfl rfl 3 (by decide) (hts _ (inr10 _ (List.mem_of_getElem? (i := 18) rfl))) (fun _ h9 => h9) rfl dX0_add_27 ?_
    refine lv_aload_n hx hb dX0_add_30 rfl (lv_at hl 0 rfl) ?_
    refine lv_iload_n hx hb dX0_add_31 rfl (lv_at hl 1 rfl) ?_
    refine roi (As := [.int v1]) (rest := [.int v0_size, .ref h_before]) ⟨hx, hb, hml, hown, hts⟩ (b_X0_overStep l G D cB cI cJ cZ cS cT h0 h_over h_steps h_before v0_size f_over v1 (by first | assumption | omega | decide)) (cvB (n := 1) (inr66 _ (List.mem_of_getElem? (i := 17) rfl)) (inr23 _ (List.mem_of_getElem? (i := 4) rfl)) (inr23 _ (List.mem_of_getElem? (i := 5) rfl)) (inr4 _ (List.mem_of_getElem? (i := 5) rfl)) (inr23 _ (List.mem_of_getElem? (i := 6) rfl)) (by decide +kernel) hts rfl rfl ⟨Nat.le_of_ble_eq_true rfl, Nat.le_of_ble_eq_true rfl⟩) 0 0 rfl rfl rfl (hP.sub [0, 2] rfl) hK hN (kT.to hT hS hAB) rfl hl.1 rfl (Nat.le_of_ble_eq_true rfl) ⟨Nat.le_of_ble_eq_true rfl, Nat.le_of_ble_eq_true rfl⟩ dX0_add_32 (fun r_3 h_4 => ?_)
    refine va_iast hx hb hK hP hD hS 1 1 rfl rfl (vin_nat (by omega) (by omega)) dX0_add_35 (fun H locs hP hD hS => ?_)
    have hP : va_P D vwCl [(h0, .inr (0, [.ref h_over, .ref h_steps, .ref h_before, .int v0_size])), (h_before, .inl (cI, 30, .inl (upd f_before (v0_size : Int32).toNatClampNeg r_3))), (h_over, .inl (cI, 61, .inl f_over)), (h_steps, .inl (cI, 30, .inl g_2))] H := hP
    have hD : va_D A [(h0, .inr (0, [.ref h_over, .ref h_steps, .ref h_before, .int v0_size])), (h_before, .inl (cI, 30, .inl (upd f_before (v0_size : Int32).toNatClampNeg r_3))), (h_over, .inl (cI, 61, .inl f_over)), (h_steps, .inl (cI, 30, .inl g_2))] := hD
    obtain ⟨g_5, eg_5⟩ : ∃ v9 : Nat → Int32, (upd f_before (v0_size : Int32).toNatClampNeg r_3) = v9 := ⟨_, rfl⟩
    rw [eg_5] at hP hD
    have hP : va_P D vwCl [(h0, .inr (0, [.ref h_over, .ref h_steps, .ref h_before, .int v0_size])), (h_before, .inl (cI, 30, .inl g_5)), (h_over, .inl (cI, 61, .inl f_over)), (h_steps, .inl (cI, 30, .inl g_2))] H := hP
    have hD : va_D A [(h0, .inr (0, [.ref h_over, .ref h_steps, .ref h_before, .int v0_size])), (h_before, .inl (cI, 30, .inl g_5)), (h_over, .inl (cI, 61, .inl f_over)), (h_steps, .inl (cI, 30, .inl g_2))] := hD
    refine lv_aload_n hx hb dX0_add_36 rfl (lv_at hl 0 rfl) ?_
    refine lv_dup hx hb dX0_add_37 rfl ?_
    refine va_get (D := D) (ci := 0) (v := .int v0_size) (C := RX0) (T := TX0) (N := 4) hx hb hts inlX0 hown hK hP 0 rfl rfl 3 (by decide) (hts _ (inr10 _ (List.mem_of_getElem? (i := 18) rfl))) (fun _ h9 => h9) rfl dX0_add_38 ?_
    refine lv_iconst (v := 1) hx hb dX0_add_41 (by decide) ?_
    obtain ⟨t_6, et_6⟩ : ∃ v9 : Int32, v0_size + 1 = v9 := ⟨_, rfl⟩
    refine z_iadd (v := t_6) hx hb dX0_add_42 et_6 ?_
    have ft_6 : t_6.toInt = v0_size.toInt + 1 := addT (a := v0_size.toInt) (b := 1) rfl (by decide) et_6 (by omega) (by omega)
    refine va_put (D := D) (ci := 0) (v := .int t_6) (ty := .int) (C := RX0) (T := TX0) (N := 4) hx hb hts inlX0 tyX0 tyX0_ok nmX0 hown hK hP hD hS 0 rfl rfl 3 (by decide) (hts _ (inr10 _ (List.mem_of_getElem? (i := 18) rfl))) (fun _ h9 => h9) rfl (by decide +kernel) rfl rfl (Nat.le_of_ble_eq_true rfl) dX0_add_43 (fun H locs hP hD hS => ?_)
    have hP : va_P D vwCl [(h0, .inr (0, [.ref h_over, .ref h_steps, .ref h_before, .int t_6])), (h_before, .inl (cI, 30, .inl g_5)), (h_over, .inl (cI, 61, .inl f_over)), (h_steps, .inl (cI, 30, .inl g_2))] H := hP
    have hD : va_D A [(h0, .inr (0, [.ref h_over, .ref h_steps, .ref h_before, .int t_6])), (h_before, .inl (cI, 30, .inl g_5)), (h_over, .inl (cI, 61, .inl f_over)), (h_steps, .inl (cI, 30, .inl g_2))] := hD
    refine lv_aload_n hx hb dX0_add_46 rfl (lv_at hl 0 rfl) ?_
    refine lv_iload_n hx hb dX0_add_47 rfl (lv_at hl 1 rfl) ?_
    refine lv_iload_n hx hb dX0_add_48 rfl (lv_at hl 2 rfl) ?_
    refine wrVv (As := [.int v1, .int v2]) (rest := []) (wr := [(h_before, .inl (cI, 30, .inl g_5)), (h_steps, .inl (cI, 30, .inl g_2))]) ⟨hx, hb, hml, hown, hts⟩ (b_X0_putOver l G D cB cI cJ cZ cS cT H.size h0 h_over h_steps h_before t_6 f_over v1 v2 (by first | assumption | omega | decide)) hP hD hS hA hK hN hT hAB hG [0, 2] [1, 3] rfl rfl (by decide) (by decide) (by decide) (cvB (n := 2) (inr66 _ (List.mem_of_getElem? (i := 18) rfl)) (inr36 _ (List.mem_of_getElem? (i := 8) rfl)) (inr36 _ (List.mem_of_getElem? (i := 9) rfl)) (inr4 _ (List.mem_of_getElem? (i := 5) rfl)) (inr36 _ (List.mem_of_getElem? (i := 10) rfl)) (by decide +kernel) hts rfl rfl ⟨Nat.le_of_ble_eq_true rfl, Nat.le_of_ble_eq_true rfl⟩) 0 0 rfl rfl rfl rfl hl.1 rfl (Nat.le_of_ble_eq_true rfl) ⟨Nat.le_of_ble_eq_true rfl, Nat.le_of_ble_eq_true rfl⟩ dX0_add_49 (fun x9 H locs h_8 hP hD hS => ?_)
    obtain ⟨g_9, rfl⟩ : ∃ z, z = x9 := ⟨_, rfl⟩
    have hP : va_P D vwCl [(h_before, .inl (cI, 30, .inl g_5)), (h_steps, .inl (cI, 30, .inl g_2)), (h0, .inr (0, [.ref h_over, .ref h_steps, .ref h_before, .int t_6])), (h_over, .inl (cI, 61, .inl g_9))] H := hP
    have hD : va_D A [(h_before, .inl (cI, 30, .inl g_5)), (h_steps, .inl (cI, 30, .inl g_2)), (h0, .inr (0, [.ref h_over, .ref h_steps, .ref h_before, .int t_6])), (h_over, .inl (cI, 61, .inl g_9))] := hD
    exact ret _ _ _ _ (t_6, g_5, g_9, g_2) dX0_add_52 (show (0 ≤ t_6.toInt ∧ t_6.toInt ≤ 30) from (by first | assumption | omega | decide)) (hP.sub [2, 0, 3, 1] rfl) (hD.sub [2, 0, 3, 1] (by decide) rfl) hS

set_option maxHeartbeats 4000000 in
set_option maxRecDepth 100000 in
theorem b_X0_takeBack (l : Launch) (G : Gho) (D : va_G) (cB cI cJ cZ cS cT : ClassId) (sz : Nat) (h0 : Nat) (h_over : Nat) (h_steps : Nat) (h_before : Nat) (v0_size : Int32) (f_before : Nat → Int32) (f_over : Nat → Int32) (f_steps : Nat → Int32) (iv0_size : 0 ≤ v0_size.toInt ∧ v0_size.toInt ≤ 30) : Met l yX0_takeBack (Cond.code yX0_takeBack cX0_takeBack 1 none :: wsL_law) ({ frames := 1, cells := 0, slots := 0, locals := 22 }) (wrP G D (tyL cB cI cJ cZ cS cT) [(h0, .inr (0, [.ref h_over, .ref h_steps, .ref h_before, .int v0_size])), (h_before, .inl (cI, 30, .inl f_before)), (h_over, .inl (cI, 61, .inl f_over)), (h_steps, .inl (cI, 30, .inl f_steps))] sz [.ref h0]) (va_Qv (fun x : Int32 × (Nat → Int32) => (0 ≤ x.1.toInt ∧ x.1.toInt ≤ 30)) (atW D (tyL cB cI cJ cZ cS cT) (va_A [(h0, .inr (0, [.ref h_over, .ref h_steps, .ref h_before, .int v0_size])), (h_before, .inl (cI, 30, .inl f_before)), (h_over, .inl (cI, 61, .inl f_over)), (h_steps, .inl (cI, 30, .inl f_steps))] sz) (fun x : Int32 × (Nat → Int32) => [(h0, .inr (0, [.ref h_over, .ref h_steps, .ref h_before, .int x.1])), (h_before, .inl (cI, 30, .inl f_before)), (h_over, .inl (cI, 61, .inl x.2)), (h_steps, .inl (cI, 30, .inl f_steps))])) (va_A [(h0, .inr (0, [.ref h_over, .ref h_steps, .ref h_before, .int v0_size])), (h_before, .inl (cI, 30, .inl f_before)), (h_over, .inl (cI, 61, .inl f_over)), (h_steps, .inl (cI, 30, .inl f_steps))] sz)) 0 0 (va_A [(h0, .inr (0, [.ref h_over, .ref h_steps, .ref h_before, .int v0_size])), (h_before, .inl (cI, 30, .inl f_before)), (h_over, .inl (cI, 61, .inl f_over)), (h_steps, .inl (cI, 30, .inl f_steps))] sz) := by
  refine metV (own := RX0) (by decide) rfl ?_
  intro p e s m below meth c Q hsz C hG hP hD hAB ret
  obtain ⟨hx, hb, hml, hown, hts, hK, hN, hT⟩ := id C
  subst hsz
  generalize hAe : va_A [(h0, .inr (0, [.ref h_over, .ref h_steps, .ref h_before, .int v0_size])), (h_before, .inl (cI, 30, .inl f_before)), (h_over, .inl (cI, 61, .inl f_over)), (h_steps, .inl (cI, 30, .inl f_steps))] s.heap.size = A at hD hAB ret ⊢
  have hA : ∀ q : Nat, s.heap.size ≤ q → A q := fun q h => by rw [← hAe]; exact Or.inr h
  have hS : va_S A s.heap s.heap [] := va_S.rf
  have hl := lv_entry ([.ref h0]) (n := 1) (Nat.le_of_ble_eq_true rfl)
  rw [lg_entry_eq]
  generalize (lg_sl ([.ref h0]) ++ List.replicate (1 - (lg_sl ([.ref h0])).length) Slot.unset).toArray = ls at hl ⊢
  have hl : lv_has ls 1 [(0, .ref h0)] := hl
  have hP : va_P D vwCl [(h0, .inr (0, [.ref h_over, .ref h_steps, .ref h_before, .int v0_size])), (h_before, .inl (cI, 30, .inl f_before)), (h_over, .inl (cI, 61, .inl f_over)), (h_steps, .inl (cI, 30, .inl f_steps))] s.heap := hP
  refine lv_aload_n hx hb dX0_takeBack_0 rfl (lv_at hl 0 rfl) ?_
  refine va_get (D := D) (ci := 0) (v := .int v0_size) (C := RX0) (T := TX0) (N := 4) hx hb hts inlX0 hown hK hP 0 rfl rfl 3 (by decide) (hts _ (inr10 _ (List.mem_of_getElem? (i := 18) rfl))) (fun _ h9 => h9) rfl dX0_takeBack_1 ?_
  refine lv_if_le (tgt := 39) hx hb dX0_takeBack_4 (by decide) (fun c_1 => ?_) (fun c_1 => ?_)
  · have c_1 : v0_size.toInt ≤ 0 := ci_le_t c_1
    have b_v0_size := i32b v0_size
    exact ret _ _ _ _ (v0_size, f_over) dX0_takeBack_39 (show (0 ≤ v0_size.toInt ∧ v0_size.toInt ≤ 30) from (by first | assumption | omega | decide)) (hP.sub [0, 1, 2, 3] rfl) (hD.sub [0, 1, 2, 3] (by decide) rfl) hS
  · have c_1 : 0 < v0_size.toInt := ci_le_f c_1
    have b_v0_size := i32b v0_size
    refine lv_aload_n hx hb dX0_takeBack_7 rfl (lv_at hl 0 rfl) ?_
    refine lv_dup hx hb dX0_takeBack_8 rfl ?_
    refine va_get (D := D) (ci := 0) (v := .int v0_size) (C := RX0) (T := TX0) (N := 4) hx hb hts inlX0 hown hK hP 0 rfl rfl 3 (by decide) (hts _ (inr10 _ (List.mem_of_getElem? (i := 18) rfl))) (fun _ h9 => h9) rfl dX0_takeBack_9 ?_
    refine lv_iconst (v := 1) hx hb dX0_takeBack_12 (by decide) ?_
    obtain ⟨t_2, et_2⟩ : ∃ v9 : Int32, v0_size - 1 = v9 := ⟨_, rfl⟩
    refine z_isub (v := t_2) hx hb dX0_takeBack_13 et_2 ?_
    have ft_2 : t_2.toInt = v0_size.toInt - 1 := subT (a := v0_size.toInt) (b := 1) rfl (by decide) et_2 (by omega) (by omega)
    refine va_put (D := D) (ci := 0) (v := .int t_2) (ty := .int) (C := RX0) (T := TX0) (N := 4) hx hb hts inlX0 tyX0 tyX0_ok nmX0 hown hK hP hD hS 0 rfl rfl 3 (by decide) (hts _ (inr10 _ (List.mem_of_getElem? (i := 18) rfl))) (fun _ h9 => h9) rfl (by decide +kernel) rfl rfl (Nat.le_of_ble_eq_true rfl) dX0_takeBack_14 (fun H locs hP hD hS => ?_)
    have hP : va_P D vwCl [(h0, .inr (0, [.ref h_over, .ref h_steps, .ref h_before, .int t_2])), (h_before, .inl (cI, 30, .inl f_before)), (h_over, .inl (cI, 61, .inl f_over)), (h_steps, .inl (cI, 30, .inl f_steps))] H := hP
    have hD : va_D A [(h0, .inr (0, [.ref h_over, .ref h_steps, .ref h_before, .int t_2])), (h_before, .inl (cI, 30, .inl f_before)), (h_over, .inl (cI, 61, .inl f_over)), (h_steps, .inl (cI, 30, .inl f_steps))] := hD
    refine lv_aload_n hx hb dX0_takeBack_17 rfl (lv_at hl 0 rfl) ?_
    refine lv_aload_n hx hb dX0_takeBack_18 rfl (lv_at hl 0 rfl) ?_
    refine va_get (D := D) (ci := 0) (v := .ref h_steps) (C := RX0) (T := TX0) (N := 4) hx hb hts inlX0 hown hK hP 0 rfl rfl 1 (by decide) (hts _ (inr4 _ (List.mem_of_getElem? (i := 12) rfl))) (fun _ h9 => h9) rfl dX0_takeBack_19 ?_
    refine lv_aload_n hx hb dX0_takeBack_22 rfl (lv_at hl 0 rfl) ?_
    refine va_get (D := D) (ci := 0) (v := .int t_2) (C := RX0) (T := TX0) (N := 4) hx hb hts inlX0 hown hK hP 0 rfl rfl 3 (by decide) (hts _ (inr10 _ (List.mem_of_getElem? (i := 18) rfl))) (fun _ h9 => h9) rfl dX0_takeBack_23 ?_
    obtain ⟨t_3, et_3⟩ : ∃ v9 : Int32, f_steps (t_2 : Int32).toNatClampNeg = v9 := ⟨_, rfl⟩
    refine z_iald (v := t_3) hx hb hK hP 3 1 rfl rfl (vin_nat (by omega) (by omega)) et_3 dX0_takeBack_26 ?_
    refine lv_aload_n hx hb dX0_takeBack_27 rfl (lv_at hl 0 rfl) ?_
    refine va_get (D := D) (ci := 0) (v := .ref h_before) (C := RX0) (T := TX0) (N := 4) hx hb hts inlX0 hown hK hP 0 rfl rfl 2 (by decide) (hts _ (inr4 _ (List.mem_of_getElem? (i := 13) rfl))) (fun _ h9 => h9) rfl dX0_takeBack_28 ?_
    refine lv_aload_n hx hb dX0_takeBack_31 rfl (lv_at hl 0 rfl) ?_
    refine va_get (D := D) (ci := 0) (v := .int t_2) (C := RX0) (T := TX0) (N := 4) hx hb hts inlX0 hown hK hP 0 rfl rfl 3 (by decide) (hts _ (inr10 _ (List.mem_of_getElem? (i := 18) rfl))) (fun _ h9 => h9) rfl dX0_takeBack_32 ?_
    obtain ⟨t_4, et_4⟩ : ∃ v9 : Int32, f_before (t_2 : Int32).toNatClampNeg = v9 := ⟨_, rfl⟩
    refine z_iald (v := t_4) hx hb hK hP 1 1 rfl rfl (vin_nat (by omega) (by omega)) et_4 dX0_takeBack_35 ?_
    refine wrVv (As := [.int t_3, .int t_4]) (rest := []) (wr := [(h_before, .inl (cI, 30, .inl f_before)), (h_steps, .inl (cI, 30, .inl f_steps))]) ⟨hx, hb, hml, hown, hts⟩ (b_X0_putOver l G D cB cI cJ cZ cS cT H.size h0 h_over h_steps h_before t_2 f_over t_3 t_4 (by first | assumption | omega | decide)) hP hD hS hA hK hN hT hAB hG [0, 2] [1, 3] rfl rfl (by decide) (by decide) (by decide) (cvB (n := 2) (inr66 _ (List.mem_of_getElem? (i := 18) rfl)) (inr36 _ (List.mem_of_getElem? (i := 8) rfl)) (inr36 _ (List.mem_of_getElem? (i := 9) rfl)) (inr4 _ (List.mem_of_getElem? (i := 5) rfl)) (inr36 _ (List.mem_of_getElem? (i := 10) rfl)) (by decide +kernel) hts rfl rfl ⟨Nat.le_of_ble_eq_true rfl, Nat.le_of_ble_eq_true rfl⟩) 0 0 rfl rfl rfl rfl hl.1 rfl (Nat.le_of_ble_eq_true rfl) ⟨Nat.le_of_ble_eq_true rfl, Nat.le_of_ble_eq_true rfl⟩ dX0_takeBack_36 (fun x9 H locs h_6 hP hD hS => ?_)
    obtain ⟨g_7, rfl⟩ : ∃ z, z = x9 := ⟨_, rfl⟩
    have hP : va_P D vwCl [(h_before, .inl (cI, 30, .inl f_before)), (h_steps, .inl (cI, 30, .inl f_steps)), (h0, .inr (0, [.ref h_over, .ref h_steps, .ref h_before, .int t_2])), (h_over, .inl (cI, 61, .inl g_7))] H := hP
    have hD : va_D A [(h_before, .inl (cI, 30, .inl f_before)), (h_steps, .inl (cI, 30, .inl f_steps)), (h0, .inr (0, [.ref h_over, .ref h_steps, .ref h_before, .int t_2])), (h_over, .inl (cI, 61, .inl g_7))] := hD
    exact ret _ _ _ _ (t_2, g_7) dX0_takeBack_39 (show (0 ≤ t_2.toInt ∧ t_2.toInt ≤ 30) from (by first | assumption | omega | decide)) (hP.sub [2, 0, 3, 1] rfl) (hD.sub [2, 0, 3, 1] (by decide) rfl) hS

set_option maxHeartbeats 4000000 in
set_option maxRecDepth 100000 in
theorem b_X0_clear (l : Launch) (G : Gho) (D : va_G) (cB cI cJ cZ cS cT : ClassId) (sz : Nat) (h0 : Nat) (h_over : Nat) (h_steps : Nat) (h_before : Nat) (v0_size : Int32) (f_over : Nat → Int32) (iv0_size : 0 ≤ v0_size.toInt ∧ v0_size.toInt ≤ 30) : Met l yX0_clear (Cond.code yX0_clear cX0_clear 1 none :: wsL_law) ({ frames := 1, cells := 0, slots := 0, locals := 23 }) (wrP G D (tyL cB cI cJ cZ cS cT) [(h0, .inr (0, [.ref h_over, .ref h_steps, .ref h_before, .int v0_size])), (h_over, .inl (cI, 61, .inl f_over))] sz [.ref h0]) (va_Qv (fun x : Int32 × (Nat → Int32) => (0 ≤ x.1.toInt ∧ x.1.toInt ≤ 30)) (atW D (tyL cB cI cJ cZ cS cT) (va_A [(h0, .inr (0, [.ref h_over, .ref h_steps, .ref h_before, .int v0_size])), (h_over, .inl (cI, 61, .inl f_over))] sz) (fun x : Int32 × (Nat → Int32) => [(h0, .inr (0, [.ref h_over, .ref h_steps, .ref h_before, .int x.1])), (h_over, .inl (cI, 61, .inl x.2))])) (va_A [(h0, .inr (0, [.ref h_over, .ref h_steps, .ref h_before, .int v0_size])), (h_over, .inl (cI, 61, .inl f_over))] sz)) 0 0 (va_A [(h0, .inr (0, [.ref h_over, .ref h_steps, .ref h_before, .int v0_size])), (h_over, .inl (cI, 61, .inl f_over))] sz) := by
  refine metV (own := RX0) (by decide) rfl ?_
  intro p e s m below meth c Q hsz C hG hP hD hAB ret
  obtain ⟨hx, hb, hml, hown, hts, hK, hN, hT⟩ := id C
  subst hsz
  generalize hAe : va_A [(h0, .inr (0, [.ref h_over, .ref h_steps, .ref h_before, .int v0_size])), (h_over, .inl (cI, 61, .inl f_over))] s.heap.size = A at hD hAB ret ⊢
  have hA : ∀ q : Nat, s.heap.size ≤ q → A q := fun q h => by rw [← hAe]; exact Or.inr h
  have hS : va_S A s.heap s.heap [] := va_S.rf
  have hl := lv_entry ([.ref h0]) (n := 1) (Nat.le_of_ble_eq_true rfl)
  rw [lg_entry_eq]
  generalize (lg_sl ([.ref h0]) ++ List.replicate (1 - (lg_sl ([.ref h0])).length) Slot.unset).toArray = ls at hl ⊢
  have hl : lv_has ls 1 [(0, .ref h0)] := hl
  have hP : va_P D vwCl [(h0, .inr (0, [.ref h_over, .ref h_steps, .ref h_before, .int v0_size])), (h_over, .inl (cI, 61, .inl f_over))] s.heap := hP
  refine lv_aload_n hx hb dX0_clear_0 rfl (lv_at hl 0 rfl) ?_
  refine va_get (D := D) (ci := 0) (v := .ref h_over) (C := RX0) (T := TX0) (N := 4) hx hb hts inlX0 hown hK hP 0 rfl rfl 0 (by decide) (hts _ (inr4 _ (List.mem_of_getElem? (i := 11) rfl))) (fun _ h9 => h9) rfl dX0_clear_1 ?_
  refine lv_iconst (v := (-1)) hx hb dX0_clear_4 (by decide) ?_
  refine wrSv (As := [.ref h_over, .int (-1)]) (rest := []) (wr := [(h0, .inr (0, [.ref h_over, .ref h_steps, .ref h_before, .int v0_size]))]) ⟨hx, hb, hml, hown, hts⟩ (b_fillI l G D cB cI cJ cZ cS cT s.heap.size h_over 61 f_over (-1) (by first | assumption | omega | decide)) hP hD hS hA hK hN hT hAB hG [1] [0] rfl rfl (by decide) (by decide) (by decide) (csX (n := 2) (inr4 _ (List.mem_of_getElem? (i := 14) rfl)) (inr4 _ (List.mem_of_getElem? (i := 15) rfl)) (inr4 _ (List.mem_of_getElem? (i := 16) rfl)) (inr4 _ (List.mem_of_getElem? (i := 17) rfl)) (by decide +kernel) hts rfl rfl ⟨Nat.le_of_ble_eq_true rfl, Nat.le_of_ble_eq_true rfl⟩) rfl hl.1 rfl (Nat.le_of_ble_eq_true rfl) ⟨Nat.le_of_ble_eq_true rfl, Nat.le_of_ble_eq_true rfl⟩ dX0_clear_5 (fun x9 H locs h_2 hP hD hS => ?_)
  obtain ⟨g_3, rfl⟩ : ∃ z, z = x9 := ⟨_, rfl⟩
  have hP : va_P D vwCl [(h0, .inr (0, [.ref h_over, .ref h_steps, .ref h_before, .int v0_size])), (h_over, .inl (cI, 61, .inl g_3))] H := hP
  have hD : va_D A [(h0, .inr (0, [.ref h_over, .ref h_steps, .ref h_before, .int v0_size])), (h_over, .inl (cI, 61, .inl g_3))] := hD
  have h_2 : (∀ j, j < 61 → g_3 j = (-1)) := h_2
  have i_4 := h_2
  refine lv_aload_n hx hb dX0_clear_8 rfl (lv_at hl 0 rfl) ?_
  refine lv_iconst (v := 0) hx hb dX0_clear_9 (by decide) ?_
  refine va_put (D := D) (ci := 0) (v := .int 0) (ty := .int) (C := RX0) (T := TX0) (N := 4) hx hb hts inlX0 tyX0 tyX0_ok nmX0 hown hK hP hD hS 0 rfl rfl 3 (by decide) (hts _ (inr10 _ (List.mem_of_getElem? (i := 18) rfl))) (fun _ h9 => h9) rfl (by decide +kernel) rfl rfl (Nat.le_of_ble_eq_true rfl) dX0_clear_10 (fun H locs hP hD hS => ?_)
  have hP : va_P D vwCl [(h0, .inr (0, [.ref h_over, .ref h_steps, .ref h_before, .int 0])), (h_over, .inl (cI, 61, .inl g_3))] H := hP
  have hD : va_D A [(h0, .inr (0, [.ref h_over, .ref h_steps, .ref h_before, .int 0])), (h_over, .inl (cI, 61, .inl g_3))] := hD
  exact ret _ _ _ _ (0, g_3) dX0_clear_13 (show (0 ≤ (0 : Int32).toInt ∧ (0 : Int32).toInt ≤ 30) from (by first | assumption | omega | decide)) (hP.sub [0, 1] rfl) (hD.sub [0, 1] (by decide) rfl) hS

set_option maxHeartbeats 4000000 in
set_option maxRecDepth 100000 in
theorem b_X0_copyFrom (l : Launch) (G : Gho) (D : va_G) (cB cI cJ cZ cS cT : ClassId) (sz : Nat) (h0 : Nat) (h_over : Nat) (h_steps : Nat) (h_before : Nat) (v0_size : Int32) (f_before : Nat → Int32) (f_over : Nat → Int32) (f_steps : Nat → Int32) (h_a1 : Nat) (h_a1_over : Nat) (h_a1_steps : Nat) (h_a1_before : Nat) (v_a1_size : Int32) (f_a1_before : Nat → Int32) (f_a1_over : Nat → Int32) (f_a1_steps : Nat → Int32) (iv0_size : 0 ≤ v0_size.toInt ∧ v0_size.toInt ≤ 30) (iv_a1_size : 0 ≤ v_a1_size.toInt ∧ v_a1_size.toInt ≤ 30) : Met l yX0_copyFrom (Cond.code yX0_copyFrom cX0_copyFrom 2 none :: wsL_law) ({ frames := 1, cells := 0, slots := 0, locals := 40 }) (wrP G D (tyL cB cI cJ cZ cS cT) [(h0, .inr (0, [.ref h_over, .ref h_steps, .ref h_before, .int v0_size])), (h_before, .inl (cI, 30, .inl f_before)), (h_over, .inl (cI, 61, .inl f_over)), (h_steps, .inl (cI, 30, .inl f_steps)), (h_a1, .inr (0, [.ref h_a1_over, .ref h_a1_steps, .ref h_a1_before, .int v_a1_size])), (h_a1_before, .inl (cI, 30, .inl f_a1_before)), (h_a1_over, .inl (cI, 61, .inl f_a1_over)), (h_a1_steps, .inl (cI, 30, .inl f_a1_steps))] sz [.ref h0, .ref h_a1]) (va_Qv (fun x : Int32 × (Nat → Int32) × (Nat → Int32) × (Nat → Int32) => (0 ≤ x.1.toInt ∧ x.1.toInt ≤ 30)) (atW D (tyL cB cI cJ cZ cS cT) (va_A [(h0, .inr (0, [.ref h_over, .ref h_steps, .ref h_before, .int v0_size])), (h_before, .inl (cI, 30, .inl f_before)), (h_over, .inl (cI, 61, .inl f_over)), (h_steps, .inl (cI, 30, .inl f_steps)), (h_a1, .inr (0, [.ref h_a1_over, .ref h_a1_steps, .ref h_a1_before, .int v_a1_size])), (h_a1_before, .inl (cI, 30, .inl f_a1_before)), (h_a1_over, .inl (cI, 61, .inl f_a1_over)), (h_a1_steps, .inl (cI, 30, .inl f_a1_steps))] sz) (fun x : Int32 × (Nat → Int32) × (Nat → Int32) × (Nat → Int32) => [(h0, .inr (0, [.ref h_over, .ref h_steps, .ref h_before, .int x.1])), (h_before, .inl (cI, 30, .inl x.2.1)), (h_over, .inl (cI, 61, .inl x.2.2.1)), (h_steps, .inl (cI, 30, .inl x.2.2.2)), (h_a1, .inr (0, [.ref h_a1_over, .ref h_a1_steps, .ref h_a1_before, .int v_a1_size])), (h_a1_before, .inl (cI, 30, .inl f_a1_before)), (h_a1_over, .inl (cI, 61, .inl f_a1_over)), (h_a1_steps, .inl (cI, 30, .inl f_a1_steps))])) (va_A [(h0, .inr (0, [.ref h_over, .ref h_steps, .ref h_before, .int v0_size])), (h_before, .inl (cI, 30, .inl f_before)), (h_over, .inl (cI, 61, .inl f_over)), (h_steps, .inl (cI, 30, .inl f_steps)), (h_a1, .inr (0, [.ref h_a1_over, .ref h_a1_steps, .ref h_a1_before, .int v_a1_size])), (h_a1_before, .inl (cI, 30, .inl f_a1_before)), (h_a1_over, .inl (cI, 61, .inl f_a1_over)), (h_a1_steps, .inl (cI, 30, .inl f_a1_steps))] sz)) 0 0 (va_A [(h0, .inr (0, [.ref h_over, .ref h_steps, .ref h_before, .int v0_size])), (h_before, .inl (cI, 30, .inl f_before)), (h_over, .inl (cI, 61, .inl f_over)), (h_steps, .inl (cI, 30, .inl f_steps)), (h_a1, .inr (0, [.ref h_a1_over, .ref h_a1_steps, .ref h_a1_before, .int v_a1_size])), (h_a1_before, .inl (cI, 30, .inl f_a1_before)), (h_a1_over, .inl (cI, 61, .inl f_a1_over)), (h_a1_steps, .inl (cI, 30, .inl f_a1_steps))] sz) := by
  refine metV (own := RX0) (by decide) rfl ?_
  intro p e s m below meth c Q hsz C hG hP hD hAB ret
  obtain ⟨hx, hb, hml, hown, hts, hK, hN, hT⟩ := id C
  subst hsz
  generalize hAe : va_A [(h0, .inr (0, [.ref h_over, .ref h_steps, .ref h_before, .int v0_size])), (h_before, .inl (cI, 30, .inl f_before)), (h_over, .inl (cI, 61, .inl f_over)), (h_steps, .inl (cI, 30, .inl f_steps)), (h_a1, .inr (0, [.ref h_a1_over, .ref h_a1_steps, .ref h_a1_before, .int v_a1_size])), (h_a1_before, .inl (cI, 30, .inl f_a1_before)), (h_a1_over, .inl (cI, 61, .inl f_a1_over)), (h_a1_steps, .inl (cI, 30, .inl f_a1_steps))] s.heap.size = A at hD hAB ret ⊢
  have hA : ∀ q : Nat, s.heap.size ≤ q → A q := fun q h => by rw [← hAe]; exact Or.inr h
  have hS : va_S A s.heap s.heap [] := va_S.rf
  have hl := lv_entry ([.ref h0, .ref h_a1]) (n := 2) (Nat.le_of_ble_eq_true rfl)
  rw [lg_entry_eq]
  generalize (lg_sl ([.ref h0, .ref h_a1]) ++ List.replicate (2 - (lg_sl ([.ref h0, .ref h_a1])).length) Slot.unset).toArray = ls at hl ⊢
  have hl : lv_has ls 2 [(0, .ref h0), (1, .ref h_a1)] := hl
  have hP : va_P D vwCl [(h0, .inr (0, [.ref h_over, .ref h_steps, .ref h_before, .int v0_size])), (h_before, .inl (cI, 30, .inl f_before)), (h_over, .inl (cI, 61, .inl f_over)), (h_steps, .inl (cI, 30, .inl f_steps)), (h_a1, .inr (0, [.ref h_a1_over, .ref h_a1_steps, .ref h_a1_before, .int v_a1_size])), (h_a1_before, .inl (cI, 30, .inl f_a1_before)), (h_a1_over, .inl (cI, 61, .inl f_a1_over)), (h_a1_steps, .inl (cI, 30, .inl f_a1_steps))] s.heap := hP
  refine lv_aload_n hx hb dX0_copyFrom_0 rfl (lv_at hl 1 rfl) ?_
  refine va_get (D := D) (ci := 0) (v := .ref h_a1_over) (C := RX0) (T := TX0) (N := 4) hx hb hts inlX0 hown hK hP 4 rfl rfl 0 (by decide) (hts _ (inr4 _ (List.mem_of_getElem? (i := 11) rfl))) (fun _ h9 => h9) rfl dX0_copyFrom_1 ?_
  refine lv_iconst (v := 0) hx hb dX0_copyFrom_4 (by decide) ?_
  refine lv_aload_n hx hb dX0_copyFrom_5 rfl (lv_at hl 0 rfl) ?_
  refine va_get (D := D) (ci := 0) (v := .ref h_over) (C := RX0) (T := TX0) (N := 4) hx hb hts inlX0 hown hK hP 0 rfl rfl 0 (by decide) (hts _ (inr4 _ (List.mem_of_getElem? (i := 11) rfl))) (fun _ h9 => h9) rfl dX0_copyFrom_6 ?_
  refine lv_iconst (v := 0) hx hb dX0_copyFrom_9 (by decide) ?_
  refine lv_bipush (v := 61) hx hb dX0_copyFrom_10 (by decide) ?_
  refine va_copyi (rest := []) hx hb (by rw [hml]; exact hl.1.symm) hown (hts _ (inr17 _ (List.mem_of_getElem? (i := 13) rfl))) (hts _ (inr17 _ (List.mem_of_getElem? (i := 6) rfl))) (hts _ (inr17 _ (List.mem_of_getElem? (i := 7) rfl))) (hts _ (inr17 _ (List.mem_of_getElem? (i := 8) rfl))) hK hP hD hS 6 2 1 1 rfl rfl rfl rfl rfl (by decide) (by decide) (by decide) (by decide) (by decide) (fun _ _ => rfl) (Nat.le_of_ble_eq_true rfl) (Nat.le_of_ble_eq_true rfl) dX0_copyFrom_12 (fun H locs hP hD hS => ?_)
  have hP : va_P D vwCl [(h0, .inr (0, [.ref h_over, .ref h_steps, .ref h_before, .int v0_size])), (h_before, .inl (cI, 30, .inl f_before)), (h_over, .inl (cI, 61, .inl (va_cpy f_a1_over f_over (0 : Int32).toNatClampNeg (0 : Int32).toNatClampNeg (61 : Int32).toNatClampNeg))), (h_steps, .inl (cI, 30, .inl f_steps)), (h_a1, .inr (0, [.ref h_a1_over, .ref h_a1_steps, .ref h_a1_before, .int v_a1_size])), (h_a1_before, .inl (cI, 30, .inl f_a1_before)), (h_a1_over, .inl (cI, 61, .inl f_a1_over)), (h_a1_steps, .inl (cI, 30, .inl f_a1_steps))] H := hP
  have hD : va_D A [(h0, .inr (0, [.ref h_over, .ref h_steps, .ref h_before, .int v0_size])), (h_before, .inl (cI, 30, .inl f_before)), (h_over, .inl (cI, 61, .inl (va_cpy f_a1_over f_over (0 : Int32).toNatClampNeg (0 : Int32).toNatClampNeg (61 : Int32).toNatClampNeg))), (h_steps, .inl (cI, 30, .inl f_steps)), (h_a1, .inr (0, [.ref h_a1_over, .ref h_a1_steps, .ref h_a1_before, .int v_a1_size])), (h_a1_before, .inl (cI, 30, .inl f_a1_before)), (h_a1_over, .inl (cI, 61, .inl f_a1_over)), (h_a1_steps, .inl (cI, 30, .inl f_a1_steps))] := hD
  obtain ⟨g_1, eg_1⟩ : ∃ v9 : Nat → Int32, (va_cpy f_a1_over f_over (0 : Int32).toNatClampNeg (0 : Int32).toNatClampNeg (61 : Int32).toNatClampNeg) = v9 := ⟨_, rfl⟩
  rw [eg_1] at hP hD
  have hP : va_P D vwCl [(h0, .inr (0, [.ref h_over, .ref h_steps, .ref h_before, .int v0_size])), (h_before, .inl (cI, 30, .inl f_before)), (h_over, .inl (cI, 61, .inl g_1)), (h_steps, .inl (cI, 30, .inl f_steps)), (h_a1, .inr (0, [.ref h_a1_over, .ref h_a1_steps, .ref h_a1_before, .int v_a1_size])), (h_a1_before, .inl (cI, 30, .inl f_a1_before)), (h_a1_over, .inl (cI, 61, .inl f_a1_over)), (h_a1_steps, .inl (cI, 30, .inl f_a1_steps))] H := hP
  have hD : va_D A [(h0, .inr (0, [.ref h_over, .ref h_steps, .ref h_before, .int v0_size])), (h_before, .inl (cI, 30, .inl f_before)), (h_over, .inl (cI, 61, .inl g_1)), (h_steps, .inl (cI, 30, .inl f_steps)), (h_a1, .inr (0, [.ref h_a1_over, .ref h_a1_steps, .ref h_a1_before, .int v_a1_size])), (h_a1_before, .inl (cI, 30, .inl f_a1_before)), (h_a1_over, .inl (cI, 61, .inl f_a1_over)), (h_a1_steps, .inl (cI, 30, .inl f_a1_steps))] := hD
  refine lv_aload_n hx hb dX0_copyFrom_15 rfl (lv_at hl 1 rfl) ?_
  refine va_get (D := D) (ci := 0) (v := .ref h_a1_steps) (C := RX0) (T := TX0) (N := 4) hx hb hts inlX0 hown hK hP 4 rfl rfl 1 (by decide) (hts _ (inr4 _ (List.mem_of_getElem? (i := 12) rfl))) (fun _ h9 => h9) rfl dX0_copyFrom_16 ?_
  refine lv_iconst (v := 0) hx hb dX0_copyFrom_19 (by decide) ?_
  refine lv_aload_n hx hb dX0_copyFrom_20 rfl (lv_at hl 0 rfl) ?_
  refine va_get (D := D) (ci := 0) (v := .ref h_steps) (C := RX0) (T := TX0) (N := 4) hx hb hts inlX0 hown hK hP 0 rfl rfl 1 (by decide) (hts _ (inr4 _ (List.mem_of_getElem? (i := 12) rfl))) (fun _ h9 => h9) rfl dX0_copyFrom_21 ?_
  refine lv_iconst (v := 0) hx hb dX0_copyFrom_24 (by decide) ?_
  refine lv_bipush (v := 30) hx hb dX0_copyFrom_25 (by decide) ?_
  refine va_copyi (rest := []) hx hb (by rw [hml]; exact hl.1.symm) hown (hts _ (inr17 _ (List.mem_of_getElem? (i := 13) rfl))) (hts _ (inr17 _ (List.mem_of_getElem? (i := 6) rfl))) (hts _ (inr17 _ (List.mem_of_getElem? (i := 7) rfl))) (hts _ (inr17 _ (List.mem_of_getElem? (i := 8) rfl))) hK hP hD hS 7 3 1 1 rfl rfl rfl rfl rfl (by decide) (by decide) (by decide) (by decide) (by decide) (fun _ _ => rfl) (Nat.le_of_ble_eq_true rfl) (Nat.le_of_ble_eq_true rfl) dX0_copyFrom_27 (fun H locs hP hD hS => ?_)
  have hP : va_P D vwCl [(h0, .inr (0, [.ref h_over, .ref h_steps, .ref h_before, .int v0_size])), (h_before, .inl (cI, 30, .inl f_before)), (h_over, .inl (cI, 61, .inl g_1)), (h_steps, .inl (cI, 30, .inl (va_cpy f_a1_steps f_steps (0 : Int32).toNatClampNeg (0 : Int32).toNatClampNeg (30 : Int32).toNatClampNeg))), (h_a1, .inr (0, [.ref h_a1_over, .ref h_a1_steps, .ref h_a1_before, .int v_a1_size])), (h_a1_before, .inl (cI, 30, .inl f_a1_before)), (h_a1_over, .inl (cI, 61, .inl f_a1_over)), (h_a1_steps, .inl (cI, 30, .inl f_a1_steps))] H := hP
  have hD : va_D A [(h0, .inr (0, [.ref h_over, .ref h_steps, .ref h_before, .int v0_size])), (h_before, .inl (cI, 30, .inl f_before)), (h_over, .inl (cI, 61, .inl g_1)), (h_steps, .inl (cI, 30, .inl (va_cpy f_a1_steps f_steps (0 : Int32).toNatClampNeg (0 : Int32).toNatClampNeg (30 : Int32).toNatClampNeg))), (h_a1, .inr (0, [.ref h_a1_over, .ref h_a1_steps, .ref h_a1_before, .int v_a1_size])), (h_a1_before, .inl (cI, 30, .inl f_a1_before)), (h_a1_over, .inl (cI, 61, .inl f_a1_over)), (h_a1_steps, .inl (cI, 30, .inl f_a1_steps))] := hD
  obtain ⟨g_2, eg_2⟩ : ∃ v9 : Nat → Int32, (va_cpy f_a1_steps f_steps (0 : Int32).toNatClampNeg (0 : Int32).toNatClampNeg (30 : Int32).toNatClampNeg) = v9 := ⟨_, rfl⟩
  rw [eg_2] at hP hD
  have hP : va_P D vwCl [(h0, .inr (0, [.ref h_over, .ref h_steps, .ref h_before, .int v0_size])), (h_before, .inl (cI, 30, .inl f_before)), (h_over, .inl (cI, 61, .inl g_1)), (h_steps, .inl (cI, 30, .inl g_2)), (h_a1, .inr (0, [.ref h_a1_over, .ref h_a1_steps, .ref h_a1_before, .int v_a1_size])), (h_a1_before, .inl (cI, 30, .inl f_a1_before)), (h_a1_over, .inl (cI, 61, .inl f_a1_over)), (h_a1_steps, .inl (cI, 30, .inl f_a1_steps))] H := hP
  have hD : va_D A [(h0, .inr (0, [.ref h_over, .ref h_steps, .ref h_before, .int v0_size])), (h_before, .inl (cI, 30, .inl f_before)), (h_over, .inl (cI, 61, .inl g_1)), (h_steps, .inl (cI, 30, .inl g_2)), (h_a1, .inr (0, [.ref h_a1_over, .ref h_a1_steps, .ref h_a1_before, .int v_a1_size])), (h_a1_before, .inl (cI, 30, .inl f_a1_before)), (h_a1_over, .inl (cI, 61, .inl f_a1_over)), (h_a1_steps, .inl (cI, 30, .inl f_a1_steps))] := hD
  refine lv_aload_n hx hb dX0_copyFrom_30 rfl (lv_at hl 1 rfl) ?_
  refine va_get (D := D) (ci := 0) (v := .ref h_a1_before) (C := RX0) (T := TX0) (N := 4) hx hb hts inlX0 hown hK hP 4 rfl rfl 2 (by decide) (hts _ (inr4 _ (List.mem_of_getElem? (i := 13) rfl))) (fun _ h9 => h9) rfl dX0_copyFrom_31 ?_
  refine lv_iconst (v := 0) hx hb dX0_copyFrom_34 (by decide) ?_
  refine lv_aload_n hx hb dX0_copyFrom_35 rfl (lv_at hl 0 rfl) ?_
  refine va_get (D := D) (ci := 0) (v := .ref h_before) (C := RX0) (T := TX0) (N := 4) hx hb hts inlX0 hown hK hP 0 rfl rfl 2 (by decide) (hts _ (inr4 _ (List.mem_of_getElem? (i := 13) rfl))) (fun _ h9 => h9) rfl dX0_copyFrom_36 ?_
  refine lv_iconst (v := 0) hx hb dX0_copyFrom_39 (by decide) ?_
  refine lv_bipush (v := 30) hx hb dX0_copyFrom_40 (by decide) ?_
  refine va_copyi (rest := []) hx hb (by rw [hml]; exact hl.1.symm) hown (hts _ (inr17 _ (List.mem_of_getElem? (i := 13) rfl))) (hts _ (inr17 _ (List.mem_of_getElem? (i := 6) rfl))) (hts _ (inr17 _ (List.mem_of_getElem? (i := 7) rfl))) (hts _ (inr17 _ (List.mem_of_getElem? (i := 8) rfl))) hK hP hD hS 5 1 1 1 rfl rfl rfl rfl rfl (by decide) (by decide) (by decide) (by decide) (by decide) (fun _ _ => rfl) (Nat.le_of_ble_eq_true rfl) (Nat.le_of_ble_eq_true rfl) dX0_copyFrom_42 (fun H locs hP hD hS => ?_)
  have hP : va_P D vwCl [(h0, .inr (0, [.ref h_over, .ref h_steps, .ref h_before, .int v0_size])), (h_before, .inl (cI, 30, .inl (va_cpy f_a1_before f_before (0 : Int32).toNatClampNeg (0 : Int32).toNatClampNeg (30 : Int32).toNatClampNeg))), (h_over, .inl (cI, 61, .inl g_1)), (h_steps, .inl (cI, 30, .inl g_2)), (h_a1, .inr (0, [.ref h_a1_over, .ref h_a1_steps, .ref h_a1_before, .int v_a1_size])), (h_a1_before, .inl (cI, 30, .inl f_a1_before)), (h_a1_over, .inl (cI, 61, .inl f_a1_over)), (h_a1_steps, .inl (cI, 30, .inl f_a1_steps))] H := hP
  have hD : va_D A [(h0, .inr (0, [.ref h_over, .ref h_steps, .ref h_before, .int v0_size])), (h_before, .inl (cI, 30, .inl (va_cpy f_a1_before f_before (0 : Int32).toNatClampNeg (0 : Int32).toNatClampNeg (30 : Int32).toNatClampNeg))), (h_over, .inl (cI, 61, .inl g_1)), (h_steps, .inl (cI, 30, .inl g_2)), (h_a1, .inr (0, [.ref h_a1_over, .ref h_a1_steps, .ref h_a1_before, .int v_a1_size])), (h_a1_before, .inl (cI, 30, .inl f_a1_before)), (h_a1_over, .inl (cI, 61, .inl f_a1_over)), (h_a1_steps, .inl (cI, 30, .inl f_a1_steps))] := hD
  obtain ⟨g_3, eg_3⟩ : ∃ v9 : Nat → Int32, (va_cpy f_a1_before f_before (0 : Int32).toNatClampNeg (0 : Int32).toNatClampNeg (30 : Int32).toNatClampNeg) = v9 := ⟨_, rfl⟩
  rw [eg_3] at hP hD
  have hP : va_P D vwCl [(h0, .inr (0, [.ref h_over, .ref h_steps, .ref h_before, .int v0_size])), (h_before, .inl (cI, 30, .inl g_3)), (h_over, .inl (cI, 61, .inl g_1)), (h_steps, .inl (cI, 30, .inl g_2)), (h_a1, .inr (0, [.ref h_a1_over, .ref h_a1_steps, .ref h_a1_before, .int v_a1_size])), (h_a1_before, .inl (cI, 30, .inl f_a1_before)), (h_a1_over, .inl (cI, 61, .inl f_a1_over)), (h_a1_steps, .inl (cI, 30, .inl f_a1_steps))] H := hP
  have hD : va_D A [(h0, .inr (0, [.ref h_over, .ref h_steps, .ref h_before, .int v0_size])), (h_before, .inl (cI, 30, .inl g_3)), (h_over, .inl (cI, 61, .inl g_1)), (h_steps, .inl (cI, 30, .inl g_2)), (h_a1, .inr (0, [.ref h_a1_over, .ref h_a1_steps, .ref h_a1_before, .int v_a1_size])), (h_a1_before, .inl (cI, 30, .inl f_a1_before)), (h_a1_over, .inl (cI, 61, .inl f_a1_over)), (h_a1_steps, .inl (cI, 30, .inl f_a1_steps))] := hD
  refine lv_aload_n hx hb dX0_copyFrom_45 rfl (lv_at hl 0 rfl) ?_
  refine lv_aload_n hx hb dX0_copyFrom_46 rfl (lv_at hl 1 rfl) ?_
  refine va_get (D := D) (ci := 0) (v := .int v_a1_size) (C := RX0) (T := TX0) (N := 4) hx hb hts inlX0 hown hK hP 4 rfl rfl 3 (by decide) (hts _ (inr10 _ (List.mem_of_getElem? (i := 18) rfl))) (fun _ h9 => h9) rfl dX0_copyFrom_47 ?_
  refine va_put (D := D) (ci := 0) (v := .int v_a1_size) (ty := .int) (C := RX0) (T := TX0) (N := 4) hx hb hts inlX0 tyX0 tyX0_ok nmX0 hown hK hP hD hS 0 rfl rfl 3 (by decide) (hts _ (inr10 _ (List.mem_of_getElem? (i := 18) rfl))) (fun _ h9 => h9) rfl (by decide +kernel) rfl rfl (Nat.le_of_ble_eq_true rfl) dX0_copyFrom_50 (fun H locs hP hD hS => ?_)
  have hP : va_P D vwCl [(h0, .inr (0, [.ref h_over, .ref h_steps, .ref h_before, .int v_a1_size])), (h_before, .inl (cI, 30, .inl g_3)), (h_over, .inl (cI, 61, .inl g_1)), (h_steps, .inl (cI, 30, .inl g_2)), (h_a1, .inr (0, [.ref h_a1_over, .ref h_a1_steps, .ref h_a1_before, .int v_a1_size])), (h_a1_before, .inl (cI, 30, .inl f_a1_before)), (h_a1_over, .inl (cI, 61, .inl f_a1_over)), (h_a1_steps, .inl (cI, 30, .inl f_a1_steps))] H := hP
  have hD : va_D A [(h0, .inr (0, [.ref h_over, .ref h_steps, .ref h_before, .int v_a1_size])), (h_before, .inl (cI, 30, .inl g_3)), (h_over, .inl (cI, 61, .inl g_1)), (h_steps, .inl (cI, 30, .inl g_2)), (h_a1, .inr (0, [.ref h_a1_over, .ref h_a1_steps, .ref h_a1_before, .int v_a1_size])), (h_a1_before, .inl (cI, 30, .inl f_a1_before)), (h_a1_over, .inl (cI, 61, .inl f_a1_over)), (h_a1_steps, .inl (cI, 30, .inl f_a1_steps))] := hD
  exact ret _ _ _ _ (v_a1_size, g_3, g_1, g_2) dX0_copyFrom_53 (show (0 ≤ v_a1_size.toInt ∧ v_a1_size.toInt ≤ 30) from (by first | assumption | omega | decide)) (hP.sub [0, 1, 2, 3, 4, 5, 6, 7] rfl) (hD.sub [0, 1, 2, 3, 4, 5, 6, 7] (by decide) rfl) hS

set_option maxHeartbeats 4000000 in
set_option maxRecDepth 100000 in
theorem b_X1_from (l : Launch) (G : Gho) (D : va_G) (cB cI cJ cZ cS cT : ClassId) (h0 : Nat) (h_stepOfState : Nat) (h_tones : Nat) (h_pip : Nat) (v0_from : Int32) (v0_behind : Int32) (iv0_from : (-1) ≤ v0_from.toInt ∧ v0_from.toInt ≤ 2147483647) : Met l yX1_from (Cond.code yX1_from cX1_from 1 (some .int) :: wsL_law) ({ frames := 0, cells := 0, slots := 0, locals := 0 }) (roP G D (tyL cB cI cJ cZ cS cT) [(h0, .inr (1, [.ref h_stepOfState, .ref h_tones, .ref h_pip, .int v0_from, .int v0_behind]))] [.ref h0]) (vp_Si (fun r : Int32 => (r = v0_from))) 0 0 (fun _ => False) := by
  refine metRO (own := RX1) (by decide) rfl ?_
  intro p e s m below meth c Q C hP ret
  obtain ⟨hx, hb, hml, hown, hts, hK, hN, hT⟩ := id C
  have hl := lv_entry ([.ref h0]) (n := 1) (Nat.le_of_ble_eq_true rfl)
  rw [lg_entry_eq]
  generalize (lg_sl ([.ref h0]) ++ List.replicate (1 - (lg_sl ([.ref h0])).length) Slot.unset).toArray = ls at hl ⊢
  have hl : lv_has ls 1 [(0, .ref h0)] := hl
  have hP : va_P D vwCl [(h0, .inr (1, [.ref h_stepOfState, .ref h_tones, .ref h_pip, .int v0_from, .int v0_behind]))] s.heap := hP
  refine lv_aload_n hx hb dX1_from_0 rfl (lv_at hl 0 rfl) ?_
  refine va_get (D := D) (ci := 1) (v := .int v0_from) (C := RX1) (T := TX1) (N := 5) hx hb hts inlX1 hown hK hP 0 rfl rfl 3 (by decide) (hts _ (inr5 _ (List.mem_of_getElem? (i := 12) rfl))) (fun _ h9 => h9) rfl dX1_from_1 ?_
  exact ret _ _ _ dX1_from_4 (show (v0_from = v0_from) from rfl)

set_option maxHeartbeats 4000000 in
set_option maxRecDepth 100000 in
theorem b_X1_steps (l : Launch) (G : Gho) (D : va_G) (cB cI cJ cZ cS cT : ClassId) (h0 : Nat) (h_stepOfState : Nat) (h_tones : Nat) (h_pip : Nat) (v0_from : Int32) (v0_behind : Int32) (iv0_from : (-1) ≤ v0_from.toInt ∧ v0_from.toInt ≤ 2147483647) : Met l yX1_steps (Cond.code yX1_steps cX1_steps 1 (some .int) :: wsL_law) ({ frames := 0, cells := 0, slots := 0, locals := 0 }) (roP G D (tyL cB cI cJ cZ cS cT) [(h0, .inr (1, [.ref h_stepOfState, .ref h_tones, .ref h_pip, .int v0_from, .int v0_behind]))] [.ref h0]) (vp_Si (fun r : Int32 => True)) 0 0 (fun _ => False) := by
  refine metRO (own := RX1) (by decide) rfl ?_
  intro p e s m below meth c Q C hP ret
  obtain ⟨hx, hb, hml, hown, hts, hK, hN, hT⟩ := id C
  have hl := lv_entry ([.ref h0]) (n := 1) (Nat.le_of_ble_eq_true rfl)
  rw [lg_entry_eq]
  generalize (lg_sl ([.ref h0]) ++ List.replicate (1 - (lg_sl ([.ref h0])).length) Slot.unset).toArray = ls at hl ⊢
  have hl : lv_has ls 1 [(0, .ref h0)] := hl
  have hP : va_P D vwCl [(h0, .inr (1, [.ref h_stepOfState, .ref h_tones, .ref h_pip, .int v0_from, .int v0_behind]))] s.heap := hP
  refine lv_aload_n hx hb dX1_steps_0 rfl (lv_at hl 0 rfl) ?_
  refine va_get (D := D) (ci := 1) (v := .int v0_from) (C := RX1) (T := TX1) (N := 5) hx hb hts inlX1 hown hK hP 0 rfl rfl 3 (by decide) (hts _ (inr5 _ (List.mem_of_getElem? (i := 12) rfl))) (fun _ h9 => h9) rfl dX1_steps_1 ?_
  refine lv_iconst (v := (-1)) hx hb dX1_steps_4 (by decide) ?_
  refine lv_icmp_ne (tgt := 12) hx hb dX1_steps_5 (by decide) (fun c_1 => ?_) (fun c_1 => ?_)
  · have c_1 : ¬ v0_from.toInt = (-1) := ci_ne_t c_1
    have b_v0_from := i32b v0_from
    refine lv_aload_n hx hb dX1_steps_12 rfl (lv_at hl 0 rfl) ?_
    refine va_get (D := D) (ci := 1) (v := .int v0_behind) (C := RX1) (T := TX1) (N := 5) hx hb hts inlX1 hown hK hP 0 rfl rfl 4 (by decide) (hts _ (inr5 _ (List.mem_of_getElem? (i := 13) rfl))) (fun _ h9 => h9) rfl dX1_steps_13 ?_
    refine lv_aload_n hx hb dX1_steps_16 rfl (lv_at hl 0 rfl) ?_
    refine va_get (D := D) (ci := 1) (v := .int v0_from) (C := RX1) (T := TX1) (N := 5) hx hb hts inlX1 hown hK hP 0 rfl rfl 3 (by decide) (hts _ (inr5 _ (List.mem_of_getElem? (i := 12) rfl))) (fun _ h9 => h9) rfl dX1_steps_17 ?_
    obtain ⟨t_2, et_2⟩ : ∃ v9 : Int32, v0_behind - v0_from = v9 := ⟨_, rfl⟩
    refine z_isub (v := t_2) hx hb dX1_steps_20 et_2 ?_
    exact ret _ _ _ dX1_steps_21 trivial
  · have c_1 : v0_from.toInt = (-1) := ci_ne_f c_1
    have b_v0_from := i32b v0_from
    refine lv_iconst (v := (-1)) hx hb dX1_steps_8 (by decide) ?_
    refine lv_goto (tgt := 21) hx hb dX1_steps_9 (by decide) ?_
    exact ret _ _ _ dX1_steps_21 trivial

set_option maxHeartbeats 4000000 in
set_option maxRecDepth 100000 in
theorem b_X8_isGap (l : Launch) (G : Gho) (D : va_G) (cB cI cJ cZ cS cT : ClassId) (h0 : Nat) (v0_tones : Int32) (v0_a : Int32) (v0_b : Int32) (v0_c : Int32) (v0_d : Int32) (v0_odds : Int32) (v0_lines : Int32) (h_signs : Nat) (v0_signCount : Int32) (h_posts : Nat) (v0_postCount : Int32) (h_acts : Nat) (f_signs : Nat → Int32) (v1 : Int32) (iv0_signCount : 0 ≤ v0_signCount.toInt ∧ v0_signCount.toInt ≤ 8) (iv0_postCount : 0 ≤ v0_postCount.toInt ∧ v0_postCount.toInt ≤ 5) : Met l yX8_isGap (Cond.code yX8_isGap cX8_isGap 2 (some .boolean) :: wsL_law) ({ frames := 0, cells := 0, slots := 0, locals := 0 }) (roP G D (tyL cB cI cJ cZ cS cT) [(h0, .inr (8, [.int v0_tones, .int v0_a, .int v0_b, .int v0_c, .int v0_d, .int v0_odds, .int v0_lines, .ref h_signs, .int v0_signCount, .ref h_posts, .int v0_postCount, .ref h_acts])), (h_signs, .inl (cI, 8, .inl f_signs))] [.ref h0, .int v1]) (vp_Si (fun r : Int32 => (r = 0 ∨ r = 1))) 0 0 (fun _ => False) := by
  refine metROZ (own := RX8) (by decide) rfl (fun r h => h) ?_
  intro p e s m below meth c Q C hP ret
  obtain ⟨hx, hb, hml, hown, hts, hK, hN, hT⟩ := id C
  have hl := lv_entry ([.ref h0, .int v1]) (n := 2) (Nat.le_of_ble_eq_true rfl)
  rw [lg_entry_eq]
  generalize (lg_sl ([.ref h0, .int v1]) ++ List.replicate (2 - (lg_sl ([.ref h0, .int v1])).length) Slot.unset).toArray = ls at hl ⊢
  have hl : lv_has ls 2 [(0, .ref h0), (1, .int v1)] := hl
  have hP : va_P D vwCl [(h0, .inr (8, [.int v0_tones, .int v0_a, .int v0_b, .int v0_c, .int v0_d, .int v0_odds, .int v0_lines, .ref h_signs, .int v0_signCount, .ref h_posts, .int v0_postCount, .ref h_acts])), (h_signs, .inl (cI, 8, .inl f_signs))] s.heap := hP
  refine lv_aload_n hx hb dX8_isGap_0 rfl (lv_at hl 0 rfl) ?_
  refine va_get (D := D) (ci := 8) (v := .int v0_signCount) (C := RX8) (T := TX8) (N := 12) hx hb hts inlX8 hown hK hP 0 rfl rfl 8 (by decide) (hts _ (inr9 _ (List.mem_of_getElem? (i := 22) rfl))) (fun _ h9 => h9) rfl dX8_isGap_1 ?_
  refine lv_if_le (tgt := 30) hx hb dX8_isGap_4 (by decide) (fun c_1 => ?_) (fun c_1 => ?_)
  · have c_1 : v0_signCount.toInt ≤ 0 := ci_le_t c_1
    have b_v0_signCount := i32b v0_signCount
    refine lv_iconst (v := 0) hx hb dX8_isGap_30 (by decide) ?_
    have hr9 : (0 : Int32).toInt = 0 := by decide
    exact ret _ _ _ dX8_isGap_31 (show ((0 : Int32) = 0 ∨ (0 : Int32) = 1) from (Or.inl rfl))
  · have c_1 : 0 < v0_signCount.toInt := ci_le_f c_1
    have b_v0_signCount := i32b v0_signCount
    refine lv_iload_n hx hb dX8_isGap_7 rfl (lv_at hl 1 rfl) ?_
    refine lv_if_lt (tgt := 30) hx hb dX8_isGap_8 (by decide) (fun c_2 => ?_) (fun c_2 => ?_)
    · have c_2 : v1.toInt < 0 := ci_lt_t c_2
      have b_v1 := i32b v1
      refine lv_iconst (v := 0) hx hb dX8_isGap_30 (by decide) ?_
      have hr9 : (0 : Int32).toInt = 0 := by decide
      exact ret _ _ _ dX8_isGap_31 (show ((0 : Int32) = 0 ∨ (0 : Int32) = 1) from (Or.inl rfl))
    · have c_2 : 0 ≤ v1.toInt := ci_lt_f c_2
      have b_v1 := i32b v1
      refine lv_aload_n hx hb dX8_isGap_11 rfl (lv_at hl 0 rfl) ?_
      refine va_get (D := D) (ci := 8) (v := .ref h_signs) (C := RX8) (T := TX8) (N := 12) hx hb hts inlX8 hown hK hP 0 rfl rfl 7 (by decide) (hts _ (inr4 _ (List.mem_of_getElem? (i := 1) rfl))) (fun _ h9 => h9) rfl dX8_isGap_12 ?_
      refine lv_iload_n hx hb dX8_isGap_15 rfl (lv_at hl 1 rfl) ?_
      refine lv_aload_n hx hb dX8_isGap_16 rfl (lv_at hl 0 rfl) ?_
      refine va_get (D := D) (ci := 8) (v := .int v0_signCount) (C := RX8) (T := TX8) (N := 12) hx hb hts inlX8 hown hK hP 0 rfl rfl 8 (by decide) (hts _ (inr9 _ (List.mem_of_getElem? (i := 22) rfl))) (fun _ h9 => h9) rfl dX8_isGap_17 ?_
      obtain ⟨t_3, et_3⟩ : ∃ v9 : Int32, v1 - v1 / v0_signCount * v0_signCount = v9 := ⟨_, rfl⟩
      refine z_irem (v := t_3) hx hb dX8_isGap_20 (ne0T (by omega)) et_3 ?_
      have ft_3 := remT (by omega) (by omega) et_3
      obtain ⟨t_4, et_4⟩ : ∃ v9 : Int32, f_signs (t_3 : Int32).toNatClampNeg = v9 := ⟨_, rfl⟩
      refine z_iald (v := t_4) hx hb hK hP 1 1 rfl rfl (vin_nat (by omega) (by omega)) et_4 dX8_isGap_21 ?_
      refine lv_iconst (v := (-1)) hx hb dX8_isGap_22 (by decide) ?_
      refine lv_icmp_ne (tgt := 30) hx hb dX8_isGap_23 (by decide) (fun c_5 => ?_) (fun c_5 => ?_)
      · have c_5 : ¬ t_4.toInt = (-1) := ci_ne_t c_5
        have b_t_4 := i32b t_4
        refine lv_iconst (v := 0) hx hb dX8_isGap_30 (by decide) ?_
        have hr9 : (0 : Int32).toInt = 0 := by decide
        exact ret _ _ _ dX8_isGap_31 (show ((0 : Int32) = 0 ∨ (0 : Int32) = 1) from (Or.inl rfl))
      · have c_5 : t_4.toInt = (-1) := ci_ne_f c_5
        have b_t_4 := i32b t_4
        refine lv_iconst (v := 1) hx hb dX8_isGap_26 (by decide) ?_
        refine lv_goto (tgt := 31) hx hb dX8_isGap_27 (by decide) ?_
        have hr9 : (1 : Int32).toInt = 1 := by decide
        exact ret _ _ _ dX8_isGap_31 (show ((1 : Int32) = 0 ∨ (1 : Int32) = 1) from (Or.inr rfl))

set_option maxHeartbeats 4000000 in
set_option maxRecDepth 100000 in
theorem b_X8_ownTone (l : Launch) (G : Gho) (D : va_G) (cB cI cJ cZ cS cT : ClassId) (h0 : Nat) (v0_tones : Int32) (v0_a : Int32) (v0_b : Int32) (v0_c : Int32) (v0_d : Int32) (v0_odds : Int32) (v0_lines : Int32) (h_signs : Nat) (v0_signCount : Int32) (h_posts : Nat) (v0_postCount : Int32) (h_acts : Nat) (f_signs : Nat → Int32) (v1 : Int32) (v2 : Int32) (v3 : Int32) (iv0_signCount : 0 ≤ v0_signCount.toInt ∧ v0_signCount.toInt ≤ 8) (iv0_postCount : 0 ≤ v0_postCount.toInt ∧ v0_postCount.toInt ≤ 5) : Met l yX8_ownTone (Cond.code yX8_ownTone cX8_ownTone 6 (some .int) :: wsL_law) ({ frames := 0, cells := 0, slots := 0, locals := 0 }) (roP G D (tyL cB cI cJ cZ cS cT) [(h0, .inr (8, [.int v0_tones, .int v0_a, .int v0_b, .int v0_c, .int v0_d, .int v0_odds, .int v0_lines, .ref h_signs, .int v0_signCount, .ref h_posts, .int v0_postCount, .ref h_acts])), (h_signs, .inl (cI, 8, .inl f_signs))] [.ref h0, .int v1, .int v2, .int v3]) (vp_Si (fun r : Int32 => True)) 0 0 (fun _ => False) := by
  refine metRO (own := RX8) (by decide) rfl ?_
  intro p e s m below meth c Q C hP ret
  obtain ⟨hx, hb, hml, hown, hts, hK, hN, hT⟩ := id C
  have hl := lv_entry ([.ref h0, .int v1, .int v2, .int v3]) (n := 6) (Nat.le_of_ble_eq_true rfl)
  rw [lg_entry_eq]
  generalize (lg_sl ([.ref h0, .int v1, .int v2, .int v3]) ++ List.replicate (6 - (lg_sl ([.ref h0, .int v1, .int v2, .int v3])).length) Slot.unset).toArray = ls at hl ⊢
  have hl : lv_has ls 6 [(0, .ref h0), (1, .int v1), (2, .int v2), (3, .int v3)] := hl
  have hP : va_P D vwCl [(h0, .inr (8, [.int v0_tones, .int v0_a, .int v0_b, .int v0_c, .int v0_d, .int v0_odds, .int v0_lines, .ref h_signs, .int v0_signCount, .ref h_posts, .int v0_postCount, .ref h_acts])), (h_signs, .inl (cI, 8, .inl f_signs))] s.heap := hP
  refine lv_aload_n hx hb dX8_ownTone_0 rfl (lv_at hl 0 rfl) ?_
  refine va_get (D := D) (ci := 8) (v := .int v0_signCount) (C := RX8) (T := TX8) (N := 12) hx hb hts inlX8 hown hK hP 0 rfl rfl 8 (by decide) (hts _ (inr9 _ (List.mem_of_getElem? (i := 22) rfl))) (fun _ h9 => h9) rfl dX8_ownTone_1 ?_
  refine lv_if_le (tgt := 18) hx hb dX8_ownTone_4 (by decide) (fun c_1 => ?_) (fun c_1 => ?_)
  · have c_1 : v0_signCount.toInt ≤ 0 := ci_le_t c_1
    have b_v0_signCount := i32b v0_signCount
    refine lv_iconst (v := (-1)) hx hb dX8_ownTone_18 (by decide) ?_
    exact ret _ _ _ dX8_ownTone_19 trivial
  · have c_1 : 0 < v0_signCount.toInt := ci_le_f c_1
    have b_v0_signCount := i32b v0_signCount
    refine lv_aload_n hx hb dX8_ownTone_7 rfl (lv_at hl 0 rfl) ?_
    refine va_get (D := D) (ci := 8) (v := .int v0_tones) (C := RX8) (T := TX8) (N := 12) hx hb hts inlX8 hown hK hP 0 rfl rfl 0 (by decide) (hts _ (inr10 _ (List.mem_of_getElem? (i := 4) rfl))) (fun _ h9 => h9) rfl dX8_ownTone_8 ?_
    refine lv_if_le (tgt := 18) hx hb dX8_ownTone_11 (by decide) (fun c_2 => ?_) (fun c_2 => ?_)
    · have c_2 : v0_tones.toInt ≤ 0 := ci_le_t c_2
      have b_v0_tones := i32b v0_tones
      refine lv_iconst (v := (-1)) hx hb dX8_ownTone_18 (by decide) ?_
      exact ret _ _ _ dX8_ownTone_19 trivial
    · have c_2 : 0 < v0_tones.toInt := ci_le_f c_2
      have b_v0_tones := i32b v0_tones
      refine lv_iload_n hx hb dX8_ownTone_14 rfl (lv_at hl 1 rfl) ?_
      refine lv_if_ge (tgt := 20) hx hb dX8_ownTone_15 (by decide) (fun c_3 => ?_) (fun c_3 => ?_)
      · have c_3 : 0 ≤ v1.toInt := ci_ge_t c_3
        have b_v1 := i32b v1
        refine lv_aload_n hx hb dX8_ownTone_20 rfl (lv_at hl 0 rfl) ?_
        refine va_get (D := D) (ci := 8) (v := .ref h_signs) (C := RX8) (T := TX8) (N := 12) hx hb hts inlX8 hown hK hP 0 rfl rfl 7 (by decide) (hts _ (inr4 _ (List.mem_of_getElem? (i := 1) rfl))) (fun _ h9 => h9) rfl dX8_ownTone_21 ?_
        refine lv_iload_n hx hb dX8_ownTone_24 rfl (lv_at hl 1 rfl) ?_
        refine lv_aload_n hx hb dX8_ownTone_25 rfl (lv_at hl 0 rfl) ?_
        refine va_get (D := D) (ci := 8) (v := .int v0_signCount) (C := RX8) (T := TX8) (N := 12) hx hb hts inlX8 hown hK hP 0 rfl rfl 8 (by decide) (hts _ (inr9 _ (List.mem_of_getElem? (i := 22) rfl))) (fun _ h9 => h9) rfl dX8_ownTone_26 ?_
        obtain ⟨t_4, et_4⟩ : ∃ v9 : Int32, v1 - v1 / v0_signCount * v0_signCount = v9 := ⟨_, rfl⟩
        refine z_irem (v := t_4) hx hb dX8_ownTone_29 (ne0T (by omega)) et_4 ?_
        have ft_4 := remT (by omega) (by omega) et_4
        obtain ⟨t_5, et_5⟩ : ∃ v9 : Int32, f_signs (t_4 : Int32).toNatClampNeg = v9 := ⟨_, rfl⟩
        refine z_iald (v := t_5) hx hb hK hP 1 1 rfl rfl (vin_nat (by omega) (by omega)) et_5 dX8_ownTone_30 ?_
        refine lv_istore (lv' := [(4, .int t_5), (0, .ref h0), (1, .int v1), (2, .int v2), (3, .int v3)]) hx hb dX8_ownTone_31 hl (by decide) rfl (fun ls hl => ?_)
        refine lv_iload hx hb dX8_ownTone_33 (lv_at hl 0 rfl) ?_
        refine lv_iconst (v := (-1)) hx hb dX8_ownTone_35 (by decide) ?_
        refine lv_icmp_ne (tgt := 60) hx hb dX8_ownTone_36 (by decide) (fun c_6 => ?_) (fun c_6 => ?_)
        · have c_6 : ¬ t_5.toInt = (-1) := ci_ne_t c_6
          have b_t_5 := i32b t_5
          refine lv_iload hx hb dX8_ownTone_60 (lv_at hl 0 rfl) ?_
          refine lv_aload_n hx hb dX8_ownTone_62 rfl (lv_at hl 1 rfl) ?_
          refine va_get (D := D) (ci := 8) (v := .int v0_d) (C := RX8) (T := TX8) (N := 12) hx hb hts inlX8 hown hK hP 0 rfl rfl 4 (by decide) (hts _ (inr10 _ (List.mem_of_getElem? (i := 5) rfl))) (fun _ h9 => h9) rfl dX8_ownTone_63 ?_
          refine lv_iload_n hx hb dX8_ownTone_66 rfl (lv_at hl 4 rfl) ?_
          obtain ⟨t_7, et_7⟩ : ∃ v9 : Int32, v0_d * v3 = v9 := ⟨_, rfl⟩
          refine z_imul (v := t_7) hx hb dX8_ownTone_67 et_7 ?_
          obtain ⟨t_8, et_8⟩ : ∃ v9 : Int32, t_5 + t_7 = v9 := ⟨_, rfl⟩
          refine z_iadd (v := t_8) hx hb dX8_ownTone_68 et_8 ?_
          refine lv_istore (lv' := [(5, .int t_8), (4, .int t_5), (0, .ref h0), (1, .int v1), (2, .int v2), (3, .int v3)]) hx hb dX8_ownTone_69 hl (by decide) rfl (fun ls hl => ?_)
          refine lv_iload hx hb dX8_ownTone_71 (lv_at hl 0 rfl) ?_
          refine lv_aload_n hx hb dX8_ownTone_73 rfl (lv_at hl 2 rfl) ?_
          refine va_get (D := D) (ci := 8) (v := .int v0_tones) (C := RX8) (T := TX8) (N := 12) hx hb hts inlX8 hown hK hP 0 rfl rfl 0 (by decide) (hts _ (inr10 _ (List.mem_of_getElem? (i := 4) rfl))) (fun _ h9 => h9) rfl dX8_ownTone_74 ?_
          obtain ⟨t_9, et_9⟩ : ∃ v9 : Int32, t_8 - t_8 / v0_tones * v0_tones = v9 := ⟨_, rfl⟩
          refine z_irem (v := t_9) hx hb dX8_ownTone_77 (ne0T (by omega)) et_9 ?_
          exact ret _ _ _ dX8_ownTone_78 trivial
        · have c_6 : t_5.toInt = (-1) := ci_ne_f c_6
          have b_t_5 := i32b t_5
          refine lv_aload_n hx hb dX8_ownTone_39 rfl (lv_at hl 1 rfl) ?_
          refine va_get (D := D) (ci := 8) (v := .int v0_a) (C := RX8) (T := TX8) (N := 12) hx hb hts inlX8 hown hK hP 0 rfl rfl 1 (by decide) (hts _ (inr10 _ (List.mem_of_getElem? (i := 11) rfl))) (fun _ h9 => h9) rfl dX8_ownTone_40 ?_
          refine lv_iload_n hx hb dX8_ownTone_43 rfl (lv_at hl 3 rfl) ?_
          obtain ⟨t_10, et_10⟩ : ∃ v9 : Int32, v0_a * v2 = v9 := ⟨_, rfl⟩
          refine z_imul (v := t_10) hx hb dX8_ownTone_44 et_10 ?_
          refine lv_aload_n hx hb dX8_ownTone_45 rfl (lv_at hl 1 rfl) ?_
          refine va_get (D := D) (ci := 8) (v := .int v0_b) (C := RX8) (T := TX8) (N := 12) hx hb hts inlX8 hown hK hP 0 rfl rfl 2 (by decide) (hts _ (inr10 _ (List.mem_of_getElem? (i := 12) rfl))) (fun _ h9 => h9) rfl dX8_ownTone_46 ?_
          refine lv_iload_n hx hb dX8_ownTone_49 rfl (lv_at hl 4 rfl) ?_
          obtain ⟨t_11, et_11⟩ : ∃ v9 : Int32, v0_b * v3 = v9 := ⟨_, rfl⟩
          refine z_imul (v := t_11) hx hb dX8_ownTone_50 et_11 ?_
          obtain ⟨t_12, et_12⟩ : ∃ v9 : Int32, t_10 + t_11 = v9 := ⟨_, rfl⟩
          refine z_iadd (v := t_12) hx hb dX8_ownTone_51 et_12 ?_
          refine lv_aload_n hx hb dX8_ownTone_52 rfl (lv_at hl 1 rfl) ?_
          refine va_get (D := D) (ci := 8) (v := .int v0_c) (C := RX8) (T := TX8) (N := 12) hx hb hts inlX8 hown hK hP 0 rfl rfl 3 (by decide) (hts _ (inr10 _ (List.mem_of_getElem? (i := 13) rfl))) (fun _ h9 => h9) rfl dX8_ownTone_53 ?_
          obtain ⟨t_13, et_13⟩ : ∃ v9 : Int32, t_12 + v0_c = v9 := ⟨_, rfl⟩
          refine z_iadd (v := t_13) hx hb dX8_ownTone_56 et_13 ?_
          refine lv_goto (tgt := 69) hx hb dX8_ownTone_57 (by decide) ?_
          refine lv_istore (lv' := [(5, .int t_13), (4, .int t_5), (0, .ref h0), (1, .int v1), (2, .int v2), (3, .int v3)]) hx hb dX8_ownTone_69 hl (by decide) rfl (fun ls hl => ?_)
          refine lv_iload hx hb dX8_ownTone_71 (lv_at hl 0 rfl) ?_
          refine lv_aload_n hx hb dX8_ownTone_73 rfl (lv_at hl 2 rfl) ?_
          refine va_get (D := D) (ci := 8) (v := .int v0_tones) (C := RX8) (T := TX8) (N := 12) hx hb hts inlX8 hown hK hP 0 rfl rfl 0 (by decide) (hts _ (inr10 _ (List.mem_of_getElem? (i := 4) rfl))) (fun _ h9 => h9) rfl dX8_ownTone_74 ?_
          obtain ⟨t_14, et_14⟩ : ∃ v9 : Int32, t_13 - t_13 / v0_tones * v0_tones = v9 := ⟨_, rfl⟩
          refine z_irem (v := t_14) hx hb dX8_ownTone_77 (ne0T (by omega)) et_14 ?_
          exact ret _ _ _ dX8_ownTone_78 trivial
      · have c_3 : v1.toInt < 0 := ci_ge_f c_3
        have b_v1 := i32b v1
        refine lv_iconst (v := (-1)) hx hb dX8_ownTone_18 (by decide) ?_
        exact ret _ _ _ dX8_ownTone_19 trivial

set_option maxHeartbeats 4000000 in
set_option maxRecDepth 100000 in
theorem b_X8_signCount (l : Launch) (G : Gho) (D : va_G) (cB cI cJ cZ cS cT : ClassId) (h0 : Nat) (v0_tones : Int32) (v0_a : Int32) (v0_b : Int32) (v0_c : Int32) (v0_d : Int32) (v0_odds : Int32) (v0_lines : Int32) (h_signs : Nat) (v0_signCount : Int32) (h_posts : Nat) (v0_postCount : Int32) (h_acts : Nat) (iv0_signCount : 0 ≤ v0_signCount.toInt ∧ v0_signCount.toInt ≤ 8) (iv0_postCount : 0 ≤ v0_postCount.toInt ∧ v0_postCount.toInt ≤ 5) : Met l yX8_signCount (Cond.code yX8_signCount cX8_signCount 1 (some .int) :: wsL_law) ({ frames := 0, cells := 0, slots := 0, locals := 0 }) (roP G D (tyL cB cI cJ cZ cS cT) [(h0, .inr (8, [.int v0_tones, .int v0_a, .int v0_b, .int v0_c, .int v0_d, .int v0_odds, .int v0_lines, .ref h_signs, .int v0_signCount, .ref h_posts, .int v0_postCount, .ref h_acts]))] [.ref h0]) (vp_Si (fun r : Int32 => (r = v0_signCount))) 0 0 (fun _ => False) := by
  refine metRO (own := RX8) (by decide) rfl ?_
  intro p e s m below meth c Q C hP ret
  obtain ⟨hx, hb, hml, hown, hts, hK, hN, hT⟩ := id C
  have hl := lv_entry ([.ref h0]) (n := 1) (Nat.le_of_ble_eq_true rfl)
  rw [lg_entry_eq]
  generalize (lg_sl ([.ref h0]) ++ List.replicate (1 - (lg_sl ([.ref h0])).length) Slot.unset).toArray = ls at hl ⊢
  have hl : lv_has ls 1 [(0, .ref h0)] := hl
  have hP : va_P D vwCl [(h0, .inr (8, [.int v0_tones, .int v0_a, .int v0_b, .int v0_c, .int v0_d, .int v0_odds, .int v0_lines, .ref h_signs, .int v0_signCount, .ref h_posts, .int v0_postCount, .ref h_acts]))] s.heap := hP
  refine lv_aload_n hx hb dX8_signCount_0 rfl (lv_at hl 0 rfl) ?_
  refine va_get (D := D) (ci := 8) (v := .int v0_signCount) (C := RX8) (T := TX8) (N := 12) hx hb hts inlX8 hown hK hP 0 rfl rfl 8 (by decide) (hts _ (inr9 _ (List.mem_of_getElem? (i := 22) rfl))) (fun _ h9 => h9) rfl dX8_signCount_1 ?_
  exact ret _ _ _ dX8_signCount_4 (show (v0_signCount = v0_signCount) from rfl)

set_option maxHeartbeats 4000000 in
set_option maxRecDepth 100000 in
theorem b_X8_signNumber (l : Launch) (G : Gho) (D : va_G) (cB cI cJ cZ cS cT : ClassId) (h0 : Nat) (v0_tones : Int32) (v0_a : Int32) (v0_b : Int32) (v0_c : Int32) (v0_d : Int32) (v0_odds : Int32) (v0_lines : Int32) (h_signs : Nat) (v0_signCount : Int32) (h_posts : Nat) (v0_postCount : Int32) (h_acts : Nat) (v1 : Int32) (iv0_signCount : 0 ≤ v0_signCount.toInt ∧ v0_signCount.toInt ≤ 8) (iv0_postCount : 0 ≤ v0_postCount.toInt ∧ v0_postCount.toInt ≤ 5) : Met l yX8_signNumber (Cond.code yX8_signNumber cX8_signNumber 2 (some .int) :: wsL_law) ({ frames := 0, cells := 0, slots := 0, locals := 0 }) (roP G D (tyL cB cI cJ cZ cS cT) [(h0, .inr (8, [.int v0_tones, .int v0_a, .int v0_b, .int v0_c, .int v0_d, .int v0_odds, .int v0_lines, .ref h_signs, .int v0_signCount, .ref h_posts, .int v0_postCount, .ref h_acts]))] [.ref h0, .int v1]) (vp_Si (fun r : Int32 => True)) 0 0 (fun _ => False) := by
  refine metRO (own := RX8) (by decide) rfl ?_
  intro p e s m below meth c Q C hP ret
  obtain ⟨hx, hb, hml, hown, hts, hK, hN, hT⟩ := id C
  have hl := lv_entry ([.ref h0, .int v1]) (n := 2) (Nat.le_of_ble_eq_true rfl)
  rw [lg_entry_eq]
  generalize (lg_sl ([.ref h0, .int v1]) ++ List.replicate (2 - (lg_sl ([.ref h0, .int v1])).length) Slot.unset).toArray = ls at hl ⊢
  have hl : lv_has ls 2 [(0, .ref h0), (1, .int v1)] := hl
  have hP : va_P D vwCl [(h0, .inr (8, [.int v0_tones, .int v0_a, .int v0_b, .int v0_c, .int v0_d, .int v0_odds, .int v0_lines, .ref h_signs, .int v0_signCount, .ref h_posts, .int v0_postCount, .ref h_acts]))] s.heap := hP
  refine lv_aload_n hx hb dX8_signNumber_0 rfl (lv_at hl 0 rfl) ?_
  refine va_get (D := D) (ci := 8) (v := .int v0_signCount) (C := RX8) (T := TX8) (N := 12) hx hb hts inlX8 hown hK hP 0 rfl rfl 8 (by decide) (hts _ (inr9 _ (List.mem_of_getElem? (i := 22) rfl))) (fun _ h9 => h9) rfl dX8_signNumber_1 ?_
  refine lv_if_le (tgt := 20) hx hb dX8_signNumber_4 (by decide) (fun c_1 => ?_) (fun c_1 => ?_)
  · have c_1 : v0_signCount.toInt ≤ 0 := ci_le_t c_1
    have b_v0_signCount := i32b v0_signCount
    refine lv_iconst (v := (-1)) hx hb dX8_signNumber_20 (by decide) ?_
    exact ret _ _ _ dX8_signNumber_21 trivial
  · have c_1 : 0 < v0_signCount.toInt := ci_le_f c_1
    have b_v0_signCount := i32b v0_signCount
    refine lv_iload_n hx hb dX8_signNumber_7 rfl (lv_at hl 1 rfl) ?_
    refine lv_if_lt (tgt := 20) hx hb dX8_signNumber_8 (by decide) (fun c_2 => ?_) (fun c_2 => ?_)
    · have c_2 : v1.toInt < 0 := ci_lt_t c_2
      have b_v1 := i32b v1
      refine lv_iconst (v := (-1)) hx hb dX8_signNumber_20 (by decide) ?_
      exact ret _ _ _ dX8_signNumber_21 trivial
    · have c_2 : 0 ≤ v1.toInt := ci_lt_f c_2
      have b_v1 := i32b v1
      refine lv_iload_n hx hb dX8_signNumber_11 rfl (lv_at hl 1 rfl) ?_
      refine lv_aload_n hx hb dX8_signNumber_12 rfl (lv_at hl 0 rfl) ?_
      refine va_get (D := D) (ci := 8) (v := .int v0_signCount) (C := RX8) (T := TX8) (N := 12) hx hb hts inlX8 hown hK hP 0 rfl rfl 8 (by decide) (hts _ (inr9 _ (List.mem_of_getElem? (i := 22) rfl))) (fun _ h9 => h9) rfl dX8_signNumber_13 ?_
      obtain ⟨t_3, et_3⟩ : ∃ v9 : Int32, v1 - v1 / v0_signCount * v0_signCount = v9 := ⟨_, rfl⟩
      refine z_irem (v := t_3) hx hb dX8_signNumber_16 (ne0T (by omega)) et_3 ?_
      have ft_3 := remT (by omega) (by omega) et_3
      refine lv_goto (tgt := 21) hx hb dX8_signNumber_17 (by decide) ?_
      exact ret _ _ _ dX8_signNumber_21 trivial

set_option maxHeartbeats 4000000 in
set_option maxRecDepth 100000 in
theorem b_X1_goRound_l33 {p : Program} {l : Launch} {e : Env} {s : State} {m : MethodId} {args : Array Value} {below : List Frame} {meth : Method} {c : Code} {Q : State → Prop} {G : Gho} {D : va_G} {cB cI cJ cZ cS cT : ClassId} {A : Nat → Prop} (h0 : Nat) (h_stepOfState : Nat) (h_tones : Nat) (h_pip : Nat) (v0_from : Int32) (f_stepOfState : Nat → Int32) (h_a1 : Nat) (v_a1_tones : Int32) (v_a1_a : Int32) (v_a1_b : Int32) (v_a1_c : Int32) (v_a1_d : Int32) (v_a1_odds : Int32) (v_a1_lines : Int32) (h_a1_signs : Nat) (v_a1_signCount : Int32) (h_a1_posts : Nat) (v_a1_postCount : Int32) (h_a1_acts : Nat) (f_a1_signs : Nat → Int32) (iv0_from : (-1) ≤ v0_from.toInt ∧ v0_from.toInt ≤ 2147483647) (pf_stepOfState : sg sgS1 f_stepOfState) (iv_a1_signCount : 0 ≤ v_a1_signCount.toInt ∧ v_a1_signCount.toInt ≤ 8) (iv_a1_postCount : 0 ≤ v_a1_postCount.toInt ∧ v_a1_postCount.toInt ≤ 5) (c_4 : ¬ v_a1_signCount.toInt = 0) (C : Cx p s m args c RX1 cX1_goRound 7 G D (tyL cB cI cJ cZ cS cT)) (hG : G.1 ≤ s.heap.size) (hAB : ∀ q, A q → G.1 ≤ q) (hA : ∀ q : Nat, s.heap.size ≤ q → A q) (ret : RetV p l e ({ frames := 1, cells := 0, slots := 0, locals := 25 }) s m args below meth c cX1_goRound D A (fun x : Int32 × Int32 × (Nat → Int32) × (Nat → Int32) × (Nat → Int32) => [(h0, .inr (1, [.ref h_stepOfState, .ref h_tones, .ref h_pip, .int x.1, .int x.2.1])), (h_pip, .inl (cZ, 648, .inl x.2.2.1)), (h_stepOfState, .inl (cI, 648, .inl x.2.2.2.1)), (h_tones, .inl (cI, 648, .inl x.2.2.2.2)), (h_a1, .inr (8, [.int v_a1_tones, .int v_a1_a, .int v_a1_b, .int v_a1_c, .int v_a1_d, .int v_a1_odds, .int v_a1_lines, .ref h_a1_signs, .int v_a1_signCount, .ref h_a1_posts, .int v_a1_postCount, .ref h_a1_acts])), (h_a1_signs, .inl (cI, 8, .inl f_a1_signs))]) (fun x : Int32 × Int32 × (Nat → Int32) × (Nat → Int32) × (Nat → Int32) => ((-1) ≤ x.1.toInt ∧ x.1.toInt ≤ 2147483647) ∧ (sg sgS1 x.2.2.2.1)) Q) :
    ∀ (N : Nat) (u33_0_from : Int32) (u33_0_behind : Int32) (g33_pip : Nat → Int32) (g33_stepOfState : Nat → Int32) (g33_tones : Nat → Int32) (l33_4 : Int32) (l33_3 : Int32) (l33_2 : Int32) (H : Heap) (locs : List Loc) (ls : Array Slot), 0 ≤ l33_4.toInt ∧ l33_4.toInt ≤ 649 → (-1) ≤ u33_0_from.toInt ∧ u33_0_from.toInt ≤ 2147483647 → sg sgS1 g33_stepOfState → (648 - l33_4.toInt + 1).toNat < N → va_P D vwCl [(h0, .inr (1, [.ref h_stepOfState, .ref h_tones, .ref h_pip, .int u33_0_from, .int u33_0_behind])), (h_pip, .inl (cZ, 648, .inl g33_pip)), (h_stepOfState, .inl (cI, 648, .inl g33_stepOfState)), (h_tones, .inl (cI, 648, .inl g33_tones)), (h_a1, .inr (8, [.int v_a1_tones, .int v_a1_a, .int v_a1_b, .int v_a1_c, .int v_a1_d, .int v_a1_odds, .int v_a1_lines, .ref h_a1_signs, .int v_a1_signCount, .ref h_a1_posts, .int v_a1_postCount, .ref h_a1_acts])), (h_a1_signs, .inl (cI, 8, .inl f_a1_signs))] H → va_D A [(h0, .inr (1, [.ref h_stepOfState, .ref h_tones, .ref h_pip, .int u33_0_from, .int u33_0_behind])), (h_pip, .inl (cZ, 648, .inl g33_pip)), (h_stepOfState, .inl (cI, 648, .inl g33_stepOfState)), (h_tones, .inl (cI, 648, .inl g33_tones)), (h_a1, .inr (8, [.int v_a1_tones, .int v_a1_a, .int v_a1_b, .int v_a1_c, .int v_a1_d, .int v_a1_odds, .int v_a1_lines, .ref h_a1_signs, .int v_a1_signCount, .ref h_a1_posts, .int v_a1_postCount, .ref h_a1_acts])), (h_a1_signs, .inl (cI, 8, .inl f_a1_signs))] → va_S A s.heap H locs → lv_has ls 7 [(4, .int l33_4), (3, .int l33_3), (2, .int l33_2), (0, .ref h0), (1, .ref h_a1)] → W p l e ({ frames := 1, cells := 0, slots := 0, locals := 25 }) s m args below meth c H locs 0 0 Q (F0 m 33 ls []) := by
  obtain ⟨hx, hb, hml, hown, hts, hK, hN, hT⟩ := id C
  intro N
  induction N with
  | zero =>
    intro u33_0_from u33_0_behind g33_pip g33_stepOfState g33_tones l33_4 l33_3 l33_2 H locs ls kl33_4 iu33_0_from pg33_stepOfState hM_33 hP hD hS hl
    omega
  | succ N_33 ih_33 =>
    intro u33_0_from u33_0_behind g33_pip g33_stepOfState g33_tones l33_4 l33_3 l33_2 H locs ls kl33_4 iu33_0_from pg33_stepOfState hM_33 hP hD hS hl
    have b_l33_4 := i32b l33_4
    refine lv_iload hx hb dX1_goRound_33 (lv_at hl 0 rfl) ?_
    refine lv_sipush (v := 648) hx hb dX1_goRound_35 (by decide) ?_
    refine lv_icmp_gt (tgt := 220) hx hb dX1_goRound_38 (by decide) (fun c_9 => ?_) (fun c_9 => ?_)
    · have c_9 : 648 < l33_4.toInt := ci_gt_t c_9
      exact ret _ _ _ _ (u33_0_from, u33_0_behind, g33_pip, g33_stepOfState, g33_tones) dX1_goRound_220 (show ((-1) ≤ u33_0_from.toInt ∧ u33_0_from.toInt ≤ 2147483647) ∧ (sg sgS1 g33_stepOfState) from ⟨(by first | assumption | omega | decide), (by first | assumption | omega | decide)⟩) (hP.sub [0, 1, 2, 3, 4, 5] rfl) (hD.sub [0, 1, 2, 3, 4, 5] (by decide) rfl) hS
    · have c_9 : l33_4.toInt ≤ 648 := ci_gt_f c_9
      refine lv_aload_n hx hb dX1_goRound_41 rfl (lv_at hl 3 rfl) ?_
      refine va_get (D := D) (ci := 1) (v := .int u33_0_from) (C := RX1) (T := TX1) (N := 5) hx hb hts inlX1 hown hK hP 0 rfl rfl 3 (by decide) (hts _ (inr5 _ (List.mem_of_getElem? (i := 12) rfl))) (fun _ h9 => h9) rfl dX1_goRound_42 ?_
      refine lv_iconst (v := (-1)) hx hb dX1_goRound_45 (by decide) ?_
      refine lv_icmp_ne (tgt := 220) hx hb dX1_goRound_46 (by decide) (fun c_10 => ?_) (fun c_10 => ?_)
      · have c_10 : ¬ u33_0_from.toInt = (-1) := ci_ne_t c_10
        have b_u33_0_from := i32b u33_0_from
        exact ret _ _ _ _ (u33_0_from, u33_0_behind, g33_pip, g33_stepOfState, g33_tones) dX1_goRound_220 (show ((-1) ≤ u33_0_from.toInt ∧ u33_0_from.toInt ≤ 2147483647) ∧ (sg sgS1 g33_stepOfState) from ⟨(by first | assumption | omega | decide), (by first | assumption | omega | decide)⟩) (hP.sub [0, 1, 2, 3, 4, 5] rfl) (hD.sub [0, 1, 2, 3, 4, 5] (by decide) rfl) hS
      · have c_10 : u33_0_from.toInt = (-1) := ci_ne_f c_10
        have b_u33_0_from := i32b u33_0_from
        refine lv_aload_n hx hb dX1_goRound_49 rfl (lv_at hl 4 rfl) ?_
        refine lv_iload hx hb dX1_goRound_50 (lv_at hl 0 rfl) ?_
        refine roi (As := [.int l33_4]) (rest := []) ⟨hx, hb, hml, hown, hts⟩ (b_X8_signNumber l G D cB cI cJ cZ cS cT h_a1 v_a1_tones v_a1_a v_a1_b v_a1_c v_a1_d v_a1_odds v_a1_lines h_a1_signs v_a1_signCount h_a1_posts v_a1_postCount h_a1_acts l33_4 (by first | assumption | omega | decide) (by first | assumption | omega | decide)) (cvB (n := 1) (inr45 _ (List.mem_of_getElem? (i := 2) rfl)) (inr45 _ (List.mem_of_getElem? (i := 3) rfl)) (inr45 _ (List.mem_of_getElem? (i := 4) rfl)) (inr1 _ (List.mem_of_getElem? (i := 23) rfl)) (inr45 _ (List.mem_of_getElem? (i := 5) rfl)) (by decide +kernel) hts rfl rfl ⟨Nat.le_of_ble_eq_true rfl, Nat.le_of_ble_eq_true rfl⟩) 0 8 rfl rfl rfl (hP.sub [4] rfl) hK hN (kT.to hT hS hAB) rfl hl.1 rfl (Nat.le_of_ble_eq_true rfl) ⟨Nat.le_of_ble_eq_true rfl, Nat.le_of_ble_eq_true rfl⟩ dX1_goRound_52 (fun r_11 h_12 => ?_)
        refine lv_bipush (v := 9) hx hb dX1_goRound_55 (by decide) ?_
        obtain ⟨t_13, et_13⟩ : ∃ v9 : Int32, r_11 * 9 = v9 := ⟨_, rfl⟩
        refine z_imul (v := t_13) hx hb dX1_goRound_57 et_13 ?_
        refine lv_iload_n hx hb dX1_goRound_58 rfl (lv_at hl 2 rfl) ?_
        obtain ⟨t_14, et_14⟩ : ∃ v9 : Int32, t_13 + l33_2 = v9 := ⟨_, rfl⟩
        refine z_iadd (v := t_14) hx hb dX1_goRound_59 et_14 ?_
        refine lv_bipush (v := 9) hx hb dX1_goRound_60 (by decide) ?_
        obtain ⟨t_15, et_15⟩ : ∃ v9 : Int32, t_14 * 9 = v9 := ⟨_, rfl⟩
        refine z_imul (v := t_15) hx hb dX1_goRound_62 et_15 ?_
        refine lv_iload_n hx hb dX1_goRound_63 rfl (lv_at hl 1 rfl) ?_
        obtain ⟨t_16, et_16⟩ : ∃ v9 : Int32, t_15 + l33_3 = v9 := ⟨_, rfl⟩
        refine z_iadd (v := t_16) hx hb dX1_goRound_64 et_16 ?_
        refine lv_istore (lv' := [(5, .int t_16), (4, .int l33_4), (3, .int l33_3), (2, .int l33_2), (0, .ref h0), (1, .ref h_a1)]) hx hb dX1_goRound_65 hl (by decide) rfl (fun ls hl => ?_)
        refine lv_iload hx hb dX1_goRound_67 (lv_at hl 0 rfl) ?_
        refine lv_if_lt (tgt := 80) hx hb dX1_goRound_69 (by decide) (fun c_17 => ?_) (fun c_17 => ?_)
        · have c_17 : t_16.toInt < 0 := ci_lt_t c_17
          have b_t_16 := i32b t_16
          exact ret _ _ _ _ (u33_0_from, u33_0_behind, g33_pip, g33_stepOfState, g33_tones) dX1_goRound_80 (show ((-1) ≤ u33_0_from.toInt ∧ u33_0_from.toInt ≤ 2147483647) ∧ (sg sgS1 g33_stepOfState) from ⟨(by first | assumption | omega | decide), (by first | assumption | omega | decide)⟩) (hP.sub [0, 1, 2, 3, 4, 5] rfl) (hD.sub [0, 1, 2, 3, 4, 5] (by decide) rfl) hS
        · have c_17 : 0 ≤ t_16.toInt := ci_lt_f c_17
          have b_t_16 := i32b t_16
          refine lv_iload hx hb dX1_goRound_72 (lv_at hl 0 rfl) ?_
          refine lv_sipush (v := 648) hx hb dX1_goRound_74 (by decide) ?_
          refine lv_icmp_lt (tgt := 81) hx hb dX1_goRound_77 (by decide) (fun c_18 => ?_) (fun c_18 => ?_)
          · have c_18 : t_16.toInt < 648 := ci_lt_t c_18
            refine lv_aload_n hx hb dX1_goRound_81 rfl (lv_at hl 4 rfl) ?_
            refine va_get (D := D) (ci := 1) (v := .ref h_stepOfState) (C := RX1) (T := TX1) (N := 5) hx hb hts inlX1 hown hK hP 0 rfl rfl 0 (by decide) (hts _ (inr5 _ (List.mem_of_getElem? (i := 9) rfl))) (fun _ h9 => h9) rfl dX1_goRound_82 ?_
            refine lv_iload hx hb dX1_goRound_85 (lv_at hl 0 rfl) ?_
            obtain ⟨t_19, et_19⟩ : ∃ v9 : Int32, g33_stepOfState (t_16 : Int32).toNatClampNeg = v9 := ⟨_, rfl⟩
            refine z_iald (v := t_19) hx hb hK hP 2 1 rfl rfl (vin_nat (by omega) (by omega)) et_19 dX1_goRound_87 ?_
            have ft_19 : (-1) ≤ t_19.toInt ∧ t_19.toInt ≤ 2147483647 := sgL (by assumption : sg sgS1 g33_stepOfState) 0 rfl (by omega) (by omega) (by omega) et_19
            refine lv_iconst (v := (-1)) hx hb dX1_goRound_88 (by decide) ?_
            refine lv_icmp_eq (tgt := 112) hx hb dX1_goRound_89 (by decide) (fun c_20 => ?_) (fun c_20 => ?_)
            · have c_20 : t_19.toInt = (-1) := ci_eq_t c_20
              have b_t_19 := i32b t_19
              refine lv_iload hx hb dX1_goRound_112 (lv_at hl 1 rfl) ?_
              refine lv_sipush (v := 648) hx hb dX1_goRound_114 (by decide) ?_
              refine lv_icmp_ge (tgt := 214) hx hb dX1_goRound_117 (by decide) (fun c_21 => ?_) (fun c_21 => ?_)
              · have c_21 : 648 ≤ l33_4.toInt := ci_ge_t c_21
                obtain ⟨t_22, et_22⟩ : ∃ v9 : Int32, l33_4 + 1 = v9 := ⟨_, rfl⟩
                have ft_22 : t_22.toInt = l33_4.toInt + 1 := addT (a := l33_4.toInt) (b := 1) rfl (by decide) et_22 (by omega) (by omega)
                refine lv_iinc (v := t_22) (lv' := [(4, .int t_22), (5, .int t_16), (3, .int l33_3), (2, .int l33_2), (0, .ref h0), (1, .ref h_a1)]) hx hb dX1_goRound_214 hl (k := 1) rfl (by rw [← et_22]; rfl) (by decide) rfl (fun ls hl => ?_)
                refine lv_goto (tgt := 33) hx hb dX1_goRound_217 (by decide) ?_
                exact ih_33 (u33_0_from) (u33_0_behind) (g33_pip) (g33_stepOfState) (g33_tones) (t_22) (l33_3) (l33_2) _ _ _ (by first | assumption | omega | decide) (by first | assumption | omega | decide) (by first | assumption | omega | decide) (by omega) (hP.sub [0, 1, 2, 3, 4, 5] rfl) (hD.sub [0, 1, 2, 3, 4, 5] (by decide) rfl) hS (lv_sub hl [0, 2, 3, 4, 5] rfl)
              · have c_21 : l33_4.toInt < 648 := ci_ge_f c_21
                refine lv_aload_n hx hb dX1_goRound_120 rfl (lv_at hl 4 rfl) ?_
                refine va_get (D := D) (ci := 1) (v := .ref h_stepOfState) (C := RX1) (T := TX1) (N := 5) hx hb hts inlX1 hown hK hP 0 rfl rfl 0 (by decide) (hts _ (inr5 _ (List.mem_of_getElem? (i := 9) rfl))) (fun _ h9 => h9) rfl dX1_goRound_121 ?_
                refine lv_iload hx hb dX1_goRound_124 (lv_at hl 0 rfl) ?_
                refine lv_iload hx hb dX1_goRound_126 (lv_at hl 1 rfl) ?_
                refine va_iast hx hb hK hP hD hS 2 1 rfl rfl (vin_nat (by omega) (by omega)) dX1_goRound_128 (fun H locs hP hD hS => ?_)
                have hP : va_P D vwCl [(h0, .inr (1, [.ref h_stepOfState, .ref h_tones, .ref h_pip, .int u33_0_from, .int u33_0_behind])), (h_pip, .inl (cZ, 648, .inl g33_pip)), (h_stepOfState, .inl (cI, 648, .inl (upd g33_stepOfState (t_16 : Int32).toNatClampNeg l33_4))), (h_tones, .inl (cI, 648, .inl g33_tones)), (h_a1, .inr (8, [.int v_a1_tones, .int v_a1_a, .int v_a1_b, .int v_a1_c, .int v_a1_d, .int v_a1_odds, .int v_a1_lines, .ref h_a1_signs, .int v_a1_signCount, .ref h_a1_posts, .int v_a1_postCount, .ref h_a1_acts])), (h_a1_signs, .inl (cI, 8, .inl f_a1_signs))] H := hP
                have hD : va_D A [(h0, .inr (1, [.ref h_stepOfState, .ref h_tones, .ref h_pip, .int u33_0_from, .int u33_0_behind])), (h_pip, .inl (cZ, 648, .inl g33_pip)), (h_stepOfState, .inl (cI, 648, .inl (upd g33_stepOfState (t_16 : Int32).toNatClampNeg l33_4))), (h_tones, .inl (cI, 648, .inl g33_tones)), (h_a1, .inr (8, [.int v_a1_tones, .int v_a1_a, .int v_a1_b, .int v_a1_c, .int v_a1_d, .int v_a1_odds, .int v_a1_lines, .ref h_a1_signs, .int v_a1_signCount, .ref h_a1_posts, .int v_a1_postCount, .ref h_a1_acts])), (h_a1_signs, .inl (cI, 8, .inl f_a1_signs))] := hD
                obtain ⟨g_23, eg_23⟩ : ∃ v9 : Nat → Int32, (upd g33_stepOfState (t_16 : Int32).toNatClampNeg l33_4) = v9 := ⟨_, rfl⟩
                rw [eg_23] at hP hD
                have hP : va_P D vwCl [(h0, .inr (1, [.ref h_stepOfState, .ref h_tones, .ref h_pip, .int u33_0_from, .int u33_0_behind])), (h_pip, .inl (cZ, 648, .inl g33_pip)), (h_stepOfState, .inl (cI, 648, .inl g_23)), (h_tones, .inl (cI, 648, .inl g33_tones)), (h_a1, .inr (8, [.int v_a1_tones, .int v_a1_a, .int v_a1_b, .int v_a1_c, .int v_a1_d, .int v_a1_odds, .int v_a1_lines, .ref h_a1_signs, .int v_a1_signCount, .ref h_a1_posts, .int v_a1_postCount, .ref h_a1_acts])), (h_a1_signs, .inl (cI, 8, .inl f_a1_signs))] H := hP
                have hD : va_D A [(h0, .inr (1, [.ref h_stepOfState, .ref h_tones, .ref h_pip, .int u33_0_from, .int u33_0_behind])), (h_pip, .inl (cZ, 648, .inl g33_pip)), (h_stepOfState, .inl (cI, 648, .inl g_23)), (h_tones, .inl (cI, 648, .inl g33_tones)), (h_a1, .inr (8, [.int v_a1_tones, .int v_a1_a, .int v_a1_b, .int v_a1_c, .int v_a1_d, .int v_a1_odds, .int v_a1_lines, .ref h_a1_signs, .int v_a1_signCount, .ref h_a1_posts, .int v_a1_postCount, .ref h_a1_acts])), (h_a1_signs, .inl (cI, 8, .inl f_a1_signs))] := hD
                have pg_23 : sg sgS1 g_23 := by rw [← eg_23]; exact sgS (by assumption : sg sgS1 g33_stepOfState) (by omega) (by intro q9 hq9; simp only [sgS1, List.mem_cons, List.not_mem_nil, or_false] at hq9; rcases hq9 with rfl <;> dsimp only <;> omega)
                refine lv_aload_n hx hb dX1_goRound_129 rfl (lv_at hl 5 rfl) ?_
                refine lv_iload hx hb dX1_goRound_130 (lv_at hl 1 rfl) ?_
                refine roi (As := [.int l33_4]) (rest := []) ⟨hx, hb, hml, hown, hts⟩ (b_X8_isGap l G D cB cI cJ cZ cS cT h_a1 v_a1_tones v_a1_a v_a1_b v_a1_c v_a1_d v_a1_odds v_a1_lines h_a1_signs v_a1_signCount h_a1_posts v_a1_postCount h_a1_acts f_a1_signs l33_4 (by first | assumption | omega | decide) (by first | assumption | omega | decide)) (cvB (n := 1) (inr45 _ (List.mem_of_getElem? (i := 6) rfl)) (inr23 _ (List.mem_of_getElem? (i := 12) rfl)) (inr23 _ (List.mem_of_getElem? (i := 13) rfl)) (inr1 _ (List.mem_of_getElem? (i := 23) rfl)) (inr23 _ (List.mem_of_getElem? (i := 14) rfl)) (by decide +kernel) hts rfl rfl ⟨Nat.le_of_ble_eq_true rfl, Nat.le_of_ble_eq_true rfl⟩) 0 8 rfl rfl rfl (hP.sub [4, 5] rfl) hK hN (kT.to hT hS hAB) rfl hl.1 rfl (Nat.le_of_ble_eq_true rfl) ⟨Nat.le_of_ble_eq_true rfl, Nat.le_of_ble_eq_true rfl⟩ dX1_goRound_132 (fun r_24 h_25 => ?_)
                have h_25 : (r_24 = 0 ∨ r_24 = 1) := h_25
                have i_26 := h_25
                have ar_24 : 0 ≤ r_24.toInt ∧ r_24.toInt ≤ 1 := by rcases i_26 with h | h <;> rw [h] <;> decide
                refine lv_istore (lv' := [(6, .int r_24), (5, .int t_16), (4, .int l33_4), (3, .int l33_3), (2, .int l33_2), (0, .ref h0), (1, .ref h_a1)]) hx hb dX1_goRound_135 hl (by decide) rfl (fun ls hl => ?_)
                refine lv_aload_n hx hb dX1_goRound_137 rfl (lv_at hl 5 rfl) ?_
                refine va_get (D := D) (ci := 1) (v := .ref h_tones) (C := RX1) (T := TX1) (N := 5) hx hb hts inlX1 hown hK hP 0 rfl rfl 1 (by decide) (hts _ (inr5 _ (List.mem_of_getElem? (i := 10) rfl))) (fun _ h9 => h9) rfl dX1_goRound_138 ?_
                refine lv_iload hx hb dX1_goRound_141 (lv_at hl 2 rfl) ?_
                refine lv_aload_n hx hb dX1_goRound_143 rfl (lv_at hl 6 rfl) ?_
                refine lv_iload hx hb dX1_goRound_144 (lv_at hl 2 rfl) ?_
                refine lv_iload_n hx hb dX1_goRound_146 rfl (lv_at hl 4 rfl) ?_
                refine lv_iload_n hx hb dX1_goRound_147 rfl (lv_at hl 3 rfl) ?_
                refine roi (As := [.int l33_4, .int l33_2, .int l33_3]) (rest := [.int l33_4, .ref h_tones]) ⟨hx, hb, hml, hown, hts⟩ (b_X8_ownTone l G D cB cI cJ cZ cS cT h_a1 v_a1_tones v_a1_a v_a1_b v_a1_c v_a1_d v_a1_odds v_a1_lines h_a1_signs v_a1_signCount h_a1_posts v_a1_postCount h_a1_acts f_a1_signs l33_4 l33_2 l33_3 (by first | assumption | omega | decide) (by first | assumption | omega | decide)) (cvB (n := 3) (inr45 _ (List.mem_of_getElem? (i := 7) rfl)) (inr23 _ (List.mem_of_getElem? (i := 8) rfl)) (inr23 _ (List.mem_of_getElem? (i := 9) rfl)) (inr1 _ (List.mem_of_getElem? (i := 23) rfl)) (inr23 _ (List.mem_of_getElem? (i := 10) rfl)) (by decide +kernel) hts rfl rfl ⟨Nat.le_of_ble_eq_true rfl, Nat.le_of_ble_eq_true rfl⟩) 0 8 rfl rfl rfl (hP.sub [4, 5] rfl) hK hN (kT.to hT hS hAB) rfl hl.1 rfl (Nat.le_of_ble_eq_true rfl) ⟨Nat.le_of_ble_eq_true rfl, Nat.le_of_ble_eq_true rfl⟩ dX1_goRound_148 (fun r_27 h_28 => ?_)
                refine va_iast hx hb hK hP hD hS 3 1 rfl rfl (vin_nat (by omega) (by omega)) dX1_goRound_151 (fun H locs hP hD hS => ?_)
                have hP : va_P D vwCl [(h0, .inr (1, [.ref h_stepOfState, .ref h_tones, .ref h_pip, .int u33_0_from, .int u33_0_behind])), (h_pip, .inl (cZ, 648, .inl g33_pip)), (h_stepOfState, .inl (cI, 648, .inl g_23)), (h_tones, .inl (cI, 648, .inl (upd g33_tones (l33_4 : Int32).toNatClampNeg r_27))), (h_a1, .inr (8, [.int v_a1_tones, .int v_a1_a, .int v_a1_b, .int v_a1_c, .int v_a1_d, .int v_a1_odds, .int v_a1_lines, .ref h_a1_signs, .int v_a1_signCount, .ref h_a1_posts, .int v_a1_postCount, .ref h_a1_acts])), (h_a1_signs, .inl (cI, 8, .inl f_a1_signs))] H := hP
                have hD : va_D A [(h0, .inr (1, [.ref h_stepOfState, .ref h_tones, .ref h_pip, .int u33_0_from, .int u33_0_behind])), (h_pip, .inl (cZ, 648, .inl g33_pip)), (h_stepOfState, .inl (cI, 648, .inl g_23)), (h_tones, .inl (cI, 648, .inl (upd g33_tones (l33_4 : Int32).toNatClampNeg r_27))), (h_a1, .inr (8, [.int v_a1_tones, .int v_a1_a, .int v_a1_b, .int v_a1_c, .int v_a1_d, .int v_a1_odds, .int v_a1_lines, .ref h_a1_signs, .int v_a1_signCount, .ref h_a1_posts, .int v_a1_postCount, .ref h_a1_acts])), (h_a1_signs, .inl (cI, 8, .inl f_a1_signs))] := hD
                obtain ⟨g_29, eg_29⟩ : ∃ v9 : Nat → Int32, (upd g33_tones (l33_4 : Int32).toNatClampNeg r_27) = v9 := ⟨_, rfl⟩
                rw [eg_29] at hP hD
                have hP : va_P D vwCl [(h0, .inr (1, [.ref h_stepOfState, .ref h_tones, .ref h_pip, .int u33_0_from, .int u33_0_behind])), (h_pip, .inl (cZ, 648, .inl g33_pip)), (h_stepOfState, .inl (cI, 648, .inl g_23)), (h_tones, .inl (cI, 648, .inl g_29)), (h_a1, .inr (8, [.int v_a1_tones, .int v_a1_a, .int v_a1_b, .int v_a1_c, .int v_a1_d, .int v_a1_odds, .int v_a1_lines, .ref h_a1_signs, .int v_a1_signCount, .ref h_a1_posts, .int v_a1_postCount, .ref h_a1_acts])), (h_a1_signs, .inl (cI, 8, .inl f_a1_signs))] H := hP
                have hD : va_D A [(h0, .inr (1, [.ref h_stepOfState, .ref h_tones, .ref h_pip, .int u33_0_from, .int u33_0_behind])), (h_pip, .inl (cZ, 648, .inl g33_pip)), (h_stepOfState, .inl (cI, 648, .inl g_23)), (h_tones, .inl (cI, 648, .inl g_29)), (h_a1, .inr (8, [.int v_a1_tones, .int v_a1_a, .int v_a1_b, .int v_a1_c, .int v_a1_d, .int v_a1_odds, .int v_a1_lines, .ref h_a1_signs, .int v_a1_signCount, .ref h_a1_posts, .int v_a1_postCount, .ref h_a1_acts])), (h_a1_signs, .inl (cI, 8, .inl f_a1_signs))] := hD
                refine lv_aload_n hx hb dX1_goRound_152 rfl (lv_at hl 5 rfl) ?_
                refine va_get (D := D) (ci := 1) (v := .ref h_pip) (C := RX1) (T := TX1) (N := 5) hx hb hts inlX1 hown hK hP 0 rfl rfl 2 (by decide) (hts _ (inr5 _ (List.mem_of_getElem? (i := 11) rfl))) (fun _ h9 => h9) rfl dX1_goRound_153 ?_
                refine lv_iload hx hb dX1_goRound_156 (lv_at hl 2 rfl) ?_
                refine lv_iload hx hb dX1_goRound_158 (lv_at hl 0 rfl) ?_
                refine lv_if_eq (tgt := 178) hx hb dX1_goRound_160 (by decide) (fun c_30 => ?_) (fun c_30 => ?_)
                · have c_30 : r_24.toInt = 0 := ci_eq_t c_30
                  have b_r_24 := i32b r_24
                  refine lv_iconst (v := 0) hx hb dX1_goRound_178 (by decide) ?_
                  refine va_zast hx hb hK hP hD hS 1 3 rfl rfl (vin_nat (by omega) (by omega)) dX1_goRound_179 (fun H locs hP hD hS => ?_)
                  have hP : va_P D vwCl [(h0, .inr (1, [.ref h_stepOfState, .ref h_tones, .ref h_pip, .int u33_0_from, .int u33_0_behind])), (h_pip, .inl (cZ, 648, .inl (upd g33_pip (l33_4 : Int32).toNatClampNeg (vp_nar .boolean 0)))), (h_stepOfState, .inl (cI, 648, .inl g_23)), (h_tones, .inl (cI, 648, .inl g_29)), (h_a1, .inr (8, [.int v_a1_tones, .int v_a1_a, .int v_a1_b, .int v_a1_c, .int v_a1_d, .int v_a1_odds, .int v_a1_lines, .ref h_a1_signs, .int v_a1_signCount, .ref h_a1_posts, .int v_a1_postCount, .ref h_a1_acts])), (h_a1_signs, .inl (cI, 8, .inl f_a1_signs))] H := hP
                  have hD : va_D A [(h0, .inr (1, [.ref h_stepOfState, .ref h_tones, .ref h_pip, .int u33_0_from, .int u33_0_behind])), (h_pip, .inl (cZ, 648, .inl (upd g33_pip (l33_4 : Int32).toNatClampNeg (vp_nar .boolean 0)))), (h_stepOfState, .inl (cI, 648, .inl g_23)), (h_tones, .inl (cI, 648, .inl g_29)), (h_a1, .inr (8, [.int v_a1_tones, .int v_a1_a, .int v_a1_b, .int v_a1_c, .int v_a1_d, .int v_a1_odds, .int v_a1_lines, .ref h_a1_signs, .int v_a1_signCount, .ref h_a1_posts, .int v_a1_postCount, .ref h_a1_acts])), (h_a1_signs, .inl (cI, 8, .inl f_a1_signs))] := hD
                  obtain ⟨g_31, eg_31⟩ : ∃ v9 : Nat → Int32, (upd g33_pip (l33_4 : Int32).toNatClampNeg (vp_nar .boolean 0)) = v9 := ⟨_, rfl⟩
                  rw [eg_31] at hP hD
                  have hP : va_P D vwCl [(h0, .inr (1, [.ref h_stepOfState, .ref h_tones, .ref h_pip, .int u33_0_from, .int u33_0_behind])), (h_pip, .inl (cZ, 648, .inl g_31)), (h_stepOfState, .inl (cI, 648, .inl g_23)), (h_tones, .inl (cI, 648, .inl g_29)), (h_a1, .inr (8, [.int v_a1_tones, .int v_a1_a, .int v_a1_b, .int v_a1_c, .int v_a1_d, .int v_a1_odds, .int v_a1_lines, .ref h_a1_signs, .int v_a1_signCount, .ref h_a1_posts, .int v_a1_postCount, .ref h_a1_acts])), (h_a1_signs, .inl (cI, 8, .inl f_a1_signs))] H := hP
                  have hD : va_D A [(h0, .inr (1, [.ref h_stepOfState, .ref h_tones, .ref h_pip, .int u33_0_from, .int u33_0_behind])), (h_pip, .inl (cZ, 648, .inl g_31)), (h_stepOfState, .inl (cI, 648, .inl g_23)), (h_tones, .inl (cI, 648, .inl g_29)), (h_a1, .inr (8, [.int v_a1_tones, .int v_a1_a, .int v_a1_b, .int v_a1_c, .int v_a1_d, .int v_a1_odds, .int v_a1_lines, .ref h_a1_signs, .int v_a1_signCount, .ref h_a1_posts, .int v_a1_postCount, .ref h_a1_acts])), (h_a1_signs, .inl (cI, 8, .inl f_a1_signs))] := hD
                  refine lv_iload hx hb dX1_goRound_180 (lv_at hl 0 rfl) ?_
                  refine lv_if_eq (tgt := 189) hx hb dX1_goRound_182 (by decide) (fun c_32 => ?_) (fun c_32 => ?_)
                  · have c_32 : r_24.toInt = 0 := ci_eq_t c_32
                    refine lv_aload_n hx hb dX1_goRound_189 rfl (lv_at hl 5 rfl) ?_
                    refine va_get (D := D) (ci := 1) (v := .ref h_tones) (C := RX1) (T := TX1) (N := 5) hx hb hts inlX1 hown hK hP 0 rfl rfl 1 (by decide) (hts _ (inr5 _ (List.mem_of_getElem? (i := 10) rfl))) (fun _ h9 => h9) rfl dX1_goRound_190 ?_
                    refine lv_iload hx hb dX1_goRound_193 (lv_at hl 2 rfl) ?_
                    obtain ⟨t_33, et_33⟩ : ∃ v9 : Int32, g_29 (l33_4 : Int32).toNatClampNeg = v9 := ⟨_, rfl⟩
                    refine z_iald (v := t_33) hx hb hK hP 3 1 rfl rfl (vin_nat (by omega) (by omega)) et_33 dX1_goRound_195 ?_
                    have qt_33 : t_33.toInt = r_27.toInt := (upd9S (v := r_27) eg_29 et_33)
                    refine lv_istore_n (lv' := [(2, .int t_33), (6, .int r_24), (5, .int t_16), (4, .int l33_4), (3, .int l33_3), (0, .ref h0), (1, .ref h_a1)]) hx hb dX1_goRound_196 rfl hl (by decide) rfl (fun ls hl => ?_)
                    refine lv_iload hx hb dX1_goRound_197 (lv_at hl 1 rfl) ?_
                    refine lv_if_eq (tgt := 212) hx hb dX1_goRound_199 (by decide) (fun c_34 => ?_) (fun c_34 => ?_)
                    · have c_34 : r_24.toInt = 0 := ci_eq_t c_34
                      refine lv_iload_n hx hb dX1_goRound_212 rfl (lv_at hl 4 rfl) ?_
                      refine lv_istore_n (lv' := [(3, .int l33_3), (2, .int t_33), (6, .int r_24), (5, .int t_16), (4, .int l33_4), (0, .ref h0), (1, .ref h_a1)]) hx hb dX1_goRound_213 rfl hl (by decide) rfl (fun ls hl => ?_)
                      obtain ⟨t_35, et_35⟩ : ∃ v9 : Int32, l33_4 + 1 = v9 := ⟨_, rfl⟩
                      have ft_35 : t_35.toInt = l33_4.toInt + 1 := addT (a := l33_4.toInt) (b := 1) rfl (by decide) et_35 (by omega) (by omega)
                      refine lv_iinc (v := t_35) (lv' := [(4, .int t_35), (3, .int l33_3), (2, .int t_33), (6, .int r_24), (5, .int t_16), (0, .ref h0), (1, .ref h_a1)]) hx hb dX1_goRound_214 hl (k := 4) rfl (by rw [← et_35]; rfl) (by decide) rfl (fun ls hl => ?_)
                      refine lv_goto (tgt := 33) hx hb dX1_goRound_217 (by decide) ?_
                      exact ih_33 (u33_0_from) (u33_0_behind) (g_31) (g_23) (g_29) (t_35) (l33_3) (t_33) _ _ _ (by first | assumption | omega | decide) (by first | assumption | omega | decide) (by first | assumption | omega | decide) (by omega) (hP.sub [0, 1, 2, 3, 4, 5] rfl) (hD.sub [0, 1, 2, 3, 4, 5] (by decide) rfl) hS (lv_sub hl [0, 1, 2, 5, 6] rfl)
                    · have c_34 : ¬ r_24.toInt = 0 := ci_eq_f c_34
                      exfalso
                      omega
                  · have c_32 : ¬ r_24.toInt = 0 := ci_eq_f c_32
                    exfalso
                    omega
                · have c_30 : ¬ r_24.toInt = 0 := ci_eq_f c_30
                  have b_r_24 := i32b r_24
                  refine lv_aload_n hx hb dX1_goRound_163 rfl (lv_at hl 5 rfl) ?_
                  refine va_get (D := D) (ci := 1) (v := .ref h_tones) (C := RX1) (T := TX1) (N := 5) hx hb hts inlX1 hown hK hP 0 rfl rfl 1 (by decide) (hts _ (inr5 _ (List.mem_of_getElem? (i := 10) rfl))) (fun _ h9 => h9) rfl dX1_goRound_164 ?_
                  refine lv_iload hx hb dX1_goRound_167 (lv_at hl 2 rfl) ?_
                  obtain ⟨t_36, et_36⟩ : ∃ v9 : Int32, g_29 (l33_4 : Int32).toNatClampNeg = v9 := ⟨_, rfl⟩
                  refine z_iald (v := t_36) hx hb hK hP 3 1 rfl rfl (vin_nat (by omega) (by omega)) et_36 dX1_goRound_169 ?_
                  have qt_36 : t_36.toInt = r_27.toInt := (upd9S (v := r_27) eg_29 et_36)
                  refine lv_iload_n hx hb dX1_goRound_170 rfl (lv_at hl 4 rfl) ?_
                  refine lv_icmp_ne (tgt := 178) hx hb dX1_goRound_171 (by decide) (fun c_37 => ?_) (fun c_37 => ?_)
                  · have c_37 : ¬ t_36.toInt = l33_2.toInt := ci_ne_t c_37
                    have b_t_36 := i32b t_36
                    have b_l33_2 := i32b l33_2
                    refine lv_iconst (v := 0) hx hb dX1_goRound_178 (by decide) ?_
                    refine va_zast hx hb hK hP hD hS 1 3 rfl rfl (vin_nat (by omega) (by omega)) dX1_goRound_179 (fun H locs hP hD hS => ?_)
                    have hP : va_P D vwCl [(h0, .inr (1, [.ref h_stepOfState, .ref h_tones, .ref h_pip, .int u33_0_from, .int u33_0_behind])), (h_pip, .inl (cZ, 648, .inl (upd g33_pip (l33_4 : Int32).toNatClampNeg (vp_nar .boolean 0)))), (h_stepOfState, .inl (cI, 648, .inl g_23)), (h_tones, .inl (cI, 648, .inl g_29)), (h_a1, .inr (8, [.int v_a1_tones, .int v_a1_a, .int v_a1_b, .int v_a1_c, .int v_a1_d, .int v_a1_odds, .int v_a1_lines, .ref h_a1_signs, .int v_a1_signCount, .ref h_a1_posts, .int v_a1_postCount, .ref h_a1_acts])), (h_a1_signs, .inl (cI, 8, .inl f_a1_signs))] H := hP
                    have hD : va_D A [(h0, .inr (1, [.ref h_stepOfState, .ref h_tones, .ref h_pip, .int u33_0_from, .int u33_0_behind])), (h_pip, .inl (cZ, 648, .inl (upd g33_pip (l33_4 : Int32).toNatClampNeg (vp_nar .boolean 0)))), (h_stepOfState, .inl (cI, 648, .inl g_23)), (h_tones, .inl (cI, 648, .inl g_29)), (h_a1, .inr (8, [.int v_a1_tones, .int v_a1_a, .int v_a1_b, .int v_a1_c, .int v_a1_d, .int v_a1_odds, .int v_a1_lines, .ref h_a1_signs, .int v_a1_signCount, .ref h_a1_posts, .int v_a1_postCount, .ref h_a1_acts])), (h_a1_signs, .inl (cI, 8, .inl f_a1_signs))] := hD
                    obtain ⟨g_38, eg_38⟩ : ∃ v9 : Nat → Int32, (upd g33_pip (l33_4 : Int32).toNatClampNeg (vp_nar .boolean 0)) = v9 := ⟨_, rfl⟩
                    rw [eg_38] at hP hD
                    have hP : va_P D vwCl [(h0, .inr (1, [.ref h_stepOfState, .ref h_tones, .ref h_pip, .int u33_0_from, .int u33_0_behind])), (h_pip, .inl (cZ, 648, .inl g_38)), (h_stepOfState, .inl (cI, 648, .inl g_23)), (h_tones, .inl (cI, 648, .inl g_29)), (h_a1, .inr (8, [.int v_a1_tones, .int v_a1_a, .int v_a1_b, .int v_a1_c, .int v_a1_d, .int v_a1_odds, .int v_a1_lines, .ref h_a1_signs, .int v_a1_signCount, .ref h_a1_posts, .int v_a1_postCount, .ref h_a1_acts])), (h_a1_signs, .inl (cI, 8, .inl f_a1_signs))] H := hP
                    have hD : va_D A [(h0, .inr (1, [.ref h_stepOfState, .ref h_tones, .ref h_pip, .int u33_0_from, .int u33_0_behind])), (h_pip, .inl (cZ, 648, .inl g_38)), (h_stepOfState, .inl (cI, 648, .inl g_23)), (h_tones, .inl (cI, 648, .inl g_29)), (h_a1, .inr (8, [.int v_a1_tones, .int v_a1_a, .int v_a1_b, .int v_a1_c, .int v_a1_d, .int v_a1_odds, .int v_a1_lines, .ref h_a1_signs, .int v_a1_signCount, .ref h_a1_posts, .int v_a1_postCount, .ref h_a1_acts])), (h_a1_signs, .inl (cI, 8, .inl f_a1_signs))] := hD
                    refine lv_iload hx hb dX1_goRound_180 (lv_at hl 0 rfl) ?_
                    refine lv_if_eq (tgt := 189) hx hb dX1_goRound_182 (by decide) (fun c_39 => ?_) (fun c_39 => ?_)
                    · have c_39 : r_24.toInt = 0 := ci_eq_t c_39
                      exfalso
                      omega
                    · have c_39 : ¬ r_24.toInt = 0 := ci_eq_f c_39
                      refine lv_iload_n hx hb dX1_goRound_185 rfl (lv_at hl 4 rfl) ?_
                      refine lv_goto (tgt := 196) hx hb dX1_goRound_186 (by decide) ?_
                      refine lv_istore_n (lv' := [(2, .int l33_2), (6, .int r_24), (5, .int t_16), (4, .int l33_4), (3, .int l33_3), (0, .ref h0), (1, .ref h_a1)]) hx hb dX1_goRound_196 rfl hl (by decide) rfl (fun ls hl => ?_)
                      refine lv_iload hx hb dX1_goRound_197 (lv_at hl 1 rfl) ?_
                      refine lv_if_eq (tgt := 212) hx hb dX1_goRound_199 (by decide) (fun c_40 => ?_) (fun c_40 => ?_)
                      · have c_40 : r_24.toInt = 0 := ci_eq_t c_40
                        exfalso
                        omega
                      · have c_40 : ¬ r_24.toInt = 0 := ci_eq_f c_40
                        refine lv_aload_n hx hb dX1_goRound_202 rfl (lv_at hl 5 rfl) ?_
                        refine va_get (D := D) (ci := 1) (v := .ref h_tones) (C := RX1) (T := TX1) (N := 5) hx hb hts inlX1 hown hK hP 0 rfl rfl 1 (by decide) (hts _ (inr5 _ (List.mem_of_getElem? (i := 10) rfl))) (fun _ h9 => h9) rfl dX1_goRound_203 ?_
                        refine lv_iload hx hb dX1_goRound_206 (lv_at hl 3 rfl) ?_
                        obtain ⟨t_41, et_41⟩ : ∃ v9 : Int32, g_29 (l33_4 : Int32).toNatClampNeg = v9 := ⟨_, rfl⟩
                        refine z_iald (v := t_41) hx hb hK hP 3 1 rfl rfl (vin_nat (by omega) (by omega)) et_41 dX1_goRound_208 ?_
                        have qt_41 : t_41.toInt = r_27.toInt := (upd9S (v := r_27) eg_29 et_41)
                        refine lv_goto (tgt := 213) hx hb dX1_goRound_209 (by decide) ?_
                        refine lv_istore_n (lv' := [(3, .int t_41), (2, .int l33_2), (6, .int r_24), (5, .int t_16), (4, .int l33_4), (0, .ref h0), (1, .ref h_a1)]) hx hb dX1_goRound_213 rfl hl (by decide) rfl (fun ls hl => ?_)
                        obtain ⟨t_42, et_42⟩ : ∃ v9 : Int32, l33_4 + 1 = v9 := ⟨_, rfl⟩
                        have ft_42 : t_42.toInt = l33_4.toInt + 1 := addT (a := l33_4.toInt) (b := 1) rfl (by decide) et_42 (by omega) (by omega)
                        refine lv_iinc (v := t_42) (lv' := [(4, .int t_42), (3, .int t_41), (2, .int l33_2), (6, .int r_24), (5, .int t_16), (0, .ref h0), (1, .ref h_a1)]) hx hb dX1_goRound_214 hl (k := 4) rfl (by rw [← et_42]; rfl) (by decide) rfl (fun ls hl => ?_)
                        refine lv_goto (tgt := 33) hx hb dX1_goRound_217 (by decide) ?_
                        exact ih_33 (u33_0_from) (u33_0_behind) (g_38) (g_23) (g_29) (t_42) (t_41) (l33_2) _ _ _ (by first | assumption | omega | decide) (by first | assumption | omega | decide) (by first | assumption | omega | decide) (by omega) (hP.sub [0, 1, 2, 3, 4, 5] rfl) (hD.sub [0, 1, 2, 3, 4, 5] (by decide) rfl) hS (lv_sub hl [0, 1, 2, 5, 6] rfl)
                  · have c_37 : t_36.toInt = l33_2.toInt := ci_ne_f c_37
                    have b_t_36 := i32b t_36
                    have b_l33_2 := i32b l33_2
                    refine lv_iconst (v := 1) hx hb dX1_goRound_174 (by decide) ?_
                    refine lv_goto (tgt := 179) hx hb dX1_goRound_175 (by decide) ?_
                    refine va_zast hx hb hK hP hD hS 1 3 rfl rfl (vin_nat (by omega) (by omega)) dX1_goRound_179 (fun H locs hP hD hS => ?_)
                    have hP : va_P D vwCl [(h0, .inr (1, [.ref h_stepOfState, .ref h_tones, .ref h_pip, .int u33_0_from, .int u33_0_behind])), (h_pip, .inl (cZ, 648, .inl (upd g33_pip (l33_4 : Int32).toNatClampNeg (vp_nar .boolean 1)))), (h_stepOfState, .inl (cI, 648, .inl g_23)), (h_tones, .inl (cI, 648, .inl g_29)), (h_a1, .inr (8, [.int v_a1_tones, .int v_a1_a, .int v_a1_b, .int v_a1_c, .int v_a1_d, .int v_a1_odds, .int v_a1_lines, .ref h_a1_signs, .int v_a1_signCount, .ref h_a1_posts, .int v_a1_postCount, .ref h_a1_acts])), (h_a1_signs, .inl (cI, 8, .inl f_a1_signs))] H := hP
                    have hD : va_D A [(h0, .inr (1, [.ref h_stepOfState, .ref h_tones, .ref h_pip, .int u33_0_from, .int u33_0_behind])), (h_pip, .inl (cZ, 648, .inl (upd g33_pip (l33_4 : Int32).toNatClampNeg (vp_nar .boolean 1)))), (h_stepOfState, .inl (cI, 648, .inl g_23)), (h_tones, .inl (cI, 648, .inl g_29)), (h_a1, .inr (8, [.int v_a1_tones, .int v_a1_a, .int v_a1_b, .int v_a1_c, .int v_a1_d, .int v_a1_odds, .int v_a1_lines, .ref h_a1_signs, .int v_a1_signCount, .ref h_a1_posts, .int v_a1_postCount, .ref h_a1_acts])), (h_a1_signs, .inl (cI, 8, .inl f_a1_signs))] := hD
                    obtain ⟨g_43, eg_43⟩ : ∃ v9 : Nat → Int32, (upd g33_pip (l33_4 : Int32).toNatClampNeg (vp_nar .boolean 1)) = v9 := ⟨_, rfl⟩
                    rw [eg_43] at hP hD
                    have hP : va_P D vwCl [(h0, .inr (1, [.ref h_stepOfState, .ref h_tones, .ref h_pip, .int u33_0_from, .int u33_0_behind])), (h_pip, .inl (cZ, 648, .inl g_43)), (h_stepOfState, .inl (cI, 648, .inl g_23)), (h_tones, .inl (cI, 648, .inl g_29)), (h_a1, .inr (8, [.int v_a1_tones, .int v_a1_a, .int v_a1_b, .int v_a1_c, .int v_a1_d, .int v_a1_odds, .int v_a1_lines, .ref h_a1_signs, .int v_a1_signCount, .ref h_a1_posts, .int v_a1_postCount, .ref h_a1_acts])), (h_a1_signs, .inl (cI, 8, .inl f_a1_signs))] H := hP
                    have hD : va_D A [(h0, .inr (1, [.ref h_stepOfState, .ref h_tones, .ref h_pip, .int u33_0_from, .int u33_0_behind])), (h_pip, .inl (cZ, 648, .inl g_43)), (h_stepOfState, .inl (cI, 648, .inl g_23)), (h_tones, .inl (cI, 648, .inl g_29)), (h_a1, .inr (8, [.int v_a1_tones, .int v_a1_a, .int v_a1_b, .int v_a1_c, .int v_a1_d, .int v_a1_odds, .int v_a1_lines, .ref h_a1_signs, .int v_a1_signCount, .ref h_a1_posts, .int v_a1_postCount, .ref h_a1_acts])), (h_a1_signs, .inl (cI, 8, .inl f_a1_signs))] := hD
                    refine lv_iload hx hb dX1_goRound_180 (lv_at hl 0 rfl) ?_
                    refine lv_if_eq (tgt := 189) hx hb dX1_goRound_182 (by decide) (fun c_44 => ?_) (fun c_44 => ?_)
                    · have c_44 : r_24.toInt = 0 := ci_eq_t c_44
                      exfalso
                      omega
                    · have c_44 : ¬ r_24.toInt = 0 := ci_eq_f c_44
                      refine lv_iload_n hx hb dX1_goRound_185 rfl (lv_at hl 4 rfl) ?_
                      refine lv_goto (tgt := 196) hx hb dX1_goRound_186 (by decide) ?_
                      refine lv_istore_n (lv' := [(2, .int l33_2), (6, .int r_24), (5, .int t_16), (4, .int l33_4), (3, .int l33_3), (0, .ref h0), (1, .ref h_a1)]) hx hb dX1_goRound_196 rfl hl (by decide) rfl (fun ls hl => ?_)
                      refine lv_iload hx hb dX1_goRound_197 (lv_at hl 1 rfl) ?_
                      refine lv_if_eq (tgt := 212) hx hb dX1_goRound_199 (by decide) (fun c_45 => ?_) (fun c_45 => ?_)
                      · have c_45 : r_24.toInt = 0 := ci_eq_t c_45
                        exfalso
                        omega
                      · have c_45 : ¬ r_24.toInt = 0 := ci_eq_f c_45
                        refine lv_aload_n hx hb dX1_goRound_202 rfl (lv_at hl 5 rfl) ?_
                        refine va_get (D := D) (ci := 1) (v := .ref h_tones) (C := RX1) (T := TX1) (N := 5) hx hb hts inlX1 hown hK hP 0 rfl rfl 1 (by decide) (hts _ (inr5 _ (List.mem_of_getElem? (i := 10) rfl))) (fun _ h9 => h9) rfl dX1_goRound_203 ?_
                        refine lv_iload hx hb dX1_goRound_206 (lv_at hl 3 rfl) ?_
                        obtain ⟨t_46, et_46⟩ : ∃ v9 : Int32, g_29 (l33_4 : Int32).toNatClampNeg = v9 := ⟨_, rfl⟩
                        refine z_iald (v := t_46) hx hb hK hP 3 1 rfl rfl (vin_nat (by omega) (by omega)) et_46 dX1_goRound_208 ?_
                        have qt_46 : t_46.toInt = r_27.toInt := (upd9S (v := r_27) eg_29 et_46)
                        refine lv_goto (tgt := 213) hx hb dX1_goRound_209 (by decide) ?_
                        refine lv_istore_n (lv' := [(3, .int t_46), (2, .int l33_2), (6, .int r_24), (5, .int t_16), (4, .int l33_4), (0, .ref h0), (1, .ref h_a1)]) hx hb dX1_goRound_213 rfl hl (by decide) rfl (fun ls hl => ?_)
                        obtain ⟨t_47, et_47⟩ : ∃ v9 : Int32, l33_4 + 1 = v9 := ⟨_, rfl⟩
                        have ft_47 : t_47.toInt = l33_4.toInt + 1 := addT (a := l33_4.toInt) (b := 1) rfl (by decide) et_47 (by omega) (by omega)
                        refine lv_iinc (v := t_47) (lv' := [(4, .int t_47), (3, .int t_46), (2, .int l33_2), (6, .int r_24), (5, .int t_16), (0, .ref h0), (1, .ref h_a1)]) hx hb dX1_goRound_214 hl (k := 4) rfl (by rw [← et_47]; rfl) (by decide) rfl (fun ls hl => ?_)
                        refine lv_goto (tgt := 33) hx hb dX1_goRound_217 (by decide) ?_
                        exact ih_33 (u33_0_from) (u33_0_behind) (g_43) (g_23) (g_29) (t_47) (t_46) (l33_2) _ _ _ (by first | assumption | omega | decide) (by first | assumption | omega | decide) (by first | assumption | omega | decide) (by omega) (hP.sub [0, 1, 2, 3, 4, 5] rfl) (hD.sub [0, 1, 2, 3, 4, 5] (by decide) rfl) hS (lv_sub hl [0, 1, 2, 5, 6] rfl)
            · have c_20 : ¬ t_19.toInt = (-1) := ci_eq_f c_20
              have b_t_19 := i32b t_19
              refine lv_aload_n hx hb dX1_goRound_92 rfl (lv_at hl 4 rfl) ?_
              refine lv_aload_n hx hb dX1_goRound_93 rfl (lv_at hl 4 rfl) ?_
              refine va_get (D := D) (ci := 1) (v := .ref h_stepOfState) (C := RX1) (T := TX1) (N := 5) hx hb hts inlX1 hown hK hP 0 rfl rfl 0 (by decide) (hts _ (inr5 _ (List.mem_of_getElem? (i := 9) rfl))) (fun _ h9 => h9) rfl dX1_goRound_94 ?_
              refine lv_iload hx hb dX1_goRound_97 (lv_at hl 0 rfl) ?_
              obtain ⟨t_48, et_48⟩ : ∃ v9 : Int32, g33_stepOfState (t_16 : Int32).toNatClampNeg = v9 := ⟨_, rfl⟩
              refine z_iald (v := t_48) hx hb hK hP 2 1 rfl rfl (vin_nat (by omega) (by omega)) et_48 dX1_goRound_99 ?_
              have ft_48 : (-1) ≤ t_48.toInt ∧ t_48.toInt ≤ 2147483647 := sgL (by assumption : sg sgS1 g33_stepOfState) 0 rfl (by omega) (by omega) (by omega) et_48
              refine va_put (D := D) (ci := 1) (v := .int t_48) (ty := .int) (C := RX1) (T := TX1) (N := 5) hx hb hts inlX1 tyX1 tyX1_ok nmX1 hown hK hP hD hS 0 rfl rfl 3 (by decide) (hts _ (inr5 _ (List.mem_of_getElem? (i := 12) rfl))) (fun _ h9 => h9) rfl (by decide +kernel) rfl rfl (Nat.le_of_ble_eq_true rfl) dX1_goRound_100 (fun H locs hP hD hS => ?_)
              have hP : va_P D vwCl [(h0, .inr (1, [.ref h_stepOfState, .ref h_tones, .ref h_pip, .int t_48, .int u33_0_behind])), (h_pip, .inl (cZ, 648, .inl g33_pip)), (h_stepOfState, .inl (cI, 648, .inl g33_stepOfState)), (h_tones, .inl (cI, 648, .inl g33_tones)), (h_a1, .inr (8, [.int v_a1_tones, .int v_a1_a, .int v_a1_b, .int v_a1_c, .int v_a1_d, .int v_a1_odds, .int v_a1_lines, .ref h_a1_signs, .int v_a1_signCount, .ref h_a1_posts, .int v_a1_postCount, .ref h_a1_acts])), (h_a1_signs, .inl (cI, 8, .inl f_a1_signs))] H := hP
              have hD : va_D A [(h0, .inr (1, [.ref h_stepOfState, .ref h_tones, .ref h_pip, .int t_48, .int u33_0_behind])), (h_pip, .inl (cZ, 648, .inl g33_pip)), (h_stepOfState, .inl (cI, 648, .inl g33_stepOfState)), (h_tones, .inl (cI, 648, .inl g33_tones)), (h_a1, .inr (8, [.int v_a1_tones, .int v_a1_a, .int v_a1_b, .int v_a1_c, .int v_a1_d, .int v_a1_odds, .int v_a1_lines, .ref h_a1_signs, .int v_a1_signCount, .ref h_a1_posts, .int v_a1_postCount, .ref h_a1_acts])), (h_a1_signs, .inl (cI, 8, .inl f_a1_signs))] := hD
              refine lv_aload_n hx hb dX1_goRound_103 rfl (lv_at hl 4 rfl) ?_
              refine lv_iload hx hb dX1_goRound_104 (lv_at hl 1 rfl) ?_
              refine va_put (D := D) (ci := 1) (v := .int l33_4) (ty := .int) (C := RX1) (T := TX1) (N := 5) hx hb hts inlX1 tyX1 tyX1_ok nmX1 hown hK hP hD hS 0 rfl rfl 4 (by decide) (hts _ (inr5 _ (List.mem_of_getElem? (i := 13) rfl))) (fun _ h9 => h9) rfl (by decide +kernel) rfl rfl (Nat.le_of_ble_eq_true rfl) dX1_goRound_106 (fun H locs hP hD hS => ?_)
              have hP : va_P D vwCl [(h0, .inr (1, [.ref h_stepOfState, .ref h_tones, .ref h_pip, .int t_48, .int l33_4])), (h_pip, .inl (cZ, 648, .inl g33_pip)), (h_stepOfState, .inl (cI, 648, .inl g33_stepOfState)), (h_tones, .inl (cI, 648, .inl g33_tones)), (h_a1, .inr (8, [.int v_a1_tones, .int v_a1_a, .int v_a1_b, .int v_a1_c, .int v_a1_d, .int v_a1_odds, .int v_a1_lines, .ref h_a1_signs, .int v_a1_signCount, .ref h_a1_posts, .int v_a1_postCount, .ref h_a1_acts])), (h_a1_signs, .inl (cI, 8, .inl f_a1_signs))] H := hP
              have hD : va_D A [(h0, .inr (1, [.ref h_stepOfState, .ref h_tones, .ref h_pip, .int t_48, .int l33_4])), (h_pip, .inl (cZ, 648, .inl g33_pip)), (h_stepOfState, .inl (cI, 648, .inl g33_stepOfState)), (h_tones, .inl (cI, 648, .inl g33_tones)), (h_a1, .inr (8, [.int v_a1_tones, .int v_a1_a, .int v_a1_b, .int v_a1_c, .int v_a1_d, .int v_a1_odds, .int v_a1_lines, .ref h_a1_signs, .int v_a1_signCount, .ref h_a1_posts, .int v_a1_postCount, .ref h_a1_acts])), (h_a1_signs, .inl (cI, 8, .inl f_a1_signs))] := hD
              refine lv_goto (tgt := 214) hx hb dX1_goRound_109 (by decide) ?_
              obtain ⟨t_49, et_49⟩ : ∃ v9 : Int32, l33_4 + 1 = v9 := ⟨_, rfl⟩
              have ft_49 : t_49.toInt = l33_4.toInt + 1 := addT (a := l33_4.toInt) (b := 1) rfl (by decide) et_49 (by omega) (by omega)
              refine lv_iinc (v := t_49) (lv' := [(4, .int t_49), (5, .int t_16), (3, .int l33_3), (2, .int l33_2), (0, .ref h0), (1, .ref h_a1)]) hx hb dX1_goRound_214 hl (k := 1) rfl (by rw [← et_49]; rfl) (by decide) rfl (fun ls hl => ?_)
              refine lv_goto (tgt := 33) hx hb dX1_goRound_217 (by decide) ?_
              exact ih_33 (t_48) (l33_4) (g33_pip) (g33_stepOfState) (g33_tones) (t_49) (l33_3) (l33_2) _ _ _ (by first | assumption | omega | decide) (by first | assumption | omega | decide) (by first | assumption | omega | decide) (by omega) (hP.sub [0, 1, 2, 3, 4, 5] rfl) (hD.sub [0, 1, 2, 3, 4, 5] (by decide) rfl) hS (lv_sub hl [0, 2, 3, 4, 5] rfl)
          · have c_18 : 648 ≤ t_16.toInt := ci_lt_f c_18
            exact ret _ _ _ _ (u33_0_from, u33_0_behind, g33_pip, g33_stepOfState, g33_tones) dX1_goRound_80 (show ((-1) ≤ u33_0_from.toInt ∧ u33_0_from.toInt ≤ 2147483647) ∧ (sg sgS1 g33_stepOfState) from ⟨(by first | assumption | omega | decide), (by first | assumption | omega | decide)⟩) (hP.sub [0, 1, 2, 3, 4, 5] rfl) (hD.sub [0, 1, 2, 3, 4, 5] (by decide) rfl) hS

set_option maxHeartbeats 4000000 in
set_option maxRecDepth 100000 in
theorem b_X1_goRound (l : Launch) (G : Gho) (D : va_G) (cB cI cJ cZ cS cT : ClassId) (sz : Nat) (h0 : Nat) (h_stepOfState : Nat) (h_tones : Nat) (h_pip : Nat) (v0_from : Int32) (v0_behind : Int32) (f_pip : Nat → Int32) (f_stepOfState : Nat → Int32) (f_tones : Nat → Int32) (h_a1 : Nat) (v_a1_tones : Int32) (v_a1_a : Int32) (v_a1_b : Int32) (v_a1_c : Int32) (v_a1_d : Int32) (v_a1_odds : Int32) (v_a1_lines : Int32) (h_a1_signs : Nat) (v_a1_signCount : Int32) (h_a1_posts : Nat) (v_a1_postCount : Int32) (h_a1_acts : Nat) (f_a1_signs : Nat → Int32) (iv0_from : (-1) ≤ v0_from.toInt ∧ v0_from.toInt ≤ 2147483647) (pf_stepOfState : sg sgS1 f_stepOfState) (iv_a1_signCount : 0 ≤ v_a1_signCount.toInt ∧ v_a1_signCount.toInt ≤ 8) (iv_a1_postCount : 0 ≤ v_a1_postCount.toInt ∧ v_a1_postCount.toInt ≤ 5) : Met l yX1_goRound (Cond.code yX1_goRound cX1_goRound 7 none :: wsL_law) ({ frames := 1, cells := 0, slots := 0, locals := 25 }) (wrP G D (tyL cB cI cJ cZ cS cT) [(h0, .inr (1, [.ref h_stepOfState, .ref h_tones, .ref h_pip, .int v0_from, .int v0_behind])), (h_pip, .inl (cZ, 648, .inl f_pip)), (h_stepOfState, .inl (cI, 648, .inl f_stepOfState)), (h_tones, .inl (cI, 648, .inl f_tones)), (h_a1, .inr (8, [.int v_a1_tones, .int v_a1_a, .int v_a1_b, .int v_a1_c, .int v_a1_d, .int v_a1_odds, .int v_a1_lines, .ref h_a1_signs, .int v_a1_signCount, .ref h_a1_posts, .int v_a1_postCount, .ref h_a1_acts])), (h_a1_signs, .inl (cI, 8, .inl f_a1_signs))] sz [.ref h0, .ref h_a1]) (va_Qv (fun x : Int32 × Int32 × (Nat → Int32) × (Nat → Int32) × (Nat → Int32) => ((-1) ≤ x.1.toInt ∧ x.1.toInt ≤ 2147483647) ∧ (sg sgS1 x.2.2.2.1)) (atW D (tyL cB cI cJ cZ cS cT) (va_A [(h0, .inr (1, [.ref h_stepOfState, .ref h_tones, .ref h_pip, .int v0_from, .int v0_behind])), (h_pip, .inl (cZ, 648, .inl f_pip)), (h_stepOfState, .inl (cI, 648, .inl f_stepOfState)), (h_tones, .inl (cI, 648, .inl f_tones)), (h_a1, .inr (8, [.int v_a1_tones, .int v_a1_a, .int v_a1_b, .int v_a1_c, .int v_a1_d, .int v_a1_odds, .int v_a1_lines, .ref h_a1_signs, .int v_a1_signCount, .ref h_a1_posts, .int v_a1_postCount, .ref h_a1_acts])), (h_a1_signs, .inl (cI, 8, .inl f_a1_signs))] sz) (fun x : Int32 × Int32 × (Nat → Int32) × (Nat → Int32) × (Nat → Int32) => [(h0, .inr (1, [.ref h_stepOfState, .ref h_tones, .ref h_pip, .int x.1, .int x.2.1])), (h_pip, .inl (cZ, 648, .inl x.2.2.1)), (h_stepOfState, .inl (cI, 648, .inl x.2.2.2.1)), (h_tones, .inl (cI, 648, .inl x.2.2.2.2)), (h_a1, .inr (8, [.int v_a1_tones, .int v_a1_a, .int v_a1_b, .int v_a1_c, .int v_a1_d, .int v_a1_odds, .int v_a1_lines, .ref h_a1_signs, .int v_a1_signCount, .ref h_a1_posts, .int v_a1_postCount, .ref h_a1_acts])), (h_a1_signs, .inl (cI, 8, .inl f_a1_signs))])) (va_A [(h0, .inr (1, [.ref h_stepOfState, .ref h_tones, .ref h_pip, .int v0_from, .int v0_behind])), (h_pip, .inl (cZ, 648, .inl f_pip)), (h_stepOfState, .inl (cI, 648, .inl f_stepOfState)), (h_tones, .inl (cI, 648, .inl f_tones)), (h_a1, .inr (8, [.int v_a1_tones, .int v_a1_a, .int v_a1_b, .int v_a1_c, .int v_a1_d, .int v_a1_odds, .int v_a1_lines, .ref h_a1_signs, .int v_a1_signCount, .ref h_a1_posts, .int v_a1_postCount, .ref h_a1_acts])), (h_a1_signs, .inl (cI, 8, .inl f_a1_signs))] sz)) 0 0 (va_A [(h0, .inr (1, [.ref h_stepOfState, .ref h_tones, .ref h_pip, .int v0_from, .int v0_behind])), (h_pip, .inl (cZ, 648, .inl f_pip)), (h_stepOfState, .inl (cI, 648, .inl f_stepOfState)), (h_tones, .inl (cI, 648, .inl f_tones)), (h_a1, .inr (8, [.int v_a1_tones, .int v_a1_a, .int v_a1_b, .int v_a1_c, .int v_a1_d, .int v_a1_odds, .int v_a1_lines, .ref h_a1_signs, .int v_a1_signCount, .ref h_a1_posts, .int v_a1_postCount, .ref h_a1_acts])), (h_a1_signs, .inl (cI, 8, .inl f_a1_signs))] sz) := by
  refine metV (own := RX1) (by decide) rfl ?_
  intro p e s m below meth c Q hsz C hG hP hD hAB ret
  obtain ⟨hx, hb, hml, hown, hts, hK, hN, hT⟩ := id C
  subst hsz
  generalize hAe : va_A [(h0, .inr (1, [.ref h_stepOfState, .ref h_tones, .ref h_pip, .int v0_from, .int v0_behind])), (h_pip, .inl (cZ, 648, .inl f_pip)), (h_stepOfState, .inl (cI, 648, .inl f_stepOfState)), (h_tones, .inl (cI, 648, .inl f_tones)), (h_a1, .inr (8, [.int v_a1_tones, .int v_a1_a, .int v_a1_b, .int v_a1_c, .int v_a1_d, .int v_a1_odds, .int v_a1_lines, .ref h_a1_signs, .int v_a1_signCount, .ref h_a1_posts, .int v_a1_postCount, .ref h_a1_acts])), (h_a1_signs, .inl (cI, 8, .inl f_a1_signs))] s.heap.size = A at hD hAB ret ⊢
  have hA : ∀ q : Nat, s.heap.size ≤ q → A q := fun q h => by rw [← hAe]; exact Or.inr h
  have hS : va_S A s.heap s.heap [] := va_S.rf
  have hl := lv_entry ([.ref h0, .ref h_a1]) (n := 7) (Nat.le_of_ble_eq_true rfl)
  rw [lg_entry_eq]
  generalize (lg_sl ([.ref h0, .ref h_a1]) ++ List.replicate (7 - (lg_sl ([.ref h0, .ref h_a1])).length) Slot.unset).toArray = ls at hl ⊢
  have hl : lv_has ls 7 [(0, .ref h0), (1, .ref h_a1)] := hl
  have hP : va_P D vwCl [(h0, .inr (1, [.ref h_stepOfState, .ref h_tones, .ref h_pip, .int v0_from, .int v0_behind])), (h_pip, .inl (cZ, 648, .inl f_pip)), (h_stepOfState, .inl (cI, 648, .inl f_stepOfState)), (h_tones, .inl (cI, 648, .inl f_tones)), (h_a1, .inr (8, [.int v_a1_tones, .int v_a1_a, .int v_a1_b, .int v_a1_c, .int v_a1_d, .int v_a1_odds, .int v_a1_lines, .ref h_a1_signs, .int v_a1_signCount, .ref h_a1_posts, .int v_a1_postCount, .ref h_a1_acts])), (h_a1_signs, .inl (cI, 8, .inl f_a1_signs))] s.heap := hP
  refine lv_aload_n hx hb dX1_goRound_0 rfl (lv_at hl 0 rfl) ?_
  refine lv_iconst (v := (-1)) hx hb dX1_goRound_1 (by decide) ?_
  refine va_put (D := D) (ci := 1) (v := .int (-1)) (ty := .int) (C := RX1) (T := TX1) (N := 5) hx hb hts inlX1 tyX1 tyX1_ok nmX1 hown hK hP hD hS 0 rfl rfl 3 (by decide) (hts _ (inr5 _ (List.mem_of_getElem? (i := 12) rfl))) (fun _ h9 => h9) rfl (by decide +kernel) rfl rfl (Nat.le_of_ble_eq_true rfl) dX1_goRound_2 (fun H locs hP hD hS => ?_)
  have hP : va_P D vwCl [(h0, .inr (1, [.ref h_stepOfState, .ref h_tones, .ref h_pip, .int (-1), .int v0_behind])), (h_pip, .inl (cZ, 648, .inl f_pip)), (h_stepOfState, .inl (cI, 648, .inl f_stepOfState)), (h_tones, .inl (cI, 648, .inl f_tones)), (h_a1, .inr (8, [.int v_a1_tones, .int v_a1_a, .int v_a1_b, .int v_a1_c, .int v_a1_d, .int v_a1_odds, .int v_a1_lines, .ref h_a1_signs, .int v_a1_signCount, .ref h_a1_posts, .int v_a1_postCount, .ref h_a1_acts])), (h_a1_signs, .inl (cI, 8, .inl f_a1_signs))] H := hP
  have hD : va_D A [(h0, .inr (1, [.ref h_stepOfState, .ref h_tones, .ref h_pip, .int (-1), .int v0_behind])), (h_pip, .inl (cZ, 648, .inl f_pip)), (h_stepOfState, .inl (cI, 648, .inl f_stepOfState)), (h_tones, .inl (cI, 648, .inl f_tones)), (h_a1, .inr (8, [.int v_a1_tones, .int v_a1_a, .int v_a1_b, .int v_a1_c, .int v_a1_d, .int v_a1_odds, .int v_a1_lines, .ref h_a1_signs, .int v_a1_signCount, .ref h_a1_posts, .int v_a1_postCount, .ref h_a1_acts])), (h_a1_signs, .inl (cI, 8, .inl f_a1_signs))] := hD
  refine lv_aload_n hx hb dX1_goRound_5 rfl (lv_at hl 0 rfl) ?_
  refine lv_iconst (v := (-1)) hx hb dX1_goRound_6 (by decide) ?_
  refine va_put (D := D) (ci := 1) (v := .int (-1)) (ty := .int) (C := RX1) (T := TX1) (N := 5) hx hb hts inlX1 tyX1 tyX1_ok nmX1 hown hK hP hD hS 0 rfl rfl 4 (by decide) (hts _ (inr5 _ (List.mem_of_getElem? (i := 13) rfl))) (fun _ h9 => h9) rfl (by decide +kernel) rfl rfl (Nat.le_of_ble_eq_true rfl) dX1_goRound_7 (fun H locs hP hD hS => ?_)
  have hP : va_P D vwCl [(h0, .inr (1, [.ref h_stepOfState, .ref h_tones, .ref h_pip, .int (-1), .int (-1)])), (h_pip, .inl (cZ, 648, .inl f_pip)), (h_stepOfState, .inl (cI, 648, .inl f_stepOfState)), (h_tones, .inl (cI, 648, .inl f_tones)), (h_a1, .inr (8, [.int v_a1_tones, .int v_a1_a, .int v_a1_b, .int v_a1_c, .int v_a1_d, .int v_a1_odds, .int v_a1_lines, .ref h_a1_signs, .int v_a1_signCount, .ref h_a1_posts, .int v_a1_postCount, .ref h_a1_acts])), (h_a1_signs, .inl (cI, 8, .inl f_a1_signs))] H := hP
  have hD : va_D A [(h0, .inr (1, [.ref h_stepOfState, .ref h_tones, .ref h_pip, .int (-1), .int (-1)])), (h_pip, .inl (cZ, 648, .inl f_pip)), (h_stepOfState, .inl (cI, 648, .inl f_stepOfState)), (h_tones, .inl (cI, 648, .inl f_tones)), (h_a1, .inr (8, [.int v_a1_tones, .int v_a1_a, .int v_a1_b, .int v_a1_c, .int v_a1_d, .int v_a1_odds, .int v_a1_lines, .ref h_a1_signs, .int v_a1_signCount, .ref h_a1_posts, .int v_a1_postCount, .ref h_a1_acts])), (h_a1_signs, .inl (cI, 8, .inl f_a1_signs))] := hD
  refine lv_aload_n hx hb dX1_goRound_10 rfl (lv_at hl 1 rfl) ?_
  refine roi (As := []) (rest := []) ⟨hx, hb, hml, hown, hts⟩ (b_X8_signCount l G D cB cI cJ cZ cS cT h_a1 v_a1_tones v_a1_a v_a1_b v_a1_c v_a1_d v_a1_odds v_a1_lines h_a1_signs v_a1_signCount h_a1_posts v_a1_postCount h_a1_acts (by first | assumption | omega | decide) (by first | assumption | omega | decide)) (cvB (n := 0) (inr45 _ (List.mem_of_getElem? (i := 0) rfl)) (inr15 _ (List.mem_of_getElem? (i := 10) rfl)) (inr15 _ (List.mem_of_getElem? (i := 11) rfl)) (inr1 _ (List.mem_of_getElem? (i := 23) rfl)) (inr15 _ (List.mem_of_getElem? (i := 12) rfl)) (by decide +kernel) hts rfl rfl ⟨Nat.le_of_ble_eq_true rfl, Nat.le_of_ble_eq_true rfl⟩) 0 8 rfl rfl rfl (hP.sub [4] rfl) hK hN (kT.to hT hS hAB) rfl hl.1 rfl (Nat.le_of_ble_eq_true rfl) ⟨Nat.le_of_ble_eq_true rfl, Nat.le_of_ble_eq_true rfl⟩ dX1_goRound_11 (fun r_1 h_2 => ?_)
  have h_2 : (r_1 = v_a1_signCount) := h_2
  have i_3 := h_2
  obtain rfl := i_3.symm
  refine lv_if_ne (tgt := 18) hx hb dX1_goRound_14 (by decide) (fun c_4 => ?_) (fun c_4 => ?_)
  · have c_4 : ¬ v_a1_signCount.toInt = 0 := ci_ne_t c_4
    have b_v_a1_signCount := i32b v_a1_signCount
    refine lv_aload_n hx hb dX1_goRound_18 rfl (lv_at hl 0 rfl) ?_
    refine va_get (D := D) (ci := 1) (v := .ref h_stepOfState) (C := RX1) (T := TX1) (N := 5) hx hb hts inlX1 hown hK hP 0 rfl rfl 0 (by decide) (hts _ (inr5 _ (List.mem_of_getElem? (i := 9) rfl))) (fun _ h9 => h9) rfl dX1_goRound_19 ?_
    refine lv_iconst (v := (-1)) hx hb dX1_goRound_22 (by decide) ?_
    refine wrSv (As := [.ref h_stepOfState, .int (-1)]) (rest := []) (wr := [(h0, .inr (1, [.ref h_stepOfState, .ref h_tones, .ref h_pip, .int (-1), .int (-1)])), (h_pip, .inl (cZ, 648, .inl f_pip)), (h_tones, .inl (cI, 648, .inl f_tones)), (h_a1, .inr (8, [.int v_a1_tones, .int v_a1_a, .int v_a1_b, .int v_a1_c, .int v_a1_d, .int v_a1_odds, .int v_a1_lines, .ref h_a1_signs, .int v_a1_signCount, .ref h_a1_posts, .int v_a1_postCount, .ref h_a1_acts])), (h_a1_signs, .inl (cI, 8, .inl f_a1_signs))]) ⟨hx, hb, hml, hown, hts⟩ (b_fillI l G D cB cI cJ cZ cS cT H.size h_stepOfState 648 f_stepOfState (-1) (by first | assumption | omega | decide)) hP hD hS hA hK hN hT hAB hG [2] [0, 1, 3, 4, 5] rfl rfl (by decide) (by decide) (by decide) (csX (n := 2) (inr45 _ (List.mem_of_getElem? (i := 1) rfl)) (inr4 _ (List.mem_of_getElem? (i := 15) rfl)) (inr4 _ (List.mem_of_getElem? (i := 16) rfl)) (inr4 _ (List.mem_of_getElem? (i := 17) rfl)) (by decide +kernel) hts rfl rfl ⟨Nat.le_of_ble_eq_true rfl, Nat.le_of_ble_eq_true rfl⟩) rfl hl.1 rfl (Nat.le_of_ble_eq_true rfl) ⟨Nat.le_of_ble_eq_true rfl, Nat.le_of_ble_eq_true rfl⟩ dX1_goRound_23 (fun x9 H locs h_6 hP hD hS => ?_)
    obtain ⟨g_7, rfl⟩ : ∃ z, z = x9 := ⟨_, rfl⟩
    have hP : va_P D vwCl [(h0, .inr (1, [.ref h_stepOfState, .ref h_tones, .ref h_pip, .int (-1), .int (-1)])), (h_pip, .inl (cZ, 648, .inl f_pip)), (h_tones, .inl (cI, 648, .inl f_tones)), (h_a1, .inr (8, [.int v_a1_tones, .int v_a1_a, .int v_a1_b, .int v_a1_c, .int v_a1_d, .int v_a1_odds, .int v_a1_lines, .ref h_a1_signs, .int v_a1_signCount, .ref h_a1_posts, .int v_a1_postCount, .ref h_a1_acts])), (h_a1_signs, .inl (cI, 8, .inl f_a1_signs)), (h_stepOfState, .inl (cI, 648, .inl g_7))] H := hP
    have hD : va_D A [(h0, .inr (1, [.ref h_stepOfState, .ref h_tones, .ref h_pip, .int (-1), .int (-1)])), (h_pip, .inl (cZ, 648, .inl f_pip)), (h_tones, .inl (cI, 648, .inl f_tones)), (h_a1, .inr (8, [.int v_a1_tones, .int v_a1_a, .int v_a1_b, .int v_a1_c, .int v_a1_d, .int v_a1_odds, .int v_a1_lines, .ref h_a1_signs, .int v_a1_signCount, .ref h_a1_posts, .int v_a1_postCount, .ref h_a1_acts])), (h_a1_signs, .inl (cI, 8, .inl f_a1_signs)), (h_stepOfState, .inl (cI, 648, .inl g_7))] := hD
    have h_6 : (∀ j, j < 648 → g_7 j = (-1)) := h_6
    have i_8 := h_6
    have pg_7 : sg sgS1 g_7 := sgF i_8 (by have z9_v : ((-1) : Int32).toInt = (-1) := (by decide); intro q9 hq9; simp only [sgS1, List.mem_cons, List.not_mem_nil, or_false] at hq9; rcases hq9 with rfl <;> dsimp only <;> omega)
    refine lv_iconst (v := 0) hx hb dX1_goRound_26 (by decide) ?_
    refine lv_istore_n (lv' := [(2, .int 0), (0, .ref h0), (1, .ref h_a1)]) hx hb dX1_goRound_27 rfl hl (by decide) rfl (fun ls hl => ?_)
    refine lv_iconst (v := 0) hx hb dX1_goRound_28 (by decide) ?_
    refine lv_istore_n (lv' := [(3, .int 0), (2, .int 0), (0, .ref h0), (1, .ref h_a1)]) hx hb dX1_goRound_29 rfl hl (by decide) rfl (fun ls hl => ?_)
    refine lv_iconst (v := 0) hx hb dX1_goRound_30 (by decide) ?_
    refine lv_istore (lv' := [(4, .int 0), (3, .int 0), (2, .int 0), (0, .ref h0), (1, .ref h_a1)]) hx hb dX1_goRound_31 hl (by decide) rfl (fun ls hl => ?_)
    exact b_X1_goRound_l33 h0 h_stepOfState h_tones h_pip v0_from f_stepOfState h_a1 v_a1_tones v_a1_a v_a1_b v_a1_c v_a1_d v_a1_odds v_a1_lines h_a1_signs v_a1_signCount h_a1_posts v_a1_postCount h_a1_acts f_a1_signs (by first | assumption | omega | decide) (by first | assumption | omega | decide) (by first | assumption | omega | decide) (by first | assumption | omega | decide) (by first | assumption | omega | decide) C hG hAB hA ret _ ((-1)) ((-1)) (f_pip) (g_7) (f_tones) (0) (0) (0) _ _ _ (by first | assumption | omega | decide) (by first | assumption | omega | decide) (by first | assumption | omega | decide) (Nat.lt_succ_self _) (hP.sub [0, 1, 5, 2, 3, 4] rfl) (hD.sub [0, 1, 5, 2, 3, 4] (by decide) rfl) hS (lv_sub hl [0, 1, 2, 3, 4] rfl)
  · have c_4 : v_a1_signCount.toInt = 0 := ci_ne_f c_4
    have b_v_a1_signCount := i32b v_a1_signCount
    exact ret _ _ _ _ ((-1), (-1), f_pip, f_stepOfState, f_tones) dX1_goRound_17 (show ((-1) ≤ ((-1) : Int32).toInt ∧ ((-1) : Int32).toInt ≤ 2147483647) ∧ (sg sgS1 f_stepOfState) from ⟨(by first | assumption | omega | decide), (by first | assumption | omega | decide)⟩) (hP.sub [0, 1, 2, 3, 4, 5] rfl) (hD.sub [0, 1, 2, 3, 4, 5] (by decide) rfl) hS

set_option maxHeartbeats 4000000 in
set_option maxRecDepth 100000 in
theorem b_X1_pipsInside_l17 {p : Program} {l : Launch} {e : Env} {s : State} {m : MethodId} {args : Array Value} {below : List Frame} {meth : Method} {c : Code} {Q : State → Prop} {G : Gho} {D : va_G} {cB cI cJ cZ cS cT : ClassId} (h0 : Nat) (h_stepOfState : Nat) (h_tones : Nat) (h_pip : Nat) (v0_from : Int32) (v0_behind : Int32) (f_pip : Nat → Int32) (iv0_from : (-1) ≤ v0_from.toInt ∧ v0_from.toInt ≤ 2147483647) (c_1 : ¬ v0_from.toInt = (-1)) (C : Cx p s m args c RX1 cX1_pipsInside 3 G D (tyL cB cI cJ cZ cS cT)) (hP : va_P D vwCl [(h0, .inr (1, [.ref h_stepOfState, .ref h_tones, .ref h_pip, .int v0_from, .int v0_behind])), (h_pip, .inl (cZ, 648, .inl f_pip))] s.heap) (ret : RroI p l e ({ frames := 0, cells := 0, slots := 0, locals := 0 }) s m args below meth c cX1_pipsInside (fun r : Int32 => True) Q) :
    ∀ (N : Nat) (l17_2 : Int32) (l17_1 : Int32) (ls : Array Slot), 0 ≤ l17_2.toInt → (v0_behind.toInt - l17_2.toInt).toNat < N → lv_has ls 3 [(2, .int l17_2), (1, .int l17_1), (0, .ref h0)] → W p l e ({ frames := 0, cells := 0, slots := 0, locals := 0 }) s m args below meth c s.heap [] 0 0 Q (F0 m 17 ls []) := by
  obtain ⟨hx, hb, hml, hown, hts, hK, hN, hT⟩ := id C
  intro N
  induction N with
  | zero =>
    intro l17_2 l17_1 ls kl17_2 hM_17 hl
    omega
  | succ N_17 ih_17 =>
    intro l17_2 l17_1 ls kl17_2 hM_17 hl
    have b_l17_2 := i32b l17_2
    refine lv_iload_n hx hb dX1_pipsInside_17 rfl (lv_at hl 0 rfl) ?_
    refine lv_aload_n hx hb dX1_pipsInside_18 rfl (lv_at hl 2 rfl) ?_
    refine va_get (D := D) (ci := 1) (v := .int v0_behind) (C := RX1) (T := TX1) (N := 5) hx hb hts inlX1 hown hK hP 0 rfl rfl 4 (by decide) (hts _ (inr5 _ (List.mem_of_getElem? (i := 13) rfl))) (fun _ h9 => h9) rfl dX1_pipsInside_19 ?_
    refine lv_icmp_ge (tgt := 50) hx hb dX1_pipsInside_22 (by decide) (fun c_2 => ?_) (fun c_2 => ?_)
    · have c_2 : v0_behind.toInt ≤ l17_2.toInt := ci_ge_t c_2
      have b_v0_behind := i32b v0_behind
      refine lv_iload_n hx hb dX1_pipsInside_50 rfl (lv_at hl 1 rfl) ?_
      exact ret _ _ _ dX1_pipsInside_51 trivial
    · have c_2 : l17_2.toInt < v0_behind.toInt := ci_ge_f c_2
      have b_v0_behind := i32b v0_behind
      refine lv_iload_n hx hb dX1_pipsInside_25 rfl (lv_at hl 0 rfl) ?_
      refine lv_sipush (v := 648) hx hb dX1_pipsInside_26 (by decide) ?_
      refine lv_icmp_ge (tgt := 50) hx hb dX1_pipsInside_29 (by decide) (fun c_3 => ?_) (fun c_3 => ?_)
      · have c_3 : 648 ≤ l17_2.toInt := ci_ge_t c_3
        refine lv_iload_n hx hb dX1_pipsInside_50 rfl (lv_at hl 1 rfl) ?_
        exact ret _ _ _ dX1_pipsInside_51 trivial
      · have c_3 : l17_2.toInt < 648 := ci_ge_f c_3
        refine lv_aload_n hx hb dX1_pipsInside_32 rfl (lv_at hl 2 rfl) ?_
        refine va_get (D := D) (ci := 1) (v := .ref h_pip) (C := RX1) (T := TX1) (N := 5) hx hb hts inlX1 hown hK hP 0 rfl rfl 2 (by decide) (hts _ (inr5 _ (List.mem_of_getElem? (i := 11) rfl))) (fun _ h9 => h9) rfl dX1_pipsInside_33 ?_
        refine lv_iload_n hx hb dX1_pipsInside_36 rfl (lv_at hl 0 rfl) ?_
        obtain ⟨t_4, et_4⟩ : ∃ v9 : Int32, f_pip (l17_2 : Int32).toNatClampNeg = v9 := ⟨_, rfl⟩
        refine z_zald (v := t_4) hx hb hK hP 1 3 rfl rfl (vin_nat (by omega) (by omega)) et_4 dX1_pipsInside_37 ?_
        refine lv_if_eq (tgt := 44) hx hb dX1_pipsInside_38 (by decide) (fun c_5 => ?_) (fun c_5 => ?_)
        · have c_5 : t_4.toInt = 0 := ci_eq_t c_5
          have b_t_4 := i32b t_4
          obtain ⟨t_6, et_6⟩ : ∃ v9 : Int32, l17_2 + 1 = v9 := ⟨_, rfl⟩
          have ft_6 : t_6.toInt = l17_2.toInt + 1 := addT (a := l17_2.toInt) (b := 1) rfl (by decide) et_6 (by omega) (by omega)
          refine lv_iinc (v := t_6) (lv' := [(2, .int t_6), (1, .int l17_1), (0, .ref h0)]) hx hb dX1_pipsInside_44 hl (k := 0) rfl (by rw [← et_6]; rfl) (by decide) rfl (fun ls hl => ?_)
          refine lv_goto (tgt := 17) hx hb dX1_pipsInside_47 (by decide) ?_
          exact ih_17 (t_6) (l17_1) _ (by first | assumption | omega | decide) (by omega) (lv_sub hl [0, 1, 2] rfl)
        · have c_5 : ¬ t_4.toInt = 0 := ci_eq_f c_5
          have b_t_4 := i32b t_4
          obtain ⟨t_7, et_7⟩ : ∃ v9 : Int32, l17_1 + 1 = v9 := ⟨_, rfl⟩
          refine lv_iinc (v := t_7) (lv' := [(1, .int t_7), (2, .int l17_2), (0, .ref h0)]) hx hb dX1_pipsInside_41 hl (k := 1) rfl (by rw [← et_7]; rfl) (by decide) rfl (fun ls hl => ?_)
          obtain ⟨t_8, et_8⟩ : ∃ v9 : Int32, l17_2 + 1 = v9 := ⟨_, rfl⟩
          have ft_8 : t_8.toInt = l17_2.toInt + 1 := addT (a := l17_2.toInt) (b := 1) rfl (by decide) et_8 (by omega) (by omega)
          refine lv_iinc (v := t_8) (lv' := [(2, .int t_8), (1, .int t_7), (0, .ref h0)]) hx hb dX1_pipsInside_44 hl (k := 1) rfl (by rw [← et_8]; rfl) (by decide) rfl (fun ls hl => ?_)
          refine lv_goto (tgt := 17) hx hb dX1_pipsInside_47 (by decide) ?_
          exact ih_17 (t_8) (t_7) _ (by first | assumption | omega | decide) (by omega) (lv_sub hl [0, 1, 2] rfl)

set_option maxHeartbeats 4000000 in
set_option maxRecDepth 100000 in
theorem b_X1_pipsInside (l : Launch) (G : Gho) (D : va_G) (cB cI cJ cZ cS cT : ClassId) (h0 : Nat) (h_stepOfState : Nat) (h_tones : Nat) (h_pip : Nat) (v0_from : Int32) (v0_behind : Int32) (f_pip : Nat → Int32) (iv0_from : (-1) ≤ v0_from.toInt ∧ v0_from.toInt ≤ 2147483647) : Met l yX1_pipsInside (Cond.code yX1_pipsInside cX1_pipsInside 3 (some .int) :: wsL_law) ({ frames := 0, cells := 0, slots := 0, locals := 0 }) (roP G D (tyL cB cI cJ cZ cS cT) [(h0, .inr (1, [.ref h_stepOfState, .ref h_tones, .ref h_pip, .int v0_from, .int v0_behind])), (h_pip, .inl (cZ, 648, .inl f_pip))] [.ref h0]) (vp_Si (fun r : Int32 => True)) 0 0 (fun _ => False) := by
  refine metRO (own := RX1) (by decide) rfl ?_
  intro p e s m below meth c Q C hP ret
  obtain ⟨hx, hb, hml, hown, hts, hK, hN, hT⟩ := id C
  have hl := lv_entry ([.ref h0]) (n := 3) (Nat.le_of_ble_eq_true rfl)
  rw [lg_entry_eq]
  generalize (lg_sl ([.ref h0]) ++ List.replicate (3 - (lg_sl ([.ref h0])).length) Slot.unset).toArray = ls at hl ⊢
  have hl : lv_has ls 3 [(0, .ref h0)] := hl
  have hP : va_P D vwCl [(h0, .inr (1, [.ref h_stepOfState, .ref h_tones, .ref h_pip, .int v0_from, .int v0_behind])), (h_pip, .inl (cZ, 648, .inl f_pip))] s.heap := hP
  refine lv_aload_n hx hb dX1_pipsInside_0 rfl (lv_at hl 0 rfl) ?_
  refine va_get (D := D) (ci := 1) (v := .int v0_from) (C := RX1) (T := TX1) (N := 5) hx hb hts inlX1 hown hK hP 0 rfl rfl 3 (by decide) (hts _ (inr5 _ (List.mem_of_getElem? (i := 12) rfl))) (fun _ h9 => h9) rfl dX1_pipsInside_1 ?_
  refine lv_iconst (v := (-1)) hx hb dX1_pipsInside_4 (by decide) ?_
  refine lv_icmp_ne (tgt := 10) hx hb dX1_pipsInside_5 (by decide) (fun c_1 => ?_) (fun c_1 => ?_)
  · have c_1 : ¬ v0_from.toInt = (-1) := ci_ne_t c_1
    have b_v0_from := i32b v0_from
    refine lv_iconst (v := 0) hx hb dX1_pipsInside_10 (by decide) ?_
    refine lv_istore_n (lv' := [(1, .int 0), (0, .ref h0)]) hx hb dX1_pipsInside_11 rfl hl (by decide) rfl (fun ls hl => ?_)
    refine lv_aload_n hx hb dX1_pipsInside_12 rfl (lv_at hl 1 rfl) ?_
    refine va_get (D := D) (ci := 1) (v := .int v0_from) (C := RX1) (T := TX1) (N := 5) hx hb hts inlX1 hown hK hP 0 rfl rfl 3 (by decide) (hts _ (inr5 _ (List.mem_of_getElem? (i := 12) rfl))) (fun _ h9 => h9) rfl dX1_pipsInside_13 ?_
    refine lv_istore_n (lv' := [(2, .int v0_from), (1, .int 0), (0, .ref h0)]) hx hb dX1_pipsInside_16 rfl hl (by decide) rfl (fun ls hl => ?_)
    exact b_X1_pipsInside_l17 h0 h_stepOfState h_tones h_pip v0_from v0_behind f_pip (by first | assumption | omega | decide) (by first | assumption | omega | decide) C (hP.sub [0, 1] rfl) ret _ (v0_from) (0) _ (by first | assumption | omega | decide) (Nat.lt_succ_self _) (lv_sub hl [0, 1, 2] rfl)
  · have c_1 : v0_from.toInt = (-1) := ci_ne_f c_1
    have b_v0_from := i32b v0_from
    refine lv_iconst (v := (-1)) hx hb dX1_pipsInside_8 (by decide) ?_
    exact ret _ _ _ dX1_pipsInside_9 trivial

set_option maxHeartbeats 4000000 in
set_option maxRecDepth 100000 in
theorem b_X1_toneAt (l : Launch) (G : Gho) (D : va_G) (cB cI cJ cZ cS cT : ClassId) (h0 : Nat) (h_stepOfState : Nat) (h_tones : Nat) (h_pip : Nat) (v0_from : Int32) (v0_behind : Int32) (f_tones : Nat → Int32) (v1 : Int32) (iv0_from : (-1) ≤ v0_from.toInt ∧ v0_from.toInt ≤ 2147483647) : Met l yX1_toneAt (Cond.code yX1_toneAt cX1_toneAt 4 (some .int) :: wsL_law) ({ frames := 1, cells := 0, slots := 0, locals := 20 }) (roP G D (tyL cB cI cJ cZ cS cT) [(h0, .inr (1, [.ref h_stepOfState, .ref h_tones, .ref h_pip, .int v0_from, .int v0_behind])), (h_tones, .inl (cI, 648, .inl f_tones))] [.ref h0, .int v1]) (vp_Si (fun r : Int32 => True)) 0 0 (fun _ => False) := by
  refine metRO (own := RX1) (by decide) rfl ?_
  intro p e s m below meth c Q C hP ret
  obtain ⟨hx, hb, hml, hown, hts, hK, hN, hT⟩ := id C
  have hl := lv_entry ([.ref h0, .int v1]) (n := 4) (Nat.le_of_ble_eq_true rfl)
  rw [lg_entry_eq]
  generalize (lg_sl ([.ref h0, .int v1]) ++ List.replicate (4 - (lg_sl ([.ref h0, .int v1])).length) Slot.unset).toArray = ls at hl ⊢
  have hl : lv_has ls 4 [(0, .ref h0), (1, .int v1)] := hl
  have hP : va_P D vwCl [(h0, .inr (1, [.ref h_stepOfState, .ref h_tones, .ref h_pip, .int v0_from, .int v0_behind])), (h_tones, .inl (cI, 648, .inl f_tones))] s.heap := hP
  refine lv_aload_n hx hb dX1_toneAt_0 rfl (lv_at hl 0 rfl) ?_
  refine roi (As := []) (rest := []) ⟨hx, hb, hml, hown, hts⟩ (b_X1_steps l G D cB cI cJ cZ cS cT h0 h_stepOfState h_tones h_pip v0_from v0_behind (by first | assumption | omega | decide)) (cvB (n := 0) (inr47 _ (List.mem_of_getElem? (i := 18) rfl)) (inr46 _ (List.mem_of_getElem? (i := 14) rfl)) (inr46 _ (List.mem_of_getElem? (i := 15) rfl)) (inr2 _ (List.mem_of_getElem? (i := 16) rfl)) (inr46 _ (List.mem_of_getElem? (i := 16) rfl)) (by decide +kernel) hts rfl rfl ⟨Nat.le_of_ble_eq_true rfl, Nat.le_of_ble_eq_true rfl⟩) 0 1 rfl rfl rfl (hP.sub [0] rfl) hK hN hT rfl hl.1 rfl (Nat.le_of_ble_eq_true rfl) ⟨Nat.le_of_ble_eq_true rfl, Nat.le_of_ble_eq_true rfl⟩ dX1_toneAt_1 (fun r_1 h_2 => ?_)
  refine lv_istore_n (lv' := [(2, .int r_1), (0, .ref h0), (1, .int v1)]) hx hb dX1_toneAt_4 rfl hl (by decide) rfl (fun ls hl => ?_)
  refine lv_iload_n hx hb dX1_toneAt_5 rfl (lv_at hl 0 rfl) ?_
  refine lv_if_le (tgt := 13) hx hb dX1_toneAt_6 (by decide) (fun c_3 => ?_) (fun c_3 => ?_)
  · have c_3 : r_1.toInt ≤ 0 := ci_le_t c_3
    have b_r_1 := i32b r_1
    refine lv_iconst (v := (-1)) hx hb dX1_toneAt_13 (by decide) ?_
    exact ret _ _ _ dX1_toneAt_14 trivial
  · have c_3 : 0 < r_1.toInt := ci_le_f c_3
    have b_r_1 := i32b r_1
    refine lv_iload_n hx hb dX1_toneAt_9 rfl (lv_at hl 2 rfl) ?_
    refine lv_if_ge (tgt := 15) hx hb dX1_toneAt_10 (by decide) (fun c_4 => ?_) (fun c_4 => ?_)
    · have c_4 : 0 ≤ v1.toInt := ci_ge_t c_4
      have b_v1 := i32b v1
      refine lv_iload_n hx hb dX1_toneAt_15 rfl (lv_at hl 2 rfl) ?_
      refine lv_aload_n hx hb dX1_toneAt_16 rfl (lv_at hl 1 rfl) ?_
      refine va_get (D := D) (ci := 1) (v := .int v0_behind) (C := RX1) (T := TX1) (N := 5) hx hb hts inlX1 hown hK hP 0 rfl rfl 4 (by decide) (hts _ (inr5 _ (List.mem_of_getElem? (i := 13) rfl))) (fun _ h9 => h9) rfl dX1_toneAt_17 ?_
      refine lv_icmp_ge (tgt := 27) hx hb dX1_toneAt_20 (by decide) (fun c_5 => ?_) (fun c_5 => ?_)
      · have c_5 : v0_behind.toInt ≤ v1.toInt := ci_ge_t c_5
        have b_v0_behind := i32b v0_behind
        refine lv_aload_n hx hb dX1_toneAt_27 rfl (lv_at hl 1 rfl) ?_
        refine va_get (D := D) (ci := 1) (v := .int v0_from) (C := RX1) (T := TX1) (N := 5) hx hb hts inlX1 hown hK hP 0 rfl rfl 3 (by decide) (hts _ (inr5 _ (List.mem_of_getElem? (i := 12) rfl))) (fun _ h9 => h9) rfl dX1_toneAt_28 ?_
        refine lv_iload_n hx hb dX1_toneAt_31 rfl (lv_at hl 2 rfl) ?_
        refine lv_aload_n hx hb dX1_toneAt_32 rfl (lv_at hl 1 rfl) ?_
        refine va_get (D := D) (ci := 1) (v := .int v0_from) (C := RX1) (T := TX1) (N := 5) hx hb hts inlX1 hown hK hP 0 rfl rfl 3 (by decide) (hts _ (inr5 _ (List.mem_of_getElem? (i := 12) rfl))) (fun _ h9 => h9) rfl dX1_toneAt_33 ?_
        obtain ⟨t_6, et_6⟩ : ∃ v9 : Int32, v1 - v0_from = v9 := ⟨_, rfl⟩
        refine z_isub (v := t_6) hx hb dX1_toneAt_36 et_6 ?_
        refine lv_iload_n hx hb dX1_toneAt_37 rfl (lv_at hl 0 rfl) ?_
        obtain ⟨t_7, et_7⟩ : ∃ v9 : Int32, t_6 - t_6 / r_1 * r_1 = v9 := ⟨_, rfl⟩
        refine z_irem (v := t_7) hx hb dX1_toneAt_38 (ne0T (by omega)) et_7 ?_
        obtain ⟨t_8, et_8⟩ : ∃ v9 : Int32, v0_from + t_7 = v9 := ⟨_, rfl⟩
        refine z_iadd (v := t_8) hx hb dX1_toneAt_39 et_8 ?_
        refine lv_istore_n (lv' := [(3, .int t_8), (2, .int r_1), (0, .ref h0), (1, .int v1)]) hx hb dX1_toneAt_40 rfl hl (by decide) rfl (fun ls hl => ?_)
        refine lv_iload_n hx hb dX1_toneAt_41 rfl (lv_at hl 0 rfl) ?_
        refine lv_if_lt (tgt := 61) hx hb dX1_toneAt_42 (by decide) (fun c_9 => ?_) (fun c_9 => ?_)
        · have c_9 : t_8.toInt < 0 := ci_lt_t c_9
          have b_t_8 := i32b t_8
          refine lv_iconst (v := (-1)) hx hb dX1_toneAt_61 (by decide) ?_
          exact ret _ _ _ dX1_toneAt_62 trivial
        · have c_9 : 0 ≤ t_8.toInt := ci_lt_f c_9
          have b_t_8 := i32b t_8
          refine lv_iload_n hx hb dX1_toneAt_45 rfl (lv_at hl 0 rfl) ?_
          refine lv_sipush (v := 648) hx hb dX1_toneAt_46 (by decide) ?_
          refine lv_icmp_ge (tgt := 61) hx hb dX1_toneAt_49 (by decide) (fun c_10 => ?_) (fun c_10 => ?_)
          · have c_10 : 648 ≤ t_8.toInt := ci_ge_t c_10
            refine lv_iconst (v := (-1)) hx hb dX1_toneAt_61 (by decide) ?_
            exact ret _ _ _ dX1_toneAt_62 trivial
          · have c_10 : t_8.toInt < 648 := ci_ge_f c_10
            refine lv_aload_n hx hb dX1_toneAt_52 rfl (lv_at hl 2 rfl) ?_
            refine va_get (D := D) (ci := 1) (v := .ref h_tones) (C := RX1) (T := TX1) (N := 5) hx hb hts inlX1 hown hK hP 0 rfl rfl 1 (by decide) (hts _ (inr5 _ (List.mem_of_getElem? (i := 10) rfl))) (fun _ h9 => h9) rfl dX1_toneAt_53 ?_
            refine lv_iload_n hx hb dX1_toneAt_56 rfl (lv_at hl 0 rfl) ?_
            obtain ⟨t_11, et_11⟩ : ∃ v9 : Int32, f_tones (t_8 : Int32).toNatClampNeg = v9 := ⟨_, rfl⟩
            refine z_iald (v := t_11) hx hb hK hP 1 1 rfl rfl (vin_nat (by omega) (by omega)) et_11 dX1_toneAt_57 ?_
            refine lv_goto (tgt := 62) hx hb dX1_toneAt_58 (by decide) ?_
            exact ret _ _ _ dX1_toneAt_62 trivial
      · have c_5 : v1.toInt < v0_behind.toInt := ci_ge_f c_5
        have b_v0_behind := i32b v0_behind
        refine lv_iload_n hx hb dX1_toneAt_23 rfl (lv_at hl 2 rfl) ?_
        refine lv_goto (tgt := 40) hx hb dX1_toneAt_24 (by decide) ?_
        refine lv_istore_n (lv' := [(3, .int v1), (2, .int r_1), (0, .ref h0), (1, .int v1)]) hx hb dX1_toneAt_40 rfl hl (by decide) rfl (fun ls hl => ?_)
        refine lv_iload_n hx hb dX1_toneAt_41 rfl (lv_at hl 0 rfl) ?_
        refine lv_if_lt (tgt := 61) hx hb dX1_toneAt_42 (by decide) (fun c_12 => ?_) (fun c_12 => ?_)
        · have c_12 : v1.toInt < 0 := ci_lt_t c_12
          exfalso
          omega
        · have c_12 : 0 ≤ v1.toInt := ci_lt_f c_12
          refine lv_iload_n hx hb dX1_toneAt_45 rfl (lv_at hl 0 rfl) ?_
          refine lv_sipush (v := 648) hx hb dX1_toneAt_46 (by decide) ?_
          refine lv_icmp_ge (tgt := 61) hx hb dX1_toneAt_49 (by decide) (fun c_13 => ?_) (fun c_13 => ?_)
          · have c_13 : 648 ≤ v1.toInt := ci_ge_t c_13
            refine lv_iconst (v := (-1)) hx hb dX1_toneAt_61 (by decide) ?_
            exact ret _ _ _ dX1_toneAt_62 trivial
          · have c_13 : v1.toInt < 648 := ci_ge_f c_13
            refine lv_aload_n hx hb dX1_toneAt_52 rfl (lv_at hl 2 rfl) ?_
            refine va_get (D := D) (ci := 1) (v := .ref h_tones) (C := RX1) (T := TX1) (N := 5) hx hb hts inlX1 hown hK hP 0 rfl rfl 1 (by decide) (hts _ (inr5 _ (List.mem_of_getElem? (i := 10) rfl))) (fun _ h9 => h9) rfl dX1_toneAt_53 ?_
            refine lv_iload_n hx hb dX1_toneAt_56 rfl (lv_at hl 0 rfl) ?_
            obtain ⟨t_14, et_14⟩ : ∃ v9 : Int32, f_tones (v1 : Int32).toNatClampNeg = v9 := ⟨_, rfl⟩
            refine z_iald (v := t_14) hx hb hK hP 1 1 rfl rfl (vin_nat (by omega) (by omega)) et_14 dX1_toneAt_57 ?_
            refine lv_goto (tgt := 62) hx hb dX1_toneAt_58 (by decide) ?_
            exact ret _ _ _ dX1_toneAt_62 trivial
    · have c_4 : v1.toInt < 0 := ci_ge_f c_4
      have b_v1 := i32b v1
      refine lv_iconst (v := (-1)) hx hb dX1_toneAt_13 (by decide) ?_
      exact ret _ _ _ dX1_toneAt_14 trivial

set_option maxHeartbeats 4000000 in
set_option maxRecDepth 100000 in
theorem b_X2_toneAtEnd (l : Launch) (G : Gho) (D : va_G) (cB cI cJ cZ cS cT : ClassId) (h0 : Nat) (v0_x : Int64) (v0_tone : Int32) (v0_lost : Int32) (v0_answer : Int32)  : Met l yX2_toneAtEnd (Cond.code yX2_toneAtEnd cX2_toneAtEnd 1 (some .int) :: wsL_law) ({ frames := 0, cells := 0, slots := 0, locals := 0 }) (roP G D (tyL cB cI cJ cZ cS cT) [(h0, .inr (2, [.long v0_x, .int v0_tone, .int v0_lost, .int v0_answer]))] [.ref h0]) (vp_Si (fun r : Int32 => (r = v0_tone))) 0 0 (fun _ => False) := by
  refine metRO (own := RX2) (by decide) rfl ?_
  intro p e s m below meth c Q C hP ret
  obtain ⟨hx, hb, hml, hown, hts, hK, hN, hT⟩ := id C
  have hl := lv_entry ([.ref h0]) (n := 1) (Nat.le_of_ble_eq_true rfl)
  rw [lg_entry_eq]
  generalize (lg_sl ([.ref h0]) ++ List.replicate (1 - (lg_sl ([.ref h0])).length) Slot.unset).toArray = ls at hl ⊢
  have hl : lv_has ls 1 [(0, .ref h0)] := hl
  have hP : va_P D vwCl [(h0, .inr (2, [.long v0_x, .int v0_tone, .int v0_lost, .int v0_answer]))] s.heap := hP
  refine lv_aload_n hx hb dX2_toneAtEnd_0 rfl (lv_at hl 0 rfl) ?_
  refine va_get (D := D) (ci := 2) (v := .int v0_tone) (C := RX2) (T := TX2) (N := 4) hx hb hts inlX2 hown hK hP 0 rfl rfl 1 (by decide) (hts _ (inr68 _ (List.mem_of_getElem? (i := 13) rfl))) (fun _ h9 => h9) rfl dX2_toneAtEnd_1 ?_
  exact ret _ _ _ dX2_toneAtEnd_4 (show (v0_tone = v0_tone) from rfl)

set_option maxHeartbeats 4000000 in
set_option maxRecDepth 100000 in
theorem b_X2_answersLost (l : Launch) (G : Gho) (D : va_G) (cB cI cJ cZ cS cT : ClassId) (h0 : Nat) (v0_x : Int64) (v0_tone : Int32) (v0_lost : Int32) (v0_answer : Int32)  : Met l yX2_answersLost (Cond.code yX2_answersLost cX2_answersLost 1 (some .int) :: wsL_law) ({ frames := 0, cells := 0, slots := 0, locals := 0 }) (roP G D (tyL cB cI cJ cZ cS cT) [(h0, .inr (2, [.long v0_x, .int v0_tone, .int v0_lost, .int v0_answer]))] [.ref h0]) (vp_Si (fun r : Int32 => (r = v0_lost))) 0 0 (fun _ => False) := by
  refine metRO (own := RX2) (by decide) rfl ?_
  intro p e s m below meth c Q C hP ret
  obtain ⟨hx, hb, hml, hown, hts, hK, hN, hT⟩ := id C
  have hl := lv_entry ([.ref h0]) (n := 1) (Nat.le_of_ble_eq_true rfl)
  rw [lg_entry_eq]
  generalize (lg_sl ([.ref h0]) ++ List.replicate (1 - (lg_sl ([.ref h0])).length) Slot.unset).toArray = ls at hl ⊢
  have hl : lv_has ls 1 [(0, .ref h0)] := hl
  have hP : va_P D vwCl [(h0, .inr (2, [.long v0_x, .int v0_tone, .int v0_lost, .int v0_answer]))] s.heap := hP
  refine lv_aload_n hx hb dX2_answersLost_0 rfl (lv_at hl 0 rfl) ?_
  refine va_get (D := D) (ci := 2) (v := .int v0_lost) (C := RX2) (T := TX2) (N := 4) hx hb hts inlX2 hown hK hP 0 rfl rfl 2 (by decide) (hts _ (inr68 _ (List.mem_of_getElem? (i := 14) rfl))) (fun _ h9 => h9) rfl dX2_answersLost_1 ?_
  exact ret _ _ _ dX2_answersLost_4 (show (v0_lost = v0_lost) from rfl)

set_option maxHeartbeats 4000000 in
set_option maxRecDepth 100000 in
theorem b_X2_answerBehind (l : Launch) (G : Gho) (D : va_G) (cB cI cJ cZ cS cT : ClassId) (h0 : Nat) (v0_x : Int64) (v0_tone : Int32) (v0_lost : Int32) (v0_answer : Int32)  : Met l yX2_answerBehind (Cond.code yX2_answerBehind cX2_answerBehind 1 (some .int) :: wsL_law) ({ frames := 0, cells := 0, slots := 0, locals := 0 }) (roP G D (tyL cB cI cJ cZ cS cT) [(h0, .inr (2, [.long v0_x, .int v0_tone, .int v0_lost, .int v0_answer]))] [.ref h0]) (vp_Si (fun r : Int32 => (r = v0_answer))) 0 0 (fun _ => False) := by
  refine metRO (own := RX2) (by decide) rfl ?_
  intro p e s m below meth c Q C hP ret
  obtain ⟨hx, hb, hml, hown, hts, hK, hN, hT⟩ := id C
  have hl := lv_entry ([.ref h0]) (n := 1) (Nat.le_of_ble_eq_true rfl)
  rw [lg_entry_eq]
  generalize (lg_sl ([.ref h0]) ++ List.replicate (1 - (lg_sl ([.ref h0])).length) Slot.unset).toArray = ls at hl ⊢
  have hl : lv_has ls 1 [(0, .ref h0)] := hl
  have hP : va_P D vwCl [(h0, .inr (2, [.long v0_x, .int v0_tone, .int v0_lost, .int v0_answer]))] s.heap := hP
  refine lv_aload_n hx hb dX2_answerBehind_0 rfl (lv_at hl 0 rfl) ?_
  refine va_get (D := D) (ci := 2) (v := .int v0_answer) (C := RX2) (T := TX2) (N := 4) hx hb hts inlX2 hown hK hP 0 rfl rfl 3 (by decide) (hts _ (inr68 _ (List.mem_of_getElem? (i := 15) rfl))) (fun _ h9 => h9) rfl dX2_answerBehind_1 ?_
  exact ret _ _ _ dX2_answerBehind_4 (show (v0_answer = v0_answer) from rfl)

set_option maxHeartbeats 4000000 in
set_option maxRecDepth 100000 in
theorem b_X2_nextDraw (l : Launch) (G : Gho) (D : va_G) (cB cI cJ cZ cS cT : ClassId) (sz : Nat) (h0 : Nat) (v0_x : Int64) (v0_tone : Int32) (v0_lost : Int32) (v0_answer : Int32)  : Met l yX2_nextDraw (Cond.code yX2_nextDraw cX2_nextDraw 1 (some .int) :: wsL_law) ({ frames := 0, cells := 0, slots := 0, locals := 0 }) (wrP G D (tyL cB cI cJ cZ cS cT) [(h0, .inr (2, [.long v0_x, .int v0_tone, .int v0_lost, .int v0_answer]))] sz [.ref h0]) (va_Qi (fun (r : Int32) (x : Int64) => True) (atW D (tyL cB cI cJ cZ cS cT) (va_A [(h0, .inr (2, [.long v0_x, .int v0_tone, .int v0_lost, .int v0_answer]))] sz) (fun x : Int64 => [(h0, .inr (2, [.long x, .int v0_tone, .int v0_lost, .int v0_answer]))])) (va_A [(h0, .inr (2, [.long v0_x, .int v0_tone, .int v0_lost, .int v0_answer]))] sz)) 0 0 (va_A [(h0, .inr (2, [.long v0_x, .int v0_tone, .int v0_lost, .int v0_answer]))] sz) := by
  refine metI (own := RX2) (by decide) rfl ?_
  intro p e s m below meth c Q hsz C hG hP hD hAB ret
  obtain ⟨hx, hb, hml, hown, hts, hK, hN, hT⟩ := id C
  subst hsz
  generalize hAe : va_A [(h0, .inr (2, [.long v0_x, .int v0_tone, .int v0_lost, .int v0_answer]))] s.heap.size = A at hD hAB ret ⊢
  have hA : ∀ q : Nat, s.heap.size ≤ q → A q := fun q h => by rw [← hAe]; exact Or.inr h
  have hS : va_S A s.heap s.heap [] := va_S.rf
  have hl := lv_entry ([.ref h0]) (n := 1) (Nat.le_of_ble_eq_true rfl)
  rw [lg_entry_eq]
  generalize (lg_sl ([.ref h0]) ++ List.replicate (1 - (lg_sl ([.ref h0])).length) Slot.unset).toArray = ls at hl ⊢
  have hl : lv_has ls 1 [(0, .ref h0)] := hl
  have hP : va_P D vwCl [(h0, .inr (2, [.long v0_x, .int v0_tone, .int v0_lost, .int v0_answer]))] s.heap := hP
  refine lv_aload_n hx hb dX2_nextDraw_0 rfl (lv_at hl 0 rfl) ?_
  refine lv_ldc2 hx hb hown (hts _ (inr69 _ (List.mem_of_getElem? (i := 4) rfl))) dX2_nextDraw_1 ?_
  refine lv_aload_n hx hb dX2_nextDraw_4 rfl (lv_at hl 0 rfl) ?_
  refine va_get (D := D) (ci := 2) (v := .long v0_x) (C := RX2) (T := TX2) (N := 4) hx hb hts inlX2 hown hK hP 0 rfl rfl 0 (by decide) (hts _ (inr68 _ (List.mem_of_getElem? (i := 12) rfl))) (fun _ h9 => h9) rfl dX2_nextDraw_5 ?_
  obtain ⟨t_1, et_1⟩ : ∃ v9 : Int64, 1103515245 * v0_x = v9 := ⟨_, rfl⟩
  refine z_lmul (v := t_1) hx hb dX2_nextDraw_8 et_1 ?_
  refine lv_ldc2 hx hb hown (hts _ (inr69 _ (List.mem_of_getElem? (i := 5) rfl))) dX2_nextDraw_9 ?_
  obtain ⟨t_2, et_2⟩ : ∃ v9 : Int64, t_1 + 12345 = v9 := ⟨_, rfl⟩
  refine z_ladd (v := t_2) hx hb dX2_nextDraw_12 et_2 ?_
  refine lv_ldc2 hx hb hown (hts _ (inr69 _ (List.mem_of_getElem? (i := 6) rfl))) dX2_nextDraw_13 ?_
  obtain ⟨t_3, et_3⟩ : ∃ v9 : Int64, t_2 - t_2 / 2147483648 * 2147483648 = v9 := ⟨_, rfl⟩
  refine z_lrem (v := t_3) hx hb dX2_nextDraw_16 (by decide) et_3 ?_
  refine va_put (D := D) (ci := 2) (v := .long t_3) (ty := .long) (C := RX2) (T := TX2) (N := 4) hx hb hts inlX2 tyX2 tyX2_ok nmX2 hown hK hP hD hS 0 rfl rfl 0 (by decide) (hts _ (inr68 _ (List.mem_of_getElem? (i := 12) rfl))) (fun _ h9 => h9) rfl (by decide +kernel) rfl rfl (Nat.le_of_ble_eq_true rfl) dX2_nextDraw_17 (fun H locs hP hD hS => ?_)
  have hP : va_P D vwCl [(h0, .inr (2, [.long t_3, .int v0_tone, .int v0_lost, .int v0_answer]))] H := hP
  have hD : va_D A [(h0, .inr (2, [.long t_3, .int v0_tone, .int v0_lost, .int v0_answer]))] := hD
  refine lv_aload_n hx hb dX2_nextDraw_20 rfl (lv_at hl 0 rfl) ?_
  refine va_get (D := D) (ci := 2) (v := .long t_3) (C := RX2) (T := TX2) (N := 4) hx hb hts inlX2 hown hK hP 0 rfl rfl 0 (by decide) (hts _ (inr68 _ (List.mem_of_getElem? (i := 12) rfl))) (fun _ h9 => h9) rfl dX2_nextDraw_21 ?_
  refine lv_ldc2 hx hb hown (hts _ (inr69 _ (List.mem_of_getElem? (i := 7) rfl))) dX2_nextDraw_24 ?_
  obtain ⟨t_4, et_4⟩ : ∃ v9 : Int64, t_3 / 65536 = v9 := ⟨_, rfl⟩
  refine z_ldiv (v := t_4) hx hb dX2_nextDraw_27 (by decide) et_4 ?_
  refine lv_ldc2 hx hb hown (hts _ (inr69 _ (List.mem_of_getElem? (i := 8) rfl))) dX2_nextDraw_28 ?_
  obtain ⟨t_5, et_5⟩ : ∃ v9 : Int64, t_4 - t_4 / 10 * 10 = v9 := ⟨_, rfl⟩
  refine z_lrem (v := t_5) hx hb dX2_nextDraw_31 (by decide) et_5 ?_
  obtain ⟨t_6, et_6⟩ : ∃ v9 : Int32, (t_5 : Int64).toInt32 = v9 := ⟨_, rfl⟩
  refine lv_l2i (v := t_6) hx hb dX2_nextDraw_32 et_6 ?_
  exact ret _ _ _ _ _ t_3 dX2_nextDraw_33 trivial (hP.sub [0] rfl) (hD.sub [0] (by decide) rfl) hS

set_option maxHeartbeats 4000000 in
set_option maxRecDepth 100000 in
theorem b_X8_acts (l : Launch) (G : Gho) (D : va_G) (cB cI cJ cZ cS cT : ClassId) (h0 : Nat) (v0_tones : Int32) (v0_a : Int32) (v0_b : Int32) (v0_c : Int32) (v0_d : Int32) (v0_odds : Int32) (v0_lines : Int32) (h_signs : Nat) (v0_signCount : Int32) (h_posts : Nat) (v0_postCount : Int32) (h_acts : Nat) (iv0_signCount : 0 ≤ v0_signCount.toInt ∧ v0_signCount.toInt ≤ 8) (iv0_postCount : 0 ≤ v0_postCount.toInt ∧ v0_postCount.toInt ≤ 5) : Met l yX8_acts (Cond.code yX8_acts cX8_acts 1 (some (.object "IntervalSignal$Acts")) :: wsL_law) ({ frames := 0, cells := 0, slots := 0, locals := 0 }) (roP G D (tyL cB cI cJ cZ cS cT) [(h0, .inr (8, [.int v0_tones, .int v0_a, .int v0_b, .int v0_c, .int v0_d, .int v0_odds, .int v0_lines, .ref h_signs, .int v0_signCount, .ref h_posts, .int v0_postCount, .ref h_acts]))] [.ref h0]) (va_Sq (fun r : Option Nat => (r = some h_acts))) 0 0 (fun _ => False) := by
  refine metROQ (own := RX8) (by decide) rfl ?_
  intro p e s m below meth c Q C hP ret
  obtain ⟨hx, hb, hml, hown, hts, hK, hN, hT⟩ := id C
  have hl := lv_entry ([.ref h0]) (n := 1) (Nat.le_of_ble_eq_true rfl)
  rw [lg_entry_eq]
  generalize (lg_sl ([.ref h0]) ++ List.replicate (1 - (lg_sl ([.ref h0])).length) Slot.unset).toArray = ls at hl ⊢
  have hl : lv_has ls 1 [(0, .ref h0)] := hl
  have hP : va_P D vwCl [(h0, .inr (8, [.int v0_tones, .int v0_a, .int v0_b, .int v0_c, .int v0_d, .int v0_odds, .int v0_lines, .ref h_signs, .int v0_signCount, .ref h_posts, .int v0_postCount, .ref h_acts]))] s.heap := hP
  refine lv_aload_n hx hb dX8_acts_0 rfl (lv_at hl 0 rfl) ?_
  refine va_get (D := D) (ci := 8) (v := .ref h_acts) (C := RX8) (T := TX8) (N := 12) hx hb hts inlX8 hown hK hP 0 rfl rfl 11 (by decide) (hts _ (inr4 _ (List.mem_of_getElem? (i := 6) rfl))) (fun _ h9 => h9) rfl dX8_acts_1 ?_
  exact ret _ _ _ dX8_acts_4 (show ((some h_acts) = some h_acts) from rfl)

set_option maxHeartbeats 4000000 in
set_option maxRecDepth 100000 in
theorem b_X8_odds (l : Launch) (G : Gho) (D : va_G) (cB cI cJ cZ cS cT : ClassId) (h0 : Nat) (v0_tones : Int32) (v0_a : Int32) (v0_b : Int32) (v0_c : Int32) (v0_d : Int32) (v0_odds : Int32) (v0_lines : Int32) (h_signs : Nat) (v0_signCount : Int32) (h_posts : Nat) (v0_postCount : Int32) (h_acts : Nat) (iv0_signCount : 0 ≤ v0_signCount.toInt ∧ v0_signCount.toInt ≤ 8) (iv0_postCount : 0 ≤ v0_postCount.toInt ∧ v0_postCount.toInt ≤ 5) : Met l yX8_odds (Cond.code yX8_odds cX8_odds 1 (some .int) :: wsL_law) ({ frames := 0, cells := 0, slots := 0, locals := 0 }) (roP G D (tyL cB cI cJ cZ cS cT) [(h0, .inr (8, [.int v0_tones, .int v0_a, .int v0_b, .int v0_c, .int v0_d, .int v0_odds, .int v0_lines, .ref h_signs, .int v0_signCount, .ref h_posts, .int v0_postCount, .ref h_acts]))] [.ref h0]) (vp_Si (fun r : Int32 => (r = v0_odds))) 0 0 (fun _ => False) := by
  refine metRO (own := RX8) (by decide) rfl ?_
  intro p e s m below meth c Q C hP ret
  obtain ⟨hx, hb, hml, hown, hts, hK, hN, hT⟩ := id C
  have hl := lv_entry ([.ref h0]) (n := 1) (Nat.le_of_ble_eq_true rfl)
  rw [lg_entry_eq]
  generalize (lg_sl ([.ref h0]) ++ List.replicate (1 - (lg_sl ([.ref h0])).length) Slot.unset).toArray = ls at hl ⊢
  have hl : lv_has ls 1 [(0, .ref h0)] := hl
  have hP : va_P D vwCl [(h0, .inr (8, [.int v0_tones, .int v0_a, .int v0_b, .int v0_c, .int v0_d, .int v0_odds, .int v0_lines, .ref h_signs, .int v0_signCount, .ref h_posts, .int v0_postCount, .ref h_acts]))] s.heap := hP
  refine lv_aload_n hx hb dX8_odds_0 rfl (lv_at hl 0 rfl) ?_
  refine va_get (D := D) (ci := 8) (v := .int v0_odds) (C := RX8) (T := TX8) (N := 12) hx hb hts inlX8 hown hK hP 0 rfl rfl 5 (by decide) (hts _ (inr10 _ (List.mem_of_getElem? (i := 6) rfl))) (fun _ h9 => h9) rfl dX8_odds_1 ?_
  exact ret _ _ _ dX8_odds_4 (show (v0_odds = v0_odds) from rfl)

set_option maxHeartbeats 4000000 in
set_option maxRecDepth 100000 in
theorem b_X2_drawAnswer (l : Launch) (G : Gho) (D : va_G) (cB cI cJ cZ cS cT : ClassId) (sz : Nat) (h0 : Nat) (v0_x : Int64) (v0_tone : Int32) (v0_lost : Int32) (v0_answer : Int32) (h_a1 : Nat) (v_a1_tones : Int32) (v_a1_a : Int32) (v_a1_b : Int32) (v_a1_c : Int32) (v_a1_d : Int32) (v_a1_odds : Int32) (v_a1_lines : Int32) (h_a1_signs : Nat) (v_a1_signCount : Int32) (h_a1_posts : Nat) (v_a1_postCount : Int32) (h_a1_acts : Nat) (h_a1_acts_over : Nat) (h_a1_acts_steps : Nat) (h_a1_acts_before : Nat) (v_a1_acts_size : Int32) (f_a1_acts_over : Nat → Int32) (v2 : Int32) (iv_a1_signCount : 0 ≤ v_a1_signCount.toInt ∧ v_a1_signCount.toInt ≤ 8) (iv_a1_postCount : 0 ≤ v_a1_postCount.toInt ∧ v_a1_postCount.toInt ≤ 5) (iv_a1_acts_size : 0 ≤ v_a1_acts_size.toInt ∧ v_a1_acts_size.toInt ≤ 30) : Met l yX2_drawAnswer (Cond.code yX2_drawAnswer cX2_drawAnswer 3 none :: wsL_law) ({ frames := 1, cells := 0, slots := 0, locals := 21 }) (wrP G D (tyL cB cI cJ cZ cS cT) [(h0, .inr (2, [.long v0_x, .int v0_tone, .int v0_lost, .int v0_answer])), (h_a1, .inr (8, [.int v_a1_tones, .int v_a1_a, .int v_a1_b, .int v_a1_c, .int v_a1_d, .int v_a1_odds, .int v_a1_lines, .ref h_a1_signs, .int v_a1_signCount, .ref h_a1_posts, .int v_a1_postCount, .ref h_a1_acts])), (h_a1_acts, .inr (0, [.ref h_a1_acts_over, .ref h_a1_acts_steps, .ref h_a1_acts_before, .int v_a1_acts_size])), (h_a1_acts_over, .inl (cI, 61, .inl f_a1_acts_over))] sz [.ref h0, .ref h_a1, .int v2]) (va_Qv (fun x : Int64 × Int32 × Int32 × Int32 => True) (atW D (tyL cB cI cJ cZ cS cT) (va_A [(h0, .inr (2, [.long v0_x, .int v0_tone, .int v0_lost, .int v0_answer])), (h_a1, .inr (8, [.int v_a1_tones, .int v_a1_a, .int v_a1_b, .int v_a1_c, .int v_a1_d, .int v_a1_odds, .int v_a1_lines, .ref h_a1_signs, .int v_a1_signCount, .ref h_a1_posts, .int v_a1_postCount, .ref h_a1_acts])), (h_a1_acts, .inr (0, [.ref h_a1_acts_over, .ref h_a1_acts_steps, .ref h_a1_acts_before, .int v_a1_acts_size])), (h_a1_acts_over, .inl (cI, 61, .inl f_a1_acts_over))] sz) (fun x : Int64 × Int32 × Int32 × Int32 => [(h0, .inr (2, [.long x.1, .int x.2.1, .int x.2.2.1, .int x.2.2.2])), (h_a1, .inr (8, [.int v_a1_tones, .int v_a1_a, .int v_a1_b, .int v_a1_c, .int v_a1_d, .int v_a1_odds, .int v_a1_lines, .ref h_a1_signs, .int v_a1_signCount, .ref h_a1_posts, .int v_a1_postCount, .ref h_a1_acts])), (h_a1_acts, .inr (0, [.ref h_a1_acts_over, .ref h_a1_acts_steps, .ref h_a1_acts_before, .int v_a1_acts_size])), (h_a1_acts_over, .inl (cI, 61, .inl f_a1_acts_over))])) (va_A [(h0, .inr (2, [.long v0_x, .int v0_tone, .int v0_lost, .int v0_answer])), (h_a1, .inr (8, [.int v_a1_tones, .int v_a1_a, .int v_a1_b, .int v_a1_c, .int v_a1_d, .int v_a1_odds, .int v_a1_lines, .ref h_a1_signs, .int v_a1_signCount, .ref h_a1_posts, .int v_a1_postCount, .ref h_a1_acts])), (h_a1_acts, .inr (0, [.ref h_a1_acts_over, .ref h_a1_acts_steps, .ref h_a1_acts_before, .int v_a1_acts_size])), (h_a1_acts_over, .inl (cI, 61, .inl f_a1_acts_over))] sz)) 0 0 (va_A [(h0, .inr (2, [.long v0_x, .int v0_tone, .int v0_lost, .int v0_answer])), (h_a1, .inr (8, [.int v_a1_tones, .int v_a1_a, .int v_a1_b, .int v_a1_c, .int v_a1_d, .int v_a1_odds, .int v_a1_lines, .ref h_a1_signs, .int v_a1_signCount, .ref h_a1_posts, .int v_a1_postCount, .ref h_a1_acts])), (h_a1_acts, .inr (0, [.ref h_a1_acts_over, .ref h_a1_acts_steps, .ref h_a1_acts_before, .int v_a1_acts_size])), (h_a1_acts_over, .inl (cI, 61, .inl f_a1_acts_over))] sz) := by
  refine metV (own := RX2) (by decide) rfl ?_
  intro p e s m below meth c Q hsz C hG hP hD hAB ret
  obtain ⟨hx, hb, hml, hown, hts, hK, hN, hT⟩ := id C
  subst hsz
  generalize hAe : va_A [(h0, .inr (2, [.long v0_x, .int v0_tone, .int v0_lost, .int v0_answer])), (h_a1, .inr (8, [.int v_a1_tones, .int v_a1_a, .int v_a1_b, .int v_a1_c, .int v_a1_d, .int v_a1_odds, .int v_a1_lines, .ref h_a1_signs, .int v_a1_signCount, .ref h_a1_posts, .int v_a1_postCount, .ref h_a1_acts])), (h_a1_acts, .inr (0, [.ref h_a1_acts_over, .ref h_a1_acts_steps, .ref h_a1_acts_before, .int v_a1_acts_size])), (h_a1_acts_over, .inl (cI, 61, .inl f_a1_acts_over))] s.heap.size = A at hD hAB ret ⊢
  have hA : ∀ q : Nat, s.heap.size ≤ q → A q := fun q h => by rw [← hAe]; exact Or.inr h
  have hS : va_S A s.heap s.heap [] := va_S.rf
  have hl := lv_entry ([.ref h0, .ref h_a1, .int v2]) (n := 3) (Nat.le_of_ble_eq_true rfl)
  rw [lg_entry_eq]
  generalize (lg_sl ([.ref h0, .ref h_a1, .int v2]) ++ List.replicate (3 - (lg_sl ([.ref h0, .ref h_a1, .int v2])).length) Slot.unset).toArray = ls at hl ⊢
  have hl : lv_has ls 3 [(0, .ref h0), (1, .ref h_a1), (2, .int v2)] := hl
  have hP : va_P D vwCl [(h0, .inr (2, [.long v0_x, .int v0_tone, .int v0_lost, .int v0_answer])), (h_a1, .inr (8, [.int v_a1_tones, .int v_a1_a, .int v_a1_b, .int v_a1_c, .int v_a1_d, .int v_a1_odds, .int v_a1_lines, .ref h_a1_signs, .int v_a1_signCount, .ref h_a1_posts, .int v_a1_postCount, .ref h_a1_acts])), (h_a1_acts, .inr (0, [.ref h_a1_acts_over, .ref h_a1_acts_steps, .ref h_a1_acts_before, .int v_a1_acts_size])), (h_a1_acts_over, .inl (cI, 61, .inl f_a1_acts_over))] s.heap := hP
  refine lv_aload_n hx hb dX2_drawAnswer_0 rfl (lv_at hl 1 rfl) ?_
  refine roq (As := []) (rest := []) ⟨hx, hb, hml, hown, hts⟩ (b_X8_acts l G D cB cI cJ cZ cS cT h_a1 v_a1_tones v_a1_a v_a1_b v_a1_c v_a1_d v_a1_odds v_a1_lines h_a1_signs v_a1_signCount h_a1_posts v_a1_postCount h_a1_acts (by first | assumption | omega | decide) (by first | assumption | omega | decide)) (cvB (n := 0) (inr68 _ (List.mem_of_getElem? (i := 22) rfl)) (inr36 _ (List.mem_of_getElem? (i := 4) rfl)) (inr36 _ (List.mem_of_getElem? (i := 5) rfl)) (inr1 _ (List.mem_of_getElem? (i := 23) rfl)) (inr36 _ (List.mem_of_getElem? (i := 6) rfl)) (by decide +kernel) hts rfl rfl ⟨Nat.le_of_ble_eq_true rfl, Nat.le_of_ble_eq_true rfl⟩) 0 8 rfl rfl rfl (hP.sub [1] rfl) hK hN (kT.to hT hS hAB) rfl hl.1 rfl (Nat.le_of_ble_eq_true rfl) ⟨Nat.le_of_ble_eq_true rfl, Nat.le_of_ble_eq_true rfl⟩ dX2_drawAnswer_1 (fun r_1 h_2 => ?_)
  have h_2 : (r_1 = some h_a1_acts) := h_2
  have i_3 := h_2
  obtain rfl := i_3
  refine W.eq (g2 := F0 m 4 ls [.ref h_a1_acts]) rfl ?_
  refine lv_iload_n hx hb dX2_drawAnswer_4 rfl (lv_at hl 2 rfl) ?_
  refine roi (As := [.int v2]) (rest := []) ⟨hx, hb, hml, hown, hts⟩ (b_X0_overStep l G D cB cI cJ cZ cS cT h_a1_acts h_a1_acts_over h_a1_acts_steps h_a1_acts_before v_a1_acts_size f_a1_acts_over v2 (by first | assumption | omega | decide)) (cvB (n := 1) (inr68 _ (List.mem_of_getElem? (i := 23) rfl)) (inr23 _ (List.mem_of_getElem? (i := 4) rfl)) (inr23 _ (List.mem_of_getElem? (i := 5) rfl)) (inr4 _ (List.mem_of_getElem? (i := 5) rfl)) (inr23 _ (List.mem_of_getElem? (i := 6) rfl)) (by decide +kernel) hts rfl rfl ⟨Nat.le_of_ble_eq_true rfl, Nat.le_of_ble_eq_true rfl⟩) 0 0 rfl rfl rfl (hP.sub [2, 3] rfl) hK hN (kT.to hT hS hAB) rfl hl.1 rfl (Nat.le_of_ble_eq_true rfl) ⟨Nat.le_of_ble_eq_true rfl, Nat.le_of_ble_eq_true rfl⟩ dX2_drawAnswer_5 (fun r_4 h_5 => ?_)
  refine lv_iconst (v := (-1)) hx hb dX2_drawAnswer_8 (by decide) ?_
  refine lv_icmp_ne (tgt := 41) hx hb dX2_drawAnswer_9 (by decide) (fun c_6 => ?_) (fun c_6 => ?_)
  · have c_6 : ¬ r_4.toInt = (-1) := ci_ne_t c_6
    have b_r_4 := i32b r_4
    refine lv_aload_n hx hb dX2_drawAnswer_41 rfl (lv_at hl 0 rfl) ?_
    refine lv_aload_n hx hb dX2_drawAnswer_42 rfl (lv_at hl 0 rfl) ?_
    refine va_get (D := D) (ci := 2) (v := .int v0_tone) (C := RX2) (T := TX2) (N := 4) hx hb hts inlX2 hown hK hP 0 rfl rfl 1 (by decide) (hts _ (inr68 _ (List.mem_of_getElem? (i := 13) rfl))) (fun _ h9 => h9) rfl dX2_drawAnswer_43 ?_
    refine va_put (D := D) (ci := 2) (v := .int v0_tone) (ty := .int) (C := RX2) (T := TX2) (N := 4) hx hb hts inlX2 tyX2 tyX2_ok nmX2 hown hK hP hD hS 0 rfl rfl 3 (by decide) (hts _ (inr68 _ (List.mem_of_getElem? (i := 15) rfl))) (fun _ h9 => h9) rfl (by decide +kernel) rfl rfl (Nat.le_of_ble_eq_true rfl) dX2_drawAnswer_46 (fun H locs hP hD hS => ?_)
    have hP : va_P D vwCl [(h0, .inr (2, [.long v0_x, .int v0_tone, .int v0_lost, .int v0_tone])), (h_a1, .inr (8, [.int v_a1_tones, .int v_a1_a, .int v_a1_b, .int v_a1_c, .int v_a1_d, .int v_a1_odds, .int v_a1_lines, .ref h_a1_signs, .int v_a1_signCount, .ref h_a1_posts, .int v_a1_postCount, .ref h_a1_acts])), (h_a1_acts, .inr (0, [.ref h_a1_acts_over, .ref h_a1_acts_steps, .ref h_a1_acts_before, .int v_a1_acts_size])), (h_a1_acts_over, .inl (cI, 61, .inl f_a1_acts_over))] H := hP
    have hD : va_D A [(h0, .inr (2, [.long v0_x, .int v0_tone, .int v0_lost, .int v0_tone])), (h_a1, .inr (8, [.int v_a1_tones, .int v_a1_a, .int v_a1_b, .int v_a1_c, .int v_a1_d, .int v_a1_odds, .int v_a1_lines, .ref h_a1_signs, .int v_a1_signCount, .ref h_a1_posts, .int v_a1_postCount, .ref h_a1_acts])), (h_a1_acts, .inr (0, [.ref h_a1_acts_over, .ref h_a1_acts_steps, .ref h_a1_acts_before, .int v_a1_acts_size])), (h_a1_acts_over, .inl (cI, 61, .inl f_a1_acts_over))] := hD
    exact ret _ _ _ _ (v0_x, v0_tone, v0_lost, v0_tone) dX2_drawAnswer_49 trivial (hP.sub [0, 1, 2, 3] rfl) (hD.sub [0, 1, 2, 3] (by decide) rfl) hS
  · have c_6 : r_4.toInt = (-1) := ci_ne_f c_6
    have b_r_4 := i32b r_4
    refine lv_aload_n hx hb dX2_drawAnswer_12 rfl (lv_at hl 0 rfl) ?_
    refine wrVi (As := []) (rest := []) (wr := [(h_a1, .inr (8, [.int v_a1_tones, .int v_a1_a, .int v_a1_b, .int v_a1_c, .int v_a1_d, .int v_a1_odds, .int v_a1_lines, .ref h_a1_signs, .int v_a1_signCount, .ref h_a1_posts, .int v_a1_postCount, .ref h_a1_acts])), (h_a1_acts, .inr (0, [.ref h_a1_acts_over, .ref h_a1_acts_steps, .ref h_a1_acts_before, .int v_a1_acts_size])), (h_a1_acts_over, .inl (cI, 61, .inl f_a1_acts_over))]) ⟨hx, hb, hml, hown, hts⟩ (b_X2_nextDraw l G D cB cI cJ cZ cS cT s.heap.size h0 v0_x v0_tone v0_lost v0_answer ) hP hD hS hA hK hN hT hAB hG [0] [1, 2, 3] rfl rfl (by decide) (by decide) (by decide) (cvB (n := 0) (inr69 _ (List.mem_of_getElem? (i := 0) rfl)) (inr69 _ (List.mem_of_getElem? (i := 1) rfl)) (inr69 _ (List.mem_of_getElem? (i := 2) rfl)) (inr3 _ (List.mem_of_getElem? (i := 8) rfl)) (inr69 _ (List.mem_of_getElem? (i := 3) rfl)) (by decide +kernel) hts rfl rfl ⟨Nat.le_of_ble_eq_true rfl, Nat.le_of_ble_eq_true rfl⟩) 0 2 rfl rfl rfl rfl hl.1 rfl (Nat.le_of_ble_eq_true rfl) ⟨Nat.le_of_ble_eq_true rfl, Nat.le_of_ble_eq_true rfl⟩ dX2_drawAnswer_13 (fun r_7 x9 H locs h_8 hP hD hS => ?_)
    obtain ⟨t_9, rfl⟩ : ∃ z, z = x9 := ⟨_, rfl⟩
    have hP : va_P D vwCl [(h_a1, .inr (8, [.int v_a1_tones, .int v_a1_a, .int v_a1_b, .int v_a1_c, .int v_a1_d, .int v_a1_odds, .int v_a1_lines, .ref h_a1_signs, .int v_a1_signCount, .ref h_a1_posts, .int v_a1_postCount, .ref h_a1_acts])), (h_a1_acts, .inr (0, [.ref h_a1_acts_over, .ref h_a1_acts_steps, .ref h_a1_acts_before, .int v_a1_acts_size])), (h_a1_acts_over, .inl (cI, 61, .inl f_a1_acts_over)), (h0, .inr (2, [.long t_9, .int v0_tone, .int v0_lost, .int v0_answer]))] H := hP
    have hD : va_D A [(h_a1, .inr (8, [.int v_a1_tones, .int v_a1_a, .int v_a1_b, .int v_a1_c, .int v_a1_d, .int v_a1_odds, .int v_a1_lines, .ref h_a1_signs, .int v_a1_signCount, .ref h_a1_posts, .int v_a1_postCount, .ref h_a1_acts])), (h_a1_acts, .inr (0, [.ref h_a1_acts_over, .ref h_a1_acts_steps, .ref h_a1_acts_before, .int v_a1_acts_size])), (h_a1_acts_over, .inl (cI, 61, .inl f_a1_acts_over)), (h0, .inr (2, [.long t_9, .int v0_tone, .int v0_lost, .int v0_answer]))] := hD
    refine lv_aload_n hx hb dX2_drawAnswer_16 rfl (lv_at hl 1 rfl) ?_
    refine roi (As := []) (rest := [.int r_7]) ⟨hx, hb, hml, hown, hts⟩ (b_X8_odds l G D cB cI cJ cZ cS cT h_a1 v_a1_tones v_a1_a v_a1_b v_a1_c v_a1_d v_a1_odds v_a1_lines h_a1_signs v_a1_signCount h_a1_posts v_a1_postCount h_a1_acts (by first | assumption | omega | decide) (by first | assumption | omega | decide)) (cvB (n := 0) (inr69 _ (List.mem_of_getElem? (i := 9) rfl)) (inr64 _ (List.mem_of_getElem? (i := 4) rfl)) (inr64 _ (List.mem_of_getElem? (i := 5) rfl)) (inr1 _ (List.mem_of_getElem? (i := 23) rfl)) (inr64 _ (List.mem_of_getElem? (i := 6) rfl)) (by decide +kernel) hts rfl rfl ⟨Nat.le_of_ble_eq_true rfl, Nat.le_of_ble_eq_true rfl⟩) 0 8 rfl rfl rfl (hP.sub [0] rfl) hK hN (kT.to hT hS hAB) rfl hl.1 rfl (Nat.le_of_ble_eq_true rfl) ⟨Nat.le_of_ble_eq_true rfl, Nat.le_of_ble_eq_true rfl⟩ dX2_drawAnswer_17 (fun r_10 h_11 => ?_)
    have h_11 : (r_10 = v_a1_odds) := h_11
    have i_12 := h_11
    obtain rfl := i_12.symm
    refine lv_icmp_ge (tgt := 41) hx hb dX2_drawAnswer_20 (by decide) (fun c_13 => ?_) (fun c_13 => ?_)
    · have c_13 : v_a1_odds.toInt ≤ r_7.toInt := ci_ge_t c_13
      have b_r_7 := i32b r_7
      have b_v_a1_odds := i32b v_a1_odds
      refine lv_aload_n hx hb dX2_drawAnswer_41 rfl (lv_at hl 0 rfl) ?_
      refine lv_aload_n hx hb dX2_drawAnswer_42 rfl (lv_at hl 0 rfl) ?_
      refine va_get (D := D) (ci := 2) (v := .int v0_tone) (C := RX2) (T := TX2) (N := 4) hx hb hts inlX2 hown hK hP 3 rfl rfl 1 (by decide) (hts _ (inr68 _ (List.mem_of_getElem? (i := 13) rfl))) (fun _ h9 => h9) rfl dX2_drawAnswer_43 ?_
      refine va_put (D := D) (ci := 2) (v := .int v0_tone) (ty := .int) (C := RX2) (T := TX2) (N := 4) hx hb hts inlX2 tyX2 tyX2_ok nmX2 hown hK hP hD hS 3 rfl rfl 3 (by decide) (hts _ (inr68 _ (List.mem_of_getElem? (i := 15) rfl))) (fun _ h9 => h9) rfl (by decide +kernel) rfl rfl (Nat.le_of_ble_eq_true rfl) dX2_drawAnswer_46 (fun H locs hP hD hS => ?_)
      have hP : va_P D vwCl [(h_a1, .inr (8, [.int v_a1_tones, .int v_a1_a, .int v_a1_b, .int v_a1_c, .int v_a1_d, .int v_a1_odds, .int v_a1_lines, .ref h_a1_signs, .int v_a1_signCount, .ref h_a1_posts, .int v_a1_postCount, .ref h_a1_acts])), (h_a1_acts, .inr (0, [.ref h_a1_acts_over, .ref h_a1_acts_steps, .ref h_a1_acts_before, .int v_a1_acts_size])), (h_a1_acts_over, .inl (cI, 61, .inl f_a1_acts_over)), (h0, .inr (2, [.long t_9, .int v0_tone, .int v0_lost, .int v0_tone]))] H := hP
      have hD : va_D A [(h_a1, .inr (8, [.int v_a1_tones, .int v_a1_a, .int v_a1_b, .int v_a1_c, .int v_a1_d, .int v_a1_odds, .int v_a1_lines, .ref h_a1_signs, .int v_a1_signCount, .ref h_a1_posts, .int v_a1_postCount, .ref h_a1_acts])), (h_a1_acts, .inr (0, [.ref h_a1_acts_over, .ref h_a1_acts_steps, .ref h_a1_acts_before, .int v_a1_acts_size])), (h_a1_acts_over, .inl (cI, 61, .inl f_a1_acts_over)), (h0, .inr (2, [.long t_9, .int v0_tone, .int v0_lost, .int v0_tone]))] := hD
      exact ret _ _ _ _ (t_9, v0_tone, v0_lost, v0_tone) dX2_drawAnswer_49 trivial (hP.sub [3, 0, 1, 2] rfl) (hD.sub [3, 0, 1, 2] (by decide) rfl) hS
    · have c_13 : r_7.toInt < v_a1_odds.toInt := ci_ge_f c_13
      have b_r_7 := i32b r_7
      have b_v_a1_odds := i32b v_a1_odds
      refine lv_aload_n hx hb dX2_drawAnswer_23 rfl (lv_at hl 0 rfl) ?_
      refine lv_dup hx hb dX2_drawAnswer_24 rfl ?_
      refine va_get (D := D) (ci := 2) (v := .int v0_lost) (C := RX2) (T := TX2) (N := 4) hx hb hts inlX2 hown hK hP 3 rfl rfl 2 (by decide) (hts _ (inr68 _ (List.mem_of_getElem? (i := 14) rfl))) (fun _ h9 => h9) rfl dX2_drawAnswer_25 ?_
      refine lv_iconst (v := 1) hx hb dX2_drawAnswer_28 (by decide) ?_
      obtain ⟨t_14, et_14⟩ : ∃ v9 : Int32, v0_lost + 1 = v9 := ⟨_, rfl⟩
      refine z_iadd (v := t_14) hx hb dX2_drawAnswer_29 et_14 ?_
      refine va_put (D := D) (ci := 2) (v := .int t_14) (ty := .int) (C := RX2) (T := TX2) (N := 4) hx hb hts inlX2 tyX2 tyX2_ok nmX2 hown hK hP hD hS 3 rfl rfl 2 (by decide) (hts _ (inr68 _ (List.mem_of_getElem? (i := 14) rfl))) (fun _ h9 => h9) rfl (by decide +kernel) rfl rfl (Nat.le_of_ble_eq_true rfl) dX2_drawAnswer_30 (fun H locs hP hD hS => ?_)
      have hP : va_P D vwCl [(h_a1, .inr (8, [.int v_a1_tones, .int v_a1_a, .int v_a1_b, .int v_a1_c, .int v_a1_d, .int v_a1_odds, .int v_a1_lines, .ref h_a1_signs, .int v_a1_signCount, .ref h_a1_posts, .int v_a1_postCount, .ref h_a1_acts])), (h_a1_acts, .inr (0, [.ref h_a1_acts_over, .ref h_a1_acts_steps, .ref h_a1_acts_before, .int v_a1_acts_size])), (h_a1_acts_over, .inl (cI, 61, .inl f_a1_acts_over)), (h0, .inr (2, [.long t_9, .int v0_tone, .int t_14, .int v0_answer]))] H := hP
      have hD : va_D A [(h_a1, .inr (8, [.int v_a1_tones, .int v_a1_a, .int v_a1_b, .int v_a1_c, .int v_a1_d, .int v_a1_odds, .int v_a1_lines, .ref h_a1_signs, .int v_a1_signCount, .ref h_a1_posts, .int v_a1_postCount, .ref h_a1_acts])), (h_a1_acts, .inr (0, [.ref h_a1_acts_over, .ref h_a1_acts_steps, .ref h_a1_acts_before, .int v_a1_acts_size])), (h_a1_acts_over, .inl (cI, 61, .inl f_a1_acts_over)), (h0, .inr (2, [.long t_9, .int v0_tone, .int t_14, .int v0_answer]))] := hD
      refine lv_aload_n hx hb dX2_drawAnswer_33 rfl (lv_at hl 0 rfl) ?_
      refine lv_iconst (v := (-1)) hx hb dX2_drawAnswer_34 (by decide) ?_
      refine va_put (D := D) (ci := 2) (v := .int (-1)) (ty := .int) (C := RX2) (T := TX2) (N := 4) hx hb hts inlX2 tyX2 tyX2_ok nmX2 hown hK hP hD hS 3 rfl rfl 1 (by decide) (hts _ (inr68 _ (List.mem_of_getElem? (i := 13) rfl))) (fun _ h9 => h9) rfl (by decide +kernel) rfl rfl (Nat.le_of_ble_eq_true rfl) dX2_drawAnswer_35 (fun H locs hP hD hS => ?_)
      have hP : va_P D vwCl [(h_a1, .inr (8, [.int v_a1_tones, .int v_a1_a, .int v_a1_b, .int v_a1_c, .int v_a1_d, .int v_a1_odds, .int v_a1_lines, .ref h_a1_signs, .int v_a1_signCount, .ref h_a1_posts, .int v_a1_postCount, .ref h_a1_acts])), (h_a1_acts, .inr (0, [.ref h_a1_acts_over, .ref h_a1_acts_steps, .ref h_a1_acts_before, .int v_a1_acts_size])), (h_a1_acts_over, .inl (cI, 61, .inl f_a1_acts_over)), (h0, .inr (2, [.long t_9, .int (-1), .int t_14, .int v0_answer]))] H := hP
      have hD : va_D A [(h_a1, .inr (8, [.int v_a1_tones, .int v_a1_a, .int v_a1_b, .int v_a1_c, .int v_a1_d, .int v_a1_odds, .int v_a1_lines, .ref h_a1_signs, .int v_a1_signCount, .ref h_a1_posts, .int v_a1_postCount, .ref h_a1_acts])), (h_a1_acts, .inr (0, [.ref h_a1_acts_over, .ref h_a1_acts_steps, .ref h_a1_acts_before, .int v_a1_acts_size])), (h_a1_acts_over, .inl (cI, 61, .inl f_a1_acts_over)), (h0, .inr (2, [.long t_9, .int (-1), .int t_14, .int v0_answer]))] := hD
      refine lv_goto (tgt := 49) hx hb dX2_drawAnswer_38 (by decide) ?_
      exact ret _ _ _ _ (t_9, (-1), t_14, v0_answer) dX2_drawAnswer_49 trivial (hP.sub [3, 0, 1, 2] rfl) (hD.sub [3, 0, 1, 2] (by decide) rfl) hS

set_option maxHeartbeats 4000000 in
set_option maxRecDepth 100000 in
theorem b_X8_toneHeard (l : Launch) (G : Gho) (D : va_G) (cB cI cJ cZ cS cT : ClassId) (h0 : Nat) (v0_tones : Int32) (v0_a : Int32) (v0_b : Int32) (v0_c : Int32) (v0_d : Int32) (v0_odds : Int32) (v0_lines : Int32) (h_signs : Nat) (v0_signCount : Int32) (h_posts : Nat) (v0_postCount : Int32) (h_acts : Nat) (h_acts_over : Nat) (h_acts_steps : Nat) (h_acts_before : Nat) (v_acts_size : Int32) (f_signs : Nat → Int32) (f_acts_over : Nat → Int32) (v1 : Int32) (v2 : Int32) (v3 : Int32) (iv0_signCount : 0 ≤ v0_signCount.toInt ∧ v0_signCount.toInt ≤ 8) (iv0_postCount : 0 ≤ v0_postCount.toInt ∧ v0_postCount.toInt ≤ 5) (iv_acts_size : 0 ≤ v_acts_size.toInt ∧ v_acts_size.toInt ≤ 30) : Met l yX8_toneHeard (Cond.code yX8_toneHeard cX8_toneHeard 5 (some .int) :: wsL_law) ({ frames := 1, cells := 0, slots := 0, locals := 25 }) (roP G D (tyL cB cI cJ cZ cS cT) [(h0, .inr (8, [.int v0_tones, .int v0_a, .int v0_b, .int v0_c, .int v0_d, .int v0_odds, .int v0_lines, .ref h_signs, .int v0_signCount, .ref h_posts, .int v0_postCount, .ref h_acts])), (h_acts, .inr (0, [.ref h_acts_over, .ref h_acts_steps, .ref h_acts_before, .int v_acts_size])), (h_signs, .inl (cI, 8, .inl f_signs)), (h_acts_over, .inl (cI, 61, .inl f_acts_over))] [.ref h0, .int v1, .int v2, .int v3]) (vp_Si (fun r : Int32 => True)) 0 0 (fun _ => False) := by
  refine metRO (own := RX8) (by decide) rfl ?_
  intro p e s m below meth c Q C hP ret
  obtain ⟨hx, hb, hml, hown, hts, hK, hN, hT⟩ := id C
  have hl := lv_entry ([.ref h0, .int v1, .int v2, .int v3]) (n := 5) (Nat.le_of_ble_eq_true rfl)
  rw [lg_entry_eq]
  generalize (lg_sl ([.ref h0, .int v1, .int v2, .int v3]) ++ List.replicate (5 - (lg_sl ([.ref h0, .int v1, .int v2, .int v3])).length) Slot.unset).toArray = ls at hl ⊢
  have hl : lv_has ls 5 [(0, .ref h0), (1, .int v1), (2, .int v2), (3, .int v3)] := hl
  have hP : va_P D vwCl [(h0, .inr (8, [.int v0_tones, .int v0_a, .int v0_b, .int v0_c, .int v0_d, .int v0_odds, .int v0_lines, .ref h_signs, .int v0_signCount, .ref h_posts, .int v0_postCount, .ref h_acts])), (h_acts, .inr (0, [.ref h_acts_over, .ref h_acts_steps, .ref h_acts_before, .int v_acts_size])), (h_signs, .inl (cI, 8, .inl f_signs)), (h_acts_over, .inl (cI, 61, .inl f_acts_over))] s.heap := hP
  refine lv_aload_n hx hb dX8_toneHeard_0 rfl (lv_at hl 0 rfl) ?_
  refine va_get (D := D) (ci := 8) (v := .int v0_signCount) (C := RX8) (T := TX8) (N := 12) hx hb hts inlX8 hown hK hP 0 rfl rfl 8 (by decide) (hts _ (inr9 _ (List.mem_of_getElem? (i := 22) rfl))) (fun _ h9 => h9) rfl dX8_toneHeard_1 ?_
  refine lv_if_le (tgt := 18) hx hb dX8_toneHeard_4 (by decide) (fun c_1 => ?_) (fun c_1 => ?_)
  · have c_1 : v0_signCount.toInt ≤ 0 := ci_le_t c_1
    have b_v0_signCount := i32b v0_signCount
    refine lv_iconst (v := (-1)) hx hb dX8_toneHeard_18 (by decide) ?_
    refine lv_istore (lv' := [(4, .int (-1)), (0, .ref h0), (1, .int v1), (2, .int v2), (3, .int v3)]) hx hb dX8_toneHeard_19 hl (by decide) rfl (fun ls hl => ?_)
    refine lv_iload hx hb dX8_toneHeard_21 (lv_at hl 0 rfl) ?_
    refine lv_iconst (v := (-1)) hx hb dX8_toneHeard_23 (by decide) ?_
    refine lv_icmp_eq (tgt := 32) hx hb dX8_toneHeard_24 (by decide) (fun _ => ?_) (fun c0 => absurd c0 (by decide))
    refine lv_aload_n hx hb dX8_toneHeard_32 rfl (lv_at hl 1 rfl) ?_
    refine lv_iload_n hx hb dX8_toneHeard_33 rfl (lv_at hl 2 rfl) ?_
    refine lv_iload_n hx hb dX8_toneHeard_34 rfl (lv_at hl 3 rfl) ?_
    refine lv_iload_n hx hb dX8_toneHeard_35 rfl (lv_at hl 4 rfl) ?_
    refine roi (As := [.int v1, .int v2, .int v3]) (rest := []) ⟨hx, hb, hml, hown, hts⟩ (b_X8_ownTone l G D cB cI cJ cZ cS cT h0 v0_tones v0_a v0_b v0_c v0_d v0_odds v0_lines h_signs v0_signCount h_posts v0_postCount h_acts f_signs v1 v2 v3 (by first | assumption | omega | decide) (by first | assumption | omega | decide)) (cvB (n := 3) (inr23 _ (List.mem_of_getElem? (i := 7) rfl)) (inr23 _ (List.mem_of_getElem? (i := 8) rfl)) (inr23 _ (List.mem_of_getElem? (i := 9) rfl)) (inr1 _ (List.mem_of_getElem? (i := 23) rfl)) (inr23 _ (List.mem_of_getElem? (i := 10) rfl)) (by decide +kernel) hts rfl rfl ⟨Nat.le_of_ble_eq_true rfl, Nat.le_of_ble_eq_true rfl⟩) 0 8 rfl rfl rfl (hP.sub [0, 2] rfl) hK hN hT rfl hl.1 rfl (Nat.le_of_ble_eq_true rfl) ⟨Nat.le_of_ble_eq_true rfl, Nat.le_of_ble_eq_true rfl⟩ dX8_toneHeard_36 (fun r_2 h_3 => ?_)
    exact ret _ _ _ dX8_toneHeard_39 trivial
  · have c_1 : 0 < v0_signCount.toInt := ci_le_f c_1
    have b_v0_signCount := i32b v0_signCount
    refine lv_aload_n hx hb dX8_toneHeard_7 rfl (lv_at hl 0 rfl) ?_
    refine va_get (D := D) (ci := 8) (v := .ref h_acts) (C := RX8) (T := TX8) (N := 12) hx hb hts inlX8 hown hK hP 0 rfl rfl 11 (by decide) (hts _ (inr4 _ (List.mem_of_getElem? (i := 6) rfl))) (fun _ h9 => h9) rfl dX8_toneHeard_8 ?_
    refine lv_iload_n hx hb dX8_toneHeard_11 rfl (lv_at hl 1 rfl) ?_
    refine roi (As := [.int v1]) (rest := []) ⟨hx, hb, hml, hown, hts⟩ (b_X0_overStep l G D cB cI cJ cZ cS cT h_acts h_acts_over h_acts_steps h_acts_before v_acts_size f_acts_over v1 (by first | assumption | omega | decide)) (cvB (n := 1) (inr23 _ (List.mem_of_getElem? (i := 3) rfl)) (inr23 _ (List.mem_of_getElem? (i := 4) rfl)) (inr23 _ (List.mem_of_getElem? (i := 5) rfl)) (inr4 _ (List.mem_of_getElem? (i := 5) rfl)) (inr23 _ (List.mem_of_getElem? (i := 6) rfl)) (by decide +kernel) hts rfl rfl ⟨Nat.le_of_ble_eq_true rfl, Nat.le_of_ble_eq_true rfl⟩) 0 0 rfl rfl rfl (hP.sub [1, 3] rfl) hK hN hT rfl hl.1 rfl (Nat.le_of_ble_eq_true rfl) ⟨Nat.le_of_ble_eq_true rfl, Nat.le_of_ble_eq_true rfl⟩ dX8_toneHeard_12 (fun r_4 h_5 => ?_)
    refine lv_goto (tgt := 19) hx hb dX8_toneHeard_15 (by decide) ?_
    refine lv_istore (lv' := [(4, .int r_4), (0, .ref h0), (1, .int v1), (2, .int v2), (3, .int v3)]) hx hb dX8_toneHeard_19 hl (by decide) rfl (fun ls hl => ?_)
    refine lv_iload hx hb dX8_toneHeard_21 (lv_at hl 0 rfl) ?_
    refine lv_iconst (v := (-1)) hx hb dX8_toneHeard_23 (by decide) ?_
    refine lv_icmp_eq (tgt := 32) hx hb dX8_toneHeard_24 (by decide) (fun c_6 => ?_) (fun c_6 => ?_)
    · have c_6 : r_4.toInt = (-1) := ci_eq_t c_6
      have b_r_4 := i32b r_4
      refine lv_aload_n hx hb dX8_toneHeard_32 rfl (lv_at hl 1 rfl) ?_
      refine lv_iload_n hx hb dX8_toneHeard_33 rfl (lv_at hl 2 rfl) ?_
      refine lv_iload_n hx hb dX8_toneHeard_34 rfl (lv_at hl 3 rfl) ?_
      refine lv_iload_n hx hb dX8_toneHeard_35 rfl (lv_at hl 4 rfl) ?_
      refine roi (As := [.int v1, .int v2, .int v3]) (rest := []) ⟨hx, hb, hml, hown, hts⟩ (b_X8_ownTone l G D cB cI cJ cZ cS cT h0 v0_tones v0_a v0_b v0_c v0_d v0_odds v0_lines h_signs v0_signCount h_posts v0_postCount h_acts f_signs v1 v2 v3 (by first | assumption | omega | decide) (by first | assumption | omega | decide)) (cvB (n := 3) (inr23 _ (List.mem_of_getElem? (i := 7) rfl)) (inr23 _ (List.mem_of_getElem? (i := 8) rfl)) (inr23 _ (List.mem_of_getElem? (i := 9) rfl)) (inr1 _ (List.mem_of_getElem? (i := 23) rfl)) (inr23 _ (List.mem_of_getElem? (i := 10) rfl)) (by decide +kernel) hts rfl rfl ⟨Nat.le_of_ble_eq_true rfl, Nat.le_of_ble_eq_true rfl⟩) 0 8 rfl rfl rfl (hP.sub [0, 2] rfl) hK hN hT rfl hl.1 rfl (Nat.le_of_ble_eq_true rfl) ⟨Nat.le_of_ble_eq_true rfl, Nat.le_of_ble_eq_true rfl⟩ dX8_toneHeard_36 (fun r_7 h_8 => ?_)
      exact ret _ _ _ dX8_toneHeard_39 trivial
    · have c_6 : ¬ r_4.toInt = (-1) := ci_eq_f c_6
      have b_r_4 := i32b r_4
      refine lv_iload hx hb dX8_toneHeard_27 (lv_at hl 0 rfl) ?_
      refine lv_goto (tgt := 39) hx hb dX8_toneHeard_29 (by decide) ?_
      exact ret _ _ _ dX8_toneHeard_39 trivial

set_option maxHeartbeats 4000000 in
set_option maxRecDepth 100000 in
theorem b_X2_draw_l27 {p : Program} {l : Launch} {e : Env} {s : State} {m : MethodId} {args : Array Value} {below : List Frame} {meth : Method} {c : Code} {Q : State → Prop} {G : Gho} {D : va_G} {cB cI cJ cZ cS cT : ClassId} {A : Nat → Prop} (h0 : Nat) (h_a1 : Nat) (v_a1_tones : Int32) (v_a1_a : Int32) (v_a1_b : Int32) (v_a1_c : Int32) (v_a1_d : Int32) (v_a1_odds : Int32) (v_a1_lines : Int32) (h_a1_signs : Nat) (v_a1_signCount : Int32) (h_a1_posts : Nat) (v_a1_postCount : Int32) (h_a1_acts : Nat) (h_a1_acts_over : Nat) (h_a1_acts_steps : Nat) (h_a1_acts_before : Nat) (v_a1_acts_size : Int32) (f_a1_signs : Nat → Int32) (f_a1_acts_over : Nat → Int32) (v3 : Int32) (iv_a1_signCount : 0 ≤ v_a1_signCount.toInt ∧ v_a1_signCount.toInt ≤ 8) (iv_a1_postCount : 0 ≤ v_a1_postCount.toInt ∧ v_a1_postCount.toInt ≤ 5) (iv_a1_acts_size : 0 ≤ v_a1_acts_size.toInt ∧ v_a1_acts_size.toInt ≤ 30) (C : Cx p s m args c RX2 cX2_draw 6 G D (tyL cB cI cJ cZ cS cT)) (hG : G.1 ≤ s.heap.size) (hAB : ∀ q, A q → G.1 ≤ q) (hA : ∀ q : Nat, s.heap.size ≤ q → A q) (ret : RetV p l e ({ frames := 2, cells := 0, slots := 0, locals := 49 }) s m args below meth c cX2_draw D A (fun x : Int64 × Int32 × Int32 × Int32 => [(h0, .inr (2, [.long x.1, .int x.2.1, .int x.2.2.1, .int x.2.2.2])), (h_a1, .inr (8, [.int v_a1_tones, .int v_a1_a, .int v_a1_b, .int v_a1_c, .int v_a1_d, .int v_a1_odds, .int v_a1_lines, .ref h_a1_signs, .int v_a1_signCount, .ref h_a1_posts, .int v_a1_postCount, .ref h_a1_acts])), (h_a1_acts, .inr (0, [.ref h_a1_acts_over, .ref h_a1_acts_steps, .ref h_a1_acts_before, .int v_a1_acts_size])), (h_a1_signs, .inl (cI, 8, .inl f_a1_signs)), (h_a1_acts_over, .inl (cI, 61, .inl f_a1_acts_over))]) (fun x : Int64 × Int32 × Int32 × Int32 => True) Q) :
    ∀ (N : Nat) (u27_0_x : Int64) (u27_0_tone : Int32) (u27_0_lost : Int32) (u27_0_answer : Int32) (l27_5 : Int32) (l27_4 : Int32) (H : Heap) (locs : List Loc) (ls : Array Slot), 0 ≤ l27_5.toInt → (v3.toInt - l27_5.toInt + 1).toNat < N → va_P D vwCl [(h0, .inr (2, [.long u27_0_x, .int u27_0_tone, .int u27_0_lost, .int u27_0_answer])), (h_a1, .inr (8, [.int v_a1_tones, .int v_a1_a, .int v_a1_b, .int v_a1_c, .int v_a1_d, .int v_a1_odds, .int v_a1_lines, .ref h_a1_signs, .int v_a1_signCount, .ref h_a1_posts, .int v_a1_postCount, .ref h_a1_acts])), (h_a1_acts, .inr (0, [.ref h_a1_acts_over, .ref h_a1_acts_steps, .ref h_a1_acts_before, .int v_a1_acts_size])), (h_a1_signs, .inl (cI, 8, .inl f_a1_signs)), (h_a1_acts_over, .inl (cI, 61, .inl f_a1_acts_over))] H → va_D A [(h0, .inr (2, [.long u27_0_x, .int u27_0_tone, .int u27_0_lost, .int u27_0_answer])), (h_a1, .inr (8, [.int v_a1_tones, .int v_a1_a, .int v_a1_b, .int v_a1_c, .int v_a1_d, .int v_a1_odds, .int v_a1_lines, .ref h_a1_signs, .int v_a1_signCount, .ref h_a1_posts, .int v_a1_postCount, .ref h_a1_acts])), (h_a1_acts, .inr (0, [.ref h_a1_acts_over, .ref h_a1_acts_steps, .ref h_a1_acts_before, .int v_a1_acts_size])), (h_a1_signs, .inl (cI, 8, .inl f_a1_signs)), (h_a1_acts_over, .inl (cI, 61, .inl f_a1_acts_over))] → va_S A s.heap H locs → lv_has ls 6 [(5, .int l27_5), (4, .int l27_4), (0, .ref h0), (1, .ref h_a1), (3, .int v3)] → W p l e ({ frames := 2, cells := 0, slots := 0, locals := 49 }) s m args below meth c H locs 0 0 Q (F0 m 27 ls []) := by
  obtain ⟨hx, hb, hml, hown, hts, hK, hN, hT⟩ := id C
  intro N
  induction N with
  | zero =>
    intro u27_0_x u27_0_tone u27_0_lost u27_0_answer l27_5 l27_4 H locs ls kl27_5 hM_27 hP hD hS hl
    omega
  | succ N_27 ih_27 =>
    intro u27_0_x u27_0_tone u27_0_lost u27_0_answer l27_5 l27_4 H locs ls kl27_5 hM_27 hP hD hS hl
    have b_l27_5 := i32b l27_5
    refine lv_iload hx hb dX2_draw_27 (lv_at hl 0 rfl) ?_
    refine lv_iload_n hx hb dX2_draw_29 rfl (lv_at hl 4 rfl) ?_
    refine lv_icmp_gt (tgt := 95) hx hb dX2_draw_30 (by decide) (fun c_2 => ?_) (fun c_2 => ?_)
    · have c_2 : v3.toInt < l27_5.toInt := ci_gt_t c_2
      have b_v3 := i32b v3
      exact ret _ _ _ _ (u27_0_x, u27_0_tone, u27_0_lost, u27_0_answer) dX2_draw_95 trivial (hP.sub [0, 1, 2, 3, 4] rfl) (hD.sub [0, 1, 2, 3, 4] (by decide) rfl) hS
    · have c_2 : l27_5.toInt ≤ v3.toInt := ci_gt_f c_2
      have b_v3 := i32b v3
      refine lv_iload hx hb dX2_draw_33 (lv_at hl 0 rfl) ?_
      refine lv_bipush (v := 61) hx hb dX2_draw_35 (by decide) ?_
      refine lv_icmp_ge (tgt := 95) hx hb dX2_draw_37 (by decide) (fun c_3 => ?_) (fun c_3 => ?_)
      · have c_3 : 61 ≤ l27_5.toInt := ci_ge_t c_3
        exact ret _ _ _ _ (u27_0_x, u27_0_tone, u27_0_lost, u27_0_answer) dX2_draw_95 trivial (hP.sub [0, 1, 2, 3, 4] rfl) (hD.sub [0, 1, 2, 3, 4] (by decide) rfl) hS
      · have c_3 : l27_5.toInt < 61 := ci_ge_f c_3
        refine lv_aload_n hx hb dX2_draw_40 rfl (lv_at hl 2 rfl) ?_
        refine lv_aload_n hx hb dX2_draw_41 rfl (lv_at hl 3 rfl) ?_
        refine lv_iload hx hb dX2_draw_42 (lv_at hl 0 rfl) ?_
        refine lv_iload hx hb dX2_draw_44 (lv_at hl 1 rfl) ?_
        refine lv_aload_n hx hb dX2_draw_46 rfl (lv_at hl 2 rfl) ?_
        refine va_get (D := D) (ci := 2) (v := .int u27_0_answer) (C := RX2) (T := TX2) (N := 4) hx hb hts inlX2 hown hK hP 0 rfl rfl 3 (by decide) (hts _ (inr68 _ (List.mem_of_getElem? (i := 15) rfl))) (fun _ h9 => h9) rfl dX2_draw_47 ?_
        refine roi (As := [.int l27_5, .int l27_4, .int u27_0_answer]) (rest := [.ref h0]) ⟨hx, hb, hml, hown, hts⟩ (b_X8_toneHeard l G D cB cI cJ cZ cS cT h_a1 v_a1_tones v_a1_a v_a1_b v_a1_c v_a1_d v_a1_odds v_a1_lines h_a1_signs v_a1_signCount h_a1_posts v_a1_postCount h_a1_acts h_a1_acts_over h_a1_acts_steps h_a1_acts_before v_a1_acts_size f_a1_signs f_a1_acts_over l27_5 l27_4 u27_0_answer (by first | assumption | omega | decide) (by first | assumption | omega | decide) (by first | assumption | omega | decide)) (cvB (n := 3) (inr68 _ (List.mem_of_getElem? (i := 16) rfl)) (inr23 _ (List.mem_of_getElem? (i := 0) rfl)) (inr23 _ (List.mem_of_getElem? (i := 1) rfl)) (inr1 _ (List.mem_of_getElem? (i := 23) rfl)) (inr23 _ (List.mem_of_getElem? (i := 2) rfl)) (by decide +kernel) hts rfl rfl ⟨Nat.le_of_ble_eq_true rfl, Nat.le_of_ble_eq_true rfl⟩) 0 8 rfl rfl rfl (hP.sub [1, 2, 3, 4] rfl) hK hN (kT.to hT hS hAB) rfl hl.1 rfl (Nat.le_of_ble_eq_true rfl) ⟨Nat.le_of_ble_eq_true rfl, Nat.le_of_ble_eq_true rfl⟩ dX2_draw_50 (fun r_4 h_5 => ?_)
        refine va_put (D := D) (ci := 2) (v := .int r_4) (ty := .int) (C := RX2) (T := TX2) (N := 4) hx hb hts inlX2 tyX2 tyX2_ok nmX2 hown hK hP hD hS 0 rfl rfl 1 (by decide) (hts _ (inr68 _ (List.mem_of_getElem? (i := 13) rfl))) (fun _ h9 => h9) rfl (by decide +kernel) rfl rfl (Nat.le_of_ble_eq_true rfl) dX2_draw_53 (fun H locs hP hD hS => ?_)
        have hP : va_P D vwCl [(h0, .inr (2, [.long u27_0_x, .int r_4, .int u27_0_lost, .int u27_0_answer])), (h_a1, .inr (8, [.int v_a1_tones, .int v_a1_a, .int v_a1_b, .int v_a1_c, .int v_a1_d, .int v_a1_odds, .int v_a1_lines, .ref h_a1_signs, .int v_a1_signCount, .ref h_a1_posts, .int v_a1_postCount, .ref h_a1_acts])), (h_a1_acts, .inr (0, [.ref h_a1_acts_over, .ref h_a1_acts_steps, .ref h_a1_acts_before, .int v_a1_acts_size])), (h_a1_signs, .inl (cI, 8, .inl f_a1_signs)), (h_a1_acts_over, .inl (cI, 61, .inl f_a1_acts_over))] H := hP
        have hD : va_D A [(h0, .inr (2, [.long u27_0_x, .int r_4, .int u27_0_lost, .int u27_0_answer])), (h_a1, .inr (8, [.int v_a1_tones, .int v_a1_a, .int v_a1_b, .int v_a1_c, .int v_a1_d, .int v_a1_odds, .int v_a1_lines, .ref h_a1_signs, .int v_a1_signCount, .ref h_a1_posts, .int v_a1_postCount, .ref h_a1_acts])), (h_a1_acts, .inr (0, [.ref h_a1_acts_over, .ref h_a1_acts_steps, .ref h_a1_acts_before, .int v_a1_acts_size])), (h_a1_signs, .inl (cI, 8, .inl f_a1_signs)), (h_a1_acts_over, .inl (cI, 61, .inl f_a1_acts_over))] := hD
        refine lv_aload_n hx hb dX2_draw_56 rfl (lv_at hl 3 rfl) ?_
        refine lv_iload hx hb dX2_draw_57 (lv_at hl 0 rfl) ?_
        refine roi (As := [.int l27_5]) (rest := []) ⟨hx, hb, hml, hown, hts⟩ (b_X8_isGap l G D cB cI cJ cZ cS cT h_a1 v_a1_tones v_a1_a v_a1_b v_a1_c v_a1_d v_a1_odds v_a1_lines h_a1_signs v_a1_signCount h_a1_posts v_a1_postCount h_a1_acts f_a1_signs l27_5 (by first | assumption | omega | decide) (by first | assumption | omega | decide)) (cvB (n := 1) (inr68 _ (List.mem_of_getElem? (i := 17) rfl)) (inr23 _ (List.mem_of_getElem? (i := 12) rfl)) (inr23 _ (List.mem_of_getElem? (i := 13) rfl)) (inr1 _ (List.mem_of_getElem? (i := 23) rfl)) (inr23 _ (List.mem_of_getElem? (i := 14) rfl)) (by decide +kernel) hts rfl rfl ⟨Nat.le_of_ble_eq_true rfl, Nat.le_of_ble_eq_true rfl⟩) 0 8 rfl rfl rfl (hP.sub [1, 3] rfl) hK hN (kT.to hT hS hAB) rfl hl.1 rfl (Nat.le_of_ble_eq_true rfl) ⟨Nat.le_of_ble_eq_true rfl, Nat.le_of_ble_eq_true rfl⟩ dX2_draw_59 (fun r_6 h_7 => ?_)
        have h_7 : (r_6 = 0 ∨ r_6 = 1) := h_7
        have i_8 := h_7
        have ar_6 : 0 ≤ r_6.toInt ∧ r_6.toInt ≤ 1 := by rcases i_8 with h | h <;> rw [h] <;> decide
        refine lv_if_eq (tgt := 75) hx hb dX2_draw_62 (by decide) (fun c_9 => ?_) (fun c_9 => ?_)
        · have c_9 : r_6.toInt = 0 := ci_eq_t c_9
          have b_r_6 := i32b r_6
          refine lv_aload_n hx hb dX2_draw_75 rfl (lv_at hl 2 rfl) ?_
          refine va_get (D := D) (ci := 2) (v := .int r_4) (C := RX2) (T := TX2) (N := 4) hx hb hts inlX2 hown hK hP 0 rfl rfl 1 (by decide) (hts _ (inr68 _ (List.mem_of_getElem? (i := 13) rfl))) (fun _ h9 => h9) rfl dX2_draw_76 ?_
          refine lv_iconst (v := (-1)) hx hb dX2_draw_79 (by decide) ?_
          refine lv_icmp_eq (tgt := 89) hx hb dX2_draw_80 (by decide) (fun c_10 => ?_) (fun c_10 => ?_)
          · have c_10 : r_4.toInt = (-1) := ci_eq_t c_10
            have b_r_4 := i32b r_4
            obtain ⟨t_11, et_11⟩ : ∃ v9 : Int32, l27_5 + 1 = v9 := ⟨_, rfl⟩
            have ft_11 : t_11.toInt = l27_5.toInt + 1 := addT (a := l27_5.toInt) (b := 1) rfl (by decide) et_11 (by omega) (by omega)
            refine lv_iinc (v := t_11) (lv' := [(5, .int t_11), (4, .int l27_4), (0, .ref h0), (1, .ref h_a1), (3, .int v3)]) hx hb dX2_draw_89 hl (k := 0) rfl (by rw [← et_11]; rfl) (by decide) rfl (fun ls hl => ?_)
            refine lv_goto (tgt := 27) hx hb dX2_draw_92 (by decide) ?_
            exact ih_27 (u27_0_x) (r_4) (u27_0_lost) (u27_0_answer) (t_11) (l27_4) _ _ _ (by first | assumption | omega | decide) (by omega) (hP.sub [0, 1, 2, 3, 4] rfl) (hD.sub [0, 1, 2, 3, 4] (by decide) rfl) hS (lv_sub hl [0, 1, 2, 3, 4] rfl)
          · have c_10 : ¬ r_4.toInt = (-1) := ci_eq_f c_10
            have b_r_4 := i32b r_4
            refine lv_aload_n hx hb dX2_draw_83 rfl (lv_at hl 2 rfl) ?_
            refine va_get (D := D) (ci := 2) (v := .int r_4) (C := RX2) (T := TX2) (N := 4) hx hb hts inlX2 hown hK hP 0 rfl rfl 1 (by decide) (hts _ (inr68 _ (List.mem_of_getElem? (i := 13) rfl))) (fun _ h9 => h9) rfl dX2_draw_84 ?_
            refine lv_istore (lv' := [(4, .int r_4), (5, .int l27_5), (0, .ref h0), (1, .ref h_a1), (3, .int v3)]) hx hb dX2_draw_87 hl (by decide) rfl (fun ls hl => ?_)
            obtain ⟨t_12, et_12⟩ : ∃ v9 : Int32, l27_5 + 1 = v9 := ⟨_, rfl⟩
            have ft_12 : t_12.toInt = l27_5.toInt + 1 := addT (a := l27_5.toInt) (b := 1) rfl (by decide) et_12 (by omega) (by omega)
            refine lv_iinc (v := t_12) (lv' := [(5, .int t_12), (4, .int r_4), (0, .ref h0), (1, .ref h_a1), (3, .int v3)]) hx hb dX2_draw_89 hl (k := 1) rfl (by rw [← et_12]; rfl) (by decide) rfl (fun ls hl => ?_)
            refine lv_goto (tgt := 27) hx hb dX2_draw_92 (by decide) ?_
            exact ih_27 (u27_0_x) (r_4) (u27_0_lost) (u27_0_answer) (t_12) (r_4) _ _ _ (by first | assumption | omega | decide) (by omega) (hP.sub [0, 1, 2, 3, 4] rfl) (hD.sub [0, 1, 2, 3, 4] (by decide) rfl) hS (lv_sub hl [0, 1, 2, 3, 4] rfl)
        · have c_9 : ¬ r_6.toInt = 0 := ci_eq_f c_9
          have b_r_6 := i32b r_6
          refine lv_aload_n hx hb dX2_draw_65 rfl (lv_at hl 2 rfl) ?_
          refine lv_aload_n hx hb dX2_draw_66 rfl (lv_at hl 3 rfl) ?_
          refine lv_iload hx hb dX2_draw_67 (lv_at hl 0 rfl) ?_
          refine wrVv (As := [.ref h_a1, .int l27_5]) (rest := []) (wr := [(h_a1_signs, .inl (cI, 8, .inl f_a1_signs))]) ⟨hx, hb, hml, hown, hts⟩ (b_X2_drawAnswer l G D cB cI cJ cZ cS cT H.size h0 u27_0_x r_4 u27_0_lost u27_0_answer h_a1 v_a1_tones v_a1_a v_a1_b v_a1_c v_a1_d v_a1_odds v_a1_lines h_a1_signs v_a1_signCount h_a1_posts v_a1_postCount h_a1_acts h_a1_acts_over h_a1_acts_steps h_a1_acts_before v_a1_acts_size f_a1_acts_over l27_5 (by first | assumption | omega | decide) (by first | assumption | omega | decide) (by first | assumption | omega | decide)) hP hD hS hA hK hN hT hAB hG [0, 1, 2, 4] [3] rfl rfl (by decide) (by decide) (by decide) (cvB (n := 2) (inr68 _ (List.mem_of_getElem? (i := 18) rfl)) (inr68 _ (List.mem_of_getElem? (i := 19) rfl)) (inr68 _ (List.mem_of_getElem? (i := 20) rfl)) (inr3 _ (List.mem_of_getElem? (i := 8) rfl)) (inr68 _ (List.mem_of_getElem? (i := 21) rfl)) (by decide +kernel) hts rfl rfl ⟨Nat.le_of_ble_eq_true rfl, Nat.le_of_ble_eq_true rfl⟩) 0 2 rfl rfl rfl rfl hl.1 rfl (Nat.le_of_ble_eq_true rfl) ⟨Nat.le_of_ble_eq_true rfl, Nat.le_of_ble_eq_true rfl⟩ dX2_draw_69 (fun x9 H locs h_14 hP hD hS => ?_)
          obtain ⟨t_15, t_16, t_17, t_18⟩ := x9
          have hP : va_P D vwCl [(h_a1_signs, .inl (cI, 8, .inl f_a1_signs)), (h0, .inr (2, [.long t_15, .int t_16, .int t_17, .int t_18])), (h_a1, .inr (8, [.int v_a1_tones, .int v_a1_a, .int v_a1_b, .int v_a1_c, .int v_a1_d, .int v_a1_odds, .int v_a1_lines, .ref h_a1_signs, .int v_a1_signCount, .ref h_a1_posts, .int v_a1_postCount, .ref h_a1_acts])), (h_a1_acts, .inr (0, [.ref h_a1_acts_over, .ref h_a1_acts_steps, .ref h_a1_acts_before, .int v_a1_acts_size])), (h_a1_acts_over, .inl (cI, 61, .inl f_a1_acts_over))] H := hP
          have hD : va_D A [(h_a1_signs, .inl (cI, 8, .inl f_a1_signs)), (h0, .inr (2, [.long t_15, .int t_16, .int t_17, .int t_18])), (h_a1, .inr (8, [.int v_a1_tones, .int v_a1_a, .int v_a1_b, .int v_a1_c, .int v_a1_d, .int v_a1_odds, .int v_a1_lines, .ref h_a1_signs, .int v_a1_signCount, .ref h_a1_posts, .int v_a1_postCount, .ref h_a1_acts])), (h_a1_acts, .inr (0, [.ref h_a1_acts_over, .ref h_a1_acts_steps, .ref h_a1_acts_before, .int v_a1_acts_size])), (h_a1_acts_over, .inl (cI, 61, .inl f_a1_acts_over))] := hD
          refine lv_goto (tgt := 89) hx hb dX2_draw_72 (by decide) ?_
          obtain ⟨t_19, et_19⟩ : ∃ v9 : Int32, l27_5 + 1 = v9 := ⟨_, rfl⟩
          have ft_19 : t_19.toInt = l27_5.toInt + 1 := addT (a := l27_5.toInt) (b := 1) rfl (by decide) et_19 (by omega) (by omega)
          refine lv_iinc (v := t_19) (lv' := [(5, .int t_19), (4, .int l27_4), (0, .ref h0), (1, .ref h_a1), (3, .int v3)]) hx hb dX2_draw_89 hl (k := 0) rfl (by rw [← et_19]; rfl) (by decide) rfl (fun ls hl => ?_)
          refine lv_goto (tgt := 27) hx hb dX2_draw_92 (by decide) ?_
          exact ih_27 (t_15) (t_16) (t_17) (t_18) (t_19) (l27_4) _ _ _ (by first | assumption | omega | decide) (by omega) (hP.sub [1, 2, 3, 0, 4] rfl) (hD.sub [1, 2, 3, 0, 4] (by decide) rfl) hS (lv_sub hl [0, 1, 2, 3, 4] rfl)

set_option maxHeartbeats 4000000 in
set_option maxRecDepth 100000 in
theorem b_X2_draw (l : Launch) (G : Gho) (D : va_G) (cB cI cJ cZ cS cT : ClassId) (sz : Nat) (h0 : Nat) (v0_x : Int64) (v0_tone : Int32) (v0_lost : Int32) (v0_answer : Int32) (h_a1 : Nat) (v_a1_tones : Int32) (v_a1_a : Int32) (v_a1_b : Int32) (v_a1_c : Int32) (v_a1_d : Int32) (v_a1_odds : Int32) (v_a1_lines : Int32) (h_a1_signs : Nat) (v_a1_signCount : Int32) (h_a1_posts : Nat) (v_a1_postCount : Int32) (h_a1_acts : Nat) (h_a1_acts_over : Nat) (h_a1_acts_steps : Nat) (h_a1_acts_before : Nat) (v_a1_acts_size : Int32) (f_a1_signs : Nat → Int32) (f_a1_acts_over : Nat → Int32) (v2 : Int32) (v3 : Int32) (iv_a1_signCount : 0 ≤ v_a1_signCount.toInt ∧ v_a1_signCount.toInt ≤ 8) (iv_a1_postCount : 0 ≤ v_a1_postCount.toInt ∧ v_a1_postCount.toInt ≤ 5) (iv_a1_acts_size : 0 ≤ v_a1_acts_size.toInt ∧ v_a1_acts_size.toInt ≤ 30) : Met l yX2_draw (Cond.code yX2_draw cX2_draw 6 none :: wsL_law) ({ frames := 2, cells := 0, slots := 0, locals := 49 }) (wrP G D (tyL cB cI cJ cZ cS cT) [(h0, .inr (2, [.long v0_x, .int v0_tone, .int v0_lost, .int v0_answer])), (h_a1, .inr (8, [.int v_a1_tones, .int v_a1_a, .int v_a1_b, .int v_a1_c, .int v_a1_d, .int v_a1_odds, .int v_a1_lines, .ref h_a1_signs, .int v_a1_signCount, .ref h_a1_posts, .int v_a1_postCount, .ref h_a1_acts])), (h_a1_acts, .inr (0, [.ref h_a1_acts_over, .ref h_a1_acts_steps, .ref h_a1_acts_before, .int v_a1_acts_size])), (h_a1_signs, .inl (cI, 8, .inl f_a1_signs)), (h_a1_acts_over, .inl (cI, 61, .inl f_a1_acts_over))] sz [.ref h0, .ref h_a1, .int v2, .int v3]) (va_Qv (fun x : Int64 × Int32 × Int32 × Int32 => True) (atW D (tyL cB cI cJ cZ cS cT) (va_A [(h0, .inr (2, [.long v0_x, .int v0_tone, .int v0_lost, .int v0_answer])), (h_a1, .inr (8, [.int v_a1_tones, .int v_a1_a, .int v_a1_b, .int v_a1_c, .int v_a1_d, .int v_a1_odds, .int v_a1_lines, .ref h_a1_signs, .int v_a1_signCount, .ref h_a1_posts, .int v_a1_postCount, .ref h_a1_acts])), (h_a1_acts, .inr (0, [.ref h_a1_acts_over, .ref h_a1_acts_steps, .ref h_a1_acts_before, .int v_a1_acts_size])), (h_a1_signs, .inl (cI, 8, .inl f_a1_signs)), (h_a1_acts_over, .inl (cI, 61, .inl f_a1_acts_over))] sz) (fun x : Int64 × Int32 × Int32 × Int32 => [(h0, .inr (2, [.long x.1, .int x.2.1, .int x.2.2.1, .int x.2.2.2])), (h_a1, .inr (8, [.int v_a1_tones, .int v_a1_a, .int v_a1_b, .int v_a1_c, .int v_a1_d, .int v_a1_odds, .int v_a1_lines, .ref h_a1_signs, .int v_a1_signCount, .ref h_a1_posts, .int v_a1_postCount, .ref h_a1_acts])), (h_a1_acts, .inr (0, [.ref h_a1_acts_over, .ref h_a1_acts_steps, .ref h_a1_acts_before, .int v_a1_acts_size])), (h_a1_signs, .inl (cI, 8, .inl f_a1_signs)), (h_a1_acts_over, .inl (cI, 61, .inl f_a1_acts_over))])) (va_A [(h0, .inr (2, [.long v0_x, .int v0_tone, .int v0_lost, .int v0_answer])), (h_a1, .inr (8, [.int v_a1_tones, .int v_a1_a, .int v_a1_b, .int v_a1_c, .int v_a1_d, .int v_a1_odds, .int v_a1_lines, .ref h_a1_signs, .int v_a1_signCount, .ref h_a1_posts, .int v_a1_postCount, .ref h_a1_acts])), (h_a1_acts, .inr (0, [.ref h_a1_acts_over, .ref h_a1_acts_steps, .ref h_a1_acts_before, .int v_a1_acts_size])), (h_a1_signs, .inl (cI, 8, .inl f_a1_signs)), (h_a1_acts_over, .inl (cI, 61, .inl f_a1_acts_over))] sz)) 0 0 (va_A [(h0, .inr (2, [.long v0_x, .int v0_tone, .int v0_lost, .int v0_answer])), (h_a1, .inr (8, [.int v_a1_tones, .int v_a1_a, .int v_a1_b, .int v_a1_c, .int v_a1_d, .int v_a1_odds, .int v_a1_lines, .ref h_a1_signs, .int v_a1_signCount, .ref h_a1_posts, .int v_a1_postCount, .ref h_a1_acts])), (h_a1_acts, .inr (0, [.ref h_a1_acts_over, .ref h_a1_acts_steps, .ref h_a1_acts_before, .int v_a1_acts_size])), (h_a1_signs, .inl (cI, 8, .inl f_a1_signs)), (h_a1_acts_over, .inl (cI, 61, .inl f_a1_acts_over))] sz) := by
  refine metV (own := RX2) (by decide) rfl ?_
  intro p e s m below meth c Q hsz C hG hP hD hAB ret
  obtain ⟨hx, hb, hml, hown, hts, hK, hN, hT⟩ := id C
  subst hsz
  generalize hAe : va_A [(h0, .inr (2, [.long v0_x, .int v0_tone, .int v0_lost, .int v0_answer])), (h_a1, .inr (8, [.int v_a1_tones, .int v_a1_a, .int v_a1_b, .int v_a1_c, .int v_a1_d, .int v_a1_odds, .int v_a1_lines, .ref h_a1_signs, .int v_a1_signCount, .ref h_a1_posts, .int v_a1_postCount, .ref h_a1_acts])), (h_a1_acts, .inr (0, [.ref h_a1_acts_over, .ref h_a1_acts_steps, .ref h_a1_acts_before, .int v_a1_acts_size])), (h_a1_signs, .inl (cI, 8, .inl f_a1_signs)), (h_a1_acts_over, .inl (cI, 61, .inl f_a1_acts_over))] s.heap.size = A at hD hAB ret ⊢
  have hA : ∀ q : Nat, s.heap.size ≤ q → A q := fun q h => by rw [← hAe]; exact Or.inr h
  have hS : va_S A s.heap s.heap [] := va_S.rf
  have hl := lv_entry ([.ref h0, .ref h_a1, .int v2, .int v3]) (n := 6) (Nat.le_of_ble_eq_true rfl)
  rw [lg_entry_eq]
  generalize (lg_sl ([.ref h0, .ref h_a1, .int v2, .int v3]) ++ List.replicate (6 - (lg_sl ([.ref h0, .ref h_a1, .int v2, .int v3])).length) Slot.unset).toArray = ls at hl ⊢
  have hl : lv_has ls 6 [(0, .ref h0), (1, .ref h_a1), (2, .int v2), (3, .int v3)] := hl
  have hP : va_P D vwCl [(h0, .inr (2, [.long v0_x, .int v0_tone, .int v0_lost, .int v0_answer])), (h_a1, .inr (8, [.int v_a1_tones, .int v_a1_a, .int v_a1_b, .int v_a1_c, .int v_a1_d, .int v_a1_odds, .int v_a1_lines, .ref h_a1_signs, .int v_a1_signCount, .ref h_a1_posts, .int v_a1_postCount, .ref h_a1_acts])), (h_a1_acts, .inr (0, [.ref h_a1_acts_over, .ref h_a1_acts_steps, .ref h_a1_acts_before, .int v_a1_acts_size])), (h_a1_signs, .inl (cI, 8, .inl f_a1_signs)), (h_a1_acts_over, .inl (cI, 61, .inl f_a1_acts_over))] s.heap := hP
  refine lv_aload_n hx hb dX2_draw_0 rfl (lv_at hl 0 rfl) ?_
  refine lv_iload_n hx hb dX2_draw_1 rfl (lv_at hl 2 rfl) ?_
  have b_v2 := i32b v2
  obtain ⟨t_1, et_1⟩ : ∃ v9 : Int64, (v2 : Int32).toInt64 = v9 := ⟨_, rfl⟩
  refine lv_i2l (v := t_1) hx hb dX2_draw_2 et_1 ?_
  have ft_1 : t_1.toInt = v2.toInt := by rw [← et_1]; exact Int32.toInt_toInt64 _
  refine va_put (D := D) (ci := 2) (v := .long t_1) (ty := .long) (C := RX2) (T := TX2) (N := 4) hx hb hts inlX2 tyX2 tyX2_ok nmX2 hown hK hP hD hS 0 rfl rfl 0 (by decide) (hts _ (inr68 _ (List.mem_of_getElem? (i := 12) rfl))) (fun _ h9 => h9) rfl (by decide +kernel) rfl rfl (Nat.le_of_ble_eq_true rfl) dX2_draw_3 (fun H locs hP hD hS => ?_)
  have hP : va_P D vwCl [(h0, .inr (2, [.long t_1, .int v0_tone, .int v0_lost, .int v0_answer])), (h_a1, .inr (8, [.int v_a1_tones, .int v_a1_a, .int v_a1_b, .int v_a1_c, .int v_a1_d, .int v_a1_odds, .int v_a1_lines, .ref h_a1_signs, .int v_a1_signCount, .ref h_a1_posts, .int v_a1_postCount, .ref h_a1_acts])), (h_a1_acts, .inr (0, [.ref h_a1_acts_over, .ref h_a1_acts_steps, .ref h_a1_acts_before, .int v_a1_acts_size])), (h_a1_signs, .inl (cI, 8, .inl f_a1_signs)), (h_a1_acts_over, .inl (cI, 61, .inl f_a1_acts_over))] H := hP
  have hD : va_D A [(h0, .inr (2, [.long t_1, .int v0_tone, .int v0_lost, .int v0_answer])), (h_a1, .inr (8, [.int v_a1_tones, .int v_a1_a, .int v_a1_b, .int v_a1_c, .int v_a1_d, .int v_a1_odds, .int v_a1_lines, .ref h_a1_signs, .int v_a1_signCount, .ref h_a1_posts, .int v_a1_postCount, .ref h_a1_acts])), (h_a1_acts, .inr (0, [.ref h_a1_acts_over, .ref h_a1_acts_steps, .ref h_a1_acts_before, .int v_a1_acts_size])), (h_a1_signs, .inl (cI, 8, .inl f_a1_signs)), (h_a1_acts_over, .inl (cI, 61, .inl f_a1_acts_over))] := hD
  refine lv_aload_n hx hb dX2_draw_6 rfl (lv_at hl 0 rfl) ?_
  refine lv_iconst (v := (-1)) hx hb dX2_draw_7 (by decide) ?_
  refine va_put (D := D) (ci := 2) (v := .int (-1)) (ty := .int) (C := RX2) (T := TX2) (N := 4) hx hb hts inlX2 tyX2 tyX2_ok nmX2 hown hK hP hD hS 0 rfl rfl 1 (by decide) (hts _ (inr68 _ (List.mem_of_getElem? (i := 13) rfl))) (fun _ h9 => h9) rfl (by decide +kernel) rfl rfl (Nat.le_of_ble_eq_true rfl) dX2_draw_8 (fun H locs hP hD hS => ?_)
  have hP : va_P D vwCl [(h0, .inr (2, [.long t_1, .int (-1), .int v0_lost, .int v0_answer])), (h_a1, .inr (8, [.int v_a1_tones, .int v_a1_a, .int v_a1_b, .int v_a1_c, .int v_a1_d, .int v_a1_odds, .int v_a1_lines, .ref h_a1_signs, .int v_a1_signCount, .ref h_a1_posts, .int v_a1_postCount, .ref h_a1_acts])), (h_a1_acts, .inr (0, [.ref h_a1_acts_over, .ref h_a1_acts_steps, .ref h_a1_acts_before, .int v_a1_acts_size])), (h_a1_signs, .inl (cI, 8, .inl f_a1_signs)), (h_a1_acts_over, .inl (cI, 61, .inl f_a1_acts_over))] H := hP
  have hD : va_D A [(h0, .inr (2, [.long t_1, .int (-1), .int v0_lost, .int v0_answer])), (h_a1, .inr (8, [.int v_a1_tones, .int v_a1_a, .int v_a1_b, .int v_a1_c, .int v_a1_d, .int v_a1_odds, .int v_a1_lines, .ref h_a1_signs, .int v_a1_signCount, .ref h_a1_posts, .int v_a1_postCount, .ref h_a1_acts])), (h_a1_acts, .inr (0, [.ref h_a1_acts_over, .ref h_a1_acts_steps, .ref h_a1_acts_before, .int v_a1_acts_size])), (h_a1_signs, .inl (cI, 8, .inl f_a1_signs)), (h_a1_acts_over, .inl (cI, 61, .inl f_a1_acts_over))] := hD
  refine lv_aload_n hx hb dX2_draw_11 rfl (lv_at hl 0 rfl) ?_
  refine lv_iconst (v := 0) hx hb dX2_draw_12 (by decide) ?_
  refine va_put (D := D) (ci := 2) (v := .int 0) (ty := .int) (C := RX2) (T := TX2) (N := 4) hx hb hts inlX2 tyX2 tyX2_ok nmX2 hown hK hP hD hS 0 rfl rfl 2 (by decide) (hts _ (inr68 _ (List.mem_of_getElem? (i := 14) rfl))) (fun _ h9 => h9) rfl (by decide +kernel) rfl rfl (Nat.le_of_ble_eq_true rfl) dX2_draw_13 (fun H locs hP hD hS => ?_)
  have hP : va_P D vwCl [(h0, .inr (2, [.long t_1, .int (-1), .int 0, .int v0_answer])), (h_a1, .inr (8, [.int v_a1_tones, .int v_a1_a, .int v_a1_b, .int v_a1_c, .int v_a1_d, .int v_a1_odds, .int v_a1_lines, .ref h_a1_signs, .int v_a1_signCount, .ref h_a1_posts, .int v_a1_postCount, .ref h_a1_acts])), (h_a1_acts, .inr (0, [.ref h_a1_acts_over, .ref h_a1_acts_steps, .ref h_a1_acts_before, .int v_a1_acts_size])), (h_a1_signs, .inl (cI, 8, .inl f_a1_signs)), (h_a1_acts_over, .inl (cI, 61, .inl f_a1_acts_over))] H := hP
  have hD : va_D A [(h0, .inr (2, [.long t_1, .int (-1), .int 0, .int v0_answer])), (h_a1, .inr (8, [.int v_a1_tones, .int v_a1_a, .int v_a1_b, .int v_a1_c, .int v_a1_d, .int v_a1_odds, .int v_a1_lines, .ref h_a1_signs, .int v_a1_signCount, .ref h_a1_posts, .int v_a1_postCount, .ref h_a1_acts])), (h_a1_acts, .inr (0, [.ref h_a1_acts_over, .ref h_a1_acts_steps, .ref h_a1_acts_before, .int v_a1_acts_size])), (h_a1_signs, .inl (cI, 8, .inl f_a1_signs)), (h_a1_acts_over, .inl (cI, 61, .inl f_a1_acts_over))] := hD
  refine lv_aload_n hx hb dX2_draw_16 rfl (lv_at hl 0 rfl) ?_
  refine lv_iconst (v := 0) hx hb dX2_draw_17 (by decide) ?_
  refine va_put (D := D) (ci := 2) (v := .int 0) (ty := .int) (C := RX2) (T := TX2) (N := 4) hx hb hts inlX2 tyX2 tyX2_ok nmX2 hown hK hP hD hS 0 rfl rfl 3 (by decide) (hts _ (inr68 _ (List.mem_of_getElem? (i := 15) rfl))) (fun _ h9 => h9) rfl (by decide +kernel) rfl rfl (Nat.le_of_ble_eq_true rfl) dX2_draw_18 (fun H locs hP hD hS => ?_)
  have hP : va_P D vwCl [(h0, .inr (2, [.long t_1, .int (-1), .int 0, .int 0])), (h_a1, .inr (8, [.int v_a1_tones, .int v_a1_a, .int v_a1_b, .int v_a1_c, .int v_a1_d, .int v_a1_odds, .int v_a1_lines, .ref h_a1_signs, .int v_a1_signCount, .ref h_a1_posts, .int v_a1_postCount, .ref h_a1_acts])), (h_a1_acts, .inr (0, [.ref h_a1_acts_over, .ref h_a1_acts_steps, .ref h_a1_acts_before, .int v_a1_acts_size])), (h_a1_signs, .inl (cI, 8, .inl f_a1_signs)), (h_a1_acts_over, .inl (cI, 61, .inl f_a1_acts_over))] H := hP
  have hD : va_D A [(h0, .inr (2, [.long t_1, .int (-1), .int 0, .int 0])), (h_a1, .inr (8, [.int v_a1_tones, .int v_a1_a, .int v_a1_b, .int v_a1_c, .int v_a1_d, .int v_a1_odds, .int v_a1_lines, .ref h_a1_signs, .int v_a1_signCount, .ref h_a1_posts, .int v_a1_postCount, .ref h_a1_acts])), (h_a1_acts, .inr (0, [.ref h_a1_acts_over, .ref h_a1_acts_steps, .ref h_a1_acts_before, .int v_a1_acts_size])), (h_a1_signs, .inl (cI, 8, .inl f_a1_signs)), (h_a1_acts_over, .inl (cI, 61, .inl f_a1_acts_over))] := hD
  refine lv_iconst (v := 0) hx hb dX2_draw_21 (by decide) ?_
  refine lv_istore (lv' := [(4, .int 0), (0, .ref h0), (1, .ref h_a1), (2, .int v2), (3, .int v3)]) hx hb dX2_draw_22 hl (by decide) rfl (fun ls hl => ?_)
  refine lv_iconst (v := 0) hx hb dX2_draw_24 (by decide) ?_
  refine lv_istore (lv' := [(5, .int 0), (4, .int 0), (0, .ref h0), (1, .ref h_a1), (2, .int v2), (3, .int v3)]) hx hb dX2_draw_25 hl (by decide) rfl (fun ls hl => ?_)
  exact b_X2_draw_l27 h0 h_a1 v_a1_tones v_a1_a v_a1_b v_a1_c v_a1_d v_a1_odds v_a1_lines h_a1_signs v_a1_signCount h_a1_posts v_a1_postCount h_a1_acts h_a1_acts_over h_a1_acts_steps h_a1_acts_before v_a1_acts_size f_a1_signs f_a1_acts_over v3 (by first | assumption | omega | decide) (by first | assumption | omega | decide) (by first | assumption | omega | decide) C hG hAB hA ret _ (t_1) ((-1)) (0) (0) (0) (0) _ _ _ (by first | assumption | omega | decide) (Nat.lt_succ_self _) (hP.sub [0, 1, 2, 3, 4] rfl) (hD.sub [0, 1, 2, 3, 4] (by decide) rfl) hS (lv_sub hl [0, 1, 2, 3, 5] rfl)

set_option maxHeartbeats 4000000 in
set_option maxRecDepth 100000 in
theorem b_X3_prettiest (l : Launch) (G : Gho) (D : va_G) (cB cI cJ cZ cS cT : ClassId) (h0 : Nat) (h_trial : Nat) (h_night : Nat) (h_tally : Nat) (v0_found : Int32) (v0_firstFound : Int32) (v0_prettiestLaw : Int32) (v0_mostPips : Int32) (v0_withoutPip : Int32)  : Met l yX3_prettiest (Cond.code yX3_prettiest cX3_prettiest 1 (some .int) :: wsL_law) ({ frames := 0, cells := 0, slots := 0, locals := 0 }) (roP G D (tyL cB cI cJ cZ cS cT) [(h0, .inr (3, [.ref h_trial, .ref h_night, .ref h_tally, .int v0_found, .int v0_firstFound, .int v0_prettiestLaw, .int v0_mostPips, .int v0_withoutPip]))] [.ref h0]) (vp_Si (fun r : Int32 => (r = v0_prettiestLaw))) 0 0 (fun _ => False) := by
  refine metRO (own := RX3) (by decide) rfl ?_
  intro p e s m below meth c Q C hP ret
  obtain ⟨hx, hb, hml, hown, hts, hK, hN, hT⟩ := id C
  have hl := lv_entry ([.ref h0]) (n := 1) (Nat.le_of_ble_eq_true rfl)
  rw [lg_entry_eq]
  generalize (lg_sl ([.ref h0]) ++ List.replicate (1 - (lg_sl ([.ref h0])).length) Slot.unset).toArray = ls at hl ⊢
  have hl : lv_has ls 1 [(0, .ref h0)] := hl
  have hP : va_P D vwCl [(h0, .inr (3, [.ref h_trial, .ref h_night, .ref h_tally, .int v0_found, .int v0_firstFound, .int v0_prettiestLaw, .int v0_mostPips, .int v0_withoutPip]))] s.heap := hP
  refine lv_aload_n hx hb dX3_prettiest_0 rfl (lv_at hl 0 rfl) ?_
  refine va_get (D := D) (ci := 3) (v := .int v0_prettiestLaw) (C := RX3) (T := TX3) (N := 8) hx hb hts inlX3 hown hK hP 0 rfl rfl 5 (by decide) (hts _ (inr37 _ (List.mem_of_getElem? (i := 23) rfl))) (fun _ h9 => h9) rfl dX3_prettiest_1 ?_
  exact ret _ _ _ dX3_prettiest_4 (show (v0_prettiestLaw = v0_prettiestLaw) from rfl)

set_option maxHeartbeats 4000000 in
set_option maxRecDepth 100000 in
theorem b_X3_silentLaws (l : Launch) (G : Gho) (D : va_G) (cB cI cJ cZ cS cT : ClassId) (h0 : Nat) (h_trial : Nat) (h_night : Nat) (h_tally : Nat) (v0_found : Int32) (v0_firstFound : Int32) (v0_prettiestLaw : Int32) (v0_mostPips : Int32) (v0_withoutPip : Int32)  : Met l yX3_silentLaws (Cond.code yX3_silentLaws cX3_silentLaws 1 (some .int) :: wsL_law) ({ frames := 0, cells := 0, slots := 0, locals := 0 }) (roP G D (tyL cB cI cJ cZ cS cT) [(h0, .inr (3, [.ref h_trial, .ref h_night, .ref h_tally, .int v0_found, .int v0_firstFound, .int v0_prettiestLaw, .int v0_mostPips, .int v0_withoutPip]))] [.ref h0]) (vp_Si (fun r : Int32 => (r = v0_withoutPip))) 0 0 (fun _ => False) := by
  refine metRO (own := RX3) (by decide) rfl ?_
  intro p e s m below meth c Q C hP ret
  obtain ⟨hx, hb, hml, hown, hts, hK, hN, hT⟩ := id C
  have hl := lv_entry ([.ref h0]) (n := 1) (Nat.le_of_ble_eq_true rfl)
  rw [lg_entry_eq]
  generalize (lg_sl ([.ref h0]) ++ List.replicate (1 - (lg_sl ([.ref h0])).length) Slot.unset).toArray = ls at hl ⊢
  have hl : lv_has ls 1 [(0, .ref h0)] := hl
  have hP : va_P D vwCl [(h0, .inr (3, [.ref h_trial, .ref h_night, .ref h_tally, .int v0_found, .int v0_firstFound, .int v0_prettiestLaw, .int v0_mostPips, .int v0_withoutPip]))] s.heap := hP
  refine lv_aload_n hx hb dX3_silentLaws_0 rfl (lv_at hl 0 rfl) ?_
  refine va_get (D := D) (ci := 3) (v := .int v0_withoutPip) (C := RX3) (T := TX3) (N := 8) hx hb hts inlX3 hown hK hP 0 rfl rfl 7 (by decide) (hts _ (inr38 _ (List.mem_of_getElem? (i := 1) rfl))) (fun _ h9 => h9) rfl dX3_silentLaws_1 ?_
  exact ret _ _ _ dX3_silentLaws_4 (show (v0_withoutPip = v0_withoutPip) from rfl)

set_option maxHeartbeats 4000000 in
set_option maxRecDepth 100000 in
theorem b_X3_howMany (l : Launch) (G : Gho) (D : va_G) (cB cI cJ cZ cS cT : ClassId) (h0 : Nat) (h_trial : Nat) (h_night : Nat) (h_tally : Nat) (v0_found : Int32) (v0_firstFound : Int32) (v0_prettiestLaw : Int32) (v0_mostPips : Int32) (v0_withoutPip : Int32)  : Met l yX3_howMany (Cond.code yX3_howMany cX3_howMany 1 (some .int) :: wsL_law) ({ frames := 0, cells := 0, slots := 0, locals := 0 }) (roP G D (tyL cB cI cJ cZ cS cT) [(h0, .inr (3, [.ref h_trial, .ref h_night, .ref h_tally, .int v0_found, .int v0_firstFound, .int v0_prettiestLaw, .int v0_mostPips, .int v0_withoutPip]))] [.ref h0]) (vp_Si (fun r : Int32 => (r = v0_found))) 0 0 (fun _ => False) := by
  refine metRO (own := RX3) (by decide) rfl ?_
  intro p e s m below meth c Q C hP ret
  obtain ⟨hx, hb, hml, hown, hts, hK, hN, hT⟩ := id C
  have hl := lv_entry ([.ref h0]) (n := 1) (Nat.le_of_ble_eq_true rfl)
  rw [lg_entry_eq]
  generalize (lg_sl ([.ref h0]) ++ List.replicate (1 - (lg_sl ([.ref h0])).length) Slot.unset).toArray = ls at hl ⊢
  have hl : lv_has ls 1 [(0, .ref h0)] := hl
  have hP : va_P D vwCl [(h0, .inr (3, [.ref h_trial, .ref h_night, .ref h_tally, .int v0_found, .int v0_firstFound, .int v0_prettiestLaw, .int v0_mostPips, .int v0_withoutPip]))] s.heap := hP
  refine lv_aload_n hx hb dX3_howMany_0 rfl (lv_at hl 0 rfl) ?_
  refine va_get (D := D) (ci := 3) (v := .int v0_found) (C := RX3) (T := TX3) (N := 8) hx hb hts inlX3 hown hK hP 0 rfl rfl 3 (by decide) (hts _ (inr52 _ (List.mem_of_getElem? (i := 17) rfl))) (fun _ h9 => h9) rfl dX3_howMany_1 ?_
  exact ret _ _ _ dX3_howMany_4 (show (v0_found = v0_found) from rfl)

set_option maxHeartbeats 4000000 in
set_option maxRecDepth 100000 in
theorem b_X3_firstFitting (l : Launch) (G : Gho) (D : va_G) (cB cI cJ cZ cS cT : ClassId) (h0 : Nat) (h_trial : Nat) (h_night : Nat) (h_tally : Nat) (v0_found : Int32) (v0_firstFound : Int32) (v0_prettiestLaw : Int32) (v0_mostPips : Int32) (v0_withoutPip : Int32)  : Met l yX3_firstFitting (Cond.code yX3_firstFitting cX3_firstFitting 1 (some .int) :: wsL_law) ({ frames := 0, cells := 0, slots := 0, locals := 0 }) (roP G D (tyL cB cI cJ cZ cS cT) [(h0, .inr (3, [.ref h_trial, .ref h_night, .ref h_tally, .int v0_found, .int v0_firstFound, .int v0_prettiestLaw, .int v0_mostPips, .int v0_withoutPip]))] [.ref h0]) (vp_Si (fun r : Int32 => (r = v0_firstFound))) 0 0 (fun _ => False) := by
  refine metRO (own := RX3) (by decide) rfl ?_
  intro p e s m below meth c Q C hP ret
  obtain ⟨hx, hb, hml, hown, hts, hK, hN, hT⟩ := id C
  have hl := lv_entry ([.ref h0]) (n := 1) (Nat.le_of_ble_eq_true rfl)
  rw [lg_entry_eq]
  generalize (lg_sl ([.ref h0]) ++ List.replicate (1 - (lg_sl ([.ref h0])).length) Slot.unset).toArray = ls at hl ⊢
  have hl : lv_has ls 1 [(0, .ref h0)] := hl
  have hP : va_P D vwCl [(h0, .inr (3, [.ref h_trial, .ref h_night, .ref h_tally, .int v0_found, .int v0_firstFound, .int v0_prettiestLaw, .int v0_mostPips, .int v0_withoutPip]))] s.heap := hP
  refine lv_aload_n hx hb dX3_firstFitting_0 rfl (lv_at hl 0 rfl) ?_
  refine va_get (D := D) (ci := 3) (v := .int v0_firstFound) (C := RX3) (T := TX3) (N := 8) hx hb hts inlX3 hown hK hP 0 rfl rfl 4 (by decide) (hts _ (inr52 _ (List.mem_of_getElem? (i := 18) rfl))) (fun _ h9 => h9) rfl dX3_firstFitting_1 ?_
  exact ret _ _ _ dX3_firstFitting_4 (show (v0_firstFound = v0_firstFound) from rfl)

set_option maxHeartbeats 4000000 in
set_option maxRecDepth 100000 in
theorem b_X8_setHead (l : Launch) (G : Gho) (D : va_G) (cB cI cJ cZ cS cT : ClassId) (sz : Nat) (h0 : Nat) (v0_tones : Int32) (v0_a : Int32) (v0_b : Int32) (v0_c : Int32) (v0_d : Int32) (v0_odds : Int32) (v0_lines : Int32) (h_signs : Nat) (v0_signCount : Int32) (h_posts : Nat) (v0_postCount : Int32) (h_acts : Nat) (v1 : Int32) (v2 : Int32) (v3 : Int32) (iv0_signCount : 0 ≤ v0_signCount.toInt ∧ v0_signCount.toInt ≤ 8) (iv0_postCount : 0 ≤ v0_postCount.toInt ∧ v0_postCount.toInt ≤ 5) : Met l yX8_setHead (Cond.code yX8_setHead cX8_setHead 4 none :: wsL_law) ({ frames := 0, cells := 0, slots := 0, locals := 0 }) (wrP G D (tyL cB cI cJ cZ cS cT) [(h0, .inr (8, [.int v0_tones, .int v0_a, .int v0_b, .int v0_c, .int v0_d, .int v0_odds, .int v0_lines, .ref h_signs, .int v0_signCount, .ref h_posts, .int v0_postCount, .ref h_acts]))] sz [.ref h0, .int v1, .int v2, .int v3]) (va_Qv (fun x : Int32 × Int32 × Int32 => True) (atW D (tyL cB cI cJ cZ cS cT) (va_A [(h0, .inr (8, [.int v0_tones, .int v0_a, .int v0_b, .int v0_c, .int v0_d, .int v0_odds, .int v0_lines, .ref h_signs, .int v0_signCount, .ref h_posts, .int v0_postCount, .ref h_acts]))] sz) (fun x : Int32 × Int32 × Int32 => [(h0, .inr (8, [.int x.1, .int v0_a, .int v0_b, .int v0_c, .int x.2.1, .int x.2.2, .int v0_lines, .ref h_signs, .int v0_signCount, .ref h_posts, .int v0_postCount, .ref h_acts]))])) (va_A [(h0, .inr (8, [.int v0_tones, .int v0_a, .int v0_b, .int v0_c, .int v0_d, .int v0_odds, .int v0_lines, .ref h_signs, .int v0_signCount, .ref h_posts, .int v0_postCount, .ref h_acts]))] sz)) 0 0 (va_A [(h0, .inr (8, [.int v0_tones, .int v0_a, .int v0_b, .int v0_c, .int v0_d, .int v0_odds, .int v0_lines, .ref h_signs, .int v0_signCount, .ref h_posts, .int v0_postCount, .ref h_acts]))] sz) := by
  refine metV (own := RX8) (by decide) rfl ?_
  intro p e s m below meth c Q hsz C hG hP hD hAB ret
  obtain ⟨hx, hb, hml, hown, hts, hK, hN, hT⟩ := id C
  subst hsz
  generalize hAe : va_A [(h0, .inr (8, [.int v0_tones, .int v0_a, .int v0_b, .int v0_c, .int v0_d, .int v0_odds, .int v0_lines, .ref h_signs, .int v0_signCount, .ref h_posts, .int v0_postCount, .ref h_acts]))] s.heap.size = A at hD hAB ret ⊢
  have hA : ∀ q : Nat, s.heap.size ≤ q → A q := fun q h => by rw [← hAe]; exact Or.inr h
  have hS : va_S A s.heap s.heap [] := va_S.rf
  have hl := lv_entry ([.ref h0, .int v1, .int v2, .int v3]) (n := 4) (Nat.le_of_ble_eq_true rfl)
  rw [lg_entry_eq]
  generalize (lg_sl ([.ref h0, .int v1, .int v2, .int v3]) ++ List.replicate (4 - (lg_sl ([.ref h0, .int v1, .int v2, .int v3])).length) Slot.unset).toArray = ls at hl ⊢
  have hl : lv_has ls 4 [(0, .ref h0), (1, .int v1), (2, .int v2), (3, .int v3)] := hl
  have hP : va_P D vwCl [(h0, .inr (8, [.int v0_tones, .int v0_a, .int v0_b, .int v0_c, .int v0_d, .int v0_odds, .int v0_lines, .ref h_signs, .int v0_signCount, .ref h_posts, .int v0_postCount, .ref h_acts]))] s.heap := hP
  refine lv_aload_n hx hb dX8_setHead_0 rfl (lv_at hl 0 rfl) ?_
  refine lv_iload_n hx hb dX8_setHead_1 rfl (lv_at hl 1 rfl) ?_
  refine va_put (D := D) (ci := 8) (v := .int v1) (ty := .int) (C := RX8) (T := TX8) (N := 12) hx hb hts inlX8 tyX8 tyX8_ok nmX8 hown hK hP hD hS 0 rfl rfl 0 (by decide) (hts _ (inr10 _ (List.mem_of_getElem? (i := 4) rfl))) (fun _ h9 => h9) rfl (by decide +kernel) rfl rfl (Nat.le_of_ble_eq_true rfl) dX8_setHead_2 (fun H locs hP hD hS => ?_)
  have hP : va_P D vwCl [(h0, .inr (8, [.int v1, .int v0_a, .int v0_b, .int v0_c, .int v0_d, .int v0_odds, .int v0_lines, .ref h_signs, .int v0_signCount, .ref h_posts, .int v0_postCount, .ref h_acts]))] H := hP
  have hD : va_D A [(h0, .inr (8, [.int v1, .int v0_a, .int v0_b, .int v0_c, .int v0_d, .int v0_odds, .int v0_lines, .ref h_signs, .int v0_signCount, .ref h_posts, .int v0_postCount, .ref h_acts]))] := hD
  refine lv_aload_n hx hb dX8_setHead_5 rfl (lv_at hl 0 rfl) ?_
  refine lv_iload_n hx hb dX8_setHead_6 rfl (lv_at hl 2 rfl) ?_
  refine va_put (D := D) (ci := 8) (v := .int v2) (ty := .int) (C := RX8) (T := TX8) (N := 12) hx hb hts inlX8 tyX8 tyX8_ok nmX8 hown hK hP hD hS 0 rfl rfl 4 (by decide) (hts _ (inr10 _ (List.mem_of_getElem? (i := 5) rfl))) (fun _ h9 => h9) rfl (by decide +kernel) rfl rfl (Nat.le_of_ble_eq_true rfl) dX8_setHead_7 (fun H locs hP hD hS => ?_)
  have hP : va_P D vwCl [(h0, .inr (8, [.int v1, .int v0_a, .int v0_b, .int v0_c, .int v2, .int v0_odds, .int v0_lines, .ref h_signs, .int v0_signCount, .ref h_posts, .int v0_postCount, .ref h_acts]))] H := hP
  have hD : va_D A [(h0, .inr (8, [.int v1, .int v0_a, .int v0_b, .int v0_c, .int v2, .int v0_odds, .int v0_lines, .ref h_signs, .int v0_signCount, .ref h_posts, .int v0_postCount, .ref h_acts]))] := hD
  refine lv_aload_n hx hb dX8_setHead_10 rfl (lv_at hl 0 rfl) ?_
  refine lv_iload_n hx hb dX8_setHead_11 rfl (lv_at hl 3 rfl) ?_
  refine va_put (D := D) (ci := 8) (v := .int v3) (ty := .int) (C := RX8) (T := TX8) (N := 12) hx hb hts inlX8 tyX8 tyX8_ok nmX8 hown hK hP hD hS 0 rfl rfl 5 (by decide) (hts _ (inr10 _ (List.mem_of_getElem? (i := 6) rfl))) (fun _ h9 => h9) rfl (by decide +kernel) rfl rfl (Nat.le_of_ble_eq_true rfl) dX8_setHead_12 (fun H locs hP hD hS => ?_)
  have hP : va_P D vwCl [(h0, .inr (8, [.int v1, .int v0_a, .int v0_b, .int v0_c, .int v2, .int v3, .int v0_lines, .ref h_signs, .int v0_signCount, .ref h_posts, .int v0_postCount, .ref h_acts]))] H := hP
  have hD : va_D A [(h0, .inr (8, [.int v1, .int v0_a, .int v0_b, .int v0_c, .int v2, .int v3, .int v0_lines, .ref h_signs, .int v0_signCount, .ref h_posts, .int v0_postCount, .ref h_acts]))] := hD
  exact ret _ _ _ _ (v1, v2, v3) dX8_setHead_15 trivial (hP.sub [0] rfl) (hD.sub [0] (by decide) rfl) hS

set_option maxHeartbeats 4000000 in
set_option maxRecDepth 100000 in
theorem b_X8_setLaw (l : Launch) (G : Gho) (D : va_G) (cB cI cJ cZ cS cT : ClassId) (sz : Nat) (h0 : Nat) (v0_tones : Int32) (v0_a : Int32) (v0_b : Int32) (v0_c : Int32) (v0_d : Int32) (v0_odds : Int32) (v0_lines : Int32) (h_signs : Nat) (v0_signCount : Int32) (h_posts : Nat) (v0_postCount : Int32) (h_acts : Nat) (v1 : Int32) (v2 : Int32) (v3 : Int32) (iv0_signCount : 0 ≤ v0_signCount.toInt ∧ v0_signCount.toInt ≤ 8) (iv0_postCount : 0 ≤ v0_postCount.toInt ∧ v0_postCount.toInt ≤ 5) : Met l yX8_setLaw (Cond.code yX8_setLaw cX8_setLaw 4 none :: wsL_law) ({ frames := 0, cells := 0, slots := 0, locals := 0 }) (wrP G D (tyL cB cI cJ cZ cS cT) [(h0, .inr (8, [.int v0_tones, .int v0_a, .int v0_b, .int v0_c, .int v0_d, .int v0_odds, .int v0_lines, .ref h_signs, .int v0_signCount, .ref h_posts, .int v0_postCount, .ref h_acts]))] sz [.ref h0, .int v1, .int v2, .int v3]) (va_Qv (fun x : Int32 × Int32 × Int32 => True) (atW D (tyL cB cI cJ cZ cS cT) (va_A [(h0, .inr (8, [.int v0_tones, .int v0_a, .int v0_b, .int v0_c, .int v0_d, .int v0_odds, .int v0_lines, .ref h_signs, .int v0_signCount, .ref h_posts, .int v0_postCount, .ref h_acts]))] sz) (fun x : Int32 × Int32 × Int32 => [(h0, .inr (8, [.int v0_tones, .int x.1, .int x.2.1, .int x.2.2, .int v0_d, .int v0_odds, .int v0_lines, .ref h_signs, .int v0_signCount, .ref h_posts, .int v0_postCount, .ref h_acts]))])) (va_A [(h0, .inr (8, [.int v0_tones, .int v0_a, .int v0_b, .int v0_c, .int v0_d, .int v0_odds, .int v0_lines, .ref h_signs, .int v0_signCount, .ref h_posts, .int v0_postCount, .ref h_acts]))] sz)) 0 0 (va_A [(h0, .inr (8, [.int v0_tones, .int v0_a, .int v0_b, .int v0_c, .int v0_d, .int v0_odds, .int v0_lines, .ref h_signs, .int v0_signCount, .ref h_posts, .int v0_postCount, .ref h_acts]))] sz) := by
  refine metV (own := RX8) (by decide) rfl ?_
  intro p e s m below meth c Q hsz C hG hP hD hAB ret
  obtain ⟨hx, hb, hml, hown, hts, hK, hN, hT⟩ := id C
  subst hsz
  generalize hAe : va_A [(h0, .inr (8, [.int v0_tones, .int v0_a, .int v0_b, .int v0_c, .int v0_d, .int v0_odds, .int v0_lines, .ref h_signs, .int v0_signCount, .ref h_posts, .int v0_postCount, .ref h_acts]))] s.heap.size = A at hD hAB ret ⊢
  have hA : ∀ q : Nat, s.heap.size ≤ q → A q := fun q h => by rw [← hAe]; exact Or.inr h
  have hS : va_S A s.heap s.heap [] := va_S.rf
  have hl := lv_entry ([.ref h0, .int v1, .int v2, .int v3]) (n := 4) (Nat.le_of_ble_eq_true rfl)
  rw [lg_entry_eq]
  generalize (lg_sl ([.ref h0, .int v1, .int v2, .int v3]) ++ List.replicate (4 - (lg_sl ([.ref h0, .int v1, .int v2, .int v3])).length) Slot.unset).toArray = ls at hl ⊢
  have hl : lv_has ls 4 [(0, .ref h0), (1, .int v1), (2, .int v2), (3, .int v3)] := hl
  have hP : va_P D vwCl [(h0, .inr (8, [.int v0_tones, .int v0_a, .int v0_b, .int v0_c, .int v0_d, .int v0_odds, .int v0_lines, .ref h_signs, .int v0_signCount, .ref h_posts, .int v0_postCount, .ref h_acts]))] s.heap := hP
  refine lv_aload_n hx hb dX8_setLaw_0 rfl (lv_at hl 0 rfl) ?_
  refine lv_iload_n hx hb dX8_setLaw_1 rfl (lv_at hl 1 rfl) ?_
  refine va_put (D := D) (ci := 8) (v := .int v1) (ty := .int) (C := RX8) (T := TX8) (N := 12) hx hb hts inlX8 tyX8 tyX8_ok nmX8 hown hK hP hD hS 0 rfl rfl 1 (by decide) (hts _ (inr10 _ (List.mem_of_getElem? (i := 11) rfl))) (fun _ h9 => h9) rfl (by decide +kernel) rfl rfl (Nat.le_of_ble_eq_true rfl) dX8_setLaw_2 (fun H locs hP hD hS => ?_)
  have hP : va_P D vwCl [(h0, .inr (8, [.int v0_tones, .int v1, .int v0_b, .int v0_c, .int v0_d, .int v0_odds, .int v0_lines, .ref h_signs, .int v0_signCount, .ref h_posts, .int v0_postCount, .ref h_acts]))] H := hP
  have hD : va_D A [(h0, .inr (8, [.int v0_tones, .int v1, .int v0_b, .int v0_c, .int v0_d, .int v0_odds, .int v0_lines, .ref h_signs, .int v0_signCount, .ref h_posts, .int v0_postCount, .ref h_acts]))] := hD
  refine lv_aload_n hx hb dX8_setLaw_5 rfl (lv_at hl 0 rfl) ?_
  refine lv_iload_n hx hb dX8_setLaw_6 rfl (lv_at hl 2 rfl) ?_
  refine va_put (D := D) (ci := 8) (v := .int v2) (ty := .int) (C := RX8) (T := TX8) (N := 12) hx hb hts inlX8 tyX8 tyX8_ok nmX8 hown hK hP hD hS 0 rfl rfl 2 (by decide) (hts _ (inr10 _ (List.mem_of_getElem? (i := 12) rfl))) (fun _ h9 => h9) rfl (by decide +kernel) rfl rfl (Nat.le_of_ble_eq_true rfl) dX8_setLaw_7 (fun H locs hP hD hS => ?_)
  have hP : va_P D vwCl [(h0, .inr (8, [.int v0_tones, .int v1, .int v2, .int v0_c, .int v0_d, .int v0_odds, .int v0_lines, .ref h_signs, .int v0_signCount, .ref h_posts, .int v0_postCount, .ref h_acts]))] H := hP
  have hD : va_D A [(h0, .inr (8, [.int v0_tones, .int v1, .int v2, .int v0_c, .int v0_d, .int v0_odds, .int v0_lines, .ref h_signs, .int v0_signCount, .ref h_posts, .int v0_postCount, .ref h_acts]))] := hD
  refine lv_aload_n hx hb dX8_setLaw_10 rfl (lv_at hl 0 rfl) ?_
  refine lv_iload_n hx hb dX8_setLaw_11 rfl (lv_at hl 3 rfl) ?_
  refine va_put (D := D) (ci := 8) (v := .int v3) (ty := .int) (C := RX8) (T := TX8) (N := 12) hx hb hts inlX8 tyX8 tyX8_ok nmX8 hown hK hP hD hS 0 rfl rfl 3 (by decide) (hts _ (inr10 _ (List.mem_of_getElem? (i := 13) rfl))) (fun _ h9 => h9) rfl (by decide +kernel) rfl rfl (Nat.le_of_ble_eq_true rfl) dX8_setLaw_12 (fun H locs hP hD hS => ?_)
  have hP : va_P D vwCl [(h0, .inr (8, [.int v0_tones, .int v1, .int v2, .int v3, .int v0_d, .int v0_odds, .int v0_lines, .ref h_signs, .int v0_signCount, .ref h_posts, .int v0_postCount, .ref h_acts]))] H := hP
  have hD : va_D A [(h0, .inr (8, [.int v0_tones, .int v1, .int v2, .int v3, .int v0_d, .int v0_odds, .int v0_lines, .ref h_signs, .int v0_signCount, .ref h_posts, .int v0_postCount, .ref h_acts]))] := hD
  exact ret _ _ _ _ (v1, v2, v3) dX8_setLaw_15 trivial (hP.sub [0] rfl) (hD.sub [0] (by decide) rfl) hS

set_option maxHeartbeats 4000000 in
set_option maxRecDepth 100000 in
theorem b_X8_copyFrom (l : Launch) (G : Gho) (D : va_G) (cB cI cJ cZ cS cT : ClassId) (sz : Nat) (h0 : Nat) (v0_tones : Int32) (v0_a : Int32) (v0_b : Int32) (v0_c : Int32) (v0_d : Int32) (v0_odds : Int32) (v0_lines : Int32) (h_signs : Nat) (v0_signCount : Int32) (h_posts : Nat) (v0_postCount : Int32) (h_acts : Nat) (h_acts_over : Nat) (h_acts_steps : Nat) (h_acts_before : Nat) (v_acts_size : Int32) (f_posts : Nat → Int32) (f_signs : Nat → Int32) (f_acts_before : Nat → Int32) (f_acts_over : Nat → Int32) (f_acts_steps : Nat → Int32) (h_a1 : Nat) (v_a1_tones : Int32) (v_a1_a : Int32) (v_a1_b : Int32) (v_a1_c : Int32) (v_a1_d : Int32) (v_a1_odds : Int32) (v_a1_lines : Int32) (h_a1_signs : Nat) (v_a1_signCount : Int32) (h_a1_posts : Nat) (v_a1_postCount : Int32) (h_a1_acts : Nat) (h_a1_acts_over : Nat) (h_a1_acts_steps : Nat) (h_a1_acts_before : Nat) (v_a1_acts_size : Int32) (f_a1_posts : Nat → Int32) (f_a1_signs : Nat → Int32) (f_a1_acts_before : Nat → Int32) (f_a1_acts_over : Nat → Int32) (f_a1_acts_steps : Nat → Int32) (iv0_signCount : 0 ≤ v0_signCount.toInt ∧ v0_signCount.toInt ≤ 8) (iv0_postCount : 0 ≤ v0_postCount.toInt ∧ v0_postCount.toInt ≤ 5) (iv_acts_size : 0 ≤ v_acts_size.toInt ∧ v_acts_size.toInt ≤ 30) (iv_a1_signCount : 0 ≤ v_a1_signCount.toInt ∧ v_a1_signCount.toInt ≤ 8) (iv_a1_postCount : 0 ≤ v_a1_postCount.toInt ∧ v_a1_postCount.toInt ≤ 5) (iv_a1_acts_size : 0 ≤ v_a1_acts_size.toInt ∧ v_a1_acts_size.toInt ≤ 30) : Met l yX8_copyFrom (Cond.code yX8_copyFrom cX8_copyFrom 2 none :: wsL_law) ({ frames := 2, cells := 0, slots := 0, locals := 61 }) (wrP G D (tyL cB cI cJ cZ cS cT) [(h0, .inr (8, [.int v0_tones, .int v0_a, .int v0_b, .int v0_c, .int v0_d, .int v0_odds, .int v0_lines, .ref h_signs, .int v0_signCount, .ref h_posts, .int v0_postCount, .ref h_acts])), (h_acts, .inr (0, [.ref h_acts_over, .ref h_acts_steps, .ref h_acts_before, .int v_acts_size])), (h_posts, .inl (cI, 5, .inl f_posts)), (h_signs, .inl (cI, 8, .inl f_signs)), (h_acts_before, .inl (cI, 30, .inl f_acts_before)), (h_acts_over, .inl (cI, 61, .inl f_acts_over)), (h_acts_steps, .inl (cI, 30, .inl f_acts_steps)), (h_a1, .inr (8, [.int v_a1_tones, .int v_a1_a, .int v_a1_b, .int v_a1_c, .int v_a1_d, .int v_a1_odds, .int v_a1_lines, .ref h_a1_signs, .int v_a1_signCount, .ref h_a1_posts, .int v_a1_postCount, .ref h_a1_acts])), (h_a1_acts, .inr (0, [.ref h_a1_acts_over, .ref h_a1_acts_steps, .ref h_a1_acts_before, .int v_a1_acts_size])), (h_a1_posts, .inl (cI, 5, .inl f_a1_posts)), (h_a1_signs, .inl (cI, 8, .inl f_a1_signs)), (h_a1_acts_before, .inl (cI, 30, .inl f_a1_acts_before)), (h_a1_acts_over, .inl (cI, 61, .inl f_a1_acts_over)), (h_a1_acts_steps, .inl (cI, 30, .inl f_a1_acts_steps))] sz [.ref h0, .ref h_a1]) (va_Qv (fun x : Int32 × Int32 × Int32 × Int32 × Int32 × Int32 × Int32 × Int32 × Int32 × Int32 × (Nat → Int32) × (Nat → Int32) × (Nat → Int32) × (Nat → Int32) × (Nat → Int32) => (0 ≤ x.2.2.2.2.2.2.2.1.toInt ∧ x.2.2.2.2.2.2.2.1.toInt ≤ 8) ∧ (0 ≤ x.2.2.2.2.2.2.2.2.1.toInt ∧ x.2.2.2.2.2.2.2.2.1.toInt ≤ 5) ∧ (0 ≤ x.2.2.2.2.2.2.2.2.2.1.toInt ∧ x.2.2.2.2.2.2.2.2.2.1.toInt ≤ 30)) (atW D (tyL cB cI cJ cZ cS cT) (va_A [(h0, .inr (8, [.int v0_tones, .int v0_a, .int v0_b, .int v0_c, .int v0_d, .int v0_odds, .int v0_lines, .ref h_signs, .int v0_signCount, .ref h_posts, .int v0_postCount, .ref h_acts])), (h_acts, .inr (0, [.ref h_acts_over, .ref h_acts_steps, .ref h_acts_before, .int v_acts_size])), (h_posts, .inl (cI, 5, .inl f_posts)), (h_signs, .inl (cI, 8, .inl f_signs)), (h_acts_before, .inl (cI, 30, .inl f_acts_before)), (h_acts_over, .inl (cI, 61, .inl f_acts_over)), (h_acts_steps, .inl (cI, 30, .inl f_acts_steps)), (h_a1, .inr (8, [.int v_a1_tones, .int v_a1_a, .int v_a1_b, .int v_a1_c, .int v_a1_d, .int v_a1_odds, .int v_a1_lines, .ref h_a1_signs, .int v_a1_signCount, .ref h_a1_posts, .int v_a1_postCount, .ref h_a1_acts])), (h_a1_acts, .inr (0, [.ref h_a1_acts_over, .ref h_a1_acts_steps, .ref h_a1_acts_before, .int v_a1_acts_size])), (h_a1_posts, .inl (cI, 5, .inl f_a1_posts)), (h_a1_signs, .inl (cI, 8, .inl f_a1_signs)), (h_a1_acts_before, .inl (cI, 30, .inl f_a1_acts_before)), (h_a1_acts_over, .inl (cI, 61, .inl f_a1_acts_over)), (h_a1_acts_steps, .inl (cI, 30, .inl f_a1_acts_steps))] sz) (fun x : Int32 × Int32 × Int32 × Int32 × Int32 × Int32 × Int32 × Int32 × Int32 × Int32 × (Nat → Int32) × (Nat → Int32) × (Nat → Int32) × (Nat → Int32) × (Nat → Int32) => [(h0, .inr (8, [.int x.1, .int x.2.1, .int x.2.2.1, .int x.2.2.2.1, .int x.2.2.2.2.1, .int x.2.2.2.2.2.1, .int x.2.2.2.2.2.2.1, .ref h_signs, .int x.2.2.2.2.2.2.2.1, .ref h_posts, .int x.2.2.2.2.2.2.2.2.1, .ref h_acts])), (h_acts, .inr (0, [.ref h_acts_over, .ref h_acts_steps, .ref h_acts_before, .int x.2.2.2.2.2.2.2.2.2.1])), (h_posts, .inl (cI, 5, .inl x.2.2.2.2.2.2.2.2.2.2.1)), (h_signs, .inl (cI, 8, .inl x.2.2.2.2.2.2.2.2.2.2.2.1)), (h_acts_before, .inl (cI, 30, .inl x.2.2.2.2.2.2.2.2.2.2.2.2.1)), (h_acts_over, .inl (cI, 61, .inl x.2.2.2.2.2.2.2.2.2.2.2.2.2.1)), (h_acts_steps, .inl (cI, 30, .inl x.2.2.2.2.2.2.2.2.2.2.2.2.2.2)), (h_a1, .inr (8, [.int v_a1_tones, .int v_a1_a, .int v_a1_b, .int v_a1_c, .int v_a1_d, .int v_a1_odds, .int v_a1_lines, .ref h_a1_signs, .int v_a1_signCount, .ref h_a1_posts, .int v_a1_postCount, .ref h_a1_acts])), (h_a1_acts, .inr (0, [.ref h_a1_acts_over, .ref h_a1_acts_steps, .ref h_a1_acts_before, .int v_a1_acts_size])), (h_a1_posts, .inl (cI, 5, .inl f_a1_posts)), (h_a1_signs, .inl (cI, 8, .inl f_a1_signs)), (h_a1_acts_before, .inl (cI, 30, .inl f_a1_acts_before)), (h_a1_acts_over, .inl (cI, 61, .inl f_a1_acts_over)), (h_a1_acts_steps, .inl (cI, 30, .inl f_a1_acts_steps))])) (va_A [(h0, .inr (8, [.int v0_tones, .int v0_a, .int v0_b, .int v0_c, .int v0_d, .int v0_odds, .int v0_lines, .ref h_signs, .int v0_signCount, .ref h_posts, .int v0_postCount, .ref h_acts])), (h_acts, .inr (0, [.ref h_acts_over, .ref h_acts_steps, .ref h_acts_before, .int v_acts_size])), (h_posts, .inl (cI, 5, .inl f_posts)), (h_signs, .inl (cI, 8, .inl f_signs)), (h_acts_before, .inl (cI, 30, .inl f_acts_before)), (h_acts_over, .inl (cI, 61, .inl f_acts_over)), (h_acts_steps, .inl (cI, 30, .inl f_acts_steps)), (h_a1, .inr (8, [.int v_a1_tones, .int v_a1_a, .int v_a1_b, .int v_a1_c, .int v_a1_d, .int v_a1_odds, .int v_a1_lines, .ref h_a1_signs, .int v_a1_signCount, .ref h_a1_posts, .int v_a1_postCount, .ref h_a1_acts])), (h_a1_acts, .inr (0, [.ref h_a1_acts_over, .ref h_a1_acts_steps, .ref h_a1_acts_before, .int v_a1_acts_size])), (h_a1_posts, .inl (cI, 5, .inl f_a1_posts)), (h_a1_signs, .inl (cI, 8, .inl f_a1_signs)), (h_a1_acts_before, .inl (cI, 30, .inl f_a1_acts_before)), (h_a1_acts_over, .inl (cI, 61, .inl f_a1_acts_over)), (h_a1_acts_steps, .inl (cI, 30, .inl f_a1_acts_steps))] sz)) 0 0 (va_A [(h0, .inr (8, [.int v0_tones, .int v0_a, .int v0_b, .int v0_c, .int v0_d, .int v0_odds, .int v0_lines, .ref h_signs, .int v0_signCount, .ref h_posts, .int v0_postCount, .ref h_acts])), (h_acts, .inr (0, [.ref h_acts_over, .ref h_acts_steps, .ref h_acts_before, .int v_acts_size])), (h_posts, .inl (cI, 5, .inl f_posts)), (h_signs, .inl (cI, 8, .inl f_signs)), (h_acts_before, .inl (cI, 30, .inl f_acts_before)), (h_acts_over, .inl (cI, 61, .inl f_acts_over)), (h_acts_steps, .inl (cI, 30, .inl f_acts_steps)), (h_a1, .inr (8, [.int v_a1_tones, .int v_a1_a, .int v_a1_b, .int v_a1_c, .int v_a1_d, .int v_a1_odds, .int v_a1_lines, .ref h_a1_signs, .int v_a1_signCount, .ref h_a1_posts, .int v_a1_postCount, .ref h_a1_acts])), (h_a1_acts, .inr (0, [.ref h_a1_acts_over, .ref h_a1_acts_steps, .ref h_a1_acts_before, .int v_a1_acts_size])), (h_a1_posts, .inl (cI, 5, .inl f_a1_posts)), (h_a1_signs, .inl (cI, 8, .inl f_a1_signs)), (h_a1_acts_before, .inl (cI, 30, .inl f_a1_acts_before)), (h_a1_acts_over, .inl (cI, 61, .inl f_a1_acts_over)), (h_a1_acts_steps, .inl (cI, 30, .inl f_a1_acts_steps))] sz) := by
  refine metV (own := RX8) (by decide) rfl ?_
  intro p e s m below meth c Q hsz C hG hP hD hAB ret
  obtain ⟨hx, hb, hml, hown, hts, hK, hN, hT⟩ := id C
  subst hsz
  generalize hAe : va_A [(h0, .inr (8, [.int v0_tones, .int v0_a, .int v0_b, .int v0_c, .int v0_d, .int v0_odds, .int v0_lines, .ref h_signs, .int v0_signCount, .ref h_posts, .int v0_postCount, .ref h_acts])), (h_acts, .inr (0, [.ref h_acts_over, .ref h_acts_steps, .ref h_acts_before, .int v_acts_size])), (h_posts, .inl (cI, 5, .inl f_posts)), (h_signs, .inl (cI, 8, .inl f_signs)), (h_acts_before, .inl (cI, 30, .inl f_acts_before)), (h_acts_over, .inl (cI, 61, .inl f_acts_over)), (h_acts_steps, .inl (cI, 30, .inl f_acts_steps)), (h_a1, .inr (8, [.int v_a1_tones, .int v_a1_a, .int v_a1_b, .int v_a1_c, .int v_a1_d, .int v_a1_odds, .int v_a1_lines, .ref h_a1_signs, .int v_a1_signCount, .ref h_a1_posts, .int v_a1_postCount, .ref h_a1_acts])), (h_a1_acts, .inr (0, [.ref h_a1_acts_over, .ref h_a1_acts_steps, .ref h_a1_acts_before, .int v_a1_acts_size])), (h_a1_posts, .inl (cI, 5, .inl f_a1_posts)), (h_a1_signs, .inl (cI, 8, .inl f_a1_signs)), (h_a1_acts_before, .inl (cI, 30, .inl f_a1_acts_before)), (h_a1_acts_over, .inl (cI, 61, .inl f_a1_acts_over)), (h_a1_acts_steps, .inl (cI, 30, .inl f_a1_acts_steps))] s.heap.size = A at hD hAB ret ⊢
  have hA : ∀ q : Nat, s.heap.size ≤ q → A q := fun q h => by rw [← hAe]; exact Or.inr h
  have hS : va_S A s.heap s.heap [] := va_S.rf
  have hl := lv_entry ([.ref h0, .ref h_a1]) (n := 2) (Nat.le_of_ble_eq_true rfl)
  rw [lg_entry_eq]
  generalize (lg_sl ([.ref h0, .ref h_a1]) ++ List.replicate (2 - (lg_sl ([.ref h0, .ref h_a1])).length) Slot.unset).toArray = ls at hl ⊢
  have hl : lv_has ls 2 [(0, .ref h0), (1, .ref h_a1)] := hl
  have hP : va_P D vwCl [(h0, .inr (8, [.int v0_tones, .int v0_a, .int v0_b, .int v0_c, .int v0_d, .int v0_odds, .int v0_lines, .ref h_signs, .int v0_signCount, .ref h_posts, .int v0_postCount, .ref h_acts])), (h_acts, .inr (0, [.ref h_acts_over, .ref h_acts_steps, .ref h_acts_before, .int v_acts_size])), (h_posts, .inl (cI, 5, .inl f_posts)), (h_signs, .inl (cI, 8, .inl f_signs)), (h_acts_before, .inl (cI, 30, .inl f_acts_before)), (h_acts_over, .inl (cI, 61, .inl f_acts_over)), (h_acts_steps, .inl (cI, 30, .inl f_acts_steps)), (h_a1, .inr (8, [.int v_a1_tones, .int v_a1_a, .int v_a1_b, .int v_a1_c, .int v_a1_d, .int v_a1_odds, .int v_a1_lines, .ref h_a1_signs, .int v_a1_signCount, .ref h_a1_posts, .int v_a1_postCount, .ref h_a1_acts])), (h_a1_acts, .inr (0, [.ref h_a1_acts_over, .ref h_a1_acts_steps, .ref h_a1_acts_before, .int v_a1_acts_size])), (h_a1_posts, .inl (cI, 5, .inl f_a1_posts)), (h_a1_signs, .inl (cI, 8, .inl f_a1_signs)), (h_a1_acts_before, .inl (cI, 30, .inl f_a1_acts_before)), (h_a1_acts_over, .inl (cI, 61, .inl f_a1_acts_over)), (h_a1_acts_steps, .inl (cI, 30, .inl f_a1_acts_steps))] s.heap := hP
  refine lv_aload_n hx hb dX8_copyFrom_0 rfl (lv_at hl 0 rfl) ?_
  refine lv_aload_n hx hb dX8_copyFrom_1 rfl (lv_at hl 1 rfl) ?_
  refine va_get (D := D) (ci := 8) (v := .int v_a1_tones) (C := RX8) (T := TX8) (N := 12) hx hb hts inlX8 hown hK hP 7 rfl rfl 0 (by decide) (hts _ (inr10 _ (List.mem_of_getElem? (i := 4) rfl))) (fun _ h9 => h9) rfl dX8_copyFrom_2 ?_
  refine lv_aload_n hx hb dX8_copyFrom_5 rfl (lv_at hl 1 rfl) ?_
  refine va_get (D := D) (ci := 8) (v := .int v_a1_d) (C := RX8) (T := TX8) (N := 12) hx hb hts inlX8 hown hK hP 7 rfl rfl 4 (by decide) (hts _ (inr10 _ (List.mem_of_getElem? (i := 5) rfl))) (fun _ h9 => h9) rfl dX8_copyFrom_6 ?_
  refine lv_aload_n hx hb dX8_copyFrom_9 rfl (lv_at hl 1 rfl) ?_
  refine va_get (D := D) (ci := 8) (v := .int v_a1_odds) (C := RX8) (T := TX8) (N := 12) hx hb hts inlX8 hown hK hP 7 rfl rfl 5 (by decide) (hts _ (inr10 _ (List.mem_of_getElem? (i := 6) rfl))) (fun _ h9 => h9) rfl dX8_copyFrom_10 ?_
  refine wrVv (As := [.int v_a1_tones, .int v_a1_d, .int v_a1_odds]) (rest := []) (wr := [(h_acts, .inr (0, [.ref h_acts_over, .ref h_acts_steps, .ref h_acts_before, .int v_acts_size])), (h_posts, .inl (cI, 5, .inl f_posts)), (h_signs, .inl (cI, 8, .inl f_signs)), (h_acts_before, .inl (cI, 30, .inl f_acts_before)), (h_acts_over, .inl (cI, 61, .inl f_acts_over)), (h_acts_steps, .inl (cI, 30, .inl f_acts_steps)), (h_a1, .inr (8, [.int v_a1_tones, .int v_a1_a, .int v_a1_b, .int v_a1_c, .int v_a1_d, .int v_a1_odds, .int v_a1_lines, .ref h_a1_signs, .int v_a1_signCount, .ref h_a1_posts, .int v_a1_postCount, .ref h_a1_acts])), (h_a1_acts, .inr (0, [.ref h_a1_acts_over, .ref h_a1_acts_steps, .ref h_a1_acts_before, .int v_a1_acts_size])), (h_a1_posts, .inl (cI, 5, .inl f_a1_posts)), (h_a1_signs, .inl (cI, 8, .inl f_a1_signs)), (h_a1_acts_before, .inl (cI, 30, .inl f_a1_acts_before)), (h_a1_acts_over, .inl (cI, 61, .inl f_a1_acts_over)), (h_a1_acts_steps, .inl (cI, 30, .inl f_a1_acts_steps))]) ⟨hx, hb, hml, hown, hts⟩ (b_X8_setHead l G D cB cI cJ cZ cS cT s.heap.size h0 v0_tones v0_a v0_b v0_c v0_d v0_odds v0_lines h_signs v0_signCount h_posts v0_postCount h_acts v_a1_tones v_a1_d v_a1_odds (by first | assumption | omega | decide) (by first | assumption | omega | decide)) hP hD hS hA hK hN hT hAB hG [0] [1, 2, 3, 4, 5, 6, 7, 8, 9, 10, 11, 12, 13] rfl rfl (by decide) (by decide) (by decide) (cvB (n := 3) (inr10 _ (List.mem_of_getElem? (i := 0) rfl)) (inr10 _ (List.mem_of_getElem? (i := 1) rfl)) (inr10 _ (List.mem_of_getElem? (i := 2) rfl)) (inr1 _ (List.mem_of_getElem? (i := 23) rfl)) (inr10 _ (List.mem_of_getElem? (i := 3) rfl)) (by decide +kernel) hts rfl rfl ⟨Nat.le_of_ble_eq_true rfl, Nat.le_of_ble_eq_true rfl⟩) 0 8 rfl rfl rfl rfl hl.1 rfl (Nat.le_of_ble_eq_true rfl) ⟨Nat.le_of_ble_eq_true rfl, Nat.le_of_ble_eq_true rfl⟩ dX8_copyFrom_13 (fun x9 H locs h_2 hP hD hS => ?_)
  obtain ⟨t_3, t_4, t_5⟩ := x9
  have hP : va_P D vwCl [(h_acts, .inr (0, [.ref h_acts_over, .ref h_acts_steps, .ref h_acts_before, .int v_acts_size])), (h_posts, .inl (cI, 5, .inl f_posts)), (h_signs, .inl (cI, 8, .inl f_signs)), (h_acts_before, .inl (cI, 30, .inl f_acts_before)), (h_acts_over, .inl (cI, 61, .inl f_acts_over)), (h_acts_steps, .inl (cI, 30, .inl f_acts_steps)), (h_a1, .inr (8, [.int v_a1_tones, .int v_a1_a, .int v_a1_b, .int v_a1_c, .int v_a1_d, .int v_a1_odds, .int v_a1_lines, .ref h_a1_signs, .int v_a1_signCount, .ref h_a1_posts, .int v_a1_postCount, .ref h_a1_acts])), (h_a1_acts, .inr (0, [.ref h_a1_acts_over, .ref h_a1_acts_steps, .ref h_a1_acts_before, .int v_a1_acts_size])), (h_a1_posts, .inl (cI, 5, .inl f_a1_posts)), (h_a1_signs, .inl (cI, 8, .inl f_a1_signs)), (h_a1_acts_before, .inl (cI, 30, .inl f_a1_acts_before)), (h_a1_acts_over, .inl (cI, 61, .inl f_a1_acts_over)), (h_a1_acts_steps, .inl (cI, 30, .inl f_a1_acts_steps)), (h0, .inr (8, [.int t_3, .int v0_a, .int v0_b, .int v0_c, .int t_4, .int t_5, .int v0_lines, .ref h_signs, .int v0_signCount, .ref h_posts, .int v0_postCount, .ref h_acts]))] H := hP
  have hD : va_D A [(h_acts, .inr (0, [.ref h_acts_over, .ref h_acts_steps, .ref h_acts_before, .int v_acts_size])), (h_posts, .inl (cI, 5, .inl f_posts)), (h_signs, .inl (cI, 8, .inl f_signs)), (h_acts_before, .inl (cI, 30, .inl f_acts_before)), (h_acts_over, .inl (cI, 61, .inl f_acts_over)), (h_acts_steps, .inl (cI, 30, .inl f_acts_steps)), (h_a1, .inr (8, [.int v_a1_tones, .int v_a1_a, .int v_a1_b, .int v_a1_c, .int v_a1_d, .int v_a1_odds, .int v_a1_lines, .ref h_a1_signs, .int v_a1_signCount, .ref h_a1_posts, .int v_a1_postCount, .ref h_a1_acts])), (h_a1_acts, .inr (0, [.ref h_a1_acts_over, .ref h_a1_acts_steps, .ref h_a1_acts_before, .int v_a1_acts_size])), (h_a1_posts, .inl (cI, 5, .inl f_a1_posts)), (h_a1_signs, .inl (cI, 8, .inl f_a1_signs)), (h_a1_acts_before, .inl (cI, 30, .inl f_a1_acts_before)), (h_a1_acts_over, .inl (cI, 61, .inl f_a1_acts_over)), (h_a1_acts_steps, .inl (cI, 30, .inl f_a1_acts_steps)), (h0, .inr (8, [.int t_3, .int v0_a, .int v0_b, .int v0_c, .int t_4, .int t_5, .int v0_lines, .ref h_signs, .int v0_signCount, .ref h_posts, .int v0_postCount, .ref h_acts]))] := hD
  refine lv_aload_n hx hb dX8_copyFrom_16 rfl (lv_at hl 0 rfl) ?_
  refine lv_aload_n hx hb dX8_copyFrom_17 rfl (lv_at hl 1 rfl) ?_
  refine va_get (D := D) (ci := 8) (v := .int v_a1_a) (C := RX8) (T := TX8) (N := 12) hx hb hts inlX8 hown hK hP 6 rfl rfl 1 (by decide) (hts _ (inr10 _ (List.mem_of_getElem? (i := 11) rfl))) (fun _ h9 => h9) rfl dX8_copyFrom_18 ?_
  refine lv_aload_n hx hb dX8_copyFrom_21 rfl (lv_at hl 1 rfl) ?_
  refine va_get (D := D) (ci := 8) (v := .int v_a1_b) (C := RX8) (T := TX8) (N := 12) hx hb hts inlX8 hown hK hP 6 rfl rfl 2 (by decide) (hts _ (inr10 _ (List.mem_of_getElem? (i := 12) rfl))) (fun _ h9 => h9) rfl dX8_copyFrom_22 ?_
  refine lv_aload_n hx hb dX8_copyFrom_25 rfl (lv_at hl 1 rfl) ?_
  refine va_get (D := D) (ci := 8) (v := .int v_a1_c) (C := RX8) (T := TX8) (N := 12) hx hb hts inlX8 hown hK hP 6 rfl rfl 3 (by decide) (hts _ (inr10 _ (List.mem_of_getElem? (i := 13) rfl))) (fun _ h9 => h9) rfl dX8_copyFrom_26 ?_
  refine wrVv (As := [.int v_a1_a, .int v_a1_b, .int v_a1_c]) (rest := []) (wr := [(h_acts, .inr (0, [.ref h_acts_over, .ref h_acts_steps, .ref h_acts_before, .int v_acts_size])), (h_posts, .inl (cI, 5, .inl f_posts)), (h_signs, .inl (cI, 8, .inl f_signs)), (h_acts_before, .inl (cI, 30, .inl f_acts_before)), (h_acts_over, .inl (cI, 61, .inl f_acts_over)), (h_acts_steps, .inl (cI, 30, .inl f_acts_steps)), (h_a1, .inr (8, [.int v_a1_tones, .int v_a1_a, .int v_a1_b, .int v_a1_c, .int v_a1_d, .int v_a1_odds, .int v_a1_lines, .ref h_a1_signs, .int v_a1_signCount, .ref h_a1_posts, .int v_a1_postCount, .ref h_a1_acts])), (h_a1_acts, .inr (0, [.ref h_a1_acts_over, .ref h_a1_acts_steps, .ref h_a1_acts_before, .int v_a1_acts_size])), (h_a1_posts, .inl (cI, 5, .inl f_a1_posts)), (h_a1_signs, .inl (cI, 8, .inl f_a1_signs)), (h_a1_acts_before, .inl (cI, 30, .inl f_a1_acts_before)), (h_a1_acts_over, .inl (cI, 61, .inl f_a1_acts_over)), (h_a1_acts_steps, .inl (cI, 30, .inl f_a1_acts_steps))]) ⟨hx, hb, hml, hown, hts⟩ (b_X8_setLaw l G D cB cI cJ cZ cS cT H.size h0 t_3 v0_a v0_b v0_c t_4 t_5 v0_lines h_signs v0_signCount h_posts v0_postCount h_acts v_a1_a v_a1_b v_a1_c (by first | assumption | omega | decide) (by first | assumption | omega | decide)) hP hD hS hA hK hN hT hAB hG [13] [0, 1, 2, 3, 4, 5, 6, 7, 8, 9, 10, 11, 12] rfl rfl (by decide) (by decide) (by decide) (cvB (n := 3) (inr10 _ (List.mem_of_getElem? (i := 7) rfl)) (inr10 _ (List.mem_of_getElem? (i := 8) rfl)) (inr10 _ (List.mem_of_getElem? (i := 9) rfl)) (inr1 _ (List.mem_of_getElem? (i := 23) rfl)) (inr10 _ (List.mem_of_getElem? (i := 10) rfl)) (by decide +kernel) hts rfl rfl ⟨Nat.le_of_ble_eq_true rfl, Nat.le_of_ble_eq_true rfl⟩) 0 8 rfl rfl rfl rfl hl.1 rfl (Nat.le_of_ble_eq_true rfl) ⟨Nat.le_of_ble_eq_true rfl, Nat.le_of_ble_eq_true rfl⟩ dX8_copyFrom_29 (fun x9 H locs h_7 hP hD hS => ?_)
  obtain ⟨t_8, t_9, t_10⟩ := x9
  have hP : va_P D vwCl [(h_acts, .inr (0, [.ref h_acts_over, .ref h_acts_steps, .ref h_acts_before, .int v_acts_size])), (h_posts, .inl (cI, 5, .inl f_posts)), (h_signs, .inl (cI, 8, .inl f_signs)), (h_acts_before, .inl (cI, 30, .inl f_acts_before)), (h_acts_over, .inl (cI, 61, .inl f_acts_over)), (h_acts_steps, .inl (cI, 30, .inl f_acts_steps)), (h_a1, .inr (8, [.int v_a1_tones, .int v_a1_a, .int v_a1_b, .int v_a1_c, .int v_a1_d, .int v_a1_odds, .int v_a1_lines, .ref h_a1_signs, .int v_a1_signCount, .ref h_a1_posts, .int v_a1_postCount, .ref h_a1_acts])), (h_a1_acts, .inr (0, [.ref h_a1_acts_over, .ref h_a1_acts_steps, .ref h_a1_acts_before, .int v_a1_acts_size])), (h_a1_posts, .inl (cI, 5, .inl f_a1_posts)), (h_a1_signs, .inl (cI, 8, .inl f_a1_signs)), (h_a1_acts_before, .inl (cI, 30, .inl f_a1_acts_before)), (h_a1_acts_over, .inl (cI, 61, .inl f_a1_acts_over)), (h_a1_acts_steps, .inl (cI, 30, .inl f_a1_acts_steps)), (h0, .inr (8, [.int t_3, .int t_8, .int t_9, .int t_10, .int t_4, .int t_5, .int v0_lines, .ref h_signs, .int v0_signCount, .ref h_posts, .int v0_postCount, .ref h_acts]))] H := hP
  have hD : va_D A [(h_acts, .inr (0, [.ref h_acts_over, .ref h_acts_steps, .ref h_acts_before, .int v_acts_size])), (h_posts, .inl (cI, 5, .inl f_posts)), (h_signs, .inl (cI, 8, .inl f_signs)), (h_acts_before, .inl (cI, 30, .inl f_acts_before)), (h_acts_over, .inl (cI, 61, .inl f_acts_over)), (h_acts_steps, .inl (cI, 30, .inl f_acts_steps)), (h_a1, .inr (8, [.int v_a1_tones, .int v_a1_a, .int v_a1_b, .int v_a1_c, .int v_a1_d, .int v_a1_odds, .int v_a1_lines, .ref h_a1_signs, .int v_a1_signCount, .ref h_a1_posts, .int v_a1_postCount, .ref h_a1_acts])), (h_a1_acts, .inr (0, [.ref h_a1_acts_over, .ref h_a1_acts_steps, .ref h_a1_acts_before, .int v_a1_acts_size])), (h_a1_posts, .inl (cI, 5, .inl f_a1_posts)), (h_a1_signs, .inl (cI, 8, .inl f_a1_signs)), (h_a1_acts_before, .inl (cI, 30, .inl f_a1_acts_before)), (h_a1_acts_over, .inl (cI, 61, .inl f_a1_acts_over)), (h_a1_acts_steps, .inl (cI, 30, .inl f_a1_acts_steps)), (h0, .inr (8, [.int t_3, .int t_8, .int t_9, .int t_10, .int t_4, .int t_5, .int v0_lines, .ref h_signs, .int v0_signCount, .ref h_posts, .int v0_postCount, .ref h_acts]))] := hD
  refine lv_aload_n hx hb dX8_copyFrom_32 rfl (lv_at hl 0 rfl) ?_
  refine lv_aload_n hx hb dX8_copyFrom_33 rfl (lv_at hl 1 rfl) ?_
  refine va_get (D := D) (ci := 8) (v := .int v_a1_lines) (C := RX8) (T := TX8) (N := 12) hx hb hts inlX8 hown hK hP 6 rfl rfl 6 (by decide) (hts _ (inr9 _ (List.mem_of_getElem? (i := 21) rfl))) (fun _ h9 => h9) rfl dX8_copyFrom_34 ?_
  refine va_put (D := D) (ci := 8) (v := .int v_a1_lines) (ty := .int) (C := RX8) (T := TX8) (N := 12) hx hb hts inlX8 tyX8 tyX8_ok nmX8 hown hK hP hD hS 13 rfl rfl 6 (by decide) (hts _ (inr9 _ (List.mem_of_getElem? (i := 21) rfl))) (fun _ h9 => h9) rfl (by decide +kernel) rfl rfl (Nat.le_of_ble_eq_true rfl) dX8_copyFrom_37 (fun H locs hP hD hS => ?_)
  have hP : va_P D vwCl [(h_acts, .inr (0, [.ref h_acts_over, .ref h_acts_steps, .ref h_acts_before, .int v_acts_size])), (h_posts, .inl (cI, 5, .inl f_posts)), (h_signs, .inl (cI, 8, .inl f_signs)), (h_acts_before, .inl (cI, 30, .inl f_acts_before)), (h_acts_over, .inl (cI, 61, .inl f_acts_over)), (h_acts_steps, .inl (cI, 30, .inl f_acts_steps)), (h_a1, .inr (8, [.int v_a1_tones, .int v_a1_a, .int v_a1_b, .int v_a1_c, .int v_a1_d, .int v_a1_odds, .int v_a1_lines, .ref h_a1_signs, .int v_a1_signCount, .ref h_a1_posts, .int v_a1_postCount, .ref h_a1_acts])), (h_a1_acts, .inr (0, [.ref h_a1_acts_over, .ref h_a1_acts_steps, .ref h_a1_acts_before, .int v_a1_acts_size])), (h_a1_posts, .inl (cI, 5, .inl f_a1_posts)), (h_a1_signs, .inl (cI, 8, .inl f_a1_signs)), (h_a1_acts_before, .inl (cI, 30, .inl f_a1_acts_before)), (h_a1_acts_over, .inl (cI, 61, .inl f_a1_acts_over)), (h_a1_acts_steps, .inl (cI, 30, .inl f_a1_acts_steps)), (h0, .inr (8, [.int t_3, .int t_8, .int t_9, .int t_10, .int t_4, .int t_5, .int v_a1_lines, .ref h_signs, .int v0_signCount, .ref h_posts, .int v0_postCount, .ref h_acts]))] H := hP
  have hD : va_D A [(h_acts, .inr (0, [.ref h_acts_over, .ref h_acts_steps, .ref h_acts_before, .int v_acts_size])), (h_posts, .inl (cI, 5, .inl f_posts)), (h_signs, .inl (cI, 8, .inl f_signs)), (h_acts_before, .inl (cI, 30, .inl f_acts_before)), (h_acts_over, .inl (cI, 61, .inl f_acts_over)), (h_acts_steps, .inl (cI, 30, .inl f_acts_steps)), (h_a1, .inr (8, [.int v_a1_tones, .int v_a1_a, .int v_a1_b, .int v_a1_c, .int v_a1_d, .int v_a1_odds, .int v_a1_lines, .ref h_a1_signs, .int v_a1_signCount, .ref h_a1_posts, .int v_a1_postCount, .ref h_a1_acts])), (h_a1_acts, .inr (0, [.ref h_a1_acts_over, .ref h_a1_acts_steps, .ref h_a1_acts_before, .int v_a1_acts_size])), (h_a1_posts, .inl (cI, 5, .inl f_a1_posts)), (h_a1_signs, .inl (cI, 8, .inl f_a1_signs)), (h_a1_acts_before, .inl (cI, 30, .inl f_a1_acts_before)), (h_a1_acts_over, .inl (cI, 61, .inl f_a1_acts_over)), (h_a1_acts_steps, .inl (cI, 30, .inl f_a1_acts_steps)), (h0, .inr (8, [.int t_3, .int t_8, .int t_9, .int t_10, .int t_4, .int t_5, .int v_a1_lines, .ref h_signs, .int v0_signCount, .ref h_posts, .int v0_postCount, .ref h_acts]))] := hD
  refine lv_aload_n hx hb dX8_copyFrom_40 rfl (lv_at hl 0 rfl) ?_
  refine lv_aload_n hx hb dX8_copyFrom_41 rfl (lv_at hl 1 rfl) ?_
  refine va_get (D := D) (ci := 8) (v := .int v_a1_signCount) (C := RX8) (T := TX8) (N := 12) hx hb hts inlX8 hown hK hP 6 rfl rfl 8 (by decide) (hts _ (inr9 _ (List.mem_of_getElem? (i := 22) rfl))) (fun _ h9 => h9) rfl dX8_copyFrom_42 ?_
  refine va_put (D := D) (ci := 8) (v := .int v_a1_signCount) (ty := .int) (C := RX8) (T := TX8) (N := 12) hx hb hts inlX8 tyX8 tyX8_ok nmX8 hown hK hP hD hS 13 rfl rfl 8 (by decide) (hts _ (inr9 _ (List.mem_of_getElem? (i := 22) rfl))) (fun _ h9 => h9) rfl (by decide +kernel) rfl rfl (Nat.le_of_ble_eq_true rfl) dX8_copyFrom_45 (fun H locs hP hD hS => ?_)
  have hP : va_P D vwCl [(h_acts, .inr (0, [.ref h_acts_over, .ref h_acts_steps, .ref h_acts_before, .int v_acts_size])), (h_posts, .inl (cI, 5, .inl f_posts)), (h_signs, .inl (cI, 8, .inl f_signs)), (h_acts_before, .inl (cI, 30, .inl f_acts_before)), (h_acts_over, .inl (cI, 61, .inl f_acts_over)), (h_acts_steps, .inl (cI, 30, .inl f_acts_steps)), (h_a1, .inr (8, [.int v_a1_tones, .int v_a1_a, .int v_a1_b, .int v_a1_c, .int v_a1_d, .int v_a1_odds, .int v_a1_lines, .ref h_a1_signs, .int v_a1_signCount, .ref h_a1_posts, .int v_a1_postCount, .ref h_a1_acts])), (h_a1_acts, .inr (0, [.ref h_a1_acts_over, .ref h_a1_acts_steps, .ref h_a1_acts_before, .int v_a1_acts_size])), (h_a1_posts, .inl (cI, 5, .inl f_a1_posts)), (h_a1_signs, .inl (cI, 8, .inl f_a1_signs)), (h_a1_acts_before, .inl (cI, 30, .inl f_a1_acts_before)), (h_a1_acts_over, .inl (cI, 61, .inl f_a1_acts_over)), (h_a1_acts_steps, .inl (cI, 30, .inl f_a1_acts_steps)), (h0, .inr (8, [.int t_3, .int t_8, .int t_9, .int t_10, .int t_4, .int t_5, .int v_a1_lines, .ref h_signs, .int v_a1_signCount, .ref h_posts, .int v0_postCount, .ref h_acts]))] H := hP
  have hD : va_D A [(h_acts, .inr (0, [.ref h_acts_over, .ref h_acts_steps, .ref h_acts_before, .int v_acts_size])), (h_posts, .inl (cI, 5, .inl f_posts)), (h_signs, .inl (cI, 8, .inl f_signs)), (h_acts_before, .inl (cI, 30, .inl f_acts_before)), (h_acts_over, .inl (cI, 61, .inl f_acts_over)), (h_acts_steps, .inl (cI, 30, .inl f_acts_steps)), (h_a1, .inr (8, [.int v_a1_tones, .int v_a1_a, .int v_a1_b, .int v_a1_c, .int v_a1_d, .int v_a1_odds, .int v_a1_lines, .ref h_a1_signs, .int v_a1_signCount, .ref h_a1_posts, .int v_a1_postCount, .ref h_a1_acts])), (h_a1_acts, .inr (0, [.ref h_a1_acts_over, .ref h_a1_acts_steps, .ref h_a1_acts_before, .int v_a1_acts_size])), (h_a1_posts, .inl (cI, 5, .inl f_a1_posts)), (h_a1_signs, .inl (cI, 8, .inl f_a1_signs)), (h_a1_acts_before, .inl (cI, 30, .inl f_a1_acts_before)), (h_a1_acts_over, .inl (cI, 61, .inl f_a1_acts_over)), (h_a1_acts_steps, .inl (cI, 30, .inl f_a1_acts_steps)), (h0, .inr (8, [.int t_3, .int t_8, .int t_9, .int t_10, .int t_4, .int t_5, .int v_a1_lines, .ref h_signs, .int v_a1_signCount, .ref h_posts, .int v0_postCount, .ref h_acts]))] := hD
  refine lv_aload_n hx hb dX8_copyFrom_48 rfl (lv_at hl 1 rfl) ?_
  refine va_get (D := D) (ci := 8) (v := .ref h_a1_signs) (C := RX8) (T := TX8) (N := 12) hx hb hts inlX8 hown hK hP 6 rfl rfl 7 (by decide) (hts _ (inr4 _ (List.mem_of_getElem? (i := 1) rfl))) (fun _ h9 => h9) rfl dX8_copyFrom_49 ?_
  refine lv_iconst (v := 0) hx hb dX8_copyFrom_52 (by decide) ?_
  refine lv_aload_n hx hb dX8_copyFrom_53 rfl (lv_at hl 0 rfl) ?_
  refine va_get (D := D) (ci := 8) (v := .ref h_signs) (C := RX8) (T := TX8) (N := 12) hx hb hts inlX8 hown hK hP 13 rfl rfl 7 (by decide) (hts _ (inr4 _ (List.mem_of_getElem? (i := 1) rfl))) (fun _ h9 => h9) rfl dX8_copyFrom_54 ?_
  refine lv_iconst (v := 0) hx hb dX8_copyFrom_57 (by decide) ?_
  refine lv_bipush (v := 8) hx hb dX8_copyFrom_58 (by decide) ?_
  refine va_copyi (rest := []) hx hb (by rw [hml]; exact hl.1.symm) hown (hts _ (inr17 _ (List.mem_of_getElem? (i := 5) rfl))) (hts _ (inr17 _ (List.mem_of_getElem? (i := 6) rfl))) (hts _ (inr17 _ (List.mem_of_getElem? (i := 7) rfl))) (hts _ (inr17 _ (List.mem_of_getElem? (i := 8) rfl))) hK hP hD hS 9 2 1 1 rfl rfl rfl rfl rfl (by decide) (by decide) (by decide) (by decide) (by decide) (fun _ _ => rfl) (Nat.le_of_ble_eq_true rfl) (Nat.le_of_ble_eq_true rfl) dX8_copyFrom_60 (fun H locs hP hD hS => ?_)
  have hP : va_P D vwCl [(h_acts, .inr (0, [.ref h_acts_over, .ref h_acts_steps, .ref h_acts_before, .int v_acts_size])), (h_posts, .inl (cI, 5, .inl f_posts)), (h_signs, .inl (cI, 8, .inl (va_cpy f_a1_signs f_signs (0 : Int32).toNatClampNeg (0 : Int32).toNatClampNeg (8 : Int32).toNatClampNeg))), (h_acts_before, .inl (cI, 30, .inl f_acts_before)), (h_acts_over, .inl (cI, 61, .inl f_acts_over)), (h_acts_steps, .inl (cI, 30, .inl f_acts_steps)), (h_a1, .inr (8, [.int v_a1_tones, .int v_a1_a, .int v_a1_b, .int v_a1_c, .int v_a1_d, .int v_a1_odds, .int v_a1_lines, .ref h_a1_signs, .int v_a1_signCount, .ref h_a1_posts, .int v_a1_postCount, .ref h_a1_acts])), (h_a1_acts, .inr (0, [.ref h_a1_acts_over, .ref h_a1_acts_steps, .ref h_a1_acts_before, .int v_a1_acts_size])), (h_a1_posts, .inl (cI, 5, .inl f_a1_posts)), (h_a1_signs, .inl (cI, 8, .inl f_a1_signs)), (h_a1_acts_before, .inl (cI, 30, .inl f_a1_acts_before)), (h_a1_acts_over, .inl (cI, 61, .inl f_a1_acts_over)), (h_a1_acts_steps, .inl (cI, 30, .inl f_a1_acts_steps)), (h0, .inr (8, [.int t_3, .int t_8, .int t_9, .int t_10, .int t_4, .int t_5, .int v_a1_lines, .ref h_signs, .int v_a1_signCount, .ref h_posts, .int v0_postCount, .ref h_acts]))] H := hP
  have hD : va_D A [(h_acts, .inr (0, [.ref h_acts_over, .ref h_acts_steps, .ref h_acts_before, .int v_acts_size])), (h_posts, .inl (cI, 5, .inl f_posts)), (h_signs, .inl (cI, 8, .inl (va_cpy f_a1_signs f_signs (0 : Int32).toNatClampNeg (0 : Int32).toNatClampNeg (8 : Int32).toNatClampNeg))), (h_acts_before, .inl (cI, 30, .inl f_acts_before)), (h_acts_over, .inl (cI, 61, .inl f_acts_over)), (h_acts_steps, .inl (cI, 30, .inl f_acts_steps)), (h_a1, .inr (8, [.int v_a1_tones, .int v_a1_a, .int v_a1_b, .int v_a1_c, .int v_a1_d, .int v_a1_odds, .int v_a1_lines, .ref h_a1_signs, .int v_a1_signCount, .ref h_a1_posts, .int v_a1_postCount, .ref h_a1_acts])), (h_a1_acts, .inr (0, [.ref h_a1_acts_over, .ref h_a1_acts_steps, .ref h_a1_acts_before, .int v_a1_acts_size])), (h_a1_posts, .inl (cI, 5, .inl f_a1_posts)), (h_a1_signs, .inl (cI, 8, .inl f_a1_signs)), (h_a1_acts_before, .inl (cI, 30, .inl f_a1_acts_before)), (h_a1_acts_over, .inl (cI, 61, .inl f_a1_acts_over)), (h_a1_acts_steps, .inl (cI, 30, .inl f_a1_acts_steps)), (h0, .inr (8, [.int t_3, .int t_8, .int t_9, .int t_10, .int t_4, .int t_5, .int v_a1_lines, .ref h_signs, .int v_a1_signCount, .ref h_posts, .int v0_postCount, .ref h_acts]))] := hD
  obtain ⟨g_11, eg_11⟩ : ∃ v9 : Nat → Int32, (va_cpy f_a1_signs f_signs (0 : Int32).toNatClampNeg (0 : Int32).toNatClampNeg (8 : Int32).toNatClampNeg) = v9 := ⟨_, rfl⟩
  rw [eg_11] at hP hD
  have hP : va_P D vwCl [(h_acts, .inr (0, [.ref h_acts_over, .ref h_acts_steps, .ref h_acts_before, .int v_acts_size])), (h_posts, .inl (cI, 5, .inl f_posts)), (h_signs, .inl (cI, 8, .inl g_11)), (h_acts_before, .inl (cI, 30, .inl f_acts_before)), (h_acts_over, .inl (cI, 61, .inl f_acts_over)), (h_acts_steps, .inl (cI, 30, .inl f_acts_steps)), (h_a1, .inr (8, [.int v_a1_tones, .int v_a1_a, .int v_a1_b, .int v_a1_c, .int v_a1_d, .int v_a1_odds, .int v_a1_lines, .ref h_a1_signs, .int v_a1_signCount, .ref h_a1_posts, .int v_a1_postCount, .ref h_a1_acts])), (h_a1_acts, .inr (0, [.ref h_a1_acts_over, .ref h_a1_acts_steps, .ref h_a1_acts_before, .int v_a1_acts_size])), (h_a1_posts, .inl (cI, 5, .inl f_a1_posts)), (h_a1_signs, .inl (cI, 8, .inl f_a1_signs)), (h_a1_acts_before, .inl (cI, 30, .inl f_a1_acts_before)), (h_a1_acts_over, .inl (cI, 61, .inl f_a1_acts_over)), (h_a1_acts_steps, .inl (cI, 30, .inl f_a1_acts_steps)), (h0, .inr (8, [.int t_3, .int t_8, .int t_9, .int t_10, .int t_4, .int t_5, .int v_a1_lines, .ref h_signs, .int v_a1_signCount, .ref h_posts, .int v0_postCount, .ref h_acts]))] H := hP
  have hD : va_D A [(h_acts, .inr (0, [.ref h_acts_over, .ref h_acts_steps, .ref h_acts_before, .int v_acts_size])), (h_posts, .inl (cI, 5, .inl f_posts)), (h_signs, .inl (cI, 8, .inl g_11)), (h_acts_before, .inl (cI, 30, .inl f_acts_before)), (h_acts_over, .inl (cI, 61, .inl f_acts_over)), (h_acts_steps, .inl (cI, 30, .inl f_acts_steps)), (h_a1, .inr (8, [.int v_a1_tones, .int v_a1_a, .int v_a1_b, .int v_a1_c, .int v_a1_d, .int v_a1_odds, .int v_a1_lines, .ref h_a1_signs, .int v_a1_signCount, .ref h_a1_posts, .int v_a1_postCount, .ref h_a1_acts])), (h_a1_acts, .inr (0, [.ref h_a1_acts_over, .ref h_a1_acts_steps, .ref h_a1_acts_before, .int v_a1_acts_size])), (h_a1_posts, .inl (cI, 5, .inl f_a1_posts)), (h_a1_signs, .inl (cI, 8, .inl f_a1_signs)), (h_a1_acts_before, .inl (cI, 30, .inl f_a1_acts_before)), (h_a1_acts_over, .inl (cI, 61, .inl f_a1_acts_over)), (h_a1_acts_steps, .inl (cI, 30, .inl f_a1_acts_steps)), (h0, .inr (8, [.int t_3, .int t_8, .int t_9, .int t_10, .int t_4, .int t_5, .int v_a1_lines, .ref h_signs, .int v_a1_signCount, .ref h_posts, .int v0_postCount, .ref h_acts]))] := hD
  refine lv_aload_n hx hb dX8_copyFrom_63 rfl (lv_at hl 0 rfl) ?_
  refine lv_aload_n hx hb dX8_copyFrom_64 rfl (lv_at hl 1 rfl) ?_
  refine va_get (D := D) (ci := 8) (v := .int v_a1_postCount) (C := RX8) (T := TX8) (N := 12) hx hb hts inlX8 hown hK hP 6 rfl rfl 10 (by decide) (hts _ (inr9 _ (List.mem_of_getElem? (i := 23) rfl))) (fun _ h9 => h9) rfl dX8_copyFrom_65 ?_
  refine va_put (D := D) (ci := 8) (v := .int v_a1_postCount) (ty := .int) (C := RX8) (T := TX8) (N := 12) hx hb hts inlX8 tyX8 tyX8_ok nmX8 hown hK hP hD hS 13 rfl rfl 10 (by decide) (hts _ (inr9 _ (List.mem_of_getElem? (i := 23) rfl))) (fun _ h9 => h9) rfl (by decide +kernel) rfl rfl (Nat.le_of_ble_eq_true rfl) dX8_copyFrom_68 (fun H locs hP hD hS => ?_)
  have hP : va_P D vwCl [(h_acts, .inr (0, [.ref h_acts_over, .ref h_acts_steps, .ref h_acts_before, .int v_acts_size])), (h_posts, .inl (cI, 5, .inl f_posts)), (h_signs, .inl (cI, 8, .inl g_11)), (h_acts_before, .inl (cI, 30, .inl f_acts_before)), (h_acts_over, .inl (cI, 61, .inl f_acts_over)), (h_acts_steps, .inl (cI, 30, .inl f_acts_steps)), (h_a1, .inr (8, [.int v_a1_tones, .int v_a1_a, .int v_a1_b, .int v_a1_c, .int v_a1_d, .int v_a1_odds, .int v_a1_lines, .ref h_a1_signs, .int v_a1_signCount, .ref h_a1_posts, .int v_a1_postCount, .ref h_a1_acts])), (h_a1_acts, .inr (0, [.ref h_a1_acts_over, .ref h_a1_acts_steps, .ref h_a1_acts_before, .int v_a1_acts_size])), (h_a1_posts, .inl (cI, 5, .inl f_a1_posts)), (h_a1_signs, .inl (cI, 8, .inl f_a1_signs)), (h_a1_acts_before, .inl (cI, 30, .inl f_a1_acts_before)), (h_a1_acts_over, .inl (cI, 61, .inl f_a1_acts_over)), (h_a1_acts_steps, .inl (cI, 30, .inl f_a1_acts_steps)), (h0, .inr (8, [.int t_3, .int t_8, .int t_9, .int t_10, .int t_4, .int t_5, .int v_a1_lines, .ref h_signs, .int v_a1_signCount, .ref h_posts, .int v_a1_postCount, .ref h_acts]))] H := hP
  have hD : va_D A [(h_acts, .inr (0, [.ref h_acts_over, .ref h_acts_steps, .ref h_acts_before, .int v_acts_size])), (h_posts, .inl (cI, 5, .inl f_posts)), (h_signs, .inl (cI, 8, .inl g_11)), (h_acts_before, .inl (cI, 30, .inl f_acts_before)), (h_acts_over, .inl (cI, 61, .inl f_acts_over)), (h_acts_steps, .inl (cI, 30, .inl f_acts_steps)), (h_a1, .inr (8, [.int v_a1_tones, .int v_a1_a, .int v_a1_b, .int v_a1_c, .int v_a1_d, .int v_a1_odds, .int v_a1_lines, .ref h_a1_signs, .int v_a1_signCount, .ref h_a1_posts, .int v_a1_postCount, .ref h_a1_acts])), (h_a1_acts, .inr (0, [.ref h_a1_acts_over, .ref h_a1_acts_steps, .ref h_a1_acts_before, .int v_a1_acts_size])), (h_a1_posts, .inl (cI, 5, .inl f_a1_posts)), (h_a1_signs, .inl (cI, 8, .inl f_a1_signs)), (h_a1_acts_before, .inl (cI, 30, .inl f_a1_acts_before)), (h_a1_acts_over, .inl (cI, 61, .inl f_a1_acts_over)), (h_a1_acts_steps, .inl (cI, 30, .inl f_a1_acts_steps)), (h0, .inr (8, [.int t_3, .int t_8, .int t_9, .int t_10, .int t_4, .int t_5, .int v_a1_lines, .ref h_signs, .int v_a1_signCount, .ref h_posts, .int v_a1_postCount, .ref h_acts]))] := hD
  refine lv_aload_n hx hb dX8_copyFrom_71 rfl (lv_at hl 1 rfl) ?_
  refine va_get (D := D) (ci := 8) (v := .ref h_a1_posts) (C := RX8) (T := TX8) (N := 12) hx hb hts inlX8 hown hK hP 6 rfl rfl 9 (by decide) (hts _ (inr4 _ (List.mem_of_getElem? (i := 2) rfl))) (fun _ h9 => h9) rfl dX8_copyFrom_72 ?_
  refine lv_iconst (v := 0) hx hb dX8_copyFrom_75 (by decide) ?_
  refine lv_aload_n hx hb dX8_copyFrom_76 rfl (lv_at hl 0 rfl) ?_
  refine va_get (D := D) (ci := 8) (v := .ref h_posts) (C := RX8) (T := TX8) (N := 12) hx hb hts inlX8 hown hK hP 13 rfl rfl 9 (by decide) (hts _ (inr4 _ (List.mem_of_getElem? (i := 2) rfl))) (fun _ h9 => h9) rfl dX8_copyFrom_77 ?_
  refine lv_iconst (v := 0) hx hb dX8_copyFrom_80 (by decide) ?_
  refine lv_iconst (v := 5) hx hb dX8_copyFrom_81 (by decide) ?_
  refine va_copyi (rest := []) hx hb (by rw [hml]; exact hl.1.symm) hown (hts _ (inr17 _ (List.mem_of_getElem? (i := 5) rfl))) (hts _ (inr17 _ (List.mem_of_getElem? (i := 6) rfl))) (hts _ (inr17 _ (List.mem_of_getElem? (i := 7) rfl))) (hts _ (inr17 _ (List.mem_of_getElem? (i := 8) rfl))) hK hP hD hS 8 1 1 1 rfl rfl rfl rfl rfl (by decide) (by decide) (by decide) (by decide) (by decide) (fun _ _ => rfl) (Nat.le_of_ble_eq_true rfl) (Nat.le_of_ble_eq_true rfl) dX8_copyFrom_82 (fun H locs hP hD hS => ?_)
  have hP : va_P D vwCl [(h_acts, .inr (0, [.ref h_acts_over, .ref h_acts_steps, .ref h_acts_before, .int v_acts_size])), (h_posts, .inl (cI, 5, .inl (va_cpy f_a1_posts f_posts (0 : Int32).toNatClampNeg (0 : Int32).toNatClampNeg (5 : Int32).toNatClampNeg))), (h_signs, .inl (cI, 8, .inl g_11)), (h_acts_before, .inl (cI, 30, .inl f_acts_before)), (h_acts_over, .inl (cI, 61, .inl f_acts_over)), (h_acts_steps, .inl (cI, 30, .inl f_acts_steps)), (h_a1, .inr (8, [.int v_a1_tones, .int v_a1_a, .int v_a1_b, .int v_a1_c, .int v_a1_d, .int v_a1_odds, .int v_a1_lines, .ref h_a1_signs, .int v_a1_signCount, .ref h_a1_posts, .int v_a1_postCount, .ref h_a1_acts])), (h_a1_acts, .inr (0, [.ref h_a1_acts_over, .ref h_a1_acts_steps, .ref h_a1_acts_before, .int v_a1_acts_size])), (h_a1_posts, .inl (cI, 5, .inl f_a1_posts)), (h_a1_signs, .inl (cI, 8, .inl f_a1_signs)), (h_a1_acts_before, .inl (cI, 30, .inl f_a1_acts_before)), (h_a1_acts_over, .inl (cI, 61, .inl f_a1_acts_over)), (h_a1_acts_steps, .inl (cI, 30, .inl f_a1_acts_steps)), (h0, .inr (8, [.int t_3, .int t_8, .int t_9, .int t_10, .int t_4, .int t_5, .int v_a1_lines, .ref h_signs, .int v_a1_signCount, .ref h_posts, .int v_a1_postCount, .ref h_acts]))] H := hP
  have hD : va_D A [(h_acts, .inr (0, [.ref h_acts_over, .ref h_acts_steps, .ref h_acts_before, .int v_acts_size])), (h_posts, .inl (cI, 5, .inl (va_cpy f_a1_posts f_posts (0 : Int32).toNatClampNeg (0 : Int32).toNatClampNeg (5 : Int32).toNatClampNeg))), (h_signs, .inl (cI, 8, .inl g_11)), (h_acts_before, .inl (cI, 30, .inl f_acts_before)), (h_acts_over, .inl (cI, 61, .inl f_acts_over)), (h_acts_steps, .inl (cI, 30, .inl f_acts_steps)), (h_a1, .inr (8, [.int v_a1_tones, .int v_a1_a, .int v_a1_b, .int v_a1_c, .int v_a1_d, .int v_a1_odds, .int v_a1_lines, .ref h_a1_signs, .int v_a1_signCount, .ref h_a1_posts, .int v_a1_postCount, .ref h_a1_acts])), (h_a1_acts, .inr (0, [.ref h_a1_acts_over, .ref h_a1_acts_steps, .ref h_a1_acts_before, .int v_a1_acts_size])), (h_a1_posts, .inl (cI, 5, .inl f_a1_posts)), (h_a1_signs, .inl (cI, 8, .inl f_a1_signs)), (h_a1_acts_before, .inl (cI, 30, .inl f_a1_acts_before)), (h_a1_acts_over, .inl (cI, 61, .inl f_a1_acts_over)), (h_a1_acts_steps, .inl (cI, 30, .inl f_a1_acts_steps)), (h0, .inr (8, [.int t_3, .int t_8, .int t_9, .int t_10, .int t_4, .int t_5, .int v_a1_lines, .ref h_signs, .int v_a1_signCount, .ref h_posts, .int v_a1_postCount, .ref h_acts]))] := hD
  obtain ⟨g_12, eg_12⟩ : ∃ v9 : Nat → Int32, (va_cpy f_a1_posts f_posts (0 : Int32).toNatClampNeg (0 : Int32).toNatClampNeg (5 : Int32).toNatClampNeg) = v9 := ⟨_, rfl⟩
  rw [eg_12] at hP hD
  have hP : va_P D vwCl [(h_acts, .inr (0, [.ref h_acts_over, .ref h_acts_steps, .ref h_acts_before, .int v_acts_size])), (h_posts, .inl (cI, 5, .inl g_12)), (h_signs, .inl (cI, 8, .inl g_11)), (h_acts_before, .inl (cI, 30, .inl f_acts_before)), (h_acts_over, .inl (cI, 61, .inl f_acts_over)), (h_acts_steps, .inl (cI, 30, .inl f_acts_steps)), (h_a1, .inr (8, [.int v_a1_tones, .int v_a1_a, .int v_a1_b, .int v_a1_c, .int v_a1_d, .int v_a1_odds, .int v_a1_lines, .ref h_a1_signs, .int v_a1_signCount, .ref h_a1_posts, .int v_a1_postCount, .ref h_a1_acts])), (h_a1_acts, .inr (0, [.ref h_a1_acts_over, .ref h_a1_acts_steps, .ref h_a1_acts_before, .int v_a1_acts_size])), (h_a1_posts, .inl (cI, 5, .inl f_a1_posts)), (h_a1_signs, .inl (cI, 8, .inl f_a1_signs)), (h_a1_acts_before, .inl (cI, 30, .inl f_a1_acts_before)), (h_a1_acts_over, .inl (cI, 61, .inl f_a1_acts_over)), (h_a1_acts_steps, .inl (cI, 30, .inl f_a1_acts_steps)), (h0, .inr (8, [.int t_3, .int t_8, .int t_9, .int t_10, .int t_4, .int t_5, .int v_a1_lines, .ref h_signs, .int v_a1_signCount, .ref h_posts, .int v_a1_postCount, .ref h_acts]))] H := hP
  have hD : va_D A [(h_acts, .inr (0, [.ref h_acts_over, .ref h_acts_steps, .ref h_acts_before, .int v_acts_size])), (h_posts, .inl (cI, 5, .inl g_12)), (h_signs, .inl (cI, 8, .inl g_11)), (h_acts_before, .inl (cI, 30, .inl f_acts_before)), (h_acts_over, .inl (cI, 61, .inl f_acts_over)), (h_acts_steps, .inl (cI, 30, .inl f_acts_steps)), (h_a1, .inr (8, [.int v_a1_tones, .int v_a1_a, .int v_a1_b, .int v_a1_c, .int v_a1_d, .int v_a1_odds, .int v_a1_lines, .ref h_a1_signs, .int v_a1_signCount, .ref h_a1_posts, .int v_a1_postCount, .ref h_a1_acts])), (h_a1_acts, .inr (0, [.ref h_a1_acts_over, .ref h_a1_acts_steps, .ref h_a1_acts_before, .int v_a1_acts_size])), (h_a1_posts, .inl (cI, 5, .inl f_a1_posts)), (h_a1_signs, .inl (cI, 8, .inl f_a1_signs)), (h_a1_acts_before, .inl (cI, 30, .inl f_a1_acts_before)), (h_a1_acts_over, .inl (cI, 61, .inl f_a1_acts_over)), (h_a1_acts_steps, .inl (cI, 30, .inl f_a1_acts_steps)), (h0, .inr (8, [.int t_3, .int t_8, .int t_9, .int t_10, .int t_4, .int t_5, .int v_a1_lines, .ref h_signs, .int v_a1_signCount, .ref h_posts, .int v_a1_postCount, .ref h_acts]))] := hD
  refine lv_aload_n hx hb dX8_copyFrom_85 rfl (lv_at hl 0 rfl) ?_
  refine va_get (D := D) (ci := 8) (v := .ref h_acts) (C := RX8) (T := TX8) (N := 12) hx hb hts inlX8 hown hK hP 13 rfl rfl 11 (by decide) (hts _ (inr4 _ (List.mem_of_getElem? (i := 6) rfl))) (fun _ h9 => h9) rfl dX8_copyFrom_86 ?_
  refine lv_aload_n hx hb dX8_copyFrom_89 rfl (lv_at hl 1 rfl) ?_
  refine va_get (D := D) (ci := 8) (v := .ref h_a1_acts) (C := RX8) (T := TX8) (N := 12) hx hb hts inlX8 hown hK hP 6 rfl rfl 11 (by decide) (hts _ (inr4 _ (List.mem_of_getElem? (i := 6) rfl))) (fun _ h9 => h9) rfl dX8_copyFrom_90 ?_
  refine wrVv (As := [.ref h_a1_acts]) (rest := []) (wr := [(h_posts, .inl (cI, 5, .inl g_12)), (h_signs, .inl (cI, 8, .inl g_11)), (h_a1, .inr (8, [.int v_a1_tones, .int v_a1_a, .int v_a1_b, .int v_a1_c, .int v_a1_d, .int v_a1_odds, .int v_a1_lines, .ref h_a1_signs, .int v_a1_signCount, .ref h_a1_posts, .int v_a1_postCount, .ref h_a1_acts])), (h_a1_posts, .inl (cI, 5, .inl f_a1_posts)), (h_a1_signs, .inl (cI, 8, .inl f_a1_signs)), (h0, .inr (8, [.int t_3, .int t_8, .int t_9, .int t_10, .int t_4, .int t_5, .int v_a1_lines, .ref h_signs, .int v_a1_signCount, .ref h_posts, .int v_a1_postCount, .ref h_acts]))]) ⟨hx, hb, hml, hown, hts⟩ (b_X0_copyFrom l G D cB cI cJ cZ cS cT H.size h_acts h_acts_over h_acts_steps h_acts_before v_acts_size f_acts_before f_acts_over f_acts_steps h_a1_acts h_a1_acts_over h_a1_acts_steps h_a1_acts_before v_a1_acts_size f_a1_acts_before f_a1_acts_over f_a1_acts_steps (by first | assumption | omega | decide) (by first | assumption | omega | decide)) hP hD hS hA hK hN hT hAB hG [0, 3, 4, 5, 7, 10, 11, 12] [1, 2, 6, 8, 9, 13] rfl rfl (by decide) (by decide) (by decide) (cvB (n := 1) (inr17 _ (List.mem_of_getElem? (i := 9) rfl)) (inr17 _ (List.mem_of_getElem? (i := 10) rfl)) (inr17 _ (List.mem_of_getElem? (i := 11) rfl)) (inr4 _ (List.mem_of_getElem? (i := 5) rfl)) (inr17 _ (List.mem_of_getElem? (i := 12) rfl)) (by decide +kernel) hts rfl rfl ⟨Nat.le_of_ble_eq_true rfl, Nat.le_of_ble_eq_true rfl⟩) 0 0 rfl rfl rfl rfl hl.1 rfl (Nat.le_of_ble_eq_true rfl) ⟨Nat.le_of_ble_eq_true rfl, Nat.le_of_ble_eq_true rfl⟩ dX8_copyFrom_93 (fun x9 H locs h_14 hP hD hS => ?_)
  obtain ⟨t_15, g_16, g_17, g_18⟩ := x9
  have hP : va_P D vwCl [(h_posts, .inl (cI, 5, .inl g_12)), (h_signs, .inl (cI, 8, .inl g_11)), (h_a1, .inr (8, [.int v_a1_tones, .int v_a1_a, .int v_a1_b, .int v_a1_c, .int v_a1_d, .int v_a1_odds, .int v_a1_lines, .ref h_a1_signs, .int v_a1_signCount, .ref h_a1_posts, .int v_a1_postCount, .ref h_a1_acts])), (h_a1_posts, .inl (cI, 5, .inl f_a1_posts)), (h_a1_signs, .inl (cI, 8, .inl f_a1_signs)), (h0, .inr (8, [.int t_3, .int t_8, .int t_9, .int t_10, .int t_4, .int t_5, .int v_a1_lines, .ref h_signs, .int v_a1_signCount, .ref h_posts, .int v_a1_postCount, .ref h_acts])), (h_acts, .inr (0, [.ref h_acts_over, .ref h_acts_steps, .ref h_acts_before, .int t_15])), (h_acts_before, .inl (cI, 30, .inl g_16)), (h_acts_over, .inl (cI, 61, .inl g_17)), (h_acts_steps, .inl (cI, 30, .inl g_18)), (h_a1_acts, .inr (0, [.ref h_a1_acts_over, .ref h_a1_acts_steps, .ref h_a1_acts_before, .int v_a1_acts_size])), (h_a1_acts_before, .inl (cI, 30, .inl f_a1_acts_before)), (h_a1_acts_over, .inl (cI, 61, .inl f_a1_acts_over)), (h_a1_acts_steps, .inl (cI, 30, .inl f_a1_acts_steps))] H := hP
  have hD : va_D A [(h_posts, .inl (cI, 5, .inl g_12)), (h_signs, .inl (cI, 8, .inl g_11)), (h_a1, .inr (8, [.int v_a1_tones, .int v_a1_a, .int v_a1_b, .int v_a1_c, .int v_a1_d, .int v_a1_odds, .int v_a1_lines, .ref h_a1_signs, .int v_a1_signCount, .ref h_a1_posts, .int v_a1_postCount, .ref h_a1_acts])), (h_a1_posts, .inl (cI, 5, .inl f_a1_posts)), (h_a1_signs, .inl (cI, 8, .inl f_a1_signs)), (h0, .inr (8, [.int t_3, .int t_8, .int t_9, .int t_10, .int t_4, .int t_5, .int v_a1_lines, .ref h_signs, .int v_a1_signCount, .ref h_posts, .int v_a1_postCount, .ref h_acts])), (h_acts, .inr (0, [.ref h_acts_over, .ref h_acts_steps, .ref h_acts_before, .int t_15])), (h_acts_before, .inl (cI, 30, .inl g_16)), (h_acts_over, .inl (cI, 61, .inl g_17)), (h_acts_steps, .inl (cI, 30, .inl g_18)), (h_a1_acts, .inr (0, [.ref h_a1_acts_over, .ref h_a1_acts_steps, .ref h_a1_acts_before, .int v_a1_acts_size])), (h_a1_acts_before, .inl (cI, 30, .inl f_a1_acts_before)), (h_a1_acts_over, .inl (cI, 61, .inl f_a1_acts_over)), (h_a1_acts_steps, .inl (cI, 30, .inl f_a1_acts_steps))] := hD
  have h_14 : (0 ≤ t_15.toInt ∧ t_15.toInt ≤ 30) := h_14
  have i_19 := h_14
  exact ret _ _ _ _ (t_3, t_8, t_9, t_10, t_4, t_5, v_a1_lines, v_a1_signCount, v_a1_postCount, t_15, g_12, g_11, g_16, g_17, g_18) dX8_copyFrom_96 (show (0 ≤ v_a1_signCount.toInt ∧ v_a1_signCount.toInt ≤ 8) ∧ (0 ≤ v_a1_postCount.toInt ∧ v_a1_postCount.toInt ≤ 5) ∧ (0 ≤ t_15.toInt ∧ t_15.toInt ≤ 30) from ⟨(by first | assumption | omega | decide), (by first | assumption | omega | decide), (by first | assumption | omega | decide)⟩) (hP.sub [5, 6, 0, 1, 7, 8, 9, 2, 10, 3, 4, 11, 12, 13] rfl) (hD.sub [5, 6, 0, 1, 7, 8, 9, 2, 10, 3, 4, 11, 12, 13] (by decide) rfl) hS

set_option maxHeartbeats 4000000 in
set_option maxRecDepth 100000 in
theorem b_X3_begin (l : Launch) (G : Gho) (D : va_G) (cB cI cJ cZ cS cT : ClassId) (sz : Nat) (h0 : Nat) (h_trial : Nat) (h_night : Nat) (h_tally : Nat) (v0_found : Int32) (v0_firstFound : Int32) (v0_prettiestLaw : Int32) (v0_mostPips : Int32) (v0_withoutPip : Int32) (v_trial_tones : Int32) (v_trial_a : Int32) (v_trial_b : Int32) (v_trial_c : Int32) (v_trial_d : Int32) (v_trial_odds : Int32) (v_trial_lines : Int32) (h_trial_signs : Nat) (v_trial_signCount : Int32) (h_trial_posts : Nat) (v_trial_postCount : Int32) (h_trial_acts : Nat) (h_trial_acts_over : Nat) (h_trial_acts_steps : Nat) (h_trial_acts_before : Nat) (v_trial_acts_size : Int32) (f_trial_posts : Nat → Int32) (f_trial_signs : Nat → Int32) (f_trial_acts_before : Nat → Int32) (f_trial_acts_over : Nat → Int32) (f_trial_acts_steps : Nat → Int32) (h_a1 : Nat) (v_a1_tones : Int32) (v_a1_a : Int32) (v_a1_b : Int32) (v_a1_c : Int32) (v_a1_d : Int32) (v_a1_odds : Int32) (v_a1_lines : Int32) (h_a1_signs : Nat) (v_a1_signCount : Int32) (h_a1_posts : Nat) (v_a1_postCount : Int32) (h_a1_acts : Nat) (h_a1_acts_over : Nat) (h_a1_acts_steps : Nat) (h_a1_acts_before : Nat) (v_a1_acts_size : Int32) (f_a1_posts : Nat → Int32) (f_a1_signs : Nat → Int32) (f_a1_acts_before : Nat → Int32) (f_a1_acts_over : Nat → Int32) (f_a1_acts_steps : Nat → Int32) (iv_trial_signCount : 0 ≤ v_trial_signCount.toInt ∧ v_trial_signCount.toInt ≤ 8) (iv_trial_postCount : 0 ≤ v_trial_postCount.toInt ∧ v_trial_postCount.toInt ≤ 5) (iv_trial_acts_size : 0 ≤ v_trial_acts_size.toInt ∧ v_trial_acts_size.toInt ≤ 30) (iv_a1_signCount : 0 ≤ v_a1_signCount.toInt ∧ v_a1_signCount.toInt ≤ 8) (iv_a1_postCount : 0 ≤ v_a1_postCount.toInt ∧ v_a1_postCount.toInt ≤ 5) (iv_a1_acts_size : 0 ≤ v_a1_acts_size.toInt ∧ v_a1_acts_size.toInt ≤ 30) : Met l yX3_begin (Cond.code yX3_begin cX3_begin 2 none :: wsL_law) ({ frames := 3, cells := 0, slots := 0, locals := 82 }) (wrP G D (tyL cB cI cJ cZ cS cT) [(h0, .inr (3, [.ref h_trial, .ref h_night, .ref h_tally, .int v0_found, .int v0_firstFound, .int v0_prettiestLaw, .int v0_mostPips, .int v0_withoutPip])), (h_trial, .inr (8, [.int v_trial_tones, .int v_trial_a, .int v_trial_b, .int v_trial_c, .int v_trial_d, .int v_trial_odds, .int v_trial_lines, .ref h_trial_signs, .int v_trial_signCount, .ref h_trial_posts, .int v_trial_postCount, .ref h_trial_acts])), (h_trial_acts, .inr (0, [.ref h_trial_acts_over, .ref h_trial_acts_steps, .ref h_trial_acts_before, .int v_trial_acts_size])), (h_trial_posts, .inl (cI, 5, .inl f_trial_posts)), (h_trial_signs, .inl (cI, 8, .inl f_trial_signs)), (h_trial_acts_before, .inl (cI, 30, .inl f_trial_acts_before)), (h_trial_acts_over, .inl (cI, 61, .inl f_trial_acts_over)), (h_trial_acts_steps, .inl (cI, 30, .inl f_trial_acts_steps)), (h_a1, .inr (8, [.int v_a1_tones, .int v_a1_a, .int v_a1_b, .int v_a1_c, .int v_a1_d, .int v_a1_odds, .int v_a1_lines, .ref h_a1_signs, .int v_a1_signCount, .ref h_a1_posts, .int v_a1_postCount, .ref h_a1_acts])), (h_a1_acts, .inr (0, [.ref h_a1_acts_over, .ref h_a1_acts_steps, .ref h_a1_acts_before, .int v_a1_acts_size])), (h_a1_posts, .inl (cI, 5, .inl f_a1_posts)), (h_a1_signs, .inl (cI, 8, .inl f_a1_signs)), (h_a1_acts_before, .inl (cI, 30, .inl f_a1_acts_before)), (h_a1_acts_over, .inl (cI, 61, .inl f_a1_acts_over)), (h_a1_acts_steps, .inl (cI, 30, .inl f_a1_acts_steps))] sz [.ref h0, .ref h_a1]) (va_Qv (fun x : Int32 × Int32 × Int32 × Int32 × Int32 × Int32 × Int32 × Int32 × Int32 × Int32 × (Nat → Int32) × (Nat → Int32) × (Nat → Int32) × (Nat → Int32) × (Nat → Int32) => (0 ≤ x.2.2.2.2.2.2.2.1.toInt ∧ x.2.2.2.2.2.2.2.1.toInt ≤ 8) ∧ (0 ≤ x.2.2.2.2.2.2.2.2.1.toInt ∧ x.2.2.2.2.2.2.2.2.1.toInt ≤ 5) ∧ (0 ≤ x.2.2.2.2.2.2.2.2.2.1.toInt ∧ x.2.2.2.2.2.2.2.2.2.1.toInt ≤ 30)) (atW D (tyL cB cI cJ cZ cS cT) (va_A [(h0, .inr (3, [.ref h_trial, .ref h_night, .ref h_tally, .int v0_found, .int v0_firstFound, .int v0_prettiestLaw, .int v0_mostPips, .int v0_withoutPip])), (h_trial, .inr (8, [.int v_trial_tones, .int v_trial_a, .int v_trial_b, .int v_trial_c, .int v_trial_d, .int v_trial_odds, .int v_trial_lines, .ref h_trial_signs, .int v_trial_signCount, .ref h_trial_posts, .int v_trial_postCount, .ref h_trial_acts])), (h_trial_acts, .inr (0, [.ref h_trial_acts_over, .ref h_trial_acts_steps, .ref h_trial_acts_before, .int v_trial_acts_size])), (h_trial_posts, .inl (cI, 5, .inl f_trial_posts)), (h_trial_signs, .inl (cI, 8, .inl f_trial_signs)), (h_trial_acts_before, .inl (cI, 30, .inl f_trial_acts_before)), (h_trial_acts_over, .inl (cI, 61, .inl f_trial_acts_over)), (h_trial_acts_steps, .inl (cI, 30, .inl f_trial_acts_steps)), (h_a1, .inr (8, [.int v_a1_tones, .int v_a1_a, .int v_a1_b, .int v_a1_c, .int v_a1_d, .int v_a1_odds, .int v_a1_lines, .ref h_a1_signs, .int v_a1_signCount, .ref h_a1_posts, .int v_a1_postCount, .ref h_a1_acts])), (h_a1_acts, .inr (0, [.ref h_a1_acts_over, .ref h_a1_acts_steps, .ref h_a1_acts_before, .int v_a1_acts_size])), (h_a1_posts, .inl (cI, 5, .inl f_a1_posts)), (h_a1_signs, .inl (cI, 8, .inl f_a1_signs)), (h_a1_acts_before, .inl (cI, 30, .inl f_a1_acts_before)), (h_a1_acts_over, .inl (cI, 61, .inl f_a1_acts_over)), (h_a1_acts_steps, .inl (cI, 30, .inl f_a1_acts_steps))] sz) (fun x : Int32 × Int32 × Int32 × Int32 × Int32 × Int32 × Int32 × Int32 × Int32 × Int32 × (Nat → Int32) × (Nat → Int32) × (Nat → Int32) × (Nat → Int32) × (Nat → Int32) => [(h0, .inr (3, [.ref h_trial, .ref h_night, .ref h_tally, .int v0_found, .int v0_firstFound, .int v0_prettiestLaw, .int v0_mostPips, .int v0_withoutPip])), (h_trial, .inr (8, [.int x.1, .int x.2.1, .int x.2.2.1, .int x.2.2.2.1, .int x.2.2.2.2.1, .int x.2.2.2.2.2.1, .int x.2.2.2.2.2.2.1, .ref h_trial_signs, .int x.2.2.2.2.2.2.2.1, .ref h_trial_posts, .int x.2.2.2.2.2.2.2.2.1, .ref h_trial_acts])), (h_trial_acts, .inr (0, [.ref h_trial_acts_over, .ref h_trial_acts_steps, .ref h_trial_acts_before, .int x.2.2.2.2.2.2.2.2.2.1])), (h_trial_posts, .inl (cI, 5, .inl x.2.2.2.2.2.2.2.2.2.2.1)), (h_trial_signs, .inl (cI, 8, .inl x.2.2.2.2.2.2.2.2.2.2.2.1)), (h_trial_acts_before, .inl (cI, 30, .inl x.2.2.2.2.2.2.2.2.2.2.2.2.1)), (h_trial_acts_over, .inl (cI, 61, .inl x.2.2.2.2.2.2.2.2.2.2.2.2.2.1)), (h_trial_acts_steps, .inl (cI, 30, .inl x.2.2.2.2.2.2.2.2.2.2.2.2.2.2)), (h_a1, .inr (8, [.int v_a1_tones, .int v_a1_a, .int v_a1_b, .int v_a1_c, .int v_a1_d, .int v_a1_odds, .int v_a1_lines, .ref h_a1_signs, .int v_a1_signCount, .ref h_a1_posts, .int v_a1_postCount, .ref h_a1_acts])), (h_a1_acts, .inr (0, [.ref h_a1_acts_over, .ref h_a1_acts_steps, .ref h_a1_acts_before, .int v_a1_acts_size])), (h_a1_posts, .inl (cI, 5, .inl f_a1_posts)), (h_a1_signs, .inl (cI, 8, .inl f_a1_signs)), (h_a1_acts_before, .inl (cI, 30, .inl f_a1_acts_before)), (h_a1_acts_over, .inl (cI, 61, .inl f_a1_acts_over)), (h_a1_acts_steps, .inl (cI, 30, .inl f_a1_acts_steps))])) (va_A [(h0, .inr (3, [.ref h_trial, .ref h_night, .ref h_tally, .int v0_found, .int v0_firstFound, .int v0_prettiestLaw, .int v0_mostPips, .int v0_withoutPip])), (h_trial, .inr (8, [.int v_trial_tones, .int v_trial_a, .int v_trial_b, .int v_trial_c, .int v_trial_d, .int v_trial_odds, .int v_trial_lines, .ref h_trial_signs, .int v_trial_signCount, .ref h_trial_posts, .int v_trial_postCount, .ref h_trial_acts])), (h_trial_acts, .inr (0, [.ref h_trial_acts_over, .ref h_trial_acts_steps, .ref h_trial_acts_before, .int v_trial_acts_size])), (h_trial_posts, .inl (cI, 5, .inl f_trial_posts)), (h_trial_signs, .inl (cI, 8, .inl f_trial_signs)), (h_trial_acts_before, .inl (cI, 30, .inl f_trial_acts_before)), (h_trial_acts_over, .inl (cI, 61, .inl f_trial_acts_over)), (h_trial_acts_steps, .inl (cI, 30, .inl f_trial_acts_steps)), (h_a1, .inr (8, [.int v_a1_tones, .int v_a1_a, .int v_a1_b, .int v_a1_c, .int v_a1_d, .int v_a1_odds, .int v_a1_lines, .ref h_a1_signs, .int v_a1_signCount, .ref h_a1_posts, .int v_a1_postCount, .ref h_a1_acts])), (h_a1_acts, .inr (0, [.ref h_a1_acts_over, .ref h_a1_acts_steps, .ref h_a1_acts_before, .int v_a1_acts_size])), (h_a1_posts, .inl (cI, 5, .inl f_a1_posts)), (h_a1_signs, .inl (cI, 8, .inl f_a1_signs)), (h_a1_acts_before, .inl (cI, 30, .inl f_a1_acts_before)), (h_a1_acts_over, .inl (cI, 61, .inl f_a1_acts_over)), (h_a1_acts_steps, .inl (cI, 30, .inl f_a1_acts_steps))] sz)) 0 0 (va_A [(h0, .inr (3, [.ref h_trial, .ref h_night, .ref h_tally, .int v0_found, .int v0_firstFound, .int v0_prettiestLaw, .int v0_mostPips, .int v0_withoutPip])), (h_trial, .inr (8, [.int v_trial_tones, .int v_trial_a, .int v_trial_b, .int v_trial_c, .int v_trial_d, .int v_trial_odds, .int v_trial_lines, .ref h_trial_signs, .int v_trial_signCount, .ref h_trial_posts, .int v_trial_postCount, .ref h_trial_acts])), (h_trial_acts, .inr (0, [.ref h_trial_acts_over, .ref h_trial_acts_steps, .ref h_trial_acts_before, .int v_trial_acts_size])), (h_trial_posts, .inl (cI, 5, .inl f_trial_posts)), (h_trial_signs, .inl (cI, 8, .inl f_trial_signs)), (h_trial_acts_before, .inl (cI, 30, .inl f_trial_acts_before)), (h_trial_acts_over, .inl (cI, 61, .inl f_trial_acts_over)), (h_trial_acts_steps, .inl (cI, 30, .inl f_trial_acts_steps)), (h_a1, .inr (8, [.int v_a1_tones, .int v_a1_a, .int v_a1_b, .int v_a1_c, .int v_a1_d, .int v_a1_odds, .int v_a1_lines, .ref h_a1_signs, .int v_a1_signCount, .ref h_a1_posts, .int v_a1_postCount, .ref h_a1_acts])), (h_a1_acts, .inr (0, [.ref h_a1_acts_over, .ref h_a1_acts_steps, .ref h_a1_acts_before, .int v_a1_acts_size])), (h_a1_posts, .inl (cI, 5, .inl f_a1_posts)), (h_a1_signs, .inl (cI, 8, .inl f_a1_signs)), (h_a1_acts_before, .inl (cI, 30, .inl f_a1_acts_before)), (h_a1_acts_over, .inl (cI, 61, .inl f_a1_acts_over)), (h_a1_acts_steps, .inl (cI, 30, .inl f_a1_acts_steps))] sz) := by
  refine metV (own := RX3) (by decide) rfl ?_
  intro p e s m below meth c Q hsz C hG hP hD hAB ret
  obtain ⟨hx, hb, hml, hown, hts, hK, hN, hT⟩ := id C
  subst hsz
  generalize hAe : va_A [(h0, .inr (3, [.ref h_trial, .ref h_night, .ref h_tally, .int v0_found, .int v0_firstFound, .int v0_prettiestLaw, .int v0_mostPips, .int v0_withoutPip])), (h_trial, .inr (8, [.int v_trial_tones, .int v_trial_a, .int v_trial_b, .int v_trial_c, .int v_trial_d, .int v_trial_odds, .int v_trial_lines, .ref h_trial_signs, .int v_trial_signCount, .ref h_trial_posts, .int v_trial_postCount, .ref h_trial_acts])), (h_trial_acts, .inr (0, [.ref h_trial_acts_over, .ref h_trial_acts_steps, .ref h_trial_acts_before, .int v_trial_acts_size])), (h_trial_posts, .inl (cI, 5, .inl f_trial_posts)), (h_trial_signs, .inl (cI, 8, .inl f_trial_signs)), (h_trial_acts_before, .inl (cI, 30, .inl f_trial_acts_before)), (h_trial_acts_over, .inl (cI, 61, .inl f_trial_acts_over)), (h_trial_acts_steps, .inl (cI, 30, .inl f_trial_acts_steps)), (h_a1, .inr (8, [.int v_a1_tones, .int v_a1_a, .int v_a1_b, .int v_a1_c, .int v_a1_d, .int v_a1_odds, .int v_a1_lines, .ref h_a1_signs, .int v_a1_signCount, .ref h_a1_posts, .int v_a1_postCount, .ref h_a1_acts])), (h_a1_acts, .inr (0, [.ref h_a1_acts_over, .ref h_a1_acts_steps, .ref h_a1_acts_before, .int v_a1_acts_size])), (h_a1_posts, .inl (cI, 5, .inl f_a1_posts)), (h_a1_signs, .inl (cI, 8, .inl f_a1_signs)), (h_a1_acts_before, .inl (cI, 30, .inl f_a1_acts_before)), (h_a1_acts_over, .inl (cI, 61, .inl f_a1_acts_over)), (h_a1_acts_steps, .inl (cI, 30, .inl f_a1_acts_steps))] s.heap.size = A at hD hAB ret ⊢
  have hA : ∀ q : Nat, s.heap.size ≤ q → A q := fun q h => by rw [← hAe]; exact Or.inr h
  have hS : va_S A s.heap s.heap [] := va_S.rf
  have hl := lv_entry ([.ref h0, .ref h_a1]) (n := 2) (Nat.le_of_ble_eq_true rfl)
  rw [lg_entry_eq]
  generalize (lg_sl ([.ref h0, .ref h_a1]) ++ List.replicate (2 - (lg_sl ([.ref h0, .ref h_a1])).length) Slot.unset).toArray = ls at hl ⊢
  have hl : lv_has ls 2 [(0, .ref h0), (1, .ref h_a1)] := hl
  have hP : va_P D vwCl [(h0, .inr (3, [.ref h_trial, .ref h_night, .ref h_tally, .int v0_found, .int v0_firstFound, .int v0_prettiestLaw, .int v0_mostPips, .int v0_withoutPip])), (h_trial, .inr (8, [.int v_trial_tones, .int v_trial_a, .int v_trial_b, .int v_trial_c, .int v_trial_d, .int v_trial_odds, .int v_trial_lines, .ref h_trial_signs, .int v_trial_signCount, .ref h_trial_posts, .int v_trial_postCount, .ref h_trial_acts])), (h_trial_acts, .inr (0, [.ref h_trial_acts_over, .ref h_trial_acts_steps, .ref h_trial_acts_before, .int v_trial_acts_size])), (h_trial_posts, .inl (cI, 5, .inl f_trial_posts)), (h_trial_signs, .inl (cI, 8, .inl f_trial_signs)), (h_trial_acts_before, .inl (cI, 30, .inl f_trial_acts_before)), (h_trial_acts_over, .inl (cI, 61, .inl f_trial_acts_over)), (h_trial_acts_steps, .inl (cI, 30, .inl f_trial_acts_steps)), (h_a1, .inr (8, [.int v_a1_tones, .int v_a1_a, .int v_a1_b, .int v_a1_c, .int v_a1_d, .int v_a1_odds, .int v_a1_lines, .ref h_a1_signs, .int v_a1_signCount, .ref h_a1_posts, .int v_a1_postCount, .ref h_a1_acts])), (h_a1_acts, .inr (0, [.ref h_a1_acts_over, .ref h_a1_acts_steps, .ref h_a1_acts_before, .int v_a1_acts_size])), (h_a1_posts, .inl (cI, 5, .inl f_a1_posts)), (h_a1_signs, .inl (cI, 8, .inl f_a1_signs)), (h_a1_acts_before, .inl (cI, 30, .inl f_a1_acts_before)), (h_a1_acts_over, .inl (cI, 61, .inl f_a1_acts_over)), (h_a1_acts_steps, .inl (cI, 30, .inl f_a1_acts_steps))] s.heap := hP
  refine lv_aload_n hx hb dX3_begin_0 rfl (lv_at hl 0 rfl) ?_
  refine va_get (D := D) (ci := 3) (v := .ref h_trial) (C := RX3) (T := TX3) (N := 8) hx hb hts inlX3 hown hK hP 0 rfl rfl 0 (by decide) (hts _ (inr6 _ (List.mem_of_getElem? (i := 0) rfl))) (fun _ h9 => h9) rfl dX3_begin_1 ?_
  refine lv_aload_n hx hb dX3_begin_4 rfl (lv_at hl 1 rfl) ?_
  refine wrVv (As := [.ref h_a1]) (rest := []) (wr := [(h0, .inr (3, [.ref h_trial, .ref h_night, .ref h_tally, .int v0_found, .int v0_firstFound, .int v0_prettiestLaw, .int v0_mostPips, .int v0_withoutPip]))]) ⟨hx, hb, hml, hown, hts⟩ (b_X8_copyFrom l G D cB cI cJ cZ cS cT s.heap.size h_trial v_trial_tones v_trial_a v_trial_b v_trial_c v_trial_d v_trial_odds v_trial_lines h_trial_signs v_trial_signCount h_trial_posts v_trial_postCount h_trial_acts h_trial_acts_over h_trial_acts_steps h_trial_acts_before v_trial_acts_size f_trial_posts f_trial_signs f_trial_acts_before f_trial_acts_over f_trial_acts_steps h_a1 v_a1_tones v_a1_a v_a1_b v_a1_c v_a1_d v_a1_odds v_a1_lines h_a1_signs v_a1_signCount h_a1_posts v_a1_postCount h_a1_acts h_a1_acts_over h_a1_acts_steps h_a1_acts_before v_a1_acts_size f_a1_posts f_a1_signs f_a1_acts_before f_a1_acts_over f_a1_acts_steps (by first | assumption | omega | decide) (by first | assumption | omega | decide) (by first | assumption | omega | decide) (by first | assumption | omega | decide) (by first | assumption | omega | decide) (by first | assumption | omega | decide)) hP hD hS hA hK hN hT hAB hG [1, 2, 3, 4, 5, 6, 7, 8, 9, 10, 11, 12, 13, 14] [0] rfl rfl (by decide) (by decide) (by decide) (cvB (n := 1) (inr38 _ (List.mem_of_getElem? (i := 6) rfl)) (inr17 _ (List.mem_of_getElem? (i := 2) rfl)) (inr17 _ (List.mem_of_getElem? (i := 3) rfl)) (inr1 _ (List.mem_of_getElem? (i := 23) rfl)) (inr17 _ (List.mem_of_getElem? (i := 4) rfl)) (by decide +kernel) hts rfl rfl ⟨Nat.le_of_ble_eq_true rfl, Nat.le_of_ble_eq_true rfl⟩) 0 8 rfl rfl rfl rfl hl.1 rfl (Nat.le_of_ble_eq_true rfl) ⟨Nat.le_of_ble_eq_true rfl, Nat.le_of_ble_eq_true rfl⟩ dX3_begin_5 (fun x9 H locs h_2 hP hD hS => ?_)
  obtain ⟨t_3, t_4, t_5, t_6, t_7, t_8, t_9, t_10, t_11, t_12, g_13, g_14, g_15, g_16, g_17⟩ := x9
  have hP : va_P D vwCl [(h0, .inr (3, [.ref h_trial, .ref h_night, .ref h_tally, .int v0_found, .int v0_firstFound, .int v0_prettiestLaw, .int v0_mostPips, .int v0_withoutPip])), (h_trial, .inr (8, [.int t_3, .int t_4, .int t_5, .int t_6, .int t_7, .int t_8, .int t_9, .ref h_trial_signs, .int t_10, .ref h_trial_posts, .int t_11, .ref h_trial_acts])), (h_trial_acts, .inr (0, [.ref h_trial_acts_over, .ref h_trial_acts_steps, .ref h_trial_acts_before, .int t_12])), (h_trial_posts, .inl (cI, 5, .inl g_13)), (h_trial_signs, .inl (cI, 8, .inl g_14)), (h_trial_acts_before, .inl (cI, 30, .inl g_15)), (h_trial_acts_over, .inl (cI, 61, .inl g_16)), (h_trial_acts_steps, .inl (cI, 30, .inl g_17)), (h_a1, .inr (8, [.int v_a1_tones, .int v_a1_a, .int v_a1_b, .int v_a1_c, .int v_a1_d, .int v_a1_odds, .int v_a1_lines, .ref h_a1_signs, .int v_a1_signCount, .ref h_a1_posts, .int v_a1_postCount, .ref h_a1_acts])), (h_a1_acts, .inr (0, [.ref h_a1_acts_over, .ref h_a1_acts_steps, .ref h_a1_acts_before, .int v_a1_acts_size])), (h_a1_posts, .inl (cI, 5, .inl f_a1_posts)), (h_a1_signs, .inl (cI, 8, .inl f_a1_signs)), (h_a1_acts_before, .inl (cI, 30, .inl f_a1_acts_before)), (h_a1_acts_over, .inl (cI, 61, .inl f_a1_acts_over)), (h_a1_acts_steps, .inl (cI, 30, .inl f_a1_acts_steps))] H := hP
  have hD : va_D A [(h0, .inr (3, [.ref h_trial, .ref h_night, .ref h_tally, .int v0_found, .int v0_firstFound, .int v0_prettiestLaw, .int v0_mostPips, .int v0_withoutPip])), (h_trial, .inr (8, [.int t_3, .int t_4, .int t_5, .int t_6, .int t_7, .int t_8, .int t_9, .ref h_trial_signs, .int t_10, .ref h_trial_posts, .int t_11, .ref h_trial_acts])), (h_trial_acts, .inr (0, [.ref h_trial_acts_over, .ref h_trial_acts_steps, .ref h_trial_acts_before, .int t_12])), (h_trial_posts, .inl (cI, 5, .inl g_13)), (h_trial_signs, .inl (cI, 8, .inl g_14)), (h_trial_acts_before, .inl (cI, 30, .inl g_15)), (h_trial_acts_over, .inl (cI, 61, .inl g_16)), (h_trial_acts_steps, .inl (cI, 30, .inl g_17)), (h_a1, .inr (8, [.int v_a1_tones, .int v_a1_a, .int v_a1_b, .int v_a1_c, .int v_a1_d, .int v_a1_odds, .int v_a1_lines, .ref h_a1_signs, .int v_a1_signCount, .ref h_a1_posts, .int v_a1_postCount, .ref h_a1_acts])), (h_a1_acts, .inr (0, [.ref h_a1_acts_over, .ref h_a1_acts_steps, .ref h_a1_acts_before, .int v_a1_acts_size])), (h_a1_posts, .inl (cI, 5, .inl f_a1_posts)), (h_a1_signs, .inl (cI, 8, .inl f_a1_signs)), (h_a1_acts_before, .inl (cI, 30, .inl f_a1_acts_before)), (h_a1_acts_over, .inl (cI, 61, .inl f_a1_acts_over)), (h_a1_acts_steps, .inl (cI, 30, .inl f_a1_acts_steps))] := hD
  have h_2 : (0 ≤ t_10.toInt ∧ t_10.toInt ≤ 8) ∧ (0 ≤ t_11.toInt ∧ t_11.toInt ≤ 5) ∧ (0 ≤ t_12.toInt ∧ t_12.toInt ≤ 30) := h_2
  obtain ⟨i_18, i_19, i_20⟩ := h_2
  refine lv_aload_n hx hb dX3_begin_8 rfl (lv_at hl 0 rfl) ?_
  refine va_get (D := D) (ci := 3) (v := .ref h_trial) (C := RX3) (T := TX3) (N := 8) hx hb hts inlX3 hown hK hP 0 rfl rfl 0 (by decide) (hts _ (inr6 _ (List.mem_of_getElem? (i := 0) rfl))) (fun _ h9 => h9) rfl dX3_begin_9 ?_
  refine roq (As := []) (rest := []) ⟨hx, hb, hml, hown, hts⟩ (b_X8_acts l G D cB cI cJ cZ cS cT h_trial t_3 t_4 t_5 t_6 t_7 t_8 t_9 h_trial_signs t_10 h_trial_posts t_11 h_trial_acts (by first | assumption | omega | decide) (by first | assumption | omega | decide)) (cvB (n := 0) (inr38 _ (List.mem_of_getElem? (i := 7) rfl)) (inr36 _ (List.mem_of_getElem? (i := 4) rfl)) (inr36 _ (List.mem_of_getElem? (i := 5) rfl)) (inr1 _ (List.mem_of_getElem? (i := 23) rfl)) (inr36 _ (List.mem_of_getElem? (i := 6) rfl)) (by decide +kernel) hts rfl rfl ⟨Nat.le_of_ble_eq_true rfl, Nat.le_of_ble_eq_true rfl⟩) 0 8 rfl rfl rfl (hP.sub [1] rfl) hK hN (kT.to hT hS hAB) rfl hl.1 rfl (Nat.le_of_ble_eq_true rfl) ⟨Nat.le_of_ble_eq_true rfl, Nat.le_of_ble_eq_true rfl⟩ dX3_begin_12 (fun r_21 h_22 => ?_)
  have h_22 : (r_21 = some h_trial_acts) := h_22
  have i_23 := h_22
  obtain rfl := i_23
  refine W.eq (g2 := F0 m 15 ls [.ref h_trial_acts]) rfl ?_
  refine wrVv (As := []) (rest := []) (wr := [(h0, .inr (3, [.ref h_trial, .ref h_night, .ref h_tally, .int v0_found, .int v0_firstFound, .int v0_prettiestLaw, .int v0_mostPips, .int v0_withoutPip])), (h_trial, .inr (8, [.int t_3, .int t_4, .int t_5, .int t_6, .int t_7, .int t_8, .int t_9, .ref h_trial_signs, .int t_10, .ref h_trial_posts, .int t_11, .ref h_trial_acts])), (h_trial_posts, .inl (cI, 5, .inl g_13)), (h_trial_signs, .inl (cI, 8, .inl g_14)), (h_trial_acts_before, .inl (cI, 30, .inl g_15)), (h_trial_acts_steps, .inl (cI, 30, .inl g_17)), (h_a1, .inr (8, [.int v_a1_tones, .int v_a1_a, .int v_a1_b, .int v_a1_c, .int v_a1_d, .int v_a1_odds, .int v_a1_lines, .ref h_a1_signs, .int v_a1_signCount, .ref h_a1_posts, .int v_a1_postCount, .ref h_a1_acts])), (h_a1_acts, .inr (0, [.ref h_a1_acts_over, .ref h_a1_acts_steps, .ref h_a1_acts_before, .int v_a1_acts_size])), (h_a1_posts, .inl (cI, 5, .inl f_a1_posts)), (h_a1_signs, .inl (cI, 8, .inl f_a1_signs)), (h_a1_acts_before, .inl (cI, 30, .inl f_a1_acts_before)), (h_a1_acts_over, .inl (cI, 61, .inl f_a1_acts_over)), (h_a1_acts_steps, .inl (cI, 30, .inl f_a1_acts_steps))]) ⟨hx, hb, hml, hown, hts⟩ (b_X0_clear l G D cB cI cJ cZ cS cT H.size h_trial_acts h_trial_acts_over h_trial_acts_steps h_trial_acts_before t_12 g_16 (by first | assumption | omega | decide)) hP hD hS hA hK hN hT hAB hG [2, 6] [0, 1, 3, 4, 5, 7, 8, 9, 10, 11, 12, 13, 14] rfl rfl (by decide) (by decide) (by decide) (cvB (n := 0) (inr38 _ (List.mem_of_getElem? (i := 8) rfl)) (inr10 _ (List.mem_of_getElem? (i := 15) rfl)) (inr10 _ (List.mem_of_getElem? (i := 16) rfl)) (inr4 _ (List.mem_of_getElem? (i := 5) rfl)) (inr10 _ (List.mem_of_getElem? (i := 17) rfl)) (by decide +kernel) hts rfl rfl ⟨Nat.le_of_ble_eq_true rfl, Nat.le_of_ble_eq_true rfl⟩) 0 0 rfl rfl rfl rfl hl.1 rfl (Nat.le_of_ble_eq_true rfl) ⟨Nat.le_of_ble_eq_true rfl, Nat.le_of_ble_eq_true rfl⟩ dX3_begin_15 (fun x9 H locs h_25 hP hD hS => ?_)
  obtain ⟨t_26, g_27⟩ := x9
  have hP : va_P D vwCl [(h0, .inr (3, [.ref h_trial, .ref h_night, .ref h_tally, .int v0_found, .int v0_firstFound, .int v0_prettiestLaw, .int v0_mostPips, .int v0_withoutPip])), (h_trial, .inr (8, [.int t_3, .int t_4, .int t_5, .int t_6, .int t_7, .int t_8, .int t_9, .ref h_trial_signs, .int t_10, .ref h_trial_posts, .int t_11, .ref h_trial_acts])), (h_trial_posts, .inl (cI, 5, .inl g_13)), (h_trial_signs, .inl (cI, 8, .inl g_14)), (h_trial_acts_before, .inl (cI, 30, .inl g_15)), (h_trial_acts_steps, .inl (cI, 30, .inl g_17)), (h_a1, .inr (8, [.int v_a1_tones, .int v_a1_a, .int v_a1_b, .int v_a1_c, .int v_a1_d, .int v_a1_odds, .int v_a1_lines, .ref h_a1_signs, .int v_a1_signCount, .ref h_a1_posts, .int v_a1_postCount, .ref h_a1_acts])), (h_a1_acts, .inr (0, [.ref h_a1_acts_over, .ref h_a1_acts_steps, .ref h_a1_acts_before, .int v_a1_acts_size])), (h_a1_posts, .inl (cI, 5, .inl f_a1_posts)), (h_a1_signs, .inl (cI, 8, .inl f_a1_signs)), (h_a1_acts_before, .inl (cI, 30, .inl f_a1_acts_before)), (h_a1_acts_over, .inl (cI, 61, .inl f_a1_acts_over)), (h_a1_acts_steps, .inl (cI, 30, .inl f_a1_acts_steps)), (h_trial_acts, .inr (0, [.ref h_trial_acts_over, .ref h_trial_acts_steps, .ref h_trial_acts_before, .int t_26])), (h_trial_acts_over, .inl (cI, 61, .inl g_27))] H := hP
  have hD : va_D A [(h0, .inr (3, [.ref h_trial, .ref h_night, .ref h_tally, .int v0_found, .int v0_firstFound, .int v0_prettiestLaw, .int v0_mostPips, .int v0_withoutPip])), (h_trial, .inr (8, [.int t_3, .int t_4, .int t_5, .int t_6, .int t_7, .int t_8, .int t_9, .ref h_trial_signs, .int t_10, .ref h_trial_posts, .int t_11, .ref h_trial_acts])), (h_trial_posts, .inl (cI, 5, .inl g_13)), (h_trial_signs, .inl (cI, 8, .inl g_14)), (h_trial_acts_before, .inl (cI, 30, .inl g_15)), (h_trial_acts_steps, .inl (cI, 30, .inl g_17)), (h_a1, .inr (8, [.int v_a1_tones, .int v_a1_a, .int v_a1_b, .int v_a1_c, .int v_a1_d, .int v_a1_odds, .int v_a1_lines, .ref h_a1_signs, .int v_a1_signCount, .ref h_a1_posts, .int v_a1_postCount, .ref h_a1_acts])), (h_a1_acts, .inr (0, [.ref h_a1_acts_over, .ref h_a1_acts_steps, .ref h_a1_acts_before, .int v_a1_acts_size])), (h_a1_posts, .inl (cI, 5, .inl f_a1_posts)), (h_a1_signs, .inl (cI, 8, .inl f_a1_signs)), (h_a1_acts_before, .inl (cI, 30, .inl f_a1_acts_before)), (h_a1_acts_over, .inl (cI, 61, .inl f_a1_acts_over)), (h_a1_acts_steps, .inl (cI, 30, .inl f_a1_acts_steps)), (h_trial_acts, .inr (0, [.ref h_trial_acts_over, .ref h_trial_acts_steps, .ref h_trial_acts_before, .int t_26])), (h_trial_acts_over, .inl (cI, 61, .inl g_27))] := hD
  have h_25 : (0 ≤ t_26.toInt ∧ t_26.toInt ≤ 30) := h_25
  have i_28 := h_25
  exact ret _ _ _ _ (t_3, t_4, t_5, t_6, t_7, t_8, t_9, t_10, t_11, t_26, g_13, g_14, g_15, g_27, g_17) dX3_begin_18 (show (0 ≤ t_10.toInt ∧ t_10.toInt ≤ 8) ∧ (0 ≤ t_11.toInt ∧ t_11.toInt ≤ 5) ∧ (0 ≤ t_26.toInt ∧ t_26.toInt ≤ 30) from ⟨(by first | assumption | omega | decide), (by first | assumption | omega | decide), (by first | assumption | omega | decide)⟩) (hP.sub [0, 1, 13, 2, 3, 4, 14, 5, 6, 7, 8, 9, 10, 11, 12] rfl) (hD.sub [0, 1, 13, 2, 3, 4, 14, 5, 6, 7, 8, 9, 10, 11, 12] (by decide) rfl) hS

set_option maxHeartbeats 4000000 in
set_option maxRecDepth 100000 in
theorem b_X4_hear_l8 {p : Program} {l : Launch} {e : Env} {s : State} {m : MethodId} {args : Array Value} {below : List Frame} {meth : Method} {c : Code} {Q : State → Prop} {G : Gho} {D : va_G} {cB cI cJ cZ cS cT : ClassId} {A : Nat → Prop} (h0 : Nat) (h_tones : Nat) (h_lasts : Nat) (h_answers : Nat) (h_pip : Nat) (h_a1 : Nat) (v_a1_tones : Int32) (v_a1_a : Int32) (v_a1_b : Int32) (v_a1_c : Int32) (v_a1_d : Int32) (v_a1_odds : Int32) (v_a1_lines : Int32) (h_a1_signs : Nat) (v_a1_signCount : Int32) (h_a1_posts : Nat) (v_a1_postCount : Int32) (h_a1_acts : Nat) (h_a1_acts_over : Nat) (h_a1_acts_steps : Nat) (h_a1_acts_before : Nat) (v_a1_acts_size : Int32) (f_a1_signs : Nat → Int32) (f_a1_acts_over : Nat → Int32) (v2 : Int32) (iv_a1_signCount : 0 ≤ v_a1_signCount.toInt ∧ v_a1_signCount.toInt ≤ 8) (iv_a1_postCount : 0 ≤ v_a1_postCount.toInt ∧ v_a1_postCount.toInt ≤ 5) (iv_a1_acts_size : 0 ≤ v_a1_acts_size.toInt ∧ v_a1_acts_size.toInt ≤ 30) (C : Cx p s m args c RX4 cX4_hear 8 G D (tyL cB cI cJ cZ cS cT)) (hG : G.1 ≤ s.heap.size) (hAB : ∀ q, A q → G.1 ≤ q) (hA : ∀ q : Nat, s.heap.size ≤ q → A q) (ret : RetV p l e ({ frames := 2, cells := 0, slots := 0, locals := 49 }) s m args below meth c cX4_hear D A (fun x : (Nat → Int32) × (Nat → Int32) × (Nat → Int32) × (Nat → Int32) => [(h0, .inr (4, [.ref h_tones, .ref h_lasts, .ref h_answers, .ref h_pip])), (h_answers, .inl (cI, 61, .inl x.1)), (h_lasts, .inl (cI, 61, .inl x.2.1)), (h_pip, .inl (cZ, 61, .inl x.2.2.1)), (h_tones, .inl (cI, 61, .inl x.2.2.2)), (h_a1, .inr (8, [.int v_a1_tones, .int v_a1_a, .int v_a1_b, .int v_a1_c, .int v_a1_d, .int v_a1_odds, .int v_a1_lines, .ref h_a1_signs, .int v_a1_signCount, .ref h_a1_posts, .int v_a1_postCount, .ref h_a1_acts])), (h_a1_acts, .inr (0, [.ref h_a1_acts_over, .ref h_a1_acts_steps, .ref h_a1_acts_before, .int v_a1_acts_size])), (h_a1_signs, .inl (cI, 8, .inl f_a1_signs)), (h_a1_acts_over, .inl (cI, 61, .inl f_a1_acts_over))]) (fun x : (Nat → Int32) × (Nat → Int32) × (Nat → Int32) × (Nat → Int32) => True) Q) :
    ∀ (N : Nat) (g8_answers : Nat → Int32) (g8_lasts : Nat → Int32) (g8_pip : Nat → Int32) (g8_tones : Nat → Int32) (l8_5 : Int32) (l8_4 : Int32) (l8_3 : Int32) (H : Heap) (locs : List Loc) (ls : Array Slot), 0 ≤ l8_5.toInt → (v2.toInt - l8_5.toInt + 1).toNat < N → va_P D vwCl [(h0, .inr (4, [.ref h_tones, .ref h_lasts, .ref h_answers, .ref h_pip])), (h_answers, .inl (cI, 61, .inl g8_answers)), (h_lasts, .inl (cI, 61, .inl g8_lasts)), (h_pip, .inl (cZ, 61, .inl g8_pip)), (h_tones, .inl (cI, 61, .inl g8_tones)), (h_a1, .inr (8, [.int v_a1_tones, .int v_a1_a, .int v_a1_b, .int v_a1_c, .int v_a1_d, .int v_a1_odds, .int v_a1_lines, .ref h_a1_signs, .int v_a1_signCount, .ref h_a1_posts, .int v_a1_postCount, .ref h_a1_acts])), (h_a1_acts, .inr (0, [.ref h_a1_acts_over, .ref h_a1_acts_steps, .ref h_a1_acts_before, .int v_a1_acts_size])), (h_a1_signs, .inl (cI, 8, .inl f_a1_signs)), (h_a1_acts_over, .inl (cI, 61, .inl f_a1_acts_over))] H → va_D A [(h0, .inr (4, [.ref h_tones, .ref h_lasts, .ref h_answers, .ref h_pip])), (h_answers, .inl (cI, 61, .inl g8_answers)), (h_lasts, .inl (cI, 61, .inl g8_lasts)), (h_pip, .inl (cZ, 61, .inl g8_pip)), (h_tones, .inl (cI, 61, .inl g8_tones)), (h_a1, .inr (8, [.int v_a1_tones, .int v_a1_a, .int v_a1_b, .int v_a1_c, .int v_a1_d, .int v_a1_odds, .int v_a1_lines, .ref h_a1_signs, .int v_a1_signCount, .ref h_a1_posts, .int v_a1_postCount, .ref h_a1_acts])), (h_a1_acts, .inr (0, [.ref h_a1_acts_over, .ref h_a1_acts_steps, .ref h_a1_acts_before, .int v_a1_acts_size])), (h_a1_signs, .inl (cI, 8, .inl f_a1_signs)), (h_a1_acts_over, .inl (cI, 61, .inl f_a1_acts_over))] → va_S A s.heap H locs → lv_has ls 8 [(5, .int l8_5), (4, .int l8_4), (3, .int l8_3), (0, .ref h0), (1, .ref h_a1), (2, .int v2)] → W p l e ({ frames := 2, cells := 0, slots := 0, locals := 49 }) s m args below meth c H locs 0 0 Q (F0 m 8 ls []) := by
  obtain ⟨hx, hb, hml, hown, hts, hK, hN, hT⟩ := id C
  intro N
  induction N with
  | zero =>
    intro g8_answers g8_lasts g8_pip g8_tones l8_5 l8_4 l8_3 H locs ls kl8_5 hM_8 hP hD hS hl
    omega
  | succ N_8 ih_8 =>
    intro g8_answers g8_lasts g8_pip g8_tones l8_5 l8_4 l8_3 H locs ls kl8_5 hM_8 hP hD hS hl
    have b_l8_5 := i32b l8_5
    refine lv_iload hx hb dX4_hear_8 (lv_at hl 0 rfl) ?_
    refine lv_iload_n hx hb dX4_hear_10 rfl (lv_at hl 5 rfl) ?_
    refine lv_icmp_gt (tgt := 116) hx hb dX4_hear_11 (by decide) (fun c_1 => ?_) (fun c_1 => ?_)
    · have c_1 : v2.toInt < l8_5.toInt := ci_gt_t c_1
      have b_v2 := i32b v2
      exact ret _ _ _ _ (g8_answers, g8_lasts, g8_pip, g8_tones) dX4_hear_116 trivial (hP.sub [0, 1, 2, 3, 4, 5, 6, 7, 8] rfl) (hD.sub [0, 1, 2, 3, 4, 5, 6, 7, 8] (by decide) rfl) hS
    · have c_1 : l8_5.toInt ≤ v2.toInt := ci_gt_f c_1
      have b_v2 := i32b v2
      refine lv_iload hx hb dX4_hear_14 (lv_at hl 0 rfl) ?_
      refine lv_bipush (v := 61) hx hb dX4_hear_16 (by decide) ?_
      refine lv_icmp_ge (tgt := 116) hx hb dX4_hear_18 (by decide) (fun c_2 => ?_) (fun c_2 => ?_)
      · have c_2 : 61 ≤ l8_5.toInt := ci_ge_t c_2
        exact ret _ _ _ _ (g8_answers, g8_lasts, g8_pip, g8_tones) dX4_hear_116 trivial (hP.sub [0, 1, 2, 3, 4, 5, 6, 7, 8] rfl) (hD.sub [0, 1, 2, 3, 4, 5, 6, 7, 8] (by decide) rfl) hS
      · have c_2 : l8_5.toInt < 61 := ci_ge_f c_2
        refine lv_aload_n hx hb dX4_hear_21 rfl (lv_at hl 4 rfl) ?_
        refine lv_iload hx hb dX4_hear_22 (lv_at hl 0 rfl) ?_
        refine lv_iload_n hx hb dX4_hear_24 rfl (lv_at hl 2 rfl) ?_
        refine lv_iload hx hb dX4_hear_25 (lv_at hl 1 rfl) ?_
        refine roi (As := [.int l8_5, .int l8_3, .int l8_4]) (rest := []) ⟨hx, hb, hml, hown, hts⟩ (b_X8_toneHeard l G D cB cI cJ cZ cS cT h_a1 v_a1_tones v_a1_a v_a1_b v_a1_c v_a1_d v_a1_odds v_a1_lines h_a1_signs v_a1_signCount h_a1_posts v_a1_postCount h_a1_acts h_a1_acts_over h_a1_acts_steps h_a1_acts_before v_a1_acts_size f_a1_signs f_a1_acts_over l8_5 l8_3 l8_4 (by first | assumption | omega | decide) (by first | assumption | omega | decide) (by first | assumption | omega | decide)) (cvB (n := 3) (inr22 _ (List.mem_of_getElem? (i := 23) rfl)) (inr23 _ (List.mem_of_getElem? (i := 0) rfl)) (inr23 _ (List.mem_of_getElem? (i := 1) rfl)) (inr1 _ (List.mem_of_getElem? (i := 23) rfl)) (inr23 _ (List.mem_of_getElem? (i := 2) rfl)) (by decide +kernel) hts rfl rfl ⟨Nat.le_of_ble_eq_true rfl, Nat.le_of_ble_eq_true rfl⟩) 0 8 rfl rfl rfl (hP.sub [5, 6, 7, 8] rfl) hK hN (kT.to hT hS hAB) rfl hl.1 rfl (Nat.le_of_ble_eq_true rfl) ⟨Nat.le_of_ble_eq_true rfl, Nat.le_of_ble_eq_true rfl⟩ dX4_hear_27 (fun r_3 h_4 => ?_)
        refine lv_istore (lv' := [(6, .int r_3), (5, .int l8_5), (4, .int l8_4), (3, .int l8_3), (0, .ref h0), (1, .ref h_a1), (2, .int v2)]) hx hb dX4_hear_30 hl (by decide) rfl (fun ls hl => ?_)
        refine lv_aload_n hx hb dX4_hear_32 rfl (lv_at hl 5 rfl) ?_
        refine lv_iload hx hb dX4_hear_33 (lv_at hl 1 rfl) ?_
        refine roi (As := [.int l8_5]) (rest := []) ⟨hx, hb, hml, hown, hts⟩ (b_X8_isGap l G D cB cI cJ cZ cS cT h_a1 v_a1_tones v_a1_a v_a1_b v_a1_c v_a1_d v_a1_odds v_a1_lines h_a1_signs v_a1_signCount h_a1_posts v_a1_postCount h_a1_acts f_a1_signs l8_5 (by first | assumption | omega | decide) (by first | assumption | omega | decide)) (cvB (n := 1) (inr23 _ (List.mem_of_getElem? (i := 11) rfl)) (inr23 _ (List.mem_of_getElem? (i := 12) rfl)) (inr23 _ (List.mem_of_getElem? (i := 13) rfl)) (inr1 _ (List.mem_of_getElem? (i := 23) rfl)) (inr23 _ (List.mem_of_getElem? (i := 14) rfl)) (by decide +kernel) hts rfl rfl ⟨Nat.le_of_ble_eq_true rfl, Nat.le_of_ble_eq_true rfl⟩) 0 8 rfl rfl rfl (hP.sub [5, 7] rfl) hK hN (kT.to hT hS hAB) rfl hl.1 rfl (Nat.le_of_ble_eq_true rfl) ⟨Nat.le_of_ble_eq_true rfl, Nat.le_of_ble_eq_true rfl⟩ dX4_hear_35 (fun r_5 h_6 => ?_)
        have h_6 : (r_5 = 0 ∨ r_5 = 1) := h_6
        have i_7 := h_6
        have ar_5 : 0 ≤ r_5.toInt ∧ r_5.toInt ≤ 1 := by rcases i_7 with h | h <;> rw [h] <;> decide
        refine lv_istore (lv' := [(7, .int r_5), (6, .int r_3), (5, .int l8_5), (4, .int l8_4), (3, .int l8_3), (0, .ref h0), (1, .ref h_a1), (2, .int v2)]) hx hb dX4_hear_38 hl (by decide) rfl (fun ls hl => ?_)
        refine lv_aload_n hx hb dX4_hear_40 rfl (lv_at hl 5 rfl) ?_
        refine va_get (D := D) (ci := 4) (v := .ref h_tones) (C := RX4) (T := TX4) (N := 4) hx hb hts inlX4 hown hK hP 0 rfl rfl 0 (by decide) (hts _ (inr5 _ (List.mem_of_getElem? (i := 2) rfl))) (fun _ h9 => h9) rfl dX4_hear_41 ?_
        refine lv_iload hx hb dX4_hear_44 (lv_at hl 2 rfl) ?_
        refine lv_iload hx hb dX4_hear_46 (lv_at hl 1 rfl) ?_
        refine va_iast hx hb hK hP hD hS 4 1 rfl rfl (vin_nat (by omega) (by omega)) dX4_hear_48 (fun H locs hP hD hS => ?_)
        have hP : va_P D vwCl [(h0, .inr (4, [.ref h_tones, .ref h_lasts, .ref h_answers, .ref h_pip])), (h_answers, .inl (cI, 61, .inl g8_answers)), (h_lasts, .inl (cI, 61, .inl g8_lasts)), (h_pip, .inl (cZ, 61, .inl g8_pip)), (h_tones, .inl (cI, 61, .inl (upd g8_tones (l8_5 : Int32).toNatClampNeg r_3))), (h_a1, .inr (8, [.int v_a1_tones, .int v_a1_a, .int v_a1_b, .int v_a1_c, .int v_a1_d, .int v_a1_odds, .int v_a1_lines, .ref h_a1_signs, .int v_a1_signCount, .ref h_a1_posts, .int v_a1_postCount, .ref h_a1_acts])), (h_a1_acts, .inr (0, [.ref h_a1_acts_over, .ref h_a1_acts_steps, .ref h_a1_acts_before, .int v_a1_acts_size])), (h_a1_signs, .inl (cI, 8, .inl f_a1_signs)), (h_a1_acts_over, .inl (cI, 61, .inl f_a1_acts_over))] H := hP
        have hD : va_D A [(h0, .inr (4, [.ref h_tones, .ref h_lasts, .ref h_answers, .ref h_pip])), (h_answers, .inl (cI, 61, .inl g8_answers)), (h_lasts, .inl (cI, 61, .inl g8_lasts)), (h_pip, .inl (cZ, 61, .inl g8_pip)), (h_tones, .inl (cI, 61, .inl (upd g8_tones (l8_5 : Int32).toNatClampNeg r_3))), (h_a1, .inr (8, [.int v_a1_tones, .int v_a1_a, .int v_a1_b, .int v_a1_c, .int v_a1_d, .int v_a1_odds, .int v_a1_lines, .ref h_a1_signs, .int v_a1_signCount, .ref h_a1_posts, .int v_a1_postCount, .ref h_a1_acts])), (h_a1_acts, .inr (0, [.ref h_a1_acts_over, .ref h_a1_acts_steps, .ref h_a1_acts_before, .int v_a1_acts_size])), (h_a1_signs, .inl (cI, 8, .inl f_a1_signs)), (h_a1_acts_over, .inl (cI, 61, .inl f_a1_acts_over))] := hD
        obtain ⟨g_8, eg_8⟩ : ∃ v9 : Nat → Int32, (upd g8_tones (l8_5 : Int32).toNatClampNeg r_3) = v9 := ⟨_, rfl⟩
        rw [eg_8] at hP hD
        have hP : va_P D vwCl [(h0, .inr (4, [.ref h_tones, .ref h_lasts, .ref h_answers, .ref h_pip])), (h_answers, .inl (cI, 61, .inl g8_answers)), (h_lasts, .inl (cI, 61, .inl g8_lasts)), (h_pip, .inl (cZ, 61, .inl g8_pip)), (h_tones, .inl (cI, 61, .inl g_8)), (h_a1, .inr (8, [.int v_a1_tones, .int v_a1_a, .int v_a1_b, .int v_a1_c, .int v_a1_d, .int v_a1_odds, .int v_a1_lines, .ref h_a1_signs, .int v_a1_signCount, .ref h_a1_posts, .int v_a1_postCount, .ref h_a1_acts])), (h_a1_acts, .inr (0, [.ref h_a1_acts_over, .ref h_a1_acts_steps, .ref h_a1_acts_before, .int v_a1_acts_size])), (h_a1_signs, .inl (cI, 8, .inl f_a1_signs)), (h_a1_acts_over, .inl (cI, 61, .inl f_a1_acts_over))] H := hP
        have hD : va_D A [(h0, .inr (4, [.ref h_tones, .ref h_lasts, .ref h_answers, .ref h_pip])), (h_answers, .inl (cI, 61, .inl g8_answers)), (h_lasts, .inl (cI, 61, .inl g8_lasts)), (h_pip, .inl (cZ, 61, .inl g8_pip)), (h_tones, .inl (cI, 61, .inl g_8)), (h_a1, .inr (8, [.int v_a1_tones, .int v_a1_a, .int v_a1_b, .int v_a1_c, .int v_a1_d, .int v_a1_odds, .int v_a1_lines, .ref h_a1_signs, .int v_a1_signCount, .ref h_a1_posts, .int v_a1_postCount, .ref h_a1_acts])), (h_a1_acts, .inr (0, [.ref h_a1_acts_over, .ref h_a1_acts_steps, .ref h_a1_acts_before, .int v_a1_acts_size])), (h_a1_signs, .inl (cI, 8, .inl f_a1_signs)), (h_a1_acts_over, .inl (cI, 61, .inl f_a1_acts_over))] := hD
        refine lv_aload_n hx hb dX4_hear_49 rfl (lv_at hl 5 rfl) ?_
        refine va_get (D := D) (ci := 4) (v := .ref h_lasts) (C := RX4) (T := TX4) (N := 4) hx hb hts inlX4 hown hK hP 0 rfl rfl 1 (by decide) (hts _ (inr5 _ (List.mem_of_getElem? (i := 3) rfl))) (fun _ h9 => h9) rfl dX4_hear_50 ?_
        refine lv_iload hx hb dX4_hear_53 (lv_at hl 2 rfl) ?_
        refine lv_iload_n hx hb dX4_hear_55 rfl (lv_at hl 4 rfl) ?_
        refine va_iast hx hb hK hP hD hS 2 1 rfl rfl (vin_nat (by omega) (by omega)) dX4_hear_56 (fun H locs hP hD hS => ?_)
        have hP : va_P D vwCl [(h0, .inr (4, [.ref h_tones, .ref h_lasts, .ref h_answers, .ref h_pip])), (h_answers, .inl (cI, 61, .inl g8_answers)), (h_lasts, .inl (cI, 61, .inl (upd g8_lasts (l8_5 : Int32).toNatClampNeg l8_3))), (h_pip, .inl (cZ, 61, .inl g8_pip)), (h_tones, .inl (cI, 61, .inl g_8)), (h_a1, .inr (8, [.int v_a1_tones, .int v_a1_a, .int v_a1_b, .int v_a1_c, .int v_a1_d, .int v_a1_odds, .int v_a1_lines, .ref h_a1_signs, .int v_a1_signCount, .ref h_a1_posts, .int v_a1_postCount, .ref h_a1_acts])), (h_a1_acts, .inr (0, [.ref h_a1_acts_over, .ref h_a1_acts_steps, .ref h_a1_acts_before, .int v_a1_acts_size])), (h_a1_signs, .inl (cI, 8, .inl f_a1_signs)), (h_a1_acts_over, .inl (cI, 61, .inl f_a1_acts_over))] H := hP
        have hD : va_D A [(h0, .inr (4, [.ref h_tones, .ref h_lasts, .ref h_answers, .ref h_pip])), (h_answers, .inl (cI, 61, .inl g8_answers)), (h_lasts, .inl (cI, 61, .inl (upd g8_lasts (l8_5 : Int32).toNatClampNeg l8_3))), (h_pip, .inl (cZ, 61, .inl g8_pip)), (h_tones, .inl (cI, 61, .inl g_8)), (h_a1, .inr (8, [.int v_a1_tones, .int v_a1_a, .int v_a1_b, .int v_a1_c, .int v_a1_d, .int v_a1_odds, .int v_a1_lines, .ref h_a1_signs, .int v_a1_signCount, .ref h_a1_posts, .int v_a1_postCount, .ref h_a1_acts])), (h_a1_acts, .inr (0, [.ref h_a1_acts_over, .ref h_a1_acts_steps, .ref h_a1_acts_before, .int v_a1_acts_size])), (h_a1_signs, .inl (cI, 8, .inl f_a1_signs)), (h_a1_acts_over, .inl (cI, 61, .inl f_a1_acts_over))] := hD
        obtain ⟨g_9, eg_9⟩ : ∃ v9 : Nat → Int32, (upd g8_lasts (l8_5 : Int32).toNatClampNeg l8_3) = v9 := ⟨_, rfl⟩
        rw [eg_9] at hP hD
        have hP : va_P D vwCl [(h0, .inr (4, [.ref h_tones, .ref h_lasts, .ref h_answers, .ref h_pip])), (h_answers, .inl (cI, 61, .inl g8_answers)), (h_lasts, .inl (cI, 61, .inl g_9)), (h_pip, .inl (cZ, 61, .inl g8_pip)), (h_tones, .inl (cI, 61, .inl g_8)), (h_a1, .inr (8, [.int v_a1_tones, .int v_a1_a, .int v_a1_b, .int v_a1_c, .int v_a1_d, .int v_a1_odds, .int v_a1_lines, .ref h_a1_signs, .int v_a1_signCount, .ref h_a1_posts, .int v_a1_postCount, .ref h_a1_acts])), (h_a1_acts, .inr (0, [.ref h_a1_acts_over, .ref h_a1_acts_steps, .ref h_a1_acts_before, .int v_a1_acts_size])), (h_a1_signs, .inl (cI, 8, .inl f_a1_signs)), (h_a1_acts_over, .inl (cI, 61, .inl f_a1_acts_over))] H := hP
        have hD : va_D A [(h0, .inr (4, [.ref h_tones, .ref h_lasts, .ref h_answers, .ref h_pip])), (h_answers, .inl (cI, 61, .inl g8_answers)), (h_lasts, .inl (cI, 61, .inl g_9)), (h_pip, .inl (cZ, 61, .inl g8_pip)), (h_tones, .inl (cI, 61, .inl g_8)), (h_a1, .inr (8, [.int v_a1_tones, .int v_a1_a, .int v_a1_b, .int v_a1_c, .int v_a1_d, .int v_a1_odds, .int v_a1_lines, .ref h_a1_signs, .int v_a1_signCount, .ref h_a1_posts, .int v_a1_postCount, .ref h_a1_acts])), (h_a1_acts, .inr (0, [.ref h_a1_acts_over, .ref h_a1_acts_steps, .ref h_a1_acts_before, .int v_a1_acts_size])), (h_a1_signs, .inl (cI, 8, .inl f_a1_signs)), (h_a1_acts_over, .inl (cI, 61, .inl f_a1_acts_over))] := hD
        refine lv_aload_n hx hb dX4_hear_57 rfl (lv_at hl 5 rfl) ?_
        refine va_get (D := D) (ci := 4) (v := .ref h_answers) (C := RX4) (T := TX4) (N := 4) hx hb hts inlX4 hown hK hP 0 rfl rfl 2 (by decide) (hts _ (inr5 _ (List.mem_of_getElem? (i := 4) rfl))) (fun _ h9 => h9) rfl dX4_hear_58 ?_
        refine lv_iload hx hb dX4_hear_61 (lv_at hl 2 rfl) ?_
        refine lv_iload hx hb dX4_hear_63 (lv_at hl 3 rfl) ?_
        refine va_iast hx hb hK hP hD hS 1 1 rfl rfl (vin_nat (by omega) (by omega)) dX4_hear_65 (fun H locs hP hD hS => ?_)
        have hP : va_P D vwCl [(h0, .inr (4, [.ref h_tones, .ref h_lasts, .ref h_answers, .ref h_pip])), (h_answers, .inl (cI, 61, .inl (upd g8_answers (l8_5 : Int32).toNatClampNeg l8_4))), (h_lasts, .inl (cI, 61, .inl g_9)), (h_pip, .inl (cZ, 61, .inl g8_pip)), (h_tones, .inl (cI, 61, .inl g_8)), (h_a1, .inr (8, [.int v_a1_tones, .int v_a1_a, .int v_a1_b, .int v_a1_c, .int v_a1_d, .int v_a1_odds, .int v_a1_lines, .ref h_a1_signs, .int v_a1_signCount, .ref h_a1_posts, .int v_a1_postCount, .ref h_a1_acts])), (h_a1_acts, .inr (0, [.ref h_a1_acts_over, .ref h_a1_acts_steps, .ref h_a1_acts_before, .int v_a1_acts_size])), (h_a1_signs, .inl (cI, 8, .inl f_a1_signs)), (h_a1_acts_over, .inl (cI, 61, .inl f_a1_acts_over))] H := hP
        have hD : va_D A [(h0, .inr (4, [.ref h_tones, .ref h_lasts, .ref h_answers, .ref h_pip])), (h_answers, .inl (cI, 61, .inl (upd g8_answers (l8_5 : Int32).toNatClampNeg l8_4))), (h_lasts, .inl (cI, 61, .inl g_9)), (h_pip, .inl (cZ, 61, .inl g8_pip)), (h_tones, .inl (cI, 61, .inl g_8)), (h_a1, .inr (8, [.int v_a1_tones, .int v_a1_a, .int v_a1_b, .int v_a1_c, .int v_a1_d, .int v_a1_odds, .int v_a1_lines, .ref h_a1_signs, .int v_a1_signCount, .ref h_a1_posts, .int v_a1_postCount, .ref h_a1_acts])), (h_a1_acts, .inr (0, [.ref h_a1_acts_over, .ref h_a1_acts_steps, .ref h_a1_acts_before, .int v_a1_acts_size])), (h_a1_signs, .inl (cI, 8, .inl f_a1_signs)), (h_a1_acts_over, .inl (cI, 61, .inl f_a1_acts_over))] := hD
        obtain ⟨g_10, eg_10⟩ : ∃ v9 : Nat → Int32, (upd g8_answers (l8_5 : Int32).toNatClampNeg l8_4) = v9 := ⟨_, rfl⟩
        rw [eg_10] at hP hD
        have hP : va_P D vwCl [(h0, .inr (4, [.ref h_tones, .ref h_lasts, .ref h_answers, .ref h_pip])), (h_answers, .inl (cI, 61, .inl g_10)), (h_lasts, .inl (cI, 61, .inl g_9)), (h_pip, .inl (cZ, 61, .inl g8_pip)), (h_tones, .inl (cI, 61, .inl g_8)), (h_a1, .inr (8, [.int v_a1_tones, .int v_a1_a, .int v_a1_b, .int v_a1_c, .int v_a1_d, .int v_a1_odds, .int v_a1_lines, .ref h_a1_signs, .int v_a1_signCount, .ref h_a1_posts, .int v_a1_postCount, .ref h_a1_acts])), (h_a1_acts, .inr (0, [.ref h_a1_acts_over, .ref h_a1_acts_steps, .ref h_a1_acts_before, .int v_a1_acts_size])), (h_a1_signs, .inl (cI, 8, .inl f_a1_signs)), (h_a1_acts_over, .inl (cI, 61, .inl f_a1_acts_over))] H := hP
        have hD : va_D A [(h0, .inr (4, [.ref h_tones, .ref h_lasts, .ref h_answers, .ref h_pip])), (h_answers, .inl (cI, 61, .inl g_10)), (h_lasts, .inl (cI, 61, .inl g_9)), (h_pip, .inl (cZ, 61, .inl g8_pip)), (h_tones, .inl (cI, 61, .inl g_8)), (h_a1, .inr (8, [.int v_a1_tones, .int v_a1_a, .int v_a1_b, .int v_a1_c, .int v_a1_d, .int v_a1_odds, .int v_a1_lines, .ref h_a1_signs, .int v_a1_signCount, .ref h_a1_posts, .int v_a1_postCount, .ref h_a1_acts])), (h_a1_acts, .inr (0, [.ref h_a1_acts_over, .ref h_a1_acts_steps, .ref h_a1_acts_before, .int v_a1_acts_size])), (h_a1_signs, .inl (cI, 8, .inl f_a1_signs)), (h_a1_acts_over, .inl (cI, 61, .inl f_a1_acts_over))] := hD
        refine lv_aload_n hx hb dX4_hear_66 rfl (lv_at hl 5 rfl) ?_
        refine va_get (D := D) (ci := 4) (v := .ref h_pip) (C := RX4) (T := TX4) (N := 4) hx hb hts inlX4 hown hK hP 0 rfl rfl 3 (by decide) (hts _ (inr5 _ (List.mem_of_getElem? (i := 5) rfl))) (fun _ h9 => h9) rfl dX4_hear_67 ?_
        refine lv_iload hx hb dX4_hear_70 (lv_at hl 2 rfl) ?_
        refine lv_iload hx hb dX4_hear_72 (lv_at hl 0 rfl) ?_
        refine lv_if_eq (tgt := 87) hx hb dX4_hear_74 (by decide) (fun c_11 => ?_) (fun c_11 => ?_)
        · have c_11 : r_5.toInt = 0 := ci_eq_t c_11
          have b_r_5 := i32b r_5
          refine lv_iconst (v := 0) hx hb dX4_hear_87 (by decide) ?_
          refine va_zast hx hb hK hP hD hS 3 3 rfl rfl (vin_nat (by omega) (by omega)) dX4_hear_88 (fun H locs hP hD hS => ?_)
          have hP : va_P D vwCl [(h0, .inr (4, [.ref h_tones, .ref h_lasts, .ref h_answers, .ref h_pip])), (h_answers, .inl (cI, 61, .inl g_10)), (h_lasts, .inl (cI, 61, .inl g_9)), (h_pip, .inl (cZ, 61, .inl (upd g8_pip (l8_5 : Int32).toNatClampNeg (vp_nar .boolean 0)))), (h_tones, .inl (cI, 61, .inl g_8)), (h_a1, .inr (8, [.int v_a1_tones, .int v_a1_a, .int v_a1_b, .int v_a1_c, .int v_a1_d, .int v_a1_odds, .int v_a1_lines, .ref h_a1_signs, .int v_a1_signCount, .ref h_a1_posts, .int v_a1_postCount, .ref h_a1_acts])), (h_a1_acts, .inr (0, [.ref h_a1_acts_over, .ref h_a1_acts_steps, .ref h_a1_acts_before, .int v_a1_acts_size])), (h_a1_signs, .inl (cI, 8, .inl f_a1_signs)), (h_a1_acts_over, .inl (cI, 61, .inl f_a1_acts_over))] H := hP
          have hD : va_D A [(h0, .inr (4, [.ref h_tones, .ref h_lasts, .ref h_answers, .ref h_pip])), (h_answers, .inl (cI, 61, .inl g_10)), (h_lasts, .inl (cI, 61, .inl g_9)), (h_pip, .inl (cZ, 61, .inl (upd g8_pip (l8_5 : Int32).toNatClampNeg (vp_nar .boolean 0)))), (h_tones, .inl (cI, 61, .inl g_8)), (h_a1, .inr (8, [.int v_a1_tones, .int v_a1_a, .int v_a1_b, .int v_a1_c, .int v_a1_d, .int v_a1_odds, .int v_a1_lines, .ref h_a1_signs, .int v_a1_signCount, .ref h_a1_posts, .int v_a1_postCount, .ref h_a1_acts])), (h_a1_acts, .inr (0, [.ref h_a1_acts_over, .ref h_a1_acts_steps, .ref h_a1_acts_before, .int v_a1_acts_size])), (h_a1_signs, .inl (cI, 8, .inl f_a1_signs)), (h_a1_acts_over, .inl (cI, 61, .inl f_a1_acts_over))] := hD
          obtain ⟨g_12, eg_12⟩ : ∃ v9 : Nat → Int32, (upd g8_pip (l8_5 : Int32).toNatClampNeg (vp_nar .boolean 0)) = v9 := ⟨_, rfl⟩
          rw [eg_12] at hP hD
          have hP : va_P D vwCl [(h0, .inr (4, [.ref h_tones, .ref h_lasts, .ref h_answers, .ref h_pip])), (h_answers, .inl (cI, 61, .inl g_10)), (h_lasts, .inl (cI, 61, .inl g_9)), (h_pip, .inl (cZ, 61, .inl g_12)), (h_tones, .inl (cI, 61, .inl g_8)), (h_a1, .inr (8, [.int v_a1_tones, .int v_a1_a, .int v_a1_b, .int v_a1_c, .int v_a1_d, .int v_a1_odds, .int v_a1_lines, .ref h_a1_signs, .int v_a1_signCount, .ref h_a1_posts, .int v_a1_postCount, .ref h_a1_acts])), (h_a1_acts, .inr (0, [.ref h_a1_acts_over, .ref h_a1_acts_steps, .ref h_a1_acts_before, .int v_a1_acts_size])), (h_a1_signs, .inl (cI, 8, .inl f_a1_signs)), (h_a1_acts_over, .inl (cI, 61, .inl f_a1_acts_over))] H := hP
          have hD : va_D A [(h0, .inr (4, [.ref h_tones, .ref h_lasts, .ref h_answers, .ref h_pip])), (h_answers, .inl (cI, 61, .inl g_10)), (h_lasts, .inl (cI, 61, .inl g_9)), (h_pip, .inl (cZ, 61, .inl g_12)), (h_tones, .inl (cI, 61, .inl g_8)), (h_a1, .inr (8, [.int v_a1_tones, .int v_a1_a, .int v_a1_b, .int v_a1_c, .int v_a1_d, .int v_a1_odds, .int v_a1_lines, .ref h_a1_signs, .int v_a1_signCount, .ref h_a1_posts, .int v_a1_postCount, .ref h_a1_acts])), (h_a1_acts, .inr (0, [.ref h_a1_acts_over, .ref h_a1_acts_steps, .ref h_a1_acts_before, .int v_a1_acts_size])), (h_a1_signs, .inl (cI, 8, .inl f_a1_signs)), (h_a1_acts_over, .inl (cI, 61, .inl f_a1_acts_over))] := hD
          refine lv_iload hx hb dX4_hear_89 (lv_at hl 0 rfl) ?_
          refine lv_if_eq (tgt := 101) hx hb dX4_hear_91 (by decide) (fun c_13 => ?_) (fun c_13 => ?_)
          · have c_13 : r_5.toInt = 0 := ci_eq_t c_13
            refine lv_iload hx hb dX4_hear_101 (lv_at hl 1 rfl) ?_
            refine lv_iconst (v := (-1)) hx hb dX4_hear_103 (by decide) ?_
            refine lv_icmp_eq (tgt := 110) hx hb dX4_hear_104 (by decide) (fun c_14 => ?_) (fun c_14 => ?_)
            · have c_14 : r_3.toInt = (-1) := ci_eq_t c_14
              have b_r_3 := i32b r_3
              obtain ⟨t_15, et_15⟩ : ∃ v9 : Int32, l8_5 + 1 = v9 := ⟨_, rfl⟩
              have ft_15 : t_15.toInt = l8_5.toInt + 1 := addT (a := l8_5.toInt) (b := 1) rfl (by decide) et_15 (by omega) (by omega)
              refine lv_iinc (v := t_15) (lv' := [(5, .int t_15), (7, .int r_5), (6, .int r_3), (4, .int l8_4), (3, .int l8_3), (0, .ref h0), (1, .ref h_a1), (2, .int v2)]) hx hb dX4_hear_110 hl (k := 2) rfl (by rw [← et_15]; rfl) (by decide) rfl (fun ls hl => ?_)
              refine lv_goto (tgt := 8) hx hb dX4_hear_113 (by decide) ?_
              exact ih_8 (g_10) (g_9) (g_12) (g_8) (t_15) (l8_4) (l8_3) _ _ _ (by first | assumption | omega | decide) (by omega) (hP.sub [0, 1, 2, 3, 4, 5, 6, 7, 8] rfl) (hD.sub [0, 1, 2, 3, 4, 5, 6, 7, 8] (by decide) rfl) hS (lv_sub hl [0, 3, 4, 5, 6, 7] rfl)
            · have c_14 : ¬ r_3.toInt = (-1) := ci_eq_f c_14
              have b_r_3 := i32b r_3
              refine lv_iload hx hb dX4_hear_107 (lv_at hl 1 rfl) ?_
              refine lv_istore_n (lv' := [(3, .int r_3), (7, .int r_5), (6, .int r_3), (5, .int l8_5), (4, .int l8_4), (0, .ref h0), (1, .ref h_a1), (2, .int v2)]) hx hb dX4_hear_109 rfl hl (by decide) rfl (fun ls hl => ?_)
              obtain ⟨t_16, et_16⟩ : ∃ v9 : Int32, l8_5 + 1 = v9 := ⟨_, rfl⟩
              have ft_16 : t_16.toInt = l8_5.toInt + 1 := addT (a := l8_5.toInt) (b := 1) rfl (by decide) et_16 (by omega) (by omega)
              refine lv_iinc (v := t_16) (lv' := [(5, .int t_16), (3, .int r_3), (7, .int r_5), (6, .int r_3), (4, .int l8_4), (0, .ref h0), (1, .ref h_a1), (2, .int v2)]) hx hb dX4_hear_110 hl (k := 3) rfl (by rw [← et_16]; rfl) (by decide) rfl (fun ls hl => ?_)
              refine lv_goto (tgt := 8) hx hb dX4_hear_113 (by decide) ?_
              exact ih_8 (g_10) (g_9) (g_12) (g_8) (t_16) (l8_4) (r_3) _ _ _ (by first | assumption | omega | decide) (by omega) (hP.sub [0, 1, 2, 3, 4, 5, 6, 7, 8] rfl) (hD.sub [0, 1, 2, 3, 4, 5, 6, 7, 8] (by decide) rfl) hS (lv_sub hl [0, 4, 1, 5, 6, 7] rfl)
          · have c_13 : ¬ r_5.toInt = 0 := ci_eq_f c_13
            exfalso
            omega
        · have c_11 : ¬ r_5.toInt = 0 := ci_eq_f c_11
          have b_r_5 := i32b r_5
          refine lv_iload hx hb dX4_hear_77 (lv_at hl 1 rfl) ?_
          refine lv_iload_n hx hb dX4_hear_79 rfl (lv_at hl 4 rfl) ?_
          refine lv_icmp_ne (tgt := 87) hx hb dX4_hear_80 (by decide) (fun c_17 => ?_) (fun c_17 => ?_)
          · have c_17 : ¬ r_3.toInt = l8_3.toInt := ci_ne_t c_17
            have b_r_3 := i32b r_3
            have b_l8_3 := i32b l8_3
            refine lv_iconst (v := 0) hx hb dX4_hear_87 (by decide) ?_
            refine va_zast hx hb hK hP hD hS 3 3 rfl rfl (vin_nat (by omega) (by omega)) dX4_hear_88 (fun H locs hP hD hS => ?_)
            have hP : va_P D vwCl [(h0, .inr (4, [.ref h_tones, .ref h_lasts, .ref h_answers, .ref h_pip])), (h_answers, .inl (cI, 61, .inl g_10)), (h_lasts, .inl (cI, 61, .inl g_9)), (h_pip, .inl (cZ, 61, .inl (upd g8_pip (l8_5 : Int32).toNatClampNeg (vp_nar .boolean 0)))), (h_tones, .inl (cI, 61, .inl g_8)), (h_a1, .inr (8, [.int v_a1_tones, .int v_a1_a, .int v_a1_b, .int v_a1_c, .int v_a1_d, .int v_a1_odds, .int v_a1_lines, .ref h_a1_signs, .int v_a1_signCount, .ref h_a1_posts, .int v_a1_postCount, .ref h_a1_acts])), (h_a1_acts, .inr (0, [.ref h_a1_acts_over, .ref h_a1_acts_steps, .ref h_a1_acts_before, .int v_a1_acts_size])), (h_a1_signs, .inl (cI, 8, .inl f_a1_signs)), (h_a1_acts_over, .inl (cI, 61, .inl f_a1_acts_over))] H := hP
            have hD : va_D A [(h0, .inr (4, [.ref h_tones, .ref h_lasts, .ref h_answers, .ref h_pip])), (h_answers, .inl (cI, 61, .inl g_10)), (h_lasts, .inl (cI, 61, .inl g_9)), (h_pip, .inl (cZ, 61, .inl (upd g8_pip (l8_5 : Int32).toNatClampNeg (vp_nar .boolean 0)))), (h_tones, .inl (cI, 61, .inl g_8)), (h_a1, .inr (8, [.int v_a1_tones, .int v_a1_a, .int v_a1_b, .int v_a1_c, .int v_a1_d, .int v_a1_odds, .int v_a1_lines, .ref h_a1_signs, .int v_a1_signCount, .ref h_a1_posts, .int v_a1_postCount, .ref h_a1_acts])), (h_a1_acts, .inr (0, [.ref h_a1_acts_over, .ref h_a1_acts_steps, .ref h_a1_acts_before, .int v_a1_acts_size])), (h_a1_signs, .inl (cI, 8, .inl f_a1_signs)), (h_a1_acts_over, .inl (cI, 61, .inl f_a1_acts_over))] := hD
            obtain ⟨g_18, eg_18⟩ : ∃ v9 : Nat → Int32, (upd g8_pip (l8_5 : Int32).toNatClampNeg (vp_nar .boolean 0)) = v9 := ⟨_, rfl⟩
            rw [eg_18] at hP hD
            have hP : va_P D vwCl [(h0, .inr (4, [.ref h_tones, .ref h_lasts, .ref h_answers, .ref h_pip])), (h_answers, .inl (cI, 61, .inl g_10)), (h_lasts, .inl (cI, 61, .inl g_9)), (h_pip, .inl (cZ, 61, .inl g_18)), (h_tones, .inl (cI, 61, .inl g_8)), (h_a1, .inr (8, [.int v_a1_tones, .int v_a1_a, .int v_a1_b, .int v_a1_c, .int v_a1_d, .int v_a1_odds, .int v_a1_lines, .ref h_a1_signs, .int v_a1_signCount, .ref h_a1_posts, .int v_a1_postCount, .ref h_a1_acts])), (h_a1_acts, .inr (0, [.ref h_a1_acts_over, .ref h_a1_acts_steps, .ref h_a1_acts_before, .int v_a1_acts_size])), (h_a1_signs, .inl (cI, 8, .inl f_a1_signs)), (h_a1_acts_over, .inl (cI, 61, .inl f_a1_acts_over))] H := hP
            have hD : va_D A [(h0, .inr (4, [.ref h_tones, .ref h_lasts, .ref h_answers, .ref h_pip])), (h_answers, .inl (cI, 61, .inl g_10)), (h_lasts, .inl (cI, 61, .inl g_9)), (h_pip, .inl (cZ, 61, .inl g_18)), (h_tones, .inl (cI, 61, .inl g_8)), (h_a1, .inr (8, [.int v_a1_tones, .int v_a1_a, .int v_a1_b, .int v_a1_c, .int v_a1_d, .int v_a1_odds, .int v_a1_lines, .ref h_a1_signs, .int v_a1_signCount, .ref h_a1_posts, .int v_a1_postCount, .ref h_a1_acts])), (h_a1_acts, .inr (0, [.ref h_a1_acts_over, .ref h_a1_acts_steps, .ref h_a1_acts_before, .int v_a1_acts_size])), (h_a1_signs, .inl (cI, 8, .inl f_a1_signs)), (h_a1_acts_over, .inl (cI, 61, .inl f_a1_acts_over))] := hD
            refine lv_iload hx hb dX4_hear_89 (lv_at hl 0 rfl) ?_
            refine lv_if_eq (tgt := 101) hx hb dX4_hear_91 (by decide) (fun c_19 => ?_) (fun c_19 => ?_)
            · have c_19 : r_5.toInt = 0 := ci_eq_t c_19
              exfalso
              omega
            · have c_19 : ¬ r_5.toInt = 0 := ci_eq_f c_19
              refine lv_iload hx hb dX4_hear_94 (lv_at hl 1 rfl) ?_
              refine lv_istore (lv' := [(4, .int r_3), (7, .int r_5), (6, .int r_3), (5, .int l8_5), (3, .int l8_3), (0, .ref h0), (1, .ref h_a1), (2, .int v2)]) hx hb dX4_hear_96 hl (by decide) rfl (fun ls hl => ?_)
              refine lv_goto (tgt := 110) hx hb dX4_hear_98 (by decide) ?_
              obtain ⟨t_20, et_20⟩ : ∃ v9 : Int32, l8_5 + 1 = v9 := ⟨_, rfl⟩
              have ft_20 : t_20.toInt = l8_5.toInt + 1 := addT (a := l8_5.toInt) (b := 1) rfl (by decide) et_20 (by omega) (by omega)
              refine lv_iinc (v := t_20) (lv' := [(5, .int t_20), (4, .int r_3), (7, .int r_5), (6, .int r_3), (3, .int l8_3), (0, .ref h0), (1, .ref h_a1), (2, .int v2)]) hx hb dX4_hear_110 hl (k := 3) rfl (by rw [← et_20]; rfl) (by decide) rfl (fun ls hl => ?_)
              refine lv_goto (tgt := 8) hx hb dX4_hear_113 (by decide) ?_
              exact ih_8 (g_10) (g_9) (g_18) (g_8) (t_20) (r_3) (l8_3) _ _ _ (by first | assumption | omega | decide) (by omega) (hP.sub [0, 1, 2, 3, 4, 5, 6, 7, 8] rfl) (hD.sub [0, 1, 2, 3, 4, 5, 6, 7, 8] (by decide) rfl) hS (lv_sub hl [0, 1, 4, 5, 6, 7] rfl)
          · have c_17 : r_3.toInt = l8_3.toInt := ci_ne_f c_17
            have b_r_3 := i32b r_3
            have b_l8_3 := i32b l8_3
            refine lv_iconst (v := 1) hx hb dX4_hear_83 (by decide) ?_
            refine lv_goto (tgt := 88) hx hb dX4_hear_84 (by decide) ?_
            refine va_zast hx hb hK hP hD hS 3 3 rfl rfl (vin_nat (by omega) (by omega)) dX4_hear_88 (fun H locs hP hD hS => ?_)
            have hP : va_P D vwCl [(h0, .inr (4, [.ref h_tones, .ref h_lasts, .ref h_answers, .ref h_pip])), (h_answers, .inl (cI, 61, .inl g_10)), (h_lasts, .inl (cI, 61, .inl g_9)), (h_pip, .inl (cZ, 61, .inl (upd g8_pip (l8_5 : Int32).toNatClampNeg (vp_nar .boolean 1)))), (h_tones, .inl (cI, 61, .inl g_8)), (h_a1, .inr (8, [.int v_a1_tones, .int v_a1_a, .int v_a1_b, .int v_a1_c, .int v_a1_d, .int v_a1_odds, .int v_a1_lines, .ref h_a1_signs, .int v_a1_signCount, .ref h_a1_posts, .int v_a1_postCount, .ref h_a1_acts])), (h_a1_acts, .inr (0, [.ref h_a1_acts_over, .ref h_a1_acts_steps, .ref h_a1_acts_before, .int v_a1_acts_size])), (h_a1_signs, .inl (cI, 8, .inl f_a1_signs)), (h_a1_acts_over, .inl (cI, 61, .inl f_a1_acts_over))] H := hP
            have hD : va_D A [(h0, .inr (4, [.ref h_tones, .ref h_lasts, .ref h_answers, .ref h_pip])), (h_answers, .inl (cI, 61, .inl g_10)), (h_lasts, .inl (cI, 61, .inl g_9)), (h_pip, .inl (cZ, 61, .inl (upd g8_pip (l8_5 : Int32).toNatClampNeg (vp_nar .boolean 1)))), (h_tones, .inl (cI, 61, .inl g_8)), (h_a1, .inr (8, [.int v_a1_tones, .int v_a1_a, .int v_a1_b, .int v_a1_c, .int v_a1_d, .int v_a1_odds, .int v_a1_lines, .ref h_a1_signs, .int v_a1_signCount, .ref h_a1_posts, .int v_a1_postCount, .ref h_a1_acts])), (h_a1_acts, .inr (0, [.ref h_a1_acts_over, .ref h_a1_acts_steps, .ref h_a1_acts_before, .int v_a1_acts_size])), (h_a1_signs, .inl (cI, 8, .inl f_a1_signs)), (h_a1_acts_over, .inl (cI, 61, .inl f_a1_acts_over))] := hD
            obtain ⟨g_21, eg_21⟩ : ∃ v9 : Nat → Int32, (upd g8_pip (l8_5 : Int32).toNatClampNeg (vp_nar .boolean 1)) = v9 := ⟨_, rfl⟩
            rw [eg_21] at hP hD
            have hP : va_P D vwCl [(h0, .inr (4, [.ref h_tones, .ref h_lasts, .ref h_answers, .ref h_pip])), (h_answers, .inl (cI, 61, .inl g_10)), (h_lasts, .inl (cI, 61, .inl g_9)), (h_pip, .inl (cZ, 61, .inl g_21)), (h_tones, .inl (cI, 61, .inl g_8)), (h_a1, .inr (8, [.int v_a1_tones, .int v_a1_a, .int v_a1_b, .int v_a1_c, .int v_a1_d, .int v_a1_odds, .int v_a1_lines, .ref h_a1_signs, .int v_a1_signCount, .ref h_a1_posts, .int v_a1_postCount, .ref h_a1_acts])), (h_a1_acts, .inr (0, [.ref h_a1_acts_over, .ref h_a1_acts_steps, .ref h_a1_acts_before, .int v_a1_acts_size])), (h_a1_signs, .inl (cI, 8, .inl f_a1_signs)), (h_a1_acts_over, .inl (cI, 61, .inl f_a1_acts_over))] H := hP
            have hD : va_D A [(h0, .inr (4, [.ref h_tones, .ref h_lasts, .ref h_answers, .ref h_pip])), (h_answers, .inl (cI, 61, .inl g_10)), (h_lasts, .inl (cI, 61, .inl g_9)), (h_pip, .inl (cZ, 61, .inl g_21)), (h_tones, .inl (cI, 61, .inl g_8)), (h_a1, .inr (8, [.int v_a1_tones, .int v_a1_a, .int v_a1_b, .int v_a1_c, .int v_a1_d, .int v_a1_odds, .int v_a1_lines, .ref h_a1_signs, .int v_a1_signCount, .ref h_a1_posts, .int v_a1_postCount, .ref h_a1_acts])), (h_a1_acts, .inr (0, [.ref h_a1_acts_over, .ref h_a1_acts_steps, .ref h_a1_acts_before, .int v_a1_acts_size])), (h_a1_signs, .inl (cI, 8, .inl f_a1_signs)), (h_a1_acts_over, .inl (cI, 61, .inl f_a1_acts_over))] := hD
            refine lv_iload hx hb dX4_hear_89 (lv_at hl 0 rfl) ?_
            refine lv_if_eq (tgt := 101) hx hb dX4_hear_91 (by decide) (fun c_22 => ?_) (fun c_22 => ?_)
            · have c_22 : r_5.toInt = 0 := ci_eq_t c_22
              exfalso
              omega
            · have c_22 : ¬ r_5.toInt = 0 := ci_eq_f c_22
              refine lv_iload hx hb dX4_hear_94 (lv_at hl 1 rfl) ?_
              refine lv_istore (lv' := [(4, .int r_3), (7, .int r_5), (6, .int r_3), (5, .int l8_5), (3, .int l8_3), (0, .ref h0), (1, .ref h_a1), (2, .int v2)]) hx hb dX4_hear_96 hl (by decide) rfl (fun ls hl => ?_)
              refine lv_goto (tgt := 110) hx hb dX4_hear_98 (by decide) ?_
              obtain ⟨t_23, et_23⟩ : ∃ v9 : Int32, l8_5 + 1 = v9 := ⟨_, rfl⟩
              have ft_23 : t_23.toInt = l8_5.toInt + 1 := addT (a := l8_5.toInt) (b := 1) rfl (by decide) et_23 (by omega) (by omega)
              refine lv_iinc (v := t_23) (lv' := [(5, .int t_23), (4, .int r_3), (7, .int r_5), (6, .int r_3), (3, .int l8_3), (0, .ref h0), (1, .ref h_a1), (2, .int v2)]) hx hb dX4_hear_110 hl (k := 3) rfl (by rw [← et_23]; rfl) (by decide) rfl (fun ls hl => ?_)
              refine lv_goto (tgt := 8) hx hb dX4_hear_113 (by decide) ?_
              exact ih_8 (g_10) (g_9) (g_21) (g_8) (t_23) (r_3) (l8_3) _ _ _ (by first | assumption | omega | decide) (by omega) (hP.sub [0, 1, 2, 3, 4, 5, 6, 7, 8] rfl) (hD.sub [0, 1, 2, 3, 4, 5, 6, 7, 8] (by decide) rfl) hS (lv_sub hl [0, 1, 4, 5, 6, 7] rfl)

set_option maxHeartbeats 4000000 in
set_option maxRecDepth 100000 in
theorem b_X4_hear (l : Launch) (G : Gho) (D : va_G) (cB cI cJ cZ cS cT : ClassId) (sz : Nat) (h0 : Nat) (h_tones : Nat) (h_lasts : Nat) (h_answers : Nat) (h_pip : Nat) (f_answers : Nat → Int32) (f_lasts : Nat → Int32) (f_pip : Nat → Int32) (f_tones : Nat → Int32) (h_a1 : Nat) (v_a1_tones : Int32) (v_a1_a : Int32) (v_a1_b : Int32) (v_a1_c : Int32) (v_a1_d : Int32) (v_a1_odds : Int32) (v_a1_lines : Int32) (h_a1_signs : Nat) (v_a1_signCount : Int32) (h_a1_posts : Nat) (v_a1_postCount : Int32) (h_a1_acts : Nat) (h_a1_acts_over : Nat) (h_a1_acts_steps : Nat) (h_a1_acts_before : Nat) (v_a1_acts_size : Int32) (f_a1_signs : Nat → Int32) (f_a1_acts_over : Nat → Int32) (v2 : Int32) (iv_a1_signCount : 0 ≤ v_a1_signCount.toInt ∧ v_a1_signCount.toInt ≤ 8) (iv_a1_postCount : 0 ≤ v_a1_postCount.toInt ∧ v_a1_postCount.toInt ≤ 5) (iv_a1_acts_size : 0 ≤ v_a1_acts_size.toInt ∧ v_a1_acts_size.toInt ≤ 30) : Met l yX4_hear (Cond.code yX4_hear cX4_hear 8 none :: wsL_law) ({ frames := 2, cells := 0, slots := 0, locals := 49 }) (wrP G D (tyL cB cI cJ cZ cS cT) [(h0, .inr (4, [.ref h_tones, .ref h_lasts, .ref h_answers, .ref h_pip])), (h_answers, .inl (cI, 61, .inl f_answers)), (h_lasts, .inl (cI, 61, .inl f_lasts)), (h_pip, .inl (cZ, 61, .inl f_pip)), (h_tones, .inl (cI, 61, .inl f_tones)), (h_a1, .inr (8, [.int v_a1_tones, .int v_a1_a, .int v_a1_b, .int v_a1_c, .int v_a1_d, .int v_a1_odds, .int v_a1_lines, .ref h_a1_signs, .int v_a1_signCount, .ref h_a1_posts, .int v_a1_postCount, .ref h_a1_acts])), (h_a1_acts, .inr (0, [.ref h_a1_acts_over, .ref h_a1_acts_steps, .ref h_a1_acts_before, .int v_a1_acts_size])), (h_a1_signs, .inl (cI, 8, .inl f_a1_signs)), (h_a1_acts_over, .inl (cI, 61, .inl f_a1_acts_over))] sz [.ref h0, .ref h_a1, .int v2]) (va_Qv (fun x : (Nat → Int32) × (Nat → Int32) × (Nat → Int32) × (Nat → Int32) => True) (atW D (tyL cB cI cJ cZ cS cT) (va_A [(h0, .inr (4, [.ref h_tones, .ref h_lasts, .ref h_answers, .ref h_pip])), (h_answers, .inl (cI, 61, .inl f_answers)), (h_lasts, .inl (cI, 61, .inl f_lasts)), (h_pip, .inl (cZ, 61, .inl f_pip)), (h_tones, .inl (cI, 61, .inl f_tones)), (h_a1, .inr (8, [.int v_a1_tones, .int v_a1_a, .int v_a1_b, .int v_a1_c, .int v_a1_d, .int v_a1_odds, .int v_a1_lines, .ref h_a1_signs, .int v_a1_signCount, .ref h_a1_posts, .int v_a1_postCount, .ref h_a1_acts])), (h_a1_acts, .inr (0, [.ref h_a1_acts_over, .ref h_a1_acts_steps, .ref h_a1_acts_before, .int v_a1_acts_size])), (h_a1_signs, .inl (cI, 8, .inl f_a1_signs)), (h_a1_acts_over, .inl (cI, 61, .inl f_a1_acts_over))] sz) (fun x : (Nat → Int32) × (Nat → Int32) × (Nat → Int32) × (Nat → Int32) => [(h0, .inr (4, [.ref h_tones, .ref h_lasts, .ref h_answers, .ref h_pip])), (h_answers, .inl (cI, 61, .inl x.1)), (h_lasts, .inl (cI, 61, .inl x.2.1)), (h_pip, .inl (cZ, 61, .inl x.2.2.1)), (h_tones, .inl (cI, 61, .inl x.2.2.2)), (h_a1, .inr (8, [.int v_a1_tones, .int v_a1_a, .int v_a1_b, .int v_a1_c, .int v_a1_d, .int v_a1_odds, .int v_a1_lines, .ref h_a1_signs, .int v_a1_signCount, .ref h_a1_posts, .int v_a1_postCount, .ref h_a1_acts])), (h_a1_acts, .inr (0, [.ref h_a1_acts_over, .ref h_a1_acts_steps, .ref h_a1_acts_before, .int v_a1_acts_size])), (h_a1_signs, .inl (cI, 8, .inl f_a1_signs)), (h_a1_acts_over, .inl (cI, 61, .inl f_a1_acts_over))])) (va_A [(h0, .inr (4, [.ref h_tones, .ref h_lasts, .ref h_answers, .ref h_pip])), (h_answers, .inl (cI, 61, .inl f_answers)), (h_lasts, .inl (cI, 61, .inl f_lasts)), (h_pip, .inl (cZ, 61, .inl f_pip)), (h_tones, .inl (cI, 61, .inl f_tones)), (h_a1, .inr (8, [.int v_a1_tones, .int v_a1_a, .int v_a1_b, .int v_a1_c, .int v_a1_d, .int v_a1_odds, .int v_a1_lines, .ref h_a1_signs, .int v_a1_signCount, .ref h_a1_posts, .int v_a1_postCount, .ref h_a1_acts])), (h_a1_acts, .inr (0, [.ref h_a1_acts_over, .ref h_a1_acts_steps, .ref h_a1_acts_before, .int v_a1_acts_size])), (h_a1_signs, .inl (cI, 8, .inl f_a1_signs)), (h_a1_acts_over, .inl (cI, 61, .inl f_a1_acts_over))] sz)) 0 0 (va_A [(h0, .inr (4, [.ref h_tones, .ref h_lasts, .ref h_answers, .ref h_pip])), (h_answers, .inl (cI, 61, .inl f_answers)), (h_lasts, .inl (cI, 61, .inl f_lasts)), (h_pip, .inl (cZ, 61, .inl f_pip)), (h_tones, .inl (cI, 61, .inl f_tones)), (h_a1, .inr (8, [.int v_a1_tones, .int v_a1_a, .int v_a1_b, .int v_a1_c, .int v_a1_d, .int v_a1_odds, .int v_a1_lines, .ref h_a1_signs, .int v_a1_signCount, .ref h_a1_posts, .int v_a1_postCount, .ref h_a1_acts])), (h_a1_acts, .inr (0, [.ref h_a1_acts_over, .ref h_a1_acts_steps, .ref h_a1_acts_before, .int v_a1_acts_size])), (h_a1_signs, .inl (cI, 8, .inl f_a1_signs)), (h_a1_acts_over, .inl (cI, 61, .inl f_a1_acts_over))] sz) := by
  refine metV (own := RX4) (by decide) rfl ?_
  intro p e s m below meth c Q hsz C hG hP hD hAB ret
  obtain ⟨hx, hb, hml, hown, hts, hK, hN, hT⟩ := id C
  subst hsz
  generalize hAe : va_A [(h0, .inr (4, [.ref h_tones, .ref h_lasts, .ref h_answers, .ref h_pip])), (h_answers, .inl (cI, 61, .inl f_answers)), (h_lasts, .inl (cI, 61, .inl f_lasts)), (h_pip, .inl (cZ, 61, .inl f_pip)), (h_tones, .inl (cI, 61, .inl f_tones)), (h_a1, .inr (8, [.int v_a1_tones, .int v_a1_a, .int v_a1_b, .int v_a1_c, .int v_a1_d, .int v_a1_odds, .int v_a1_lines, .ref h_a1_signs, .int v_a1_signCount, .ref h_a1_posts, .int v_a1_postCount, .ref h_a1_acts])), (h_a1_acts, .inr (0, [.ref h_a1_acts_over, .ref h_a1_acts_steps, .ref h_a1_acts_before, .int v_a1_acts_size])), (h_a1_signs, .inl (cI, 8, .inl f_a1_signs)), (h_a1_acts_over, .inl (cI, 61, .inl f_a1_acts_over))] s.heap.size = A at hD hAB ret ⊢
  have hA : ∀ q : Nat, s.heap.size ≤ q → A q := fun q h => by rw [← hAe]; exact Or.inr h
  have hS : va_S A s.heap s.heap [] := va_S.rf
  have hl := lv_entry ([.ref h0, .ref h_a1, .int v2]) (n := 8) (Nat.le_of_ble_eq_true rfl)
  rw [lg_entry_eq]
  generalize (lg_sl ([.ref h0, .ref h_a1, .int v2]) ++ List.replicate (8 - (lg_sl ([.ref h0, .ref h_a1, .int v2])).length) Slot.unset).toArray = ls at hl ⊢
  have hl : lv_has ls 8 [(0, .ref h0), (1, .ref h_a1), (2, .int v2)] := hl
  have hP : va_P D vwCl [(h0, .inr (4, [.ref h_tones, .ref h_lasts, .ref h_answers, .ref h_pip])), (h_answers, .inl (cI, 61, .inl f_answers)), (h_lasts, .inl (cI, 61, .inl f_lasts)), (h_pip, .inl (cZ, 61, .inl f_pip)), (h_tones, .inl (cI, 61, .inl f_tones)), (h_a1, .inr (8, [.int v_a1_tones, .int v_a1_a, .int v_a1_b, .int v_a1_c, .int v_a1_d, .int v_a1_odds, .int v_a1_lines, .ref h_a1_signs, .int v_a1_signCount, .ref h_a1_posts, .int v_a1_postCount, .ref h_a1_acts])), (h_a1_acts, .inr (0, [.ref h_a1_acts_over, .ref h_a1_acts_steps, .ref h_a1_acts_before, .int v_a1_acts_size])), (h_a1_signs, .inl (cI, 8, .inl f_a1_signs)), (h_a1_acts_over, .inl (cI, 61, .inl f_a1_acts_over))] s.heap := hP
  refine lv_iconst (v := 0) hx hb dX4_hear_0 (by decide) ?_
  refine lv_istore_n (lv' := [(3, .int 0), (0, .ref h0), (1, .ref h_a1), (2, .int v2)]) hx hb dX4_hear_1 rfl hl (by decide) rfl (fun ls hl => ?_)
  refine lv_iconst (v := 0) hx hb dX4_hear_2 (by decide) ?_
  refine lv_istore (lv' := [(4, .int 0), (3, .int 0), (0, .ref h0), (1, .ref h_a1), (2, .int v2)]) hx hb dX4_hear_3 hl (by decide) rfl (fun ls hl => ?_)
  refine lv_iconst (v := 0) hx hb dX4_hear_5 (by decide) ?_
  refine lv_istore (lv' := [(5, .int 0), (4, .int 0), (3, .int 0), (0, .ref h0), (1, .ref h_a1), (2, .int v2)]) hx hb dX4_hear_6 hl (by decide) rfl (fun ls hl => ?_)
  exact b_X4_hear_l8 h0 h_tones h_lasts h_answers h_pip h_a1 v_a1_tones v_a1_a v_a1_b v_a1_c v_a1_d v_a1_odds v_a1_lines h_a1_signs v_a1_signCount h_a1_posts v_a1_postCount h_a1_acts h_a1_acts_over h_a1_acts_steps h_a1_acts_before v_a1_acts_size f_a1_signs f_a1_acts_over v2 (by first | assumption | omega | decide) (by first | assumption | omega | decide) (by first | assumption | omega | decide) C hG hAB hA ret _ (f_answers) (f_lasts) (f_pip) (f_tones) (0) (0) (0) _ _ _ (by first | assumption | omega | decide) (Nat.lt_succ_self _) (hP.sub [0, 1, 2, 3, 4, 5, 6, 7, 8] rfl) (hD.sub [0, 1, 2, 3, 4, 5, 6, 7, 8] (by decide) rfl) hS (lv_sub hl [0, 1, 2, 3, 4, 5] rfl)
