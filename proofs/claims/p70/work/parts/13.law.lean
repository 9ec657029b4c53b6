/-! THE CLAIM OUT OF ONE WALK OF THE LAW'S BODY. Your part is whole_start (and what it stands on); all else here is the same for every law, but numbers. -/
abbrev R_law : String := RL
def lw_P (b : Addr) (xs : List Int32) (args : Array Value) (s : State) : Prop := args = #[.ref b] ∧ s.IntsAt b xs ∧ xs.length ≤ 3072 ∧ (Jvm.Cond.and given_1 narrow_1).before args s = true
def lw_Q (_ : Array Value) (s : State) (o : Outcome) (t : State) : Prop := o = .returned (some (.int 1)) ∧ Framed s o t [] 600000 7302249
def lw_Z (below : List Frame) (a : Array Value) (s : State) : State → Prop := fun t => ∃ o, t.status = .running ∧ Ended t below o ∧ lw_Q a s o t
/-- the law's own end, with 1 on the stack, nothing written that was there before, its room as the claim has it -/
theorem lw_ret {p : Program} {l : Launch} {e : Env} {s : State} {m : MethodId} {below : List Frame} {meth : Method} {c : Code} {b : Nat} (hx : p.tables.exec = Jvm.exec) (hb : c.code = code) (hr : meth.sig.returnType = ret) (hlocks : meth.locks = false) {pc : Nat} {H : Heap} {ls : Array Slot} (hdg : decode code pc = .ok (.ireturn, 1)) : W p l e room_1 s m #[Value.ref b] below meth c H [] 600000 7302249 (lw_Z below #[Value.ref b] s) (F0 m pc ls [.int 1]) := by
  intro T hT X
  obtain ⟨fs, hret, hrun, hended, hW, hframe⟩ := X.leave (v := some (.int 1)) (hlocks := hlocks) (fun h => by rw [hr] at h; cases h)
  have hmeth' : T.vm.method? m = some meth := X.method'
  refine ⟨T.setFrames fs, ?_, .returned (some (.int 1)), hrun, hended, rfl, ⟨_, rfl⟩, hW, hframe⟩
  jvm_step X.here [X.here.top, hx, hb, hdg, hmeth', hr, ret, narrow_b1]
  (try refine ⟨rfl, ?_⟩); (try refine ⟨rfl, ?_⟩)
  first | (intro acts; rw [hret _ acts rfl rfl rfl]) | rw [hret _ _ rfl rfl rfl]
  exact Steps.refl _
/-- what holds at the law's entry: the machine, the code, the tables' words (any of lw_tbl by 'hts w (by decide +kernel)'), the script of L ints xs at the cell b, what the Statement gives of the start (any of its parts by flat_of_before) -/
def lw_At (p : Program) (s : State) (m : MethodId) (meth : Method) (c : Code) (b L : Nat) (xs : Nat → Int32) : Prop :=
  p.tables.exec = Jvm.exec ∧ c.code = code ∧ meth.sig.returnType = ret ∧ c.maxLocals = 4 ∧ s.vm.findClass R_law = some m.cls ∧ (∀ w ∈ lw_tbl, w.before #[Value.ref b] s = true) ∧ va_X b L xs s s.heap ∧ b < s.heap.size ∧ meth.locks = false ∧ (Jvm.Cond.and given_1 narrow_1).before #[Value.ref b] s = true
theorem dL_law_0 : decode cL_law 0 = .ok (.new 7, 3) := by decide +kernel
theorem dL_law_1001 : decode cL_law 1001 = .ok (.pop, 1) := by decide +kernel
theorem dL_law_1002 : decode cL_law 1002 = .ok (.aload_n 2, 1) := by decide +kernel
theorem dL_law_1003 : decode cL_law 1003 = .ok (.aload_n 0, 1) := by decide +kernel
theorem dL_law_1004 : decode cL_law 1004 = .ok (.iload_n 3, 1) := by decide +kernel
theorem dL_law_1005 : decode cL_law 1005 = .ok (.iconst 1, 1) := by decide +kernel
theorem dL_law_1006 : decode cL_law 1006 = .ok (.iadd, 1) := by decide +kernel
theorem dL_law_1007 : decode cL_law 1007 = .ok (.iaload, 1) := by decide +kernel
theorem dL_law_1008 : decode cL_law 1008 = .ok (.invokevirtual 140, 3) := by decide +kernel
theorem dL_law_1011 : decode cL_law 1011 = .ok (.pop, 1) := by decide +kernel
theorem dL_law_1012 : decode cL_law 1012 = .ok (.goto 1103, 3) := by decide +kernel
theorem dL_law_1015 : decode cL_law 1015 = .ok (.aload_n 1, 1) := by decide +kernel
theorem dL_law_1016 : decode cL_law 1016 = .ok (.invokevirtual 141, 3) := by decide +kernel
theorem dL_law_1019 : decode cL_law 1019 = .ok (.pop, 1) := by decide +kernel
theorem dL_law_1020 : decode cL_law 1020 = .ok (.aload_n 2, 1) := by decide +kernel
theorem dL_law_1021 : decode cL_law 1021 = .ok (.invokevirtual 144, 3) := by decide +kernel
theorem dL_law_1024 : decode cL_law 1024 = .ok (.pop, 1) := by decide +kernel
theorem dL_law_1025 : decode cL_law 1025 = .ok (.goto 1090, 3) := by decide +kernel
theorem dL_law_1028 : decode cL_law 1028 = .ok (.aload_n 1, 1) := by decide +kernel
theorem dL_law_1029 : decode cL_law 1029 = .ok (.invokevirtual 145, 3) := by decide +kernel
theorem dL_law_1032 : decode cL_law 1032 = .ok (.pop, 1) := by decide +kernel
theorem dL_law_1033 : decode cL_law 1033 = .ok (.aload_n 2, 1) := by decide +kernel
theorem dL_law_1034 : decode cL_law 1034 = .ok (.invokevirtual 148, 3) := by decide +kernel
theorem dL_law_1037 : decode cL_law 1037 = .ok (.pop, 1) := by decide +kernel
theorem dL_law_1038 : decode cL_law 1038 = .ok (.goto 1077, 3) := by decide +kernel
theorem dL_law_1041 : decode cL_law 1041 = .ok (.aload_n 1, 1) := by decide +kernel
theorem dL_law_1042 : decode cL_law 1042 = .ok (.invokevirtual 149, 3) := by decide +kernel
theorem dL_law_1045 : decode cL_law 1045 = .ok (.pop, 1) := by decide +kernel
theorem dL_law_1046 : decode cL_law 1046 = .ok (.aload_n 2, 1) := by decide +kernel
theorem dL_law_1047 : decode cL_law 1047 = .ok (.invokevirtual 152, 3) := by decide +kernel
theorem dL_law_1050 : decode cL_law 1050 = .ok (.pop, 1) := by decide +kernel
theorem dL_law_1051 : decode cL_law 1051 = .ok (.goto 1064, 3) := by decide +kernel
theorem dL_law_1054 : decode cL_law 1054 = .ok (.aload_n 1, 1) := by decide +kernel
theorem dL_law_1055 : decode cL_law 1055 = .ok (.invokevirtual 153, 3) := by decide +kernel
theorem dL_law_1058 : decode cL_law 1058 = .ok (.pop, 1) := by decide +kernel
theorem dL_law_1059 : decode cL_law 1059 = .ok (.aload_n 2, 1) := by decide +kernel
theorem dL_law_1060 : decode cL_law 1060 = .ok (.invokevirtual 156, 3) := by decide +kernel
theorem dL_law_1063 : decode cL_law 1063 = .ok (.pop, 1) := by decide +kernel
theorem dL_law_1064 : decode cL_law 1064 = .ok (.goto 1051, 3) := by decide +kernel
theorem dL_law_1067 : decode cL_law 1067 = .ok (.aload_n 1, 1) := by decide +kernel
theorem dL_law_1068 : decode cL_law 1068 = .ok (.aload_n 0, 1) := by decide +kernel
theorem dL_law_1069 : decode cL_law 1069 = .ok (.iload_n 3, 1) := by decide +kernel
theorem dL_law_1070 : decode cL_law 1070 = .ok (.iconst 1, 1) := by decide +kernel
theorem dL_law_1071 : decode cL_law 1071 = .ok (.iadd, 1) := by decide +kernel
theorem dL_law_1072 : decode cL_law 1072 = .ok (.iaload, 1) := by decide +kernel
theorem dL_law_1073 : decode cL_law 1073 = .ok (.invokevirtual 157, 3) := by decide +kernel
theorem dL_law_1076 : decode cL_law 1076 = .ok (.pop, 1) := by decide +kernel
theorem dL_law_1077 : decode cL_law 1077 = .ok (.aload_n 2, 1) := by decide +kernel
theorem dL_law_1078 : decode cL_law 1078 = .ok (.aload_n 0, 1) := by decide +kernel
theorem dL_law_1079 : decode cL_law 1079 = .ok (.iload_n 3, 1) := by decide +kernel
theorem dL_law_1080 : decode cL_law 1080 = .ok (.iconst 1, 1) := by decide +kernel
theorem dL_law_1081 : decode cL_law 1081 = .ok (.iadd, 1) := by decide +kernel
theorem dL_law_1082 : decode cL_law 1082 = .ok (.iaload, 1) := by decide +kernel
theorem dL_law_1083 : decode cL_law 1083 = .ok (.invokevirtual 160, 3) := by decide +kernel
theorem dL_law_1086 : decode cL_law 1086 = .ok (.pop, 1) := by decide +kernel
theorem dL_law_1087 : decode cL_law 1087 = .ok (.goto 1028, 3) := by decide +kernel
theorem dL_law_1090 : decode cL_law 1090 = .ok (.aload_n 1, 1) := by decide +kernel
theorem dL_law_1091 : decode cL_law 1091 = .ok (.aload_n 0, 1) := by decide +kernel
theorem dL_law_1092 : decode cL_law 1092 = .ok (.iload_n 3, 1) := by decide +kernel
theorem dL_law_1093 : decode cL_law 1093 = .ok (.iconst 1, 1) := by decide +kernel
theorem dL_law_1094 : decode cL_law 1094 = .ok (.iadd, 1) := by decide +kernel
theorem dL_law_1095 : decode cL_law 1095 = .ok (.iaload, 1) := by decide +kernel
theorem dL_law_1096 : decode cL_law 1096 = .ok (.aload_n 0, 1) := by decide +kernel
theorem dL_law_1097 : decode cL_law 1097 = .ok (.iload_n 3, 1) := by decide +kernel
theorem dL_law_1098 : decode cL_law 1098 = .ok (.iconst 2, 1) := by decide +kernel
theorem dL_law_1099 : decode cL_law 1099 = .ok (.iadd, 1) := by decide +kernel
theorem dL_law_11 : decode cL_law 11 = .ok (.dup, 1) := by decide +kernel
theorem dL_law_1100 : decode cL_law 1100 = .ok (.iaload, 1) := by decide +kernel
theorem dL_law_1101 : decode cL_law 1101 = .ok (.invokevirtual 161, 3) := by decide +kernel
theorem dL_law_1104 : decode cL_law 1104 = .ok (.pop, 1) := by decide +kernel
theorem dL_law_1105 : decode cL_law 1105 = .ok (.aload_n 2, 1) := by decide +kernel
theorem dL_law_1106 : decode cL_law 1106 = .ok (.aload_n 0, 1) := by decide +kernel
theorem dL_law_1107 : decode cL_law 1107 = .ok (.iload_n 3, 1) := by decide +kernel
theorem dL_law_1108 : decode cL_law 1108 = .ok (.iconst 1, 1) := by decide +kernel
theorem dL_law_1109 : decode cL_law 1109 = .ok (.iadd, 1) := by decide +kernel
theorem dL_law_1110 : decode cL_law 1110 = .ok (.iaload, 1) := by decide +kernel
theorem dL_law_1111 : decode cL_law 1111 = .ok (.aload_n 0, 1) := by decide +kernel
theorem dL_law_1112 : decode cL_law 1112 = .ok (.iload_n 3, 1) := by decide +kernel
theorem dL_law_1113 : decode cL_law 1113 = .ok (.iconst 2, 1) := by decide +kernel
theorem dL_law_1114 : decode cL_law 1114 = .ok (.iadd, 1) := by decide +kernel
theorem dL_law_1115 : decode cL_law 1115 = .ok (.iaload, 1) := by decide +kernel
theorem dL_law_1116 : decode cL_law 1116 = .ok (.invokevirtual 164, 3) := by decide +kernel
theorem dL_law_1119 : decode cL_law 1119 = .ok (.pop, 1) := by decide +kernel
theorem dL_law_1120 : decode cL_law 1120 = .ok (.goto 995, 3) := by decide +kernel
theorem dL_law_1123 : decode cL_law 1123 = .ok (.aload_n 1, 1) := by decide +kernel
theorem dL_law_1124 : decode cL_law 1124 = .ok (.aload_n 0, 1) := by decide +kernel
theorem dL_law_1125 : decode cL_law 1125 = .ok (.iload_n 3, 1) := by decide +kernel
theorem dL_law_1126 : decode cL_law 1126 = .ok (.iconst 1, 1) := by decide +kernel
theorem dL_law_1127 : decode cL_law 1127 = .ok (.iadd, 1) := by decide +kernel
theorem dL_law_1128 : decode cL_law 1128 = .ok (.iaload, 1) := by decide +kernel
theorem dL_law_1129 : decode cL_law 1129 = .ok (.aload_n 0, 1) := by decide +kernel
theorem dL_law_1130 : decode cL_law 1130 = .ok (.iload_n 3, 1) := by decide +kernel
theorem dL_law_1131 : decode cL_law 1131 = .ok (.iconst 2, 1) := by decide +kernel
theorem dL_law_1132 : decode cL_law 1132 = .ok (.iadd, 1) := by decide +kernel
theorem dL_law_1133 : decode cL_law 1133 = .ok (.iaload, 1) := by decide +kernel
theorem dL_law_1134 : decode cL_law 1134 = .ok (.aload_n 0, 1) := by decide +kernel
theorem dL_law_1135 : decode cL_law 1135 = .ok (.iload_n 3, 1) := by decide +kernel
theorem dL_law_1136 : decode cL_law 1136 = .ok (.iconst 3, 1) := by decide +kernel
theorem dL_law_1137 : decode cL_law 1137 = .ok (.iadd, 1) := by decide +kernel
theorem dL_law_1138 : decode cL_law 1138 = .ok (.iaload, 1) := by decide +kernel
theorem dL_law_1139 : decode cL_law 1139 = .ok (.invokevirtual 165, 3) := by decide +kernel
theorem dL_law_1142 : decode cL_law 1142 = .ok (.pop, 1) := by decide +kernel
theorem dL_law_1143 : decode cL_law 1143 = .ok (.aload_n 2, 1) := by decide +kernel
theorem dL_law_1144 : decode cL_law 1144 = .ok (.aload_n 0, 1) := by decide +kernel
theorem dL_law_1145 : decode cL_law 1145 = .ok (.iload_n 3, 1) := by decide +kernel
theorem dL_law_1146 : decode cL_law 1146 = .ok (.iconst 1, 1) := by decide +kernel
theorem dL_law_1147 : decode cL_law 1147 = .ok (.iadd, 1) := by decide +kernel
theorem dL_law_1148 : decode cL_law 1148 = .ok (.iaload, 1) := by decide +kernel
theorem dL_law_1149 : decode cL_law 1149 = .ok (.aload_n 0, 1) := by decide +kernel
theorem dL_law_1150 : decode cL_law 1150 = .ok (.iload_n 3, 1) := by decide +kernel
theorem dL_law_1151 : decode cL_law 1151 = .ok (.iconst 2, 1) := by decide +kernel
theorem dL_law_1152 : decode cL_law 1152 = .ok (.iadd, 1) := by decide +kernel
theorem dL_law_1153 : decode cL_law 1153 = .ok (.iaload, 1) := by decide +kernel
theorem dL_law_1154 : decode cL_law 1154 = .ok (.aload_n 0, 1) := by decide +kernel
theorem dL_law_1155 : decode cL_law 1155 = .ok (.iload_n 3, 1) := by decide +kernel
theorem dL_law_1156 : decode cL_law 1156 = .ok (.iconst 3, 1) := by decide +kernel
theorem dL_law_1157 : decode cL_law 1157 = .ok (.iadd, 1) := by decide +kernel
theorem dL_law_1158 : decode cL_law 1158 = .ok (.iaload, 1) := by decide +kernel
theorem dL_law_1159 : decode cL_law 1159 = .ok (.invokevirtual 169, 3) := by decide +kernel
theorem dL_law_1162 : decode cL_law 1162 = .ok (.pop, 1) := by decide +kernel
theorem dL_law_1163 : decode cL_law 1163 = .ok (.goto 952, 3) := by decide +kernel
theorem dL_law_1166 : decode cL_law 1166 = .ok (.aload_n 1, 1) := by decide +kernel
theorem dL_law_1167 : decode cL_law 1167 = .ok (.aload_n 0, 1) := by decide +kernel
theorem dL_law_1168 : decode cL_law 1168 = .ok (.iload_n 3, 1) := by decide +kernel
theorem dL_law_1169 : decode cL_law 1169 = .ok (.iconst 1, 1) := by decide +kernel
theorem dL_law_1170 : decode cL_law 1170 = .ok (.iadd, 1) := by decide +kernel
theorem dL_law_1171 : decode cL_law 1171 = .ok (.iaload, 1) := by decide +kernel
theorem dL_law_1172 : decode cL_law 1172 = .ok (.aload_n 0, 1) := by decide +kernel
theorem dL_law_1173 : decode cL_law 1173 = .ok (.iload_n 3, 1) := by decide +kernel
theorem dL_law_1174 : decode cL_law 1174 = .ok (.iconst 2, 1) := by decide +kernel
theorem dL_law_1175 : decode cL_law 1175 = .ok (.iadd, 1) := by decide +kernel
theorem dL_law_1176 : decode cL_law 1176 = .ok (.iaload, 1) := by decide +kernel
theorem dL_law_1177 : decode cL_law 1177 = .ok (.invokevirtual 170, 3) := by decide +kernel
theorem dL_law_1180 : decode cL_law 1180 = .ok (.pop, 1) := by decide +kernel
theorem dL_law_1181 : decode cL_law 1181 = .ok (.aload_n 2, 1) := by decide +kernel
theorem dL_law_1182 : decode cL_law 1182 = .ok (.aload_n 0, 1) := by decide +kernel
theorem dL_law_1183 : decode cL_law 1183 = .ok (.iload_n 3, 1) := by decide +kernel
theorem dL_law_1184 : decode cL_law 1184 = .ok (.iconst 1, 1) := by decide +kernel
theorem dL_law_1185 : decode cL_law 1185 = .ok (.iadd, 1) := by decide +kernel
theorem dL_law_1186 : decode cL_law 1186 = .ok (.iaload, 1) := by decide +kernel
theorem dL_law_1187 : decode cL_law 1187 = .ok (.aload_n 0, 1) := by decide +kernel
theorem dL_law_1188 : decode cL_law 1188 = .ok (.iload_n 3, 1) := by decide +kernel
theorem dL_law_1189 : decode cL_law 1189 = .ok (.iconst 2, 1) := by decide +kernel
theorem dL_law_1190 : decode cL_law 1190 = .ok (.iadd, 1) := by decide +kernel
theorem dL_law_1191 : decode cL_law 1191 = .ok (.iaload, 1) := by decide +kernel
theorem dL_law_1192 : decode cL_law 1192 = .ok (.invokevirtual 173, 3) := by decide +kernel
theorem dL_law_1195 : decode cL_law 1195 = .ok (.pop, 1) := by decide +kernel
theorem dL_law_1196 : decode cL_law 1196 = .ok (.goto 919, 3) := by decide +kernel
theorem dL_law_1199 : decode cL_law 1199 = .ok (.aload_n 1, 1) := by decide +kernel
theorem dL_law_12 : decode cL_law 12 = .ok (.invokespecial 12, 3) := by decide +kernel
theorem dL_law_1200 : decode cL_law 1200 = .ok (.aload_n 0, 1) := by decide +kernel
theorem dL_law_1201 : decode cL_law 1201 = .ok (.iload_n 3, 1) := by decide +kernel
theorem dL_law_1202 : decode cL_law 1202 = .ok (.iconst 1, 1) := by decide +kernel
theorem dL_law_1203 : decode cL_law 1203 = .ok (.iadd, 1) := by decide +kernel
theorem dL_law_1204 : decode cL_law 1204 = .ok (.iaload, 1) := by decide +kernel
theorem dL_law_1205 : decode cL_law 1205 = .ok (.aload_n 0, 1) := by decide +kernel
theorem dL_law_1206 : decode cL_law 1206 = .ok (.iload_n 3, 1) := by decide +kernel
theorem dL_law_1207 : decode cL_law 1207 = .ok (.iconst 2, 1) := by decide +kernel
theorem dL_law_1208 : decode cL_law 1208 = .ok (.iadd, 1) := by decide +kernel
theorem dL_law_1209 : decode cL_law 1209 = .ok (.iaload, 1) := by decide +kernel
theorem dL_law_1210 : decode cL_law 1210 = .ok (.invokevirtual 174, 3) := by decide +kernel
theorem dL_law_1213 : decode cL_law 1213 = .ok (.pop, 1) := by decide +kernel
theorem dL_law_1214 : decode cL_law 1214 = .ok (.aload_n 2, 1) := by decide +kernel
theorem dL_law_1215 : decode cL_law 1215 = .ok (.aload_n 0, 1) := by decide +kernel
theorem dL_law_1216 : decode cL_law 1216 = .ok (.iload_n 3, 1) := by decide +kernel
theorem dL_law_1217 : decode cL_law 1217 = .ok (.iconst 1, 1) := by decide +kernel
theorem dL_law_1218 : decode cL_law 1218 = .ok (.iadd, 1) := by decide +kernel
theorem dL_law_1219 : decode cL_law 1219 = .ok (.iaload, 1) := by decide +kernel
theorem dL_law_1220 : decode cL_law 1220 = .ok (.aload_n 0, 1) := by decide +kernel
theorem dL_law_1221 : decode cL_law 1221 = .ok (.iload_n 3, 1) := by decide +kernel
theorem dL_law_1222 : decode cL_law 1222 = .ok (.iconst 2, 1) := by decide +kernel
theorem dL_law_1223 : decode cL_law 1223 = .ok (.iadd, 1) := by decide +kernel
theorem dL_law_1224 : decode cL_law 1224 = .ok (.iaload, 1) := by decide +kernel
theorem dL_law_1225 : decode cL_law 1225 = .ok (.invokevirtual 177, 3) := by decide +kernel
theorem dL_law_1228 : decode cL_law 1228 = .ok (.pop, 1) := by decide +kernel
theorem dL_law_1229 : decode cL_law 1229 = .ok (.goto 886, 3) := by decide +kernel
theorem dL_law_1232 : decode cL_law 1232 = .ok (.aload_n 1, 1) := by decide +kernel
theorem dL_law_1233 : decode cL_law 1233 = .ok (.aload_n 0, 1) := by decide +kernel
theorem dL_law_1234 : decode cL_law 1234 = .ok (.iload_n 3, 1) := by decide +kernel
theorem dL_law_1235 : decode cL_law 1235 = .ok (.iconst 1, 1) := by decide +kernel
theorem dL_law_1236 : decode cL_law 1236 = .ok (.iadd, 1) := by decide +kernel
theorem dL_law_1237 : decode cL_law 1237 = .ok (.iaload, 1) := by decide +kernel
theorem dL_law_1238 : decode cL_law 1238 = .ok (.aload_n 0, 1) := by decide +kernel
theorem dL_law_1239 : decode cL_law 1239 = .ok (.iload_n 3, 1) := by decide +kernel
theorem dL_law_1240 : decode cL_law 1240 = .ok (.iconst 2, 1) := by decide +kernel
theorem dL_law_1241 : decode cL_law 1241 = .ok (.iadd, 1) := by decide +kernel
theorem dL_law_1242 : decode cL_law 1242 = .ok (.iaload, 1) := by decide +kernel
theorem dL_law_1243 : decode cL_law 1243 = .ok (.invokevirtual 178, 3) := by decide +kernel
theorem dL_law_1246 : decode cL_law 1246 = .ok (.pop, 1) := by decide +kernel
theorem dL_law_1247 : decode cL_law 1247 = .ok (.aload_n 2, 1) := by decide +kernel
theorem dL_law_1248 : decode cL_law 1248 = .ok (.aload_n 0, 1) := by decide +kernel
theorem dL_law_1249 : decode cL_law 1249 = .ok (.iload_n 3, 1) := by decide +kernel
theorem dL_law_1250 : decode cL_law 1250 = .ok (.iconst 1, 1) := by decide +kernel
theorem dL_law_1251 : decode cL_law 1251 = .ok (.iadd, 1) := by decide +kernel
theorem dL_law_1252 : decode cL_law 1252 = .ok (.iaload, 1) := by decide +kernel
theorem dL_law_1253 : decode cL_law 1253 = .ok (.aload_n 0, 1) := by decide +kernel
theorem dL_law_1254 : decode cL_law 1254 = .ok (.iload_n 3, 1) := by decide +kernel
theorem dL_law_1255 : decode cL_law 1255 = .ok (.iconst 2, 1) := by decide +kernel
theorem dL_law_1256 : decode cL_law 1256 = .ok (.iadd, 1) := by decide +kernel
theorem dL_law_1257 : decode cL_law 1257 = .ok (.iaload, 1) := by decide +kernel
theorem dL_law_1258 : decode cL_law 1258 = .ok (.invokevirtual 181, 3) := by decide +kernel
theorem dL_law_1261 : decode cL_law 1261 = .ok (.pop, 1) := by decide +kernel
theorem dL_law_1262 : decode cL_law 1262 = .ok (.goto 853, 3) := by decide +kernel
theorem dL_law_1265 : decode cL_law 1265 = .ok (.aload_n 1, 1) := by decide +kernel
theorem dL_law_1266 : decode cL_law 1266 = .ok (.aload_n 0, 1) := by decide +kernel
theorem dL_law_1267 : decode cL_law 1267 = .ok (.iload_n 3, 1) := by decide +kernel
theorem dL_law_1268 : decode cL_law 1268 = .ok (.iconst 1, 1) := by decide +kernel
theorem dL_law_1269 : decode cL_law 1269 = .ok (.iadd, 1) := by decide +kernel
theorem dL_law_1270 : decode cL_law 1270 = .ok (.iaload, 1) := by decide +kernel
theorem dL_law_1271 : decode cL_law 1271 = .ok (.invokevirtual 182, 3) := by decide +kernel
theorem dL_law_1274 : decode cL_law 1274 = .ok (.pop, 1) := by decide +kernel
theorem dL_law_1275 : decode cL_law 1275 = .ok (.aload_n 2, 1) := by decide +kernel
theorem dL_law_1276 : decode cL_law 1276 = .ok (.aload_n 0, 1) := by decide +kernel
theorem dL_law_1277 : decode cL_law 1277 = .ok (.iload_n 3, 1) := by decide +kernel
theorem dL_law_1278 : decode cL_law 1278 = .ok (.iconst 1, 1) := by decide +kernel
theorem dL_law_1279 : decode cL_law 1279 = .ok (.iadd, 1) := by decide +kernel
theorem dL_law_1280 : decode cL_law 1280 = .ok (.iaload, 1) := by decide +kernel
theorem dL_law_1281 : decode cL_law 1281 = .ok (.invokevirtual 185, 3) := by decide +kernel
theorem dL_law_1284 : decode cL_law 1284 = .ok (.pop, 1) := by decide +kernel
theorem dL_law_1285 : decode cL_law 1285 = .ok (.goto 830, 3) := by decide +kernel
theorem dL_law_1288 : decode cL_law 1288 = .ok (.aload_n 1, 1) := by decide +kernel
theorem dL_law_1289 : decode cL_law 1289 = .ok (.aload_n 0, 1) := by decide +kernel
theorem dL_law_1290 : decode cL_law 1290 = .ok (.iload_n 3, 1) := by decide +kernel
theorem dL_law_1291 : decode cL_law 1291 = .ok (.iconst 1, 1) := by decide +kernel
theorem dL_law_1292 : decode cL_law 1292 = .ok (.iadd, 1) := by decide +kernel
theorem dL_law_1293 : decode cL_law 1293 = .ok (.iaload, 1) := by decide +kernel
theorem dL_law_1294 : decode cL_law 1294 = .ok (.invokevirtual 186, 3) := by decide +kernel
theorem dL_law_1297 : decode cL_law 1297 = .ok (.pop, 1) := by decide +kernel
theorem dL_law_1298 : decode cL_law 1298 = .ok (.aload_n 2, 1) := by decide +kernel
theorem dL_law_1299 : decode cL_law 1299 = .ok (.aload_n 0, 1) := by decide +kernel
theorem dL_law_1300 : decode cL_law 1300 = .ok (.iload_n 3, 1) := by decide +kernel
theorem dL_law_1301 : decode cL_law 1301 = .ok (.iconst 1, 1) := by decide +kernel
theorem dL_law_1302 : decode cL_law 1302 = .ok (.iadd, 1) := by decide +kernel
theorem dL_law_1303 : decode cL_law 1303 = .ok (.iaload, 1) := by decide +kernel
theorem dL_law_1304 : decode cL_law 1304 = .ok (.invokevirtual 189, 3) := by decide +kernel
theorem dL_law_1307 : decode cL_law 1307 = .ok (.pop, 1) := by decide +kernel
theorem dL_law_1308 : decode cL_law 1308 = .ok (.goto 807, 3) := by decide +kernel
theorem dL_law_1311 : decode cL_law 1311 = .ok (.aload_n 1, 1) := by decide +kernel
theorem dL_law_1312 : decode cL_law 1312 = .ok (.aload_n 0, 1) := by decide +kernel
theorem dL_law_1313 : decode cL_law 1313 = .ok (.iload_n 3, 1) := by decide +kernel
theorem dL_law_1314 : decode cL_law 1314 = .ok (.iconst 1, 1) := by decide +kernel
theorem dL_law_1315 : decode cL_law 1315 = .ok (.iadd, 1) := by decide +kernel
theorem dL_law_1316 : decode cL_law 1316 = .ok (.iaload, 1) := by decide +kernel
theorem dL_law_1317 : decode cL_law 1317 = .ok (.invokevirtual 190, 3) := by decide +kernel
theorem dL_law_1320 : decode cL_law 1320 = .ok (.pop, 1) := by decide +kernel
theorem dL_law_1321 : decode cL_law 1321 = .ok (.aload_n 2, 1) := by decide +kernel
theorem dL_law_1322 : decode cL_law 1322 = .ok (.aload_n 0, 1) := by decide +kernel
theorem dL_law_1323 : decode cL_law 1323 = .ok (.iload_n 3, 1) := by decide +kernel
theorem dL_law_1324 : decode cL_law 1324 = .ok (.iconst 1, 1) := by decide +kernel
theorem dL_law_1325 : decode cL_law 1325 = .ok (.iadd, 1) := by decide +kernel
theorem dL_law_1326 : decode cL_law 1326 = .ok (.iaload, 1) := by decide +kernel
theorem dL_law_1327 : decode cL_law 1327 = .ok (.invokevirtual 193, 3) := by decide +kernel
theorem dL_law_1330 : decode cL_law 1330 = .ok (.pop, 1) := by decide +kernel
theorem dL_law_1331 : decode cL_law 1331 = .ok (.goto 784, 3) := by decide +kernel
theorem dL_law_1334 : decode cL_law 1334 = .ok (.aload_n 1, 1) := by decide +kernel
theorem dL_law_1335 : decode cL_law 1335 = .ok (.aload_n 0, 1) := by decide +kernel
theorem dL_law_1336 : decode cL_law 1336 = .ok (.iload_n 3, 1) := by decide +kernel
theorem dL_law_1337 : decode cL_law 1337 = .ok (.iconst 1, 1) := by decide +kernel
theorem dL_law_1338 : decode cL_law 1338 = .ok (.iadd, 1) := by decide +kernel
theorem dL_law_1339 : decode cL_law 1339 = .ok (.iaload, 1) := by decide +kernel
theorem dL_law_1340 : decode cL_law 1340 = .ok (.invokevirtual 194, 3) := by decide +kernel
theorem dL_law_1343 : decode cL_law 1343 = .ok (.pop, 1) := by decide +kernel
theorem dL_law_1344 : decode cL_law 1344 = .ok (.aload_n 2, 1) := by decide +kernel
theorem dL_law_1345 : decode cL_law 1345 = .ok (.aload_n 0, 1) := by decide +kernel
theorem dL_law_1346 : decode cL_law 1346 = .ok (.iload_n 3, 1) := by decide +kernel
theorem dL_law_1347 : decode cL_law 1347 = .ok (.iconst 1, 1) := by decide +kernel
theorem dL_law_1348 : decode cL_law 1348 = .ok (.iadd, 1) := by decide +kernel
theorem dL_law_1349 : decode cL_law 1349 = .ok (.iaload, 1) := by decide +kernel
theorem dL_law_1350 : decode cL_law 1350 = .ok (.invokevirtual 197, 3) := by decide +kernel
theorem dL_law_1353 : decode cL_law 1353 = .ok (.pop, 1) := by decide +kernel
theorem dL_law_1354 : decode cL_law 1354 = .ok (.goto 761, 3) := by decide +kernel
theorem dL_law_1357 : decode cL_law 1357 = .ok (.aload_n 1, 1) := by decide +kernel
theorem dL_law_1358 : decode cL_law 1358 = .ok (.aload_n 0, 1) := by decide +kernel
theorem dL_law_1359 : decode cL_law 1359 = .ok (.iload_n 3, 1) := by decide +kernel
theorem dL_law_1360 : decode cL_law 1360 = .ok (.iconst 1, 1) := by decide +kernel
theorem dL_law_1361 : decode cL_law 1361 = .ok (.iadd, 1) := by decide +kernel
theorem dL_law_1362 : decode cL_law 1362 = .ok (.iaload, 1) := by decide +kernel
theorem dL_law_1363 : decode cL_law 1363 = .ok (.invokevirtual 198, 3) := by decide +kernel
theorem dL_law_1366 : decode cL_law 1366 = .ok (.pop, 1) := by decide +kernel
theorem dL_law_1367 : decode cL_law 1367 = .ok (.aload_n 2, 1) := by decide +kernel
theorem dL_law_1368 : decode cL_law 1368 = .ok (.aload_n 0, 1) := by decide +kernel
theorem dL_law_1369 : decode cL_law 1369 = .ok (.iload_n 3, 1) := by decide +kernel
theorem dL_law_1370 : decode cL_law 1370 = .ok (.iconst 1, 1) := by decide +kernel
theorem dL_law_1371 : decode cL_law 1371 = .ok (.iadd, 1) := by decide +kernel
theorem dL_law_1372 : decode cL_law 1372 = .ok (.iaload, 1) := by decide +kernel
theorem dL_law_1373 : decode cL_law 1373 = .ok (.invokevirtual 201, 3) := by decide +kernel
theorem dL_law_1376 : decode cL_law 1376 = .ok (.pop, 1) := by decide +kernel
theorem dL_law_1377 : decode cL_law 1377 = .ok (.goto 738, 3) := by decide +kernel
theorem dL_law_1380 : decode cL_law 1380 = .ok (.aload_n 1, 1) := by decide +kernel
theorem dL_law_1381 : decode cL_law 1381 = .ok (.aload_n 0, 1) := by decide +kernel
theorem dL_law_1382 : decode cL_law 1382 = .ok (.iload_n 3, 1) := by decide +kernel
theorem dL_law_1383 : decode cL_law 1383 = .ok (.iconst 1, 1) := by decide +kernel
theorem dL_law_1384 : decode cL_law 1384 = .ok (.iadd, 1) := by decide +kernel
theorem dL_law_1385 : decode cL_law 1385 = .ok (.iaload, 1) := by decide +kernel
theorem dL_law_1386 : decode cL_law 1386 = .ok (.invokevirtual 202, 3) := by decide +kernel
theorem dL_law_1389 : decode cL_law 1389 = .ok (.pop, 1) := by decide +kernel
theorem dL_law_1390 : decode cL_law 1390 = .ok (.aload_n 2, 1) := by decide +kernel
theorem dL_law_1391 : decode cL_law 1391 = .ok (.aload_n 0, 1) := by decide +kernel
theorem dL_law_1392 : decode cL_law 1392 = .ok (.iload_n 3, 1) := by decide +kernel
theorem dL_law_1393 : decode cL_law 1393 = .ok (.iconst 1, 1) := by decide +kernel
theorem dL_law_1394 : decode cL_law 1394 = .ok (.iadd, 1) := by decide +kernel
theorem dL_law_1395 : decode cL_law 1395 = .ok (.iaload, 1) := by decide +kernel
theorem dL_law_1396 : decode cL_law 1396 = .ok (.invokevirtual 205, 3) := by decide +kernel
theorem dL_law_1399 : decode cL_law 1399 = .ok (.pop, 1) := by decide +kernel
theorem dL_law_1400 : decode cL_law 1400 = .ok (.goto 715, 3) := by decide +kernel
theorem dL_law_1403 : decode cL_law 1403 = .ok (.aload_n 1, 1) := by decide +kernel
theorem dL_law_1404 : decode cL_law 1404 = .ok (.aload_n 0, 1) := by decide +kernel
theorem dL_law_1405 : decode cL_law 1405 = .ok (.iload_n 3, 1) := by decide +kernel
theorem dL_law_1406 : decode cL_law 1406 = .ok (.iconst 1, 1) := by decide +kernel
theorem dL_law_1407 : decode cL_law 1407 = .ok (.iadd, 1) := by decide +kernel
theorem dL_law_1408 : decode cL_law 1408 = .ok (.iaload, 1) := by decide +kernel
theorem dL_law_1409 : decode cL_law 1409 = .ok (.invokevirtual 206, 3) := by decide +kernel
theorem dL_law_1412 : decode cL_law 1412 = .ok (.pop, 1) := by decide +kernel
theorem dL_law_1413 : decode cL_law 1413 = .ok (.aload_n 2, 1) := by decide +kernel
theorem dL_law_1414 : decode cL_law 1414 = .ok (.aload_n 0, 1) := by decide +kernel
theorem dL_law_1415 : decode cL_law 1415 = .ok (.iload_n 3, 1) := by decide +kernel
theorem dL_law_1416 : decode cL_law 1416 = .ok (.iconst 1, 1) := by decide +kernel
theorem dL_law_1417 : decode cL_law 1417 = .ok (.iadd, 1) := by decide +kernel
theorem dL_law_1418 : decode cL_law 1418 = .ok (.iaload, 1) := by decide +kernel
theorem dL_law_1419 : decode cL_law 1419 = .ok (.invokevirtual 209, 3) := by decide +kernel
theorem dL_law_1422 : decode cL_law 1422 = .ok (.pop, 1) := by decide +kernel
theorem dL_law_1423 : decode cL_law 1423 = .ok (.goto 692, 3) := by decide +kernel
theorem dL_law_1426 : decode cL_law 1426 = .ok (.aload_n 1, 1) := by decide +kernel
theorem dL_law_1427 : decode cL_law 1427 = .ok (.aload_n 0, 1) := by decide +kernel
theorem dL_law_1428 : decode cL_law 1428 = .ok (.iload_n 3, 1) := by decide +kernel
theorem dL_law_1429 : decode cL_law 1429 = .ok (.iconst 1, 1) := by decide +kernel
theorem dL_law_1430 : decode cL_law 1430 = .ok (.iadd, 1) := by decide +kernel
theorem dL_law_1431 : decode cL_law 1431 = .ok (.iaload, 1) := by decide +kernel
theorem dL_law_1432 : decode cL_law 1432 = .ok (.invokevirtual 210, 3) := by decide +kernel
theorem dL_law_1435 : decode cL_law 1435 = .ok (.pop, 1) := by decide +kernel
theorem dL_law_1436 : decode cL_law 1436 = .ok (.aload_n 2, 1) := by decide +kernel
theorem dL_law_1437 : decode cL_law 1437 = .ok (.aload_n 0, 1) := by decide +kernel
theorem dL_law_1438 : decode cL_law 1438 = .ok (.iload_n 3, 1) := by decide +kernel
theorem dL_law_1439 : decode cL_law 1439 = .ok (.iconst 1, 1) := by decide +kernel
theorem dL_law_1440 : decode cL_law 1440 = .ok (.iadd, 1) := by decide +kernel
theorem dL_law_1441 : decode cL_law 1441 = .ok (.iaload, 1) := by decide +kernel
theorem dL_law_1442 : decode cL_law 1442 = .ok (.invokevirtual 213, 3) := by decide +kernel
theorem dL_law_1445 : decode cL_law 1445 = .ok (.pop, 1) := by decide +kernel
theorem dL_law_1446 : decode cL_law 1446 = .ok (.goto 669, 3) := by decide +kernel
theorem dL_law_1449 : decode cL_law 1449 = .ok (.aload_n 1, 1) := by decide +kernel
theorem dL_law_1450 : decode cL_law 1450 = .ok (.aload_n 0, 1) := by decide +kernel
theorem dL_law_1451 : decode cL_law 1451 = .ok (.iload_n 3, 1) := by decide +kernel
theorem dL_law_1452 : decode cL_law 1452 = .ok (.iconst 1, 1) := by decide +kernel
theorem dL_law_1453 : decode cL_law 1453 = .ok (.iadd, 1) := by decide +kernel
theorem dL_law_1454 : decode cL_law 1454 = .ok (.iaload, 1) := by decide +kernel
theorem dL_law_1455 : decode cL_law 1455 = .ok (.invokevirtual 214, 3) := by decide +kernel
theorem dL_law_1458 : decode cL_law 1458 = .ok (.pop, 1) := by decide +kernel
theorem dL_law_1459 : decode cL_law 1459 = .ok (.aload_n 2, 1) := by decide +kernel
theorem dL_law_1460 : decode cL_law 1460 = .ok (.aload_n 0, 1) := by decide +kernel
theorem dL_law_1461 : decode cL_law 1461 = .ok (.iload_n 3, 1) := by decide +kernel
theorem dL_law_1462 : decode cL_law 1462 = .ok (.iconst 1, 1) := by decide +kernel
theorem dL_law_1463 : decode cL_law 1463 = .ok (.iadd, 1) := by decide +kernel
theorem dL_law_1464 : decode cL_law 1464 = .ok (.iaload, 1) := by decide +kernel
theorem dL_law_1465 : decode cL_law 1465 = .ok (.invokevirtual 217, 3) := by decide +kernel
theorem dL_law_1468 : decode cL_law 1468 = .ok (.pop, 1) := by decide +kernel
theorem dL_law_1469 : decode cL_law 1469 = .ok (.goto 646, 3) := by decide +kernel
theorem dL_law_1472 : decode cL_law 1472 = .ok (.aload_n 1, 1) := by decide +kernel
theorem dL_law_1473 : decode cL_law 1473 = .ok (.aload_n 0, 1) := by decide +kernel
theorem dL_law_1474 : decode cL_law 1474 = .ok (.iload_n 3, 1) := by decide +kernel
theorem dL_law_1475 : decode cL_law 1475 = .ok (.iconst 1, 1) := by decide +kernel
theorem dL_law_1476 : decode cL_law 1476 = .ok (.iadd, 1) := by decide +kernel
theorem dL_law_1477 : decode cL_law 1477 = .ok (.iaload, 1) := by decide +kernel
theorem dL_law_1478 : decode cL_law 1478 = .ok (.invokevirtual 218, 3) := by decide +kernel
theorem dL_law_1481 : decode cL_law 1481 = .ok (.pop, 1) := by decide +kernel
theorem dL_law_1482 : decode cL_law 1482 = .ok (.aload_n 2, 1) := by decide +kernel
theorem dL_law_1483 : decode cL_law 1483 = .ok (.aload_n 0, 1) := by decide +kernel
theorem dL_law_1484 : decode cL_law 1484 = .ok (.iload_n 3, 1) := by decide +kernel
theorem dL_law_1485 : decode cL_law 1485 = .ok (.iconst 1, 1) := by decide +kernel
theorem dL_law_1486 : decode cL_law 1486 = .ok (.iadd, 1) := by decide +kernel
theorem dL_law_1487 : decode cL_law 1487 = .ok (.iaload, 1) := by decide +kernel
theorem dL_law_1488 : decode cL_law 1488 = .ok (.invokevirtual 221, 3) := by decide +kernel
theorem dL_law_1491 : decode cL_law 1491 = .ok (.pop, 1) := by decide +kernel
theorem dL_law_1492 : decode cL_law 1492 = .ok (.goto 623, 3) := by decide +kernel
theorem dL_law_1495 : decode cL_law 1495 = .ok (.aload_n 1, 1) := by decide +kernel
theorem dL_law_1496 : decode cL_law 1496 = .ok (.aload_n 0, 1) := by decide +kernel
theorem dL_law_1497 : decode cL_law 1497 = .ok (.iload_n 3, 1) := by decide +kernel
theorem dL_law_1498 : decode cL_law 1498 = .ok (.iconst 1, 1) := by decide +kernel
theorem dL_law_1499 : decode cL_law 1499 = .ok (.iadd, 1) := by decide +kernel
theorem dL_law_15 : decode cL_law 15 = .ok (.astore_n 2, 1) := by decide +kernel
theorem dL_law_1500 : decode cL_law 1500 = .ok (.iaload, 1) := by decide +kernel
theorem dL_law_1501 : decode cL_law 1501 = .ok (.aload_n 0, 1) := by decide +kernel
theorem dL_law_1502 : decode cL_law 1502 = .ok (.iload_n 3, 1) := by decide +kernel
theorem dL_law_1503 : decode cL_law 1503 = .ok (.iconst 2, 1) := by decide +kernel
theorem dL_law_1504 : decode cL_law 1504 = .ok (.iadd, 1) := by decide +kernel
theorem dL_law_1505 : decode cL_law 1505 = .ok (.iaload, 1) := by decide +kernel
theorem dL_law_1506 : decode cL_law 1506 = .ok (.invokevirtual 222, 3) := by decide +kernel
theorem dL_law_1509 : decode cL_law 1509 = .ok (.pop, 1) := by decide +kernel
theorem dL_law_1510 : decode cL_law 1510 = .ok (.aload_n 2, 1) := by decide +kernel
theorem dL_law_1511 : decode cL_law 1511 = .ok (.aload_n 0, 1) := by decide +kernel
theorem dL_law_1512 : decode cL_law 1512 = .ok (.iload_n 3, 1) := by decide +kernel
theorem dL_law_1513 : decode cL_law 1513 = .ok (.iconst 1, 1) := by decide +kernel
theorem dL_law_1514 : decode cL_law 1514 = .ok (.iadd, 1) := by decide +kernel
theorem dL_law_1515 : decode cL_law 1515 = .ok (.iaload, 1) := by decide +kernel
theorem dL_law_1516 : decode cL_law 1516 = .ok (.aload_n 0, 1) := by decide +kernel
theorem dL_law_1517 : decode cL_law 1517 = .ok (.iload_n 3, 1) := by decide +kernel
theorem dL_law_1518 : decode cL_law 1518 = .ok (.iconst 2, 1) := by decide +kernel
theorem dL_law_1519 : decode cL_law 1519 = .ok (.iadd, 1) := by decide +kernel
theorem dL_law_1520 : decode cL_law 1520 = .ok (.iaload, 1) := by decide +kernel
theorem dL_law_1521 : decode cL_law 1521 = .ok (.invokevirtual 225, 3) := by decide +kernel
theorem dL_law_1524 : decode cL_law 1524 = .ok (.pop, 1) := by decide +kernel
theorem dL_law_1525 : decode cL_law 1525 = .ok (.goto 590, 3) := by decide +kernel
theorem dL_law_1528 : decode cL_law 1528 = .ok (.aload_n 1, 1) := by decide +kernel
theorem dL_law_1529 : decode cL_law 1529 = .ok (.invokevirtual 226, 3) := by decide +kernel
theorem dL_law_1532 : decode cL_law 1532 = .ok (.pop, 1) := by decide +kernel
theorem dL_law_1533 : decode cL_law 1533 = .ok (.aload_n 2, 1) := by decide +kernel
theorem dL_law_1534 : decode cL_law 1534 = .ok (.invokevirtual 229, 3) := by decide +kernel
theorem dL_law_1537 : decode cL_law 1537 = .ok (.pop, 1) := by decide +kernel
theorem dL_law_1538 : decode cL_law 1538 = .ok (.goto 577, 3) := by decide +kernel
theorem dL_law_1541 : decode cL_law 1541 = .ok (.aload_n 1, 1) := by decide +kernel
theorem dL_law_1542 : decode cL_law 1542 = .ok (.invokevirtual 230, 3) := by decide +kernel
theorem dL_law_1545 : decode cL_law 1545 = .ok (.pop, 1) := by decide +kernel
theorem dL_law_1546 : decode cL_law 1546 = .ok (.aload_n 2, 1) := by decide +kernel
theorem dL_law_1547 : decode cL_law 1547 = .ok (.invokevirtual 233, 3) := by decide +kernel
theorem dL_law_1550 : decode cL_law 1550 = .ok (.pop, 1) := by decide +kernel
theorem dL_law_1551 : decode cL_law 1551 = .ok (.goto 564, 3) := by decide +kernel
theorem dL_law_1554 : decode cL_law 1554 = .ok (.aload_n 1, 1) := by decide +kernel
theorem dL_law_1555 : decode cL_law 1555 = .ok (.aload_n 0, 1) := by decide +kernel
theorem dL_law_1556 : decode cL_law 1556 = .ok (.iload_n 3, 1) := by decide +kernel
theorem dL_law_1557 : decode cL_law 1557 = .ok (.iconst 1, 1) := by decide +kernel
theorem dL_law_1558 : decode cL_law 1558 = .ok (.iadd, 1) := by decide +kernel
theorem dL_law_1559 : decode cL_law 1559 = .ok (.iaload, 1) := by decide +kernel
theorem dL_law_1560 : decode cL_law 1560 = .ok (.aload_n 0, 1) := by decide +kernel
theorem dL_law_1561 : decode cL_law 1561 = .ok (.iload_n 3, 1) := by decide +kernel
theorem dL_law_1562 : decode cL_law 1562 = .ok (.iconst 2, 1) := by decide +kernel
theorem dL_law_1563 : decode cL_law 1563 = .ok (.iadd, 1) := by decide +kernel
theorem dL_law_1564 : decode cL_law 1564 = .ok (.iaload, 1) := by decide +kernel
theorem dL_law_1565 : decode cL_law 1565 = .ok (.invokevirtual 234, 3) := by decide +kernel
theorem dL_law_1568 : decode cL_law 1568 = .ok (.pop, 1) := by decide +kernel
theorem dL_law_1569 : decode cL_law 1569 = .ok (.aload_n 2, 1) := by decide +kernel
theorem dL_law_1570 : decode cL_law 1570 = .ok (.aload_n 0, 1) := by decide +kernel
theorem dL_law_1571 : decode cL_law 1571 = .ok (.iload_n 3, 1) := by decide +kernel
theorem dL_law_1572 : decode cL_law 1572 = .ok (.iconst 1, 1) := by decide +kernel
theorem dL_law_1573 : decode cL_law 1573 = .ok (.iadd, 1) := by decide +kernel
theorem dL_law_1574 : decode cL_law 1574 = .ok (.iaload, 1) := by decide +kernel
theorem dL_law_1575 : decode cL_law 1575 = .ok (.aload_n 0, 1) := by decide +kernel
theorem dL_law_1576 : decode cL_law 1576 = .ok (.iload_n 3, 1) := by decide +kernel
theorem dL_law_1577 : decode cL_law 1577 = .ok (.iconst 2, 1) := by decide +kernel
theorem dL_law_1578 : decode cL_law 1578 = .ok (.iadd, 1) := by decide +kernel
theorem dL_law_1579 : decode cL_law 1579 = .ok (.iaload, 1) := by decide +kernel
theorem dL_law_1580 : decode cL_law 1580 = .ok (.invokevirtual 237, 3) := by decide +kernel
theorem dL_law_1583 : decode cL_law 1583 = .ok (.pop, 1) := by decide +kernel
theorem dL_law_1584 : decode cL_law 1584 = .ok (.goto 531, 3) := by decide +kernel
theorem dL_law_1587 : decode cL_law 1587 = .ok (.aload_n 1, 1) := by decide +kernel
theorem dL_law_1588 : decode cL_law 1588 = .ok (.aload_n 0, 1) := by decide +kernel
theorem dL_law_1589 : decode cL_law 1589 = .ok (.iload_n 3, 1) := by decide +kernel
theorem dL_law_1590 : decode cL_law 1590 = .ok (.iconst 1, 1) := by decide +kernel
theorem dL_law_1591 : decode cL_law 1591 = .ok (.iadd, 1) := by decide +kernel
theorem dL_law_1592 : decode cL_law 1592 = .ok (.iaload, 1) := by decide +kernel
theorem dL_law_1593 : decode cL_law 1593 = .ok (.invokevirtual 238, 3) := by decide +kernel
theorem dL_law_1596 : decode cL_law 1596 = .ok (.pop, 1) := by decide +kernel
theorem dL_law_1597 : decode cL_law 1597 = .ok (.aload_n 2, 1) := by decide +kernel
theorem dL_law_1598 : decode cL_law 1598 = .ok (.aload_n 0, 1) := by decide +kernel
theorem dL_law_1599 : decode cL_law 1599 = .ok (.iload_n 3, 1) := by decide +kernel
theorem dL_law_16 : decode cL_law 16 = .ok (.iconst 0, 1) := by decide +kernel
theorem dL_law_1600 : decode cL_law 1600 = .ok (.iconst 1, 1) := by decide +kernel
theorem dL_law_1601 : decode cL_law 1601 = .ok (.iadd, 1) := by decide +kernel
theorem dL_law_1602 : decode cL_law 1602 = .ok (.iaload, 1) := by decide +kernel
theorem dL_law_1603 : decode cL_law 1603 = .ok (.invokevirtual 241, 3) := by decide +kernel
theorem dL_law_1606 : decode cL_law 1606 = .ok (.pop, 1) := by decide +kernel
theorem dL_law_1607 : decode cL_law 1607 = .ok (.goto 508, 3) := by decide +kernel
theorem dL_law_1610 : decode cL_law 1610 = .ok (.aload_n 1, 1) := by decide +kernel
theorem dL_law_1611 : decode cL_law 1611 = .ok (.aload_n 0, 1) := by decide +kernel
theorem dL_law_1612 : decode cL_law 1612 = .ok (.iload_n 3, 1) := by decide +kernel
theorem dL_law_1613 : decode cL_law 1613 = .ok (.iconst 1, 1) := by decide +kernel
theorem dL_law_1614 : decode cL_law 1614 = .ok (.iadd, 1) := by decide +kernel
theorem dL_law_1615 : decode cL_law 1615 = .ok (.iaload, 1) := by decide +kernel
theorem dL_law_1616 : decode cL_law 1616 = .ok (.aload_n 0, 1) := by decide +kernel
theorem dL_law_1617 : decode cL_law 1617 = .ok (.iload_n 3, 1) := by decide +kernel
theorem dL_law_1618 : decode cL_law 1618 = .ok (.iconst 2, 1) := by decide +kernel
theorem dL_law_1619 : decode cL_law 1619 = .ok (.iadd, 1) := by decide +kernel
theorem dL_law_1620 : decode cL_law 1620 = .ok (.iaload, 1) := by decide +kernel
theorem dL_law_1621 : decode cL_law 1621 = .ok (.invokevirtual 242, 3) := by decide +kernel
theorem dL_law_1624 : decode cL_law 1624 = .ok (.pop2, 1) := by decide +kernel
theorem dL_law_1625 : decode cL_law 1625 = .ok (.aload_n 2, 1) := by decide +kernel
theorem dL_law_1626 : decode cL_law 1626 = .ok (.aload_n 0, 1) := by decide +kernel
theorem dL_law_1627 : decode cL_law 1627 = .ok (.iload_n 3, 1) := by decide +kernel
theorem dL_law_1628 : decode cL_law 1628 = .ok (.iconst 1, 1) := by decide +kernel
theorem dL_law_1629 : decode cL_law 1629 = .ok (.iadd, 1) := by decide +kernel
theorem dL_law_1630 : decode cL_law 1630 = .ok (.iaload, 1) := by decide +kernel
theorem dL_law_1631 : decode cL_law 1631 = .ok (.aload_n 0, 1) := by decide +kernel
theorem dL_law_1632 : decode cL_law 1632 = .ok (.iload_n 3, 1) := by decide +kernel
theorem dL_law_1633 : decode cL_law 1633 = .ok (.iconst 2, 1) := by decide +kernel
theorem dL_law_1634 : decode cL_law 1634 = .ok (.iadd, 1) := by decide +kernel
theorem dL_law_1635 : decode cL_law 1635 = .ok (.iaload, 1) := by decide +kernel
theorem dL_law_1636 : decode cL_law 1636 = .ok (.invokevirtual 246, 3) := by decide +kernel
theorem dL_law_1639 : decode cL_law 1639 = .ok (.pop2, 1) := by decide +kernel
theorem dL_law_1640 : decode cL_law 1640 = .ok (.goto 475, 3) := by decide +kernel
theorem dL_law_1643 : decode cL_law 1643 = .ok (.aload_n 1, 1) := by decide +kernel
theorem dL_law_1644 : decode cL_law 1644 = .ok (.aload_n 0, 1) := by decide +kernel
theorem dL_law_1645 : decode cL_law 1645 = .ok (.iload_n 3, 1) := by decide +kernel
theorem dL_law_1646 : decode cL_law 1646 = .ok (.iconst 1, 1) := by decide +kernel
theorem dL_law_1647 : decode cL_law 1647 = .ok (.iadd, 1) := by decide +kernel
theorem dL_law_1648 : decode cL_law 1648 = .ok (.iaload, 1) := by decide +kernel
theorem dL_law_1649 : decode cL_law 1649 = .ok (.invokevirtual 247, 3) := by decide +kernel
theorem dL_law_1652 : decode cL_law 1652 = .ok (.pop, 1) := by decide +kernel
theorem dL_law_1653 : decode cL_law 1653 = .ok (.aload_n 2, 1) := by decide +kernel
theorem dL_law_1654 : decode cL_law 1654 = .ok (.aload_n 0, 1) := by decide +kernel
theorem dL_law_1655 : decode cL_law 1655 = .ok (.iload_n 3, 1) := by decide +kernel
theorem dL_law_1656 : decode cL_law 1656 = .ok (.iconst 1, 1) := by decide +kernel
theorem dL_law_1657 : decode cL_law 1657 = .ok (.iadd, 1) := by decide +kernel
theorem dL_law_1658 : decode cL_law 1658 = .ok (.iaload, 1) := by decide +kernel
theorem dL_law_1659 : decode cL_law 1659 = .ok (.invokevirtual 250, 3) := by decide +kernel
theorem dL_law_1662 : decode cL_law 1662 = .ok (.pop, 1) := by decide +kernel
theorem dL_law_1663 : decode cL_law 1663 = .ok (.goto 452, 3) := by decide +kernel
theorem dL_law_1666 : decode cL_law 1666 = .ok (.aload_n 1, 1) := by decide +kernel
theorem dL_law_1667 : decode cL_law 1667 = .ok (.aload_n 0, 1) := by decide +kernel
theorem dL_law_1668 : decode cL_law 1668 = .ok (.iload_n 3, 1) := by decide +kernel
theorem dL_law_1669 : decode cL_law 1669 = .ok (.iconst 1, 1) := by decide +kernel
theorem dL_law_1670 : decode cL_law 1670 = .ok (.iadd, 1) := by decide +kernel
theorem dL_law_1671 : decode cL_law 1671 = .ok (.iaload, 1) := by decide +kernel
theorem dL_law_1672 : decode cL_law 1672 = .ok (.aload_n 0, 1) := by decide +kernel
theorem dL_law_1673 : decode cL_law 1673 = .ok (.iload_n 3, 1) := by decide +kernel
theorem dL_law_1674 : decode cL_law 1674 = .ok (.iconst 2, 1) := by decide +kernel
theorem dL_law_1675 : decode cL_law 1675 = .ok (.iadd, 1) := by decide +kernel
theorem dL_law_1676 : decode cL_law 1676 = .ok (.iaload, 1) := by decide +kernel
theorem dL_law_1677 : decode cL_law 1677 = .ok (.invokevirtual 251, 3) := by decide +kernel
theorem dL_law_1680 : decode cL_law 1680 = .ok (.pop, 1) := by decide +kernel
theorem dL_law_1681 : decode cL_law 1681 = .ok (.aload_n 2, 1) := by decide +kernel
theorem dL_law_1682 : decode cL_law 1682 = .ok (.aload_n 0, 1) := by decide +kernel
theorem dL_law_1683 : decode cL_law 1683 = .ok (.iload_n 3, 1) := by decide +kernel
theorem dL_law_1684 : decode cL_law 1684 = .ok (.iconst 1, 1) := by decide +kernel
theorem dL_law_1685 : decode cL_law 1685 = .ok (.iadd, 1) := by decide +kernel
theorem dL_law_1686 : decode cL_law 1686 = .ok (.iaload, 1) := by decide +kernel
theorem dL_law_1687 : decode cL_law 1687 = .ok (.aload_n 0, 1) := by decide +kernel
theorem dL_law_1688 : decode cL_law 1688 = .ok (.iload_n 3, 1) := by decide +kernel
theorem dL_law_1689 : decode cL_law 1689 = .ok (.iconst 2, 1) := by decide +kernel
theorem dL_law_1690 : decode cL_law 1690 = .ok (.iadd, 1) := by decide +kernel
theorem dL_law_1691 : decode cL_law 1691 = .ok (.iaload, 1) := by decide +kernel
theorem dL_law_1692 : decode cL_law 1692 = .ok (.invokevirtual 254, 3) := by decide +kernel
theorem dL_law_1695 : decode cL_law 1695 = .ok (.pop, 1) := by decide +kernel
theorem dL_law_1696 : decode cL_law 1696 = .ok (.goto 419, 3) := by decide +kernel
theorem dL_law_1699 : decode cL_law 1699 = .ok (.aload_n 1, 1) := by decide +kernel
theorem dL_law_17 : decode cL_law 17 = .ok (.istore_n 3, 1) := by decide +kernel
theorem dL_law_1700 : decode cL_law 1700 = .ok (.aload_n 0, 1) := by decide +kernel
theorem dL_law_1701 : decode cL_law 1701 = .ok (.iload_n 3, 1) := by decide +kernel
theorem dL_law_1702 : decode cL_law 1702 = .ok (.iconst 1, 1) := by decide +kernel
theorem dL_law_1703 : decode cL_law 1703 = .ok (.iadd, 1) := by decide +kernel
theorem dL_law_1704 : decode cL_law 1704 = .ok (.iaload, 1) := by decide +kernel
theorem dL_law_1705 : decode cL_law 1705 = .ok (.invokevirtual 255, 3) := by decide +kernel
theorem dL_law_1708 : decode cL_law 1708 = .ok (.pop, 1) := by decide +kernel
theorem dL_law_1709 : decode cL_law 1709 = .ok (.aload_n 2, 1) := by decide +kernel
theorem dL_law_1710 : decode cL_law 1710 = .ok (.aload_n 0, 1) := by decide +kernel
theorem dL_law_1711 : decode cL_law 1711 = .ok (.iload_n 3, 1) := by decide +kernel
theorem dL_law_1712 : decode cL_law 1712 = .ok (.iconst 1, 1) := by decide +kernel
theorem dL_law_1713 : decode cL_law 1713 = .ok (.iadd, 1) := by decide +kernel
theorem dL_law_1714 : decode cL_law 1714 = .ok (.iaload, 1) := by decide +kernel
theorem dL_law_1715 : decode cL_law 1715 = .ok (.invokevirtual 258, 3) := by decide +kernel
theorem dL_law_1718 : decode cL_law 1718 = .ok (.pop, 1) := by decide +kernel
theorem dL_law_1719 : decode cL_law 1719 = .ok (.goto 396, 3) := by decide +kernel
theorem dL_law_1722 : decode cL_law 1722 = .ok (.aload_n 1, 1) := by decide +kernel
theorem dL_law_1723 : decode cL_law 1723 = .ok (.invokevirtual 259, 3) := by decide +kernel
theorem dL_law_1726 : decode cL_law 1726 = .ok (.pop, 1) := by decide +kernel
theorem dL_law_1727 : decode cL_law 1727 = .ok (.aload_n 2, 1) := by decide +kernel
theorem dL_law_1728 : decode cL_law 1728 = .ok (.invokevirtual 262, 3) := by decide +kernel
theorem dL_law_1731 : decode cL_law 1731 = .ok (.pop, 1) := by decide +kernel
theorem dL_law_1732 : decode cL_law 1732 = .ok (.goto 383, 3) := by decide +kernel
theorem dL_law_1735 : decode cL_law 1735 = .ok (.aload_n 1, 1) := by decide +kernel
theorem dL_law_1736 : decode cL_law 1736 = .ok (.invokevirtual 263, 3) := by decide +kernel
theorem dL_law_1739 : decode cL_law 1739 = .ok (.pop, 1) := by decide +kernel
theorem dL_law_1740 : decode cL_law 1740 = .ok (.aload_n 2, 1) := by decide +kernel
theorem dL_law_1741 : decode cL_law 1741 = .ok (.invokevirtual 266, 3) := by decide +kernel
theorem dL_law_1744 : decode cL_law 1744 = .ok (.pop, 1) := by decide +kernel
theorem dL_law_1745 : decode cL_law 1745 = .ok (.goto 370, 3) := by decide +kernel
theorem dL_law_1748 : decode cL_law 1748 = .ok (.aload_n 1, 1) := by decide +kernel
theorem dL_law_1749 : decode cL_law 1749 = .ok (.aload_n 0, 1) := by decide +kernel
theorem dL_law_1750 : decode cL_law 1750 = .ok (.iload_n 3, 1) := by decide +kernel
theorem dL_law_1751 : decode cL_law 1751 = .ok (.iconst 1, 1) := by decide +kernel
theorem dL_law_1752 : decode cL_law 1752 = .ok (.iadd, 1) := by decide +kernel
theorem dL_law_1753 : decode cL_law 1753 = .ok (.iaload, 1) := by decide +kernel
theorem dL_law_1754 : decode cL_law 1754 = .ok (.aload_n 0, 1) := by decide +kernel
theorem dL_law_1755 : decode cL_law 1755 = .ok (.iload_n 3, 1) := by decide +kernel
theorem dL_law_1756 : decode cL_law 1756 = .ok (.iconst 2, 1) := by decide +kernel
theorem dL_law_1757 : decode cL_law 1757 = .ok (.iadd, 1) := by decide +kernel
theorem dL_law_1758 : decode cL_law 1758 = .ok (.iaload, 1) := by decide +kernel
theorem dL_law_1759 : decode cL_law 1759 = .ok (.aload_n 0, 1) := by decide +kernel
theorem dL_law_1760 : decode cL_law 1760 = .ok (.iload_n 3, 1) := by decide +kernel
theorem dL_law_1761 : decode cL_law 1761 = .ok (.iconst 3, 1) := by decide +kernel
theorem dL_law_1762 : decode cL_law 1762 = .ok (.iadd, 1) := by decide +kernel
theorem dL_law_1763 : decode cL_law 1763 = .ok (.iaload, 1) := by decide +kernel
theorem dL_law_1764 : decode cL_law 1764 = .ok (.invokevirtual 267, 3) := by decide +kernel
theorem dL_law_1767 : decode cL_law 1767 = .ok (.pop, 1) := by decide +kernel
theorem dL_law_1768 : decode cL_law 1768 = .ok (.aload_n 2, 1) := by decide +kernel
theorem dL_law_1769 : decode cL_law 1769 = .ok (.aload_n 0, 1) := by decide +kernel
theorem dL_law_1770 : decode cL_law 1770 = .ok (.iload_n 3, 1) := by decide +kernel
theorem dL_law_1771 : decode cL_law 1771 = .ok (.iconst 1, 1) := by decide +kernel
theorem dL_law_1772 : decode cL_law 1772 = .ok (.iadd, 1) := by decide +kernel
theorem dL_law_1773 : decode cL_law 1773 = .ok (.iaload, 1) := by decide +kernel
theorem dL_law_1774 : decode cL_law 1774 = .ok (.aload_n 0, 1) := by decide +kernel
theorem dL_law_1775 : decode cL_law 1775 = .ok (.iload_n 3, 1) := by decide +kernel
theorem dL_law_1776 : decode cL_law 1776 = .ok (.iconst 2, 1) := by decide +kernel
theorem dL_law_1777 : decode cL_law 1777 = .ok (.iadd, 1) := by decide +kernel
theorem dL_law_1778 : decode cL_law 1778 = .ok (.iaload, 1) := by decide +kernel
theorem dL_law_1779 : decode cL_law 1779 = .ok (.aload_n 0, 1) := by decide +kernel
theorem dL_law_1780 : decode cL_law 1780 = .ok (.iload_n 3, 1) := by decide +kernel
theorem dL_law_1781 : decode cL_law 1781 = .ok (.iconst 3, 1) := by decide +kernel
theorem dL_law_1782 : decode cL_law 1782 = .ok (.iadd, 1) := by decide +kernel
theorem dL_law_1783 : decode cL_law 1783 = .ok (.iaload, 1) := by decide +kernel
theorem dL_law_1784 : decode cL_law 1784 = .ok (.invokevirtual 270, 3) := by decide +kernel
theorem dL_law_1787 : decode cL_law 1787 = .ok (.pop, 1) := by decide +kernel
theorem dL_law_1788 : decode cL_law 1788 = .ok (.goto 327, 3) := by decide +kernel
theorem dL_law_1791 : decode cL_law 1791 = .ok (.aload_n 1, 1) := by decide +kernel
theorem dL_law_1792 : decode cL_law 1792 = .ok (.aload_n 0, 1) := by decide +kernel
theorem dL_law_1793 : decode cL_law 1793 = .ok (.iload_n 3, 1) := by decide +kernel
theorem dL_law_1794 : decode cL_law 1794 = .ok (.iconst 1, 1) := by decide +kernel
theorem dL_law_1795 : decode cL_law 1795 = .ok (.iadd, 1) := by decide +kernel
theorem dL_law_1796 : decode cL_law 1796 = .ok (.iaload, 1) := by decide +kernel
theorem dL_law_1797 : decode cL_law 1797 = .ok (.aload_n 0, 1) := by decide +kernel
theorem dL_law_1798 : decode cL_law 1798 = .ok (.iload_n 3, 1) := by decide +kernel
theorem dL_law_1799 : decode cL_law 1799 = .ok (.iconst 2, 1) := by decide +kernel
theorem dL_law_18 : decode cL_law 18 = .ok (.iload_n 3, 1) := by decide +kernel
theorem dL_law_1800 : decode cL_law 1800 = .ok (.iadd, 1) := by decide +kernel
theorem dL_law_1801 : decode cL_law 1801 = .ok (.iaload, 1) := by decide +kernel
theorem dL_law_1802 : decode cL_law 1802 = .ok (.aload_n 0, 1) := by decide +kernel
theorem dL_law_1803 : decode cL_law 1803 = .ok (.iload_n 3, 1) := by decide +kernel
theorem dL_law_1804 : decode cL_law 1804 = .ok (.iconst 3, 1) := by decide +kernel
theorem dL_law_1805 : decode cL_law 1805 = .ok (.iadd, 1) := by decide +kernel
theorem dL_law_1806 : decode cL_law 1806 = .ok (.iaload, 1) := by decide +kernel
theorem dL_law_1807 : decode cL_law 1807 = .ok (.aload_n 0, 1) := by decide +kernel
theorem dL_law_1808 : decode cL_law 1808 = .ok (.iload_n 3, 1) := by decide +kernel
theorem dL_law_1809 : decode cL_law 1809 = .ok (.iconst 4, 1) := by decide +kernel
theorem dL_law_1810 : decode cL_law 1810 = .ok (.iadd, 1) := by decide +kernel
theorem dL_law_1811 : decode cL_law 1811 = .ok (.iaload, 1) := by decide +kernel
theorem dL_law_1812 : decode cL_law 1812 = .ok (.invokevirtual 271, 3) := by decide +kernel
theorem dL_law_1815 : decode cL_law 1815 = .ok (.pop, 1) := by decide +kernel
theorem dL_law_1816 : decode cL_law 1816 = .ok (.aload_n 2, 1) := by decide +kernel
theorem dL_law_1817 : decode cL_law 1817 = .ok (.aload_n 0, 1) := by decide +kernel
theorem dL_law_1818 : decode cL_law 1818 = .ok (.iload_n 3, 1) := by decide +kernel
theorem dL_law_1819 : decode cL_law 1819 = .ok (.iconst 1, 1) := by decide +kernel
theorem dL_law_1820 : decode cL_law 1820 = .ok (.iadd, 1) := by decide +kernel
theorem dL_law_1821 : decode cL_law 1821 = .ok (.iaload, 1) := by decide +kernel
theorem dL_law_1822 : decode cL_law 1822 = .ok (.aload_n 0, 1) := by decide +kernel
theorem dL_law_1823 : decode cL_law 1823 = .ok (.iload_n 3, 1) := by decide +kernel
theorem dL_law_1824 : decode cL_law 1824 = .ok (.iconst 2, 1) := by decide +kernel
theorem dL_law_1825 : decode cL_law 1825 = .ok (.iadd, 1) := by decide +kernel
theorem dL_law_1826 : decode cL_law 1826 = .ok (.iaload, 1) := by decide +kernel
theorem dL_law_1827 : decode cL_law 1827 = .ok (.aload_n 0, 1) := by decide +kernel
theorem dL_law_1828 : decode cL_law 1828 = .ok (.iload_n 3, 1) := by decide +kernel
theorem dL_law_1829 : decode cL_law 1829 = .ok (.iconst 3, 1) := by decide +kernel
theorem dL_law_1830 : decode cL_law 1830 = .ok (.iadd, 1) := by decide +kernel
theorem dL_law_1831 : decode cL_law 1831 = .ok (.iaload, 1) := by decide +kernel
theorem dL_law_1832 : decode cL_law 1832 = .ok (.aload_n 0, 1) := by decide +kernel
theorem dL_law_1833 : decode cL_law 1833 = .ok (.iload_n 3, 1) := by decide +kernel
theorem dL_law_1834 : decode cL_law 1834 = .ok (.iconst 4, 1) := by decide +kernel
theorem dL_law_1835 : decode cL_law 1835 = .ok (.iadd, 1) := by decide +kernel
theorem dL_law_1836 : decode cL_law 1836 = .ok (.iaload, 1) := by decide +kernel
theorem dL_law_1837 : decode cL_law 1837 = .ok (.invokevirtual 275, 3) := by decide +kernel
theorem dL_law_1840 : decode cL_law 1840 = .ok (.pop, 1) := by decide +kernel
theorem dL_law_1841 : decode cL_law 1841 = .ok (.goto 274, 3) := by decide +kernel
theorem dL_law_1844 : decode cL_law 1844 = .ok (.aload_n 1, 1) := by decide +kernel
theorem dL_law_1845 : decode cL_law 1845 = .ok (.aload_n 0, 1) := by decide +kernel
theorem dL_law_1846 : decode cL_law 1846 = .ok (.iload_n 3, 1) := by decide +kernel
theorem dL_law_1847 : decode cL_law 1847 = .ok (.iconst 1, 1) := by decide +kernel
theorem dL_law_1848 : decode cL_law 1848 = .ok (.iadd, 1) := by decide +kernel
theorem dL_law_1849 : decode cL_law 1849 = .ok (.iaload, 1) := by decide +kernel
theorem dL_law_1850 : decode cL_law 1850 = .ok (.invokevirtual 276, 3) := by decide +kernel
theorem dL_law_1853 : decode cL_law 1853 = .ok (.pop, 1) := by decide +kernel
theorem dL_law_1854 : decode cL_law 1854 = .ok (.aload_n 2, 1) := by decide +kernel
theorem dL_law_1855 : decode cL_law 1855 = .ok (.aload_n 0, 1) := by decide +kernel
theorem dL_law_1856 : decode cL_law 1856 = .ok (.iload_n 3, 1) := by decide +kernel
theorem dL_law_1857 : decode cL_law 1857 = .ok (.iconst 1, 1) := by decide +kernel
theorem dL_law_1858 : decode cL_law 1858 = .ok (.iadd, 1) := by decide +kernel
theorem dL_law_1859 : decode cL_law 1859 = .ok (.iaload, 1) := by decide +kernel
theorem dL_law_1860 : decode cL_law 1860 = .ok (.invokevirtual 279, 3) := by decide +kernel
theorem dL_law_1863 : decode cL_law 1863 = .ok (.pop, 1) := by decide +kernel
theorem dL_law_1864 : decode cL_law 1864 = .ok (.goto 251, 3) := by decide +kernel
theorem dL_law_1867 : decode cL_law 1867 = .ok (.aload_n 1, 1) := by decide +kernel
theorem dL_law_1868 : decode cL_law 1868 = .ok (.aload_n 0, 1) := by decide +kernel
theorem dL_law_1869 : decode cL_law 1869 = .ok (.iload_n 3, 1) := by decide +kernel
theorem dL_law_1870 : decode cL_law 1870 = .ok (.iconst 1, 1) := by decide +kernel
theorem dL_law_1871 : decode cL_law 1871 = .ok (.iadd, 1) := by decide +kernel
theorem dL_law_1872 : decode cL_law 1872 = .ok (.iaload, 1) := by decide +kernel
theorem dL_law_1873 : decode cL_law 1873 = .ok (.invokevirtual 280, 3) := by decide +kernel
theorem dL_law_1876 : decode cL_law 1876 = .ok (.pop, 1) := by decide +kernel
theorem dL_law_1877 : decode cL_law 1877 = .ok (.aload_n 2, 1) := by decide +kernel
theorem dL_law_1878 : decode cL_law 1878 = .ok (.aload_n 0, 1) := by decide +kernel
theorem dL_law_1879 : decode cL_law 1879 = .ok (.iload_n 3, 1) := by decide +kernel
theorem dL_law_1880 : decode cL_law 1880 = .ok (.iconst 1, 1) := by decide +kernel
theorem dL_law_1881 : decode cL_law 1881 = .ok (.iadd, 1) := by decide +kernel
theorem dL_law_1882 : decode cL_law 1882 = .ok (.iaload, 1) := by decide +kernel
theorem dL_law_1883 : decode cL_law 1883 = .ok (.invokevirtual 283, 3) := by decide +kernel
theorem dL_law_1886 : decode cL_law 1886 = .ok (.pop, 1) := by decide +kernel
theorem dL_law_1887 : decode cL_law 1887 = .ok (.goto 228, 3) := by decide +kernel
theorem dL_law_1890 : decode cL_law 1890 = .ok (.aload_n 1, 1) := by decide +kernel
theorem dL_law_1891 : decode cL_law 1891 = .ok (.aload_n 0, 1) := by decide +kernel
theorem dL_law_1892 : decode cL_law 1892 = .ok (.iload_n 3, 1) := by decide +kernel
theorem dL_law_1893 : decode cL_law 1893 = .ok (.iconst 1, 1) := by decide +kernel
theorem dL_law_1894 : decode cL_law 1894 = .ok (.iadd, 1) := by decide +kernel
theorem dL_law_1895 : decode cL_law 1895 = .ok (.iaload, 1) := by decide +kernel
theorem dL_law_1896 : decode cL_law 1896 = .ok (.invokevirtual 284, 3) := by decide +kernel
theorem dL_law_1899 : decode cL_law 1899 = .ok (.pop, 1) := by decide +kernel
theorem dL_law_19 : decode cL_law 19 = .ok (.aload_n 0, 1) := by decide +kernel
theorem dL_law_1900 : decode cL_law 1900 = .ok (.aload_n 2, 1) := by decide +kernel
theorem dL_law_1901 : decode cL_law 1901 = .ok (.aload_n 0, 1) := by decide +kernel
theorem dL_law_1902 : decode cL_law 1902 = .ok (.iload_n 3, 1) := by decide +kernel
theorem dL_law_1903 : decode cL_law 1903 = .ok (.iconst 1, 1) := by decide +kernel
theorem dL_law_1904 : decode cL_law 1904 = .ok (.iadd, 1) := by decide +kernel
theorem dL_law_1905 : decode cL_law 1905 = .ok (.iaload, 1) := by decide +kernel
theorem dL_law_1906 : decode cL_law 1906 = .ok (.invokevirtual 287, 3) := by decide +kernel
theorem dL_law_1909 : decode cL_law 1909 = .ok (.pop, 1) := by decide +kernel
theorem dL_law_1910 : decode cL_law 1910 = .ok (.goto 205, 3) := by decide +kernel
theorem dL_law_1913 : decode cL_law 1913 = .ok (.aload_n 1, 1) := by decide +kernel
theorem dL_law_1914 : decode cL_law 1914 = .ok (.aload_n 0, 1) := by decide +kernel
theorem dL_law_1915 : decode cL_law 1915 = .ok (.iload_n 3, 1) := by decide +kernel
theorem dL_law_1916 : decode cL_law 1916 = .ok (.iconst 1, 1) := by decide +kernel
theorem dL_law_1917 : decode cL_law 1917 = .ok (.iadd, 1) := by decide +kernel
theorem dL_law_1918 : decode cL_law 1918 = .ok (.iaload, 1) := by decide +kernel
theorem dL_law_1919 : decode cL_law 1919 = .ok (.invokevirtual 288, 3) := by decide +kernel
theorem dL_law_1922 : decode cL_law 1922 = .ok (.pop, 1) := by decide +kernel
theorem dL_law_1923 : decode cL_law 1923 = .ok (.aload_n 2, 1) := by decide +kernel
theorem dL_law_1924 : decode cL_law 1924 = .ok (.aload_n 0, 1) := by decide +kernel
theorem dL_law_1925 : decode cL_law 1925 = .ok (.iload_n 3, 1) := by decide +kernel
theorem dL_law_1926 : decode cL_law 1926 = .ok (.iconst 1, 1) := by decide +kernel
theorem dL_law_1927 : decode cL_law 1927 = .ok (.iadd, 1) := by decide +kernel
theorem dL_law_1928 : decode cL_law 1928 = .ok (.iaload, 1) := by decide +kernel
theorem dL_law_1929 : decode cL_law 1929 = .ok (.invokevirtual 291, 3) := by decide +kernel
theorem dL_law_1932 : decode cL_law 1932 = .ok (.pop, 1) := by decide +kernel
theorem dL_law_1933 : decode cL_law 1933 = .ok (.goto 182, 3) := by decide +kernel
theorem dL_law_1936 : decode cL_law 1936 = .ok (.aload_n 1, 1) := by decide +kernel
theorem dL_law_1937 : decode cL_law 1937 = .ok (.aload_n 0, 1) := by decide +kernel
theorem dL_law_1938 : decode cL_law 1938 = .ok (.iload_n 3, 1) := by decide +kernel
theorem dL_law_1939 : decode cL_law 1939 = .ok (.iconst 1, 1) := by decide +kernel
theorem dL_law_1940 : decode cL_law 1940 = .ok (.iadd, 1) := by decide +kernel
theorem dL_law_1941 : decode cL_law 1941 = .ok (.iaload, 1) := by decide +kernel
theorem dL_law_1942 : decode cL_law 1942 = .ok (.aload_n 0, 1) := by decide +kernel
theorem dL_law_1943 : decode cL_law 1943 = .ok (.iload_n 3, 1) := by decide +kernel
theorem dL_law_1944 : decode cL_law 1944 = .ok (.iconst 2, 1) := by decide +kernel
theorem dL_law_1945 : decode cL_law 1945 = .ok (.iadd, 1) := by decide +kernel
theorem dL_law_1946 : decode cL_law 1946 = .ok (.iaload, 1) := by decide +kernel
theorem dL_law_1947 : decode cL_law 1947 = .ok (.aload_n 0, 1) := by decide +kernel
theorem dL_law_1948 : decode cL_law 1948 = .ok (.iload_n 3, 1) := by decide +kernel
theorem dL_law_1949 : decode cL_law 1949 = .ok (.iconst 3, 1) := by decide +kernel
theorem dL_law_1950 : decode cL_law 1950 = .ok (.iadd, 1) := by decide +kernel
theorem dL_law_1951 : decode cL_law 1951 = .ok (.iaload, 1) := by decide +kernel
theorem dL_law_1952 : decode cL_law 1952 = .ok (.invokevirtual 292, 3) := by decide +kernel
theorem dL_law_1955 : decode cL_law 1955 = .ok (.aload_n 2, 1) := by decide +kernel
theorem dL_law_1956 : decode cL_law 1956 = .ok (.aload_n 0, 1) := by decide +kernel
theorem dL_law_1957 : decode cL_law 1957 = .ok (.iload_n 3, 1) := by decide +kernel
theorem dL_law_1958 : decode cL_law 1958 = .ok (.iconst 1, 1) := by decide +kernel
theorem dL_law_1959 : decode cL_law 1959 = .ok (.iadd, 1) := by decide +kernel
theorem dL_law_1960 : decode cL_law 1960 = .ok (.iaload, 1) := by decide +kernel
theorem dL_law_1961 : decode cL_law 1961 = .ok (.aload_n 0, 1) := by decide +kernel
theorem dL_law_1962 : decode cL_law 1962 = .ok (.iload_n 3, 1) := by decide +kernel
theorem dL_law_1963 : decode cL_law 1963 = .ok (.iconst 2, 1) := by decide +kernel
theorem dL_law_1964 : decode cL_law 1964 = .ok (.iadd, 1) := by decide +kernel
theorem dL_law_1965 : decode cL_law 1965 = .ok (.iaload, 1) := by decide +kernel
theorem dL_law_1966 : decode cL_law 1966 = .ok (.aload_n 0, 1) := by decide +kernel
theorem dL_law_1967 : decode cL_law 1967 = .ok (.iload_n 3, 1) := by decide +kernel
theorem dL_law_1968 : decode cL_law 1968 = .ok (.iconst 3, 1) := by decide +kernel
theorem dL_law_1969 : decode cL_law 1969 = .ok (.iadd, 1) := by decide +kernel
theorem dL_law_1970 : decode cL_law 1970 = .ok (.iaload, 1) := by decide +kernel
theorem dL_law_1971 : decode cL_law 1971 = .ok (.invokevirtual 295, 3) := by decide +kernel
theorem dL_law_1974 : decode cL_law 1974 = .ok (.if_icmp .eq 141, 3) := by decide +kernel
theorem dL_law_1979 : decode cL_law 1979 = .ok (.aload_n 1, 1) := by decide +kernel
theorem dL_law_1980 : decode cL_law 1980 = .ok (.aload_n 0, 1) := by decide +kernel
theorem dL_law_1981 : decode cL_law 1981 = .ok (.iload_n 3, 1) := by decide +kernel
theorem dL_law_1982 : decode cL_law 1982 = .ok (.iconst 1, 1) := by decide +kernel
theorem dL_law_1983 : decode cL_law 1983 = .ok (.iadd, 1) := by decide +kernel
theorem dL_law_1984 : decode cL_law 1984 = .ok (.iaload, 1) := by decide +kernel
theorem dL_law_1985 : decode cL_law 1985 = .ok (.aload_n 0, 1) := by decide +kernel
theorem dL_law_1986 : decode cL_law 1986 = .ok (.iload_n 3, 1) := by decide +kernel
theorem dL_law_1987 : decode cL_law 1987 = .ok (.iconst 2, 1) := by decide +kernel
theorem dL_law_1988 : decode cL_law 1988 = .ok (.iadd, 1) := by decide +kernel
theorem dL_law_1989 : decode cL_law 1989 = .ok (.iaload, 1) := by decide +kernel
theorem dL_law_1990 : decode cL_law 1990 = .ok (.aload_n 0, 1) := by decide +kernel
theorem dL_law_1991 : decode cL_law 1991 = .ok (.iload_n 3, 1) := by decide +kernel
theorem dL_law_1992 : decode cL_law 1992 = .ok (.iconst 3, 1) := by decide +kernel
theorem dL_law_1993 : decode cL_law 1993 = .ok (.iadd, 1) := by decide +kernel
theorem dL_law_1994 : decode cL_law 1994 = .ok (.iaload, 1) := by decide +kernel
theorem dL_law_1995 : decode cL_law 1995 = .ok (.i2l, 1) := by decide +kernel
theorem dL_law_1996 : decode cL_law 1996 = .ok (.bipush 32, 2) := by decide +kernel
theorem dL_law_1998 : decode cL_law 1998 = .ok (.lshl, 1) := by decide +kernel
theorem dL_law_1999 : decode cL_law 1999 = .ok (.aload_n 0, 1) := by decide +kernel
theorem dL_law_20 : decode cL_law 20 = .ok (.arraylength, 1) := by decide +kernel
theorem dL_law_2000 : decode cL_law 2000 = .ok (.iload_n 3, 1) := by decide +kernel
theorem dL_law_2001 : decode cL_law 2001 = .ok (.iconst 4, 1) := by decide +kernel
theorem dL_law_2002 : decode cL_law 2002 = .ok (.iadd, 1) := by decide +kernel
theorem dL_law_2003 : decode cL_law 2003 = .ok (.iaload, 1) := by decide +kernel
theorem dL_law_2004 : decode cL_law 2004 = .ok (.i2l, 1) := by decide +kernel
theorem dL_law_2005 : decode cL_law 2005 = .ok (.ldc2_w 296, 3) := by decide +kernel
theorem dL_law_2008 : decode cL_law 2008 = .ok (.land, 1) := by decide +kernel
theorem dL_law_2009 : decode cL_law 2009 = .ok (.lor, 1) := by decide +kernel
theorem dL_law_2010 : decode cL_law 2010 = .ok (.invokevirtual 298, 3) := by decide +kernel
theorem dL_law_2013 : decode cL_law 2013 = .ok (.pop, 1) := by decide +kernel
theorem dL_law_2014 : decode cL_law 2014 = .ok (.aload_n 2, 1) := by decide +kernel
theorem dL_law_2015 : decode cL_law 2015 = .ok (.aload_n 0, 1) := by decide +kernel
theorem dL_law_2016 : decode cL_law 2016 = .ok (.iload_n 3, 1) := by decide +kernel
theorem dL_law_2017 : decode cL_law 2017 = .ok (.iconst 1, 1) := by decide +kernel
theorem dL_law_2018 : decode cL_law 2018 = .ok (.iadd, 1) := by decide +kernel
theorem dL_law_2019 : decode cL_law 2019 = .ok (.iaload, 1) := by decide +kernel
theorem dL_law_2020 : decode cL_law 2020 = .ok (.aload_n 0, 1) := by decide +kernel
theorem dL_law_2021 : decode cL_law 2021 = .ok (.iload_n 3, 1) := by decide +kernel
theorem dL_law_2022 : decode cL_law 2022 = .ok (.iconst 2, 1) := by decide +kernel
theorem dL_law_2023 : decode cL_law 2023 = .ok (.iadd, 1) := by decide +kernel
theorem dL_law_2024 : decode cL_law 2024 = .ok (.iaload, 1) := by decide +kernel
theorem dL_law_2025 : decode cL_law 2025 = .ok (.aload_n 0, 1) := by decide +kernel
theorem dL_law_2026 : decode cL_law 2026 = .ok (.iload_n 3, 1) := by decide +kernel
theorem dL_law_2027 : decode cL_law 2027 = .ok (.iconst 3, 1) := by decide +kernel
theorem dL_law_2028 : decode cL_law 2028 = .ok (.iadd, 1) := by decide +kernel
theorem dL_law_2029 : decode cL_law 2029 = .ok (.iaload, 1) := by decide +kernel
theorem dL_law_2030 : decode cL_law 2030 = .ok (.i2l, 1) := by decide +kernel
theorem dL_law_2031 : decode cL_law 2031 = .ok (.bipush 32, 2) := by decide +kernel
theorem dL_law_2033 : decode cL_law 2033 = .ok (.lshl, 1) := by decide +kernel
theorem dL_law_2034 : decode cL_law 2034 = .ok (.aload_n 0, 1) := by decide +kernel
theorem dL_law_2035 : decode cL_law 2035 = .ok (.iload_n 3, 1) := by decide +kernel
theorem dL_law_2036 : decode cL_law 2036 = .ok (.iconst 4, 1) := by decide +kernel
theorem dL_law_2037 : decode cL_law 2037 = .ok (.iadd, 1) := by decide +kernel
theorem dL_law_2038 : decode cL_law 2038 = .ok (.iaload, 1) := by decide +kernel
theorem dL_law_2039 : decode cL_law 2039 = .ok (.i2l, 1) := by decide +kernel
theorem dL_law_2040 : decode cL_law 2040 = .ok (.ldc2_w 296, 3) := by decide +kernel
theorem dL_law_2043 : decode cL_law 2043 = .ok (.land, 1) := by decide +kernel
theorem dL_law_2044 : decode cL_law 2044 = .ok (.lor, 1) := by decide +kernel
theorem dL_law_2045 : decode cL_law 2045 = .ok (.invokevirtual 302, 3) := by decide +kernel
theorem dL_law_2048 : decode cL_law 2048 = .ok (.pop, 1) := by decide +kernel
theorem dL_law_2049 : decode cL_law 2049 = .ok (.goto 66, 3) := by decide +kernel
theorem dL_law_2052 : decode cL_law 2052 = .ok (.aload_n 1, 1) := by decide +kernel
theorem dL_law_2053 : decode cL_law 2053 = .ok (.aload_n 0, 1) := by decide +kernel
theorem dL_law_2054 : decode cL_law 2054 = .ok (.iload_n 3, 1) := by decide +kernel
theorem dL_law_2055 : decode cL_law 2055 = .ok (.iconst 1, 1) := by decide +kernel
theorem dL_law_2056 : decode cL_law 2056 = .ok (.iadd, 1) := by decide +kernel
theorem dL_law_2057 : decode cL_law 2057 = .ok (.iaload, 1) := by decide +kernel
theorem dL_law_2058 : decode cL_law 2058 = .ok (.aload_n 0, 1) := by decide +kernel
theorem dL_law_2059 : decode cL_law 2059 = .ok (.iload_n 3, 1) := by decide +kernel
theorem dL_law_2060 : decode cL_law 2060 = .ok (.iconst 2, 1) := by decide +kernel
theorem dL_law_2061 : decode cL_law 2061 = .ok (.iadd, 1) := by decide +kernel
theorem dL_law_2062 : decode cL_law 2062 = .ok (.iaload, 1) := by decide +kernel
theorem dL_law_2063 : decode cL_law 2063 = .ok (.aload_n 0, 1) := by decide +kernel
theorem dL_law_2064 : decode cL_law 2064 = .ok (.iload_n 3, 1) := by decide +kernel
theorem dL_law_2065 : decode cL_law 2065 = .ok (.iconst 3, 1) := by decide +kernel
theorem dL_law_2066 : decode cL_law 2066 = .ok (.iadd, 1) := by decide +kernel
theorem dL_law_2067 : decode cL_law 2067 = .ok (.iaload, 1) := by decide +kernel
theorem dL_law_2068 : decode cL_law 2068 = .ok (.aload_n 0, 1) := by decide +kernel
theorem dL_law_2069 : decode cL_law 2069 = .ok (.iload_n 3, 1) := by decide +kernel
theorem dL_law_2070 : decode cL_law 2070 = .ok (.iconst 4, 1) := by decide +kernel
theorem dL_law_2071 : decode cL_law 2071 = .ok (.iadd, 1) := by decide +kernel
theorem dL_law_2072 : decode cL_law 2072 = .ok (.iaload, 1) := by decide +kernel
theorem dL_law_2073 : decode cL_law 2073 = .ok (.aload_n 0, 1) := by decide +kernel
theorem dL_law_2074 : decode cL_law 2074 = .ok (.iload_n 3, 1) := by decide +kernel
theorem dL_law_2075 : decode cL_law 2075 = .ok (.iconst 5, 1) := by decide +kernel
theorem dL_law_2076 : decode cL_law 2076 = .ok (.iadd, 1) := by decide +kernel
theorem dL_law_2077 : decode cL_law 2077 = .ok (.iaload, 1) := by decide +kernel
theorem dL_law_2078 : decode cL_law 2078 = .ok (.invokevirtual 303, 3) := by decide +kernel
theorem dL_law_2081 : decode cL_law 2081 = .ok (.pop, 1) := by decide +kernel
theorem dL_law_2082 : decode cL_law 2082 = .ok (.aload_n 2, 1) := by decide +kernel
theorem dL_law_2083 : decode cL_law 2083 = .ok (.aload_n 0, 1) := by decide +kernel
theorem dL_law_2084 : decode cL_law 2084 = .ok (.iload_n 3, 1) := by decide +kernel
theorem dL_law_2085 : decode cL_law 2085 = .ok (.iconst 1, 1) := by decide +kernel
theorem dL_law_2086 : decode cL_law 2086 = .ok (.iadd, 1) := by decide +kernel
theorem dL_law_2087 : decode cL_law 2087 = .ok (.iaload, 1) := by decide +kernel
theorem dL_law_2088 : decode cL_law 2088 = .ok (.aload_n 0, 1) := by decide +kernel
theorem dL_law_2089 : decode cL_law 2089 = .ok (.iload_n 3, 1) := by decide +kernel
theorem dL_law_2090 : decode cL_law 2090 = .ok (.iconst 2, 1) := by decide +kernel
theorem dL_law_2091 : decode cL_law 2091 = .ok (.iadd, 1) := by decide +kernel
theorem dL_law_2092 : decode cL_law 2092 = .ok (.iaload, 1) := by decide +kernel
theorem dL_law_2093 : decode cL_law 2093 = .ok (.aload_n 0, 1) := by decide +kernel
theorem dL_law_2094 : decode cL_law 2094 = .ok (.iload_n 3, 1) := by decide +kernel
theorem dL_law_2095 : decode cL_law 2095 = .ok (.iconst 3, 1) := by decide +kernel
theorem dL_law_2096 : decode cL_law 2096 = .ok (.iadd, 1) := by decide +kernel
theorem dL_law_2097 : decode cL_law 2097 = .ok (.iaload, 1) := by decide +kernel
theorem dL_law_2098 : decode cL_law 2098 = .ok (.aload_n 0, 1) := by decide +kernel
theorem dL_law_2099 : decode cL_law 2099 = .ok (.iload_n 3, 1) := by decide +kernel
theorem dL_law_21 : decode cL_law 21 = .ok (.bipush 6, 2) := by decide +kernel
theorem dL_law_2100 : decode cL_law 2100 = .ok (.iconst 4, 1) := by decide +kernel
theorem dL_law_2101 : decode cL_law 2101 = .ok (.iadd, 1) := by decide +kernel
theorem dL_law_2102 : decode cL_law 2102 = .ok (.iaload, 1) := by decide +kernel
theorem dL_law_2103 : decode cL_law 2103 = .ok (.aload_n 0, 1) := by decide +kernel
theorem dL_law_2104 : decode cL_law 2104 = .ok (.iload_n 3, 1) := by decide +kernel
theorem dL_law_2105 : decode cL_law 2105 = .ok (.iconst 5, 1) := by decide +kernel
theorem dL_law_2106 : decode cL_law 2106 = .ok (.iadd, 1) := by decide +kernel
theorem dL_law_2107 : decode cL_law 2107 = .ok (.iaload, 1) := by decide +kernel
theorem dL_law_2108 : decode cL_law 2108 = .ok (.invokevirtual 306, 3) := by decide +kernel
theorem dL_law_2111 : decode cL_law 2111 = .ok (.pop, 1) := by decide +kernel
theorem dL_law_2112 : decode cL_law 2112 = .ok (.goto 3, 3) := by decide +kernel
theorem dL_law_2115 : decode cL_law 2115 = .ok (.iinc 3 6, 3) := by decide +kernel
theorem dL_law_2118 : decode cL_law 2118 = .ok (.goto (-2100), 3) := by decide +kernel
theorem dL_law_2121 : decode cL_law 2121 = .ok (.iconst 1, 1) := by decide +kernel
theorem dL_law_2122 : decode cL_law 2122 = .ok (.ireturn, 1) := by decide +kernel
theorem dL_law_23 : decode cL_law 23 = .ok (.isub, 1) := by decide +kernel
theorem dL_law_24 : decode cL_law 24 = .ok (.if_icmp .gt 2097, 3) := by decide +kernel
theorem dL_law_27 : decode cL_law 27 = .ok (.aload_n 0, 1) := by decide +kernel
theorem dL_law_28 : decode cL_law 28 = .ok (.iload_n 3, 1) := by decide +kernel
theorem dL_law_29 : decode cL_law 29 = .ok (.iaload, 1) := by decide +kernel
theorem dL_law_3 : decode cL_law 3 = .ok (.dup, 1) := by decide +kernel
theorem dL_law_30 : decode cL_law 30 = .ok (.bipush 127, 2) := by decide +kernel
theorem dL_law_32 : decode cL_law 32 = .ok (.iand, 1) := by decide +kernel
theorem dL_law_33 : decode cL_law 33 = .ok (.tableswitch 2082 0 70 #[299, 362, 385, 398, 421, 444, 467, 490, 513, 536, 559, 582, 595, 618, 651, 674, 687, 700, 713, 736, 749, 762, 785, 808, 841, 874, 897, 910, 923, 936, 959, 982, 995, 1008, 1021, 1034, 1057, 1090, 1133, 1166, 1199, 1232, 1255, 1278, 1301, 1324, 1347, 1370, 1393, 1416, 1439, 1462, 1495, 1508, 1521, 1554, 1577, 1610, 1633, 1666, 1689, 1702, 1715, 1758, 1811, 1834, 1857, 1880, 1903, 1946, 2019], 299) := by decide +kernel
theorem dL_law_332 : decode cL_law 332 = .ok (.aload_n 1, 1) := by decide +kernel
theorem dL_law_333 : decode cL_law 333 = .ok (.aload_n 0, 1) := by decide +kernel
theorem dL_law_334 : decode cL_law 334 = .ok (.iload_n 3, 1) := by decide +kernel
theorem dL_law_335 : decode cL_law 335 = .ok (.iconst 1, 1) := by decide +kernel
theorem dL_law_336 : decode cL_law 336 = .ok (.iadd, 1) := by decide +kernel
theorem dL_law_337 : decode cL_law 337 = .ok (.iaload, 1) := by decide +kernel
theorem dL_law_338 : decode cL_law 338 = .ok (.aload_n 0, 1) := by decide +kernel
theorem dL_law_339 : decode cL_law 339 = .ok (.iload_n 3, 1) := by decide +kernel
theorem dL_law_340 : decode cL_law 340 = .ok (.iconst 2, 1) := by decide +kernel
theorem dL_law_341 : decode cL_law 341 = .ok (.iadd, 1) := by decide +kernel
theorem dL_law_342 : decode cL_law 342 = .ok (.iaload, 1) := by decide +kernel
theorem dL_law_343 : decode cL_law 343 = .ok (.aload_n 0, 1) := by decide +kernel
theorem dL_law_344 : decode cL_law 344 = .ok (.iload_n 3, 1) := by decide +kernel
theorem dL_law_345 : decode cL_law 345 = .ok (.iconst 3, 1) := by decide +kernel
theorem dL_law_346 : decode cL_law 346 = .ok (.iadd, 1) := by decide +kernel
theorem dL_law_347 : decode cL_law 347 = .ok (.iaload, 1) := by decide +kernel
theorem dL_law_348 : decode cL_law 348 = .ok (.aload_n 0, 1) := by decide +kernel
theorem dL_law_349 : decode cL_law 349 = .ok (.iload_n 3, 1) := by decide +kernel
theorem dL_law_350 : decode cL_law 350 = .ok (.iconst 4, 1) := by decide +kernel
theorem dL_law_351 : decode cL_law 351 = .ok (.iadd, 1) := by decide +kernel
theorem dL_law_352 : decode cL_law 352 = .ok (.iaload, 1) := by decide +kernel
theorem dL_law_353 : decode cL_law 353 = .ok (.aload_n 0, 1) := by decide +kernel
theorem dL_law_354 : decode cL_law 354 = .ok (.iload_n 3, 1) := by decide +kernel
theorem dL_law_355 : decode cL_law 355 = .ok (.iconst 5, 1) := by decide +kernel
theorem dL_law_356 : decode cL_law 356 = .ok (.iadd, 1) := by decide +kernel
theorem dL_law_357 : decode cL_law 357 = .ok (.iaload, 1) := by decide +kernel
theorem dL_law_358 : decode cL_law 358 = .ok (.invokevirtual 13, 3) := by decide +kernel
theorem dL_law_361 : decode cL_law 361 = .ok (.pop, 1) := by decide +kernel
theorem dL_law_362 : decode cL_law 362 = .ok (.aload_n 2, 1) := by decide +kernel
theorem dL_law_363 : decode cL_law 363 = .ok (.aload_n 0, 1) := by decide +kernel
theorem dL_law_364 : decode cL_law 364 = .ok (.iload_n 3, 1) := by decide +kernel
theorem dL_law_365 : decode cL_law 365 = .ok (.iconst 1, 1) := by decide +kernel
theorem dL_law_366 : decode cL_law 366 = .ok (.iadd, 1) := by decide +kernel
theorem dL_law_367 : decode cL_law 367 = .ok (.iaload, 1) := by decide +kernel
theorem dL_law_368 : decode cL_law 368 = .ok (.aload_n 0, 1) := by decide +kernel
theorem dL_law_369 : decode cL_law 369 = .ok (.iload_n 3, 1) := by decide +kernel
theorem dL_law_370 : decode cL_law 370 = .ok (.iconst 2, 1) := by decide +kernel
theorem dL_law_371 : decode cL_law 371 = .ok (.iadd, 1) := by decide +kernel
theorem dL_law_372 : decode cL_law 372 = .ok (.iaload, 1) := by decide +kernel
theorem dL_law_373 : decode cL_law 373 = .ok (.aload_n 0, 1) := by decide +kernel
theorem dL_law_374 : decode cL_law 374 = .ok (.iload_n 3, 1) := by decide +kernel
theorem dL_law_375 : decode cL_law 375 = .ok (.iconst 3, 1) := by decide +kernel
theorem dL_law_376 : decode cL_law 376 = .ok (.iadd, 1) := by decide +kernel
theorem dL_law_377 : decode cL_law 377 = .ok (.iaload, 1) := by decide +kernel
theorem dL_law_378 : decode cL_law 378 = .ok (.aload_n 0, 1) := by decide +kernel
theorem dL_law_379 : decode cL_law 379 = .ok (.iload_n 3, 1) := by decide +kernel
theorem dL_law_380 : decode cL_law 380 = .ok (.iconst 4, 1) := by decide +kernel
theorem dL_law_381 : decode cL_law 381 = .ok (.iadd, 1) := by decide +kernel
theorem dL_law_382 : decode cL_law 382 = .ok (.iaload, 1) := by decide +kernel
theorem dL_law_383 : decode cL_law 383 = .ok (.aload_n 0, 1) := by decide +kernel
theorem dL_law_384 : decode cL_law 384 = .ok (.iload_n 3, 1) := by decide +kernel
theorem dL_law_385 : decode cL_law 385 = .ok (.iconst 5, 1) := by decide +kernel
theorem dL_law_386 : decode cL_law 386 = .ok (.iadd, 1) := by decide +kernel
theorem dL_law_387 : decode cL_law 387 = .ok (.iaload, 1) := by decide +kernel
theorem dL_law_388 : decode cL_law 388 = .ok (.invokevirtual 17, 3) := by decide +kernel
theorem dL_law_391 : decode cL_law 391 = .ok (.pop, 1) := by decide +kernel
theorem dL_law_392 : decode cL_law 392 = .ok (.goto 1723, 3) := by decide +kernel
theorem dL_law_395 : decode cL_law 395 = .ok (.aload_n 1, 1) := by decide +kernel
theorem dL_law_396 : decode cL_law 396 = .ok (.aload_n 0, 1) := by decide +kernel
theorem dL_law_397 : decode cL_law 397 = .ok (.iload_n 3, 1) := by decide +kernel
theorem dL_law_398 : decode cL_law 398 = .ok (.iconst 1, 1) := by decide +kernel
theorem dL_law_399 : decode cL_law 399 = .ok (.iadd, 1) := by decide +kernel
theorem dL_law_4 : decode cL_law 4 = .ok (.invokespecial 9, 3) := by decide +kernel
theorem dL_law_400 : decode cL_law 400 = .ok (.iaload, 1) := by decide +kernel
theorem dL_law_401 : decode cL_law 401 = .ok (.invokevirtual 18, 3) := by decide +kernel
theorem dL_law_404 : decode cL_law 404 = .ok (.pop, 1) := by decide +kernel
theorem dL_law_405 : decode cL_law 405 = .ok (.aload_n 2, 1) := by decide +kernel
theorem dL_law_406 : decode cL_law 406 = .ok (.aload_n 0, 1) := by decide +kernel
theorem dL_law_407 : decode cL_law 407 = .ok (.iload_n 3, 1) := by decide +kernel
theorem dL_law_408 : decode cL_law 408 = .ok (.iconst 1, 1) := by decide +kernel
theorem dL_law_409 : decode cL_law 409 = .ok (.iadd, 1) := by decide +kernel
theorem dL_law_410 : decode cL_law 410 = .ok (.iaload, 1) := by decide +kernel
theorem dL_law_411 : decode cL_law 411 = .ok (.invokevirtual 22, 3) := by decide +kernel
theorem dL_law_414 : decode cL_law 414 = .ok (.pop, 1) := by decide +kernel
theorem dL_law_415 : decode cL_law 415 = .ok (.goto 1700, 3) := by decide +kernel
theorem dL_law_418 : decode cL_law 418 = .ok (.aload_n 1, 1) := by decide +kernel
theorem dL_law_419 : decode cL_law 419 = .ok (.invokevirtual 23, 3) := by decide +kernel
theorem dL_law_422 : decode cL_law 422 = .ok (.pop, 1) := by decide +kernel
theorem dL_law_423 : decode cL_law 423 = .ok (.aload_n 2, 1) := by decide +kernel
theorem dL_law_424 : decode cL_law 424 = .ok (.invokevirtual 27, 3) := by decide +kernel
theorem dL_law_427 : decode cL_law 427 = .ok (.pop, 1) := by decide +kernel
theorem dL_law_428 : decode cL_law 428 = .ok (.goto 1687, 3) := by decide +kernel
theorem dL_law_431 : decode cL_law 431 = .ok (.aload_n 1, 1) := by decide +kernel
theorem dL_law_432 : decode cL_law 432 = .ok (.aload_n 0, 1) := by decide +kernel
theorem dL_law_433 : decode cL_law 433 = .ok (.iload_n 3, 1) := by decide +kernel
theorem dL_law_434 : decode cL_law 434 = .ok (.iconst 1, 1) := by decide +kernel
theorem dL_law_435 : decode cL_law 435 = .ok (.iadd, 1) := by decide +kernel
theorem dL_law_436 : decode cL_law 436 = .ok (.iaload, 1) := by decide +kernel
theorem dL_law_437 : decode cL_law 437 = .ok (.invokevirtual 28, 3) := by decide +kernel
theorem dL_law_440 : decode cL_law 440 = .ok (.pop, 1) := by decide +kernel
theorem dL_law_441 : decode cL_law 441 = .ok (.aload_n 2, 1) := by decide +kernel
theorem dL_law_442 : decode cL_law 442 = .ok (.aload_n 0, 1) := by decide +kernel
theorem dL_law_443 : decode cL_law 443 = .ok (.iload_n 3, 1) := by decide +kernel
theorem dL_law_444 : decode cL_law 444 = .ok (.iconst 1, 1) := by decide +kernel
theorem dL_law_445 : decode cL_law 445 = .ok (.iadd, 1) := by decide +kernel
theorem dL_law_446 : decode cL_law 446 = .ok (.iaload, 1) := by decide +kernel
theorem dL_law_447 : decode cL_law 447 = .ok (.invokevirtual 31, 3) := by decide +kernel
theorem dL_law_450 : decode cL_law 450 = .ok (.pop, 1) := by decide +kernel
theorem dL_law_451 : decode cL_law 451 = .ok (.goto 1664, 3) := by decide +kernel
theorem dL_law_454 : decode cL_law 454 = .ok (.aload_n 1, 1) := by decide +kernel
theorem dL_law_455 : decode cL_law 455 = .ok (.aload_n 0, 1) := by decide +kernel
theorem dL_law_456 : decode cL_law 456 = .ok (.iload_n 3, 1) := by decide +kernel
theorem dL_law_457 : decode cL_law 457 = .ok (.iconst 1, 1) := by decide +kernel
theorem dL_law_458 : decode cL_law 458 = .ok (.iadd, 1) := by decide +kernel
theorem dL_law_459 : decode cL_law 459 = .ok (.iaload, 1) := by decide +kernel
theorem dL_law_460 : decode cL_law 460 = .ok (.invokevirtual 32, 3) := by decide +kernel
theorem dL_law_463 : decode cL_law 463 = .ok (.pop, 1) := by decide +kernel
theorem dL_law_464 : decode cL_law 464 = .ok (.aload_n 2, 1) := by decide +kernel
theorem dL_law_465 : decode cL_law 465 = .ok (.aload_n 0, 1) := by decide +kernel
theorem dL_law_466 : decode cL_law 466 = .ok (.iload_n 3, 1) := by decide +kernel
theorem dL_law_467 : decode cL_law 467 = .ok (.iconst 1, 1) := by decide +kernel
theorem dL_law_468 : decode cL_law 468 = .ok (.iadd, 1) := by decide +kernel
theorem dL_law_469 : decode cL_law 469 = .ok (.iaload, 1) := by decide +kernel
theorem dL_law_470 : decode cL_law 470 = .ok (.invokevirtual 35, 3) := by decide +kernel
theorem dL_law_473 : decode cL_law 473 = .ok (.pop, 1) := by decide +kernel
theorem dL_law_474 : decode cL_law 474 = .ok (.goto 1641, 3) := by decide +kernel
theorem dL_law_477 : decode cL_law 477 = .ok (.aload_n 1, 1) := by decide +kernel
theorem dL_law_478 : decode cL_law 478 = .ok (.aload_n 0, 1) := by decide +kernel
theorem dL_law_479 : decode cL_law 479 = .ok (.iload_n 3, 1) := by decide +kernel
theorem dL_law_480 : decode cL_law 480 = .ok (.iconst 1, 1) := by decide +kernel
theorem dL_law_481 : decode cL_law 481 = .ok (.iadd, 1) := by decide +kernel
theorem dL_law_482 : decode cL_law 482 = .ok (.iaload, 1) := by decide +kernel
theorem dL_law_483 : decode cL_law 483 = .ok (.invokevirtual 36, 3) := by decide +kernel
theorem dL_law_486 : decode cL_law 486 = .ok (.pop, 1) := by decide +kernel
theorem dL_law_487 : decode cL_law 487 = .ok (.aload_n 2, 1) := by decide +kernel
theorem dL_law_488 : decode cL_law 488 = .ok (.aload_n 0, 1) := by decide +kernel
theorem dL_law_489 : decode cL_law 489 = .ok (.iload_n 3, 1) := by decide +kernel
theorem dL_law_490 : decode cL_law 490 = .ok (.iconst 1, 1) := by decide +kernel
theorem dL_law_491 : decode cL_law 491 = .ok (.iadd, 1) := by decide +kernel
theorem dL_law_492 : decode cL_law 492 = .ok (.iaload, 1) := by decide +kernel
theorem dL_law_493 : decode cL_law 493 = .ok (.invokevirtual 39, 3) := by decide +kernel
theorem dL_law_496 : decode cL_law 496 = .ok (.pop, 1) := by decide +kernel
theorem dL_law_497 : decode cL_law 497 = .ok (.goto 1618, 3) := by decide +kernel
theorem dL_law_500 : decode cL_law 500 = .ok (.aload_n 1, 1) := by decide +kernel
theorem dL_law_501 : decode cL_law 501 = .ok (.aload_n 0, 1) := by decide +kernel
theorem dL_law_502 : decode cL_law 502 = .ok (.iload_n 3, 1) := by decide +kernel
theorem dL_law_503 : decode cL_law 503 = .ok (.iconst 1, 1) := by decide +kernel
theorem dL_law_504 : decode cL_law 504 = .ok (.iadd, 1) := by decide +kernel
theorem dL_law_505 : decode cL_law 505 = .ok (.iaload, 1) := by decide +kernel
theorem dL_law_506 : decode cL_law 506 = .ok (.invokevirtual 40, 3) := by decide +kernel
theorem dL_law_509 : decode cL_law 509 = .ok (.pop, 1) := by decide +kernel
theorem dL_law_510 : decode cL_law 510 = .ok (.aload_n 2, 1) := by decide +kernel
theorem dL_law_511 : decode cL_law 511 = .ok (.aload_n 0, 1) := by decide +kernel
theorem dL_law_512 : decode cL_law 512 = .ok (.iload_n 3, 1) := by decide +kernel
theorem dL_law_513 : decode cL_law 513 = .ok (.iconst 1, 1) := by decide +kernel
theorem dL_law_514 : decode cL_law 514 = .ok (.iadd, 1) := by decide +kernel
theorem dL_law_515 : decode cL_law 515 = .ok (.iaload, 1) := by decide +kernel
theorem dL_law_516 : decode cL_law 516 = .ok (.invokevirtual 43, 3) := by decide +kernel
theorem dL_law_519 : decode cL_law 519 = .ok (.pop, 1) := by decide +kernel
theorem dL_law_520 : decode cL_law 520 = .ok (.goto 1595, 3) := by decide +kernel
theorem dL_law_523 : decode cL_law 523 = .ok (.aload_n 1, 1) := by decide +kernel
theorem dL_law_524 : decode cL_law 524 = .ok (.aload_n 0, 1) := by decide +kernel
theorem dL_law_525 : decode cL_law 525 = .ok (.iload_n 3, 1) := by decide +kernel
theorem dL_law_526 : decode cL_law 526 = .ok (.iconst 1, 1) := by decide +kernel
theorem dL_law_527 : decode cL_law 527 = .ok (.iadd, 1) := by decide +kernel
theorem dL_law_528 : decode cL_law 528 = .ok (.iaload, 1) := by decide +kernel
theorem dL_law_529 : decode cL_law 529 = .ok (.invokevirtual 44, 3) := by decide +kernel
theorem dL_law_532 : decode cL_law 532 = .ok (.pop, 1) := by decide +kernel
theorem dL_law_533 : decode cL_law 533 = .ok (.aload_n 2, 1) := by decide +kernel
theorem dL_law_534 : decode cL_law 534 = .ok (.aload_n 0, 1) := by decide +kernel
theorem dL_law_535 : decode cL_law 535 = .ok (.iload_n 3, 1) := by decide +kernel
theorem dL_law_536 : decode cL_law 536 = .ok (.iconst 1, 1) := by decide +kernel
theorem dL_law_537 : decode cL_law 537 = .ok (.iadd, 1) := by decide +kernel
theorem dL_law_538 : decode cL_law 538 = .ok (.iaload, 1) := by decide +kernel
theorem dL_law_539 : decode cL_law 539 = .ok (.invokevirtual 47, 3) := by decide +kernel
theorem dL_law_542 : decode cL_law 542 = .ok (.pop, 1) := by decide +kernel
theorem dL_law_543 : decode cL_law 543 = .ok (.goto 1572, 3) := by decide +kernel
theorem dL_law_546 : decode cL_law 546 = .ok (.aload_n 1, 1) := by decide +kernel
theorem dL_law_547 : decode cL_law 547 = .ok (.aload_n 0, 1) := by decide +kernel
theorem dL_law_548 : decode cL_law 548 = .ok (.iload_n 3, 1) := by decide +kernel
theorem dL_law_549 : decode cL_law 549 = .ok (.iconst 1, 1) := by decide +kernel
theorem dL_law_550 : decode cL_law 550 = .ok (.iadd, 1) := by decide +kernel
theorem dL_law_551 : decode cL_law 551 = .ok (.iaload, 1) := by decide +kernel
theorem dL_law_552 : decode cL_law 552 = .ok (.invokevirtual 48, 3) := by decide +kernel
theorem dL_law_555 : decode cL_law 555 = .ok (.pop, 1) := by decide +kernel
theorem dL_law_556 : decode cL_law 556 = .ok (.aload_n 2, 1) := by decide +kernel
theorem dL_law_557 : decode cL_law 557 = .ok (.aload_n 0, 1) := by decide +kernel
theorem dL_law_558 : decode cL_law 558 = .ok (.iload_n 3, 1) := by decide +kernel
theorem dL_law_559 : decode cL_law 559 = .ok (.iconst 1, 1) := by decide +kernel
theorem dL_law_560 : decode cL_law 560 = .ok (.iadd, 1) := by decide +kernel
theorem dL_law_561 : decode cL_law 561 = .ok (.iaload, 1) := by decide +kernel
theorem dL_law_562 : decode cL_law 562 = .ok (.invokevirtual 51, 3) := by decide +kernel
theorem dL_law_565 : decode cL_law 565 = .ok (.pop, 1) := by decide +kernel
theorem dL_law_566 : decode cL_law 566 = .ok (.goto 1549, 3) := by decide +kernel
theorem dL_law_569 : decode cL_law 569 = .ok (.aload_n 1, 1) := by decide +kernel
theorem dL_law_570 : decode cL_law 570 = .ok (.aload_n 0, 1) := by decide +kernel
theorem dL_law_571 : decode cL_law 571 = .ok (.iload_n 3, 1) := by decide +kernel
theorem dL_law_572 : decode cL_law 572 = .ok (.iconst 1, 1) := by decide +kernel
theorem dL_law_573 : decode cL_law 573 = .ok (.iadd, 1) := by decide +kernel
theorem dL_law_574 : decode cL_law 574 = .ok (.iaload, 1) := by decide +kernel
theorem dL_law_575 : decode cL_law 575 = .ok (.invokevirtual 52, 3) := by decide +kernel
theorem dL_law_578 : decode cL_law 578 = .ok (.pop, 1) := by decide +kernel
theorem dL_law_579 : decode cL_law 579 = .ok (.aload_n 2, 1) := by decide +kernel
theorem dL_law_580 : decode cL_law 580 = .ok (.aload_n 0, 1) := by decide +kernel
theorem dL_law_581 : decode cL_law 581 = .ok (.iload_n 3, 1) := by decide +kernel
theorem dL_law_582 : decode cL_law 582 = .ok (.iconst 1, 1) := by decide +kernel
theorem dL_law_583 : decode cL_law 583 = .ok (.iadd, 1) := by decide +kernel
theorem dL_law_584 : decode cL_law 584 = .ok (.iaload, 1) := by decide +kernel
theorem dL_law_585 : decode cL_law 585 = .ok (.invokevirtual 55, 3) := by decide +kernel
theorem dL_law_588 : decode cL_law 588 = .ok (.pop, 1) := by decide +kernel
theorem dL_law_589 : decode cL_law 589 = .ok (.goto 1526, 3) := by decide +kernel
theorem dL_law_592 : decode cL_law 592 = .ok (.aload_n 1, 1) := by decide +kernel
theorem dL_law_593 : decode cL_law 593 = .ok (.aload_n 0, 1) := by decide +kernel
theorem dL_law_594 : decode cL_law 594 = .ok (.iload_n 3, 1) := by decide +kernel
theorem dL_law_595 : decode cL_law 595 = .ok (.iconst 1, 1) := by decide +kernel
theorem dL_law_596 : decode cL_law 596 = .ok (.iadd, 1) := by decide +kernel
theorem dL_law_597 : decode cL_law 597 = .ok (.iaload, 1) := by decide +kernel
theorem dL_law_598 : decode cL_law 598 = .ok (.invokevirtual 56, 3) := by decide +kernel
theorem dL_law_601 : decode cL_law 601 = .ok (.pop, 1) := by decide +kernel
theorem dL_law_602 : decode cL_law 602 = .ok (.aload_n 2, 1) := by decide +kernel
theorem dL_law_603 : decode cL_law 603 = .ok (.aload_n 0, 1) := by decide +kernel
theorem dL_law_604 : decode cL_law 604 = .ok (.iload_n 3, 1) := by decide +kernel
theorem dL_law_605 : decode cL_law 605 = .ok (.iconst 1, 1) := by decide +kernel
theorem dL_law_606 : decode cL_law 606 = .ok (.iadd, 1) := by decide +kernel
theorem dL_law_607 : decode cL_law 607 = .ok (.iaload, 1) := by decide +kernel
theorem dL_law_608 : decode cL_law 608 = .ok (.invokevirtual 59, 3) := by decide +kernel
theorem dL_law_611 : decode cL_law 611 = .ok (.pop, 1) := by decide +kernel
theorem dL_law_612 : decode cL_law 612 = .ok (.goto 1503, 3) := by decide +kernel
theorem dL_law_615 : decode cL_law 615 = .ok (.aload_n 1, 1) := by decide +kernel
theorem dL_law_616 : decode cL_law 616 = .ok (.invokevirtual 60, 3) := by decide +kernel
theorem dL_law_619 : decode cL_law 619 = .ok (.pop, 1) := by decide +kernel
theorem dL_law_620 : decode cL_law 620 = .ok (.aload_n 2, 1) := by decide +kernel
theorem dL_law_621 : decode cL_law 621 = .ok (.invokevirtual 63, 3) := by decide +kernel
theorem dL_law_624 : decode cL_law 624 = .ok (.pop, 1) := by decide +kernel
theorem dL_law_625 : decode cL_law 625 = .ok (.goto 1490, 3) := by decide +kernel
theorem dL_law_628 : decode cL_law 628 = .ok (.aload_n 1, 1) := by decide +kernel
theorem dL_law_629 : decode cL_law 629 = .ok (.aload_n 0, 1) := by decide +kernel
theorem dL_law_630 : decode cL_law 630 = .ok (.iload_n 3, 1) := by decide +kernel
theorem dL_law_631 : decode cL_law 631 = .ok (.iconst 1, 1) := by decide +kernel
theorem dL_law_632 : decode cL_law 632 = .ok (.iadd, 1) := by decide +kernel
theorem dL_law_633 : decode cL_law 633 = .ok (.iaload, 1) := by decide +kernel
theorem dL_law_634 : decode cL_law 634 = .ok (.invokevirtual 64, 3) := by decide +kernel
theorem dL_law_637 : decode cL_law 637 = .ok (.pop, 1) := by decide +kernel
theorem dL_law_638 : decode cL_law 638 = .ok (.aload_n 2, 1) := by decide +kernel
theorem dL_law_639 : decode cL_law 639 = .ok (.aload_n 0, 1) := by decide +kernel
theorem dL_law_640 : decode cL_law 640 = .ok (.iload_n 3, 1) := by decide +kernel
theorem dL_law_641 : decode cL_law 641 = .ok (.iconst 1, 1) := by decide +kernel
theorem dL_law_642 : decode cL_law 642 = .ok (.iadd, 1) := by decide +kernel
theorem dL_law_643 : decode cL_law 643 = .ok (.iaload, 1) := by decide +kernel
theorem dL_law_644 : decode cL_law 644 = .ok (.invokevirtual 67, 3) := by decide +kernel
theorem dL_law_647 : decode cL_law 647 = .ok (.pop, 1) := by decide +kernel
theorem dL_law_648 : decode cL_law 648 = .ok (.goto 1467, 3) := by decide +kernel
theorem dL_law_651 : decode cL_law 651 = .ok (.aload_n 1, 1) := by decide +kernel
theorem dL_law_652 : decode cL_law 652 = .ok (.aload_n 0, 1) := by decide +kernel
theorem dL_law_653 : decode cL_law 653 = .ok (.iload_n 3, 1) := by decide +kernel
theorem dL_law_654 : decode cL_law 654 = .ok (.iconst 1, 1) := by decide +kernel
theorem dL_law_655 : decode cL_law 655 = .ok (.iadd, 1) := by decide +kernel
theorem dL_law_656 : decode cL_law 656 = .ok (.iaload, 1) := by decide +kernel
theorem dL_law_657 : decode cL_law 657 = .ok (.aload_n 0, 1) := by decide +kernel
theorem dL_law_658 : decode cL_law 658 = .ok (.iload_n 3, 1) := by decide +kernel
theorem dL_law_659 : decode cL_law 659 = .ok (.iconst 2, 1) := by decide +kernel
theorem dL_law_660 : decode cL_law 660 = .ok (.iadd, 1) := by decide +kernel
theorem dL_law_661 : decode cL_law 661 = .ok (.iaload, 1) := by decide +kernel
theorem dL_law_662 : decode cL_law 662 = .ok (.invokevirtual 68, 3) := by decide +kernel
theorem dL_law_665 : decode cL_law 665 = .ok (.pop, 1) := by decide +kernel
theorem dL_law_666 : decode cL_law 666 = .ok (.aload_n 2, 1) := by decide +kernel
theorem dL_law_667 : decode cL_law 667 = .ok (.aload_n 0, 1) := by decide +kernel
theorem dL_law_668 : decode cL_law 668 = .ok (.iload_n 3, 1) := by decide +kernel
theorem dL_law_669 : decode cL_law 669 = .ok (.iconst 1, 1) := by decide +kernel
theorem dL_law_670 : decode cL_law 670 = .ok (.iadd, 1) := by decide +kernel
theorem dL_law_671 : decode cL_law 671 = .ok (.iaload, 1) := by decide +kernel
theorem dL_law_672 : decode cL_law 672 = .ok (.aload_n 0, 1) := by decide +kernel
theorem dL_law_673 : decode cL_law 673 = .ok (.iload_n 3, 1) := by decide +kernel
theorem dL_law_674 : decode cL_law 674 = .ok (.iconst 2, 1) := by decide +kernel
theorem dL_law_675 : decode cL_law 675 = .ok (.iadd, 1) := by decide +kernel
theorem dL_law_676 : decode cL_law 676 = .ok (.iaload, 1) := by decide +kernel
theorem dL_law_677 : decode cL_law 677 = .ok (.invokevirtual 72, 3) := by decide +kernel
theorem dL_law_680 : decode cL_law 680 = .ok (.pop, 1) := by decide +kernel
theorem dL_law_681 : decode cL_law 681 = .ok (.goto 1434, 3) := by decide +kernel
theorem dL_law_684 : decode cL_law 684 = .ok (.aload_n 1, 1) := by decide +kernel
theorem dL_law_685 : decode cL_law 685 = .ok (.aload_n 0, 1) := by decide +kernel
theorem dL_law_686 : decode cL_law 686 = .ok (.iload_n 3, 1) := by decide +kernel
theorem dL_law_687 : decode cL_law 687 = .ok (.iconst 1, 1) := by decide +kernel
theorem dL_law_688 : decode cL_law 688 = .ok (.iadd, 1) := by decide +kernel
theorem dL_law_689 : decode cL_law 689 = .ok (.iaload, 1) := by decide +kernel
theorem dL_law_690 : decode cL_law 690 = .ok (.invokevirtual 73, 3) := by decide +kernel
theorem dL_law_693 : decode cL_law 693 = .ok (.pop, 1) := by decide +kernel
theorem dL_law_694 : decode cL_law 694 = .ok (.aload_n 2, 1) := by decide +kernel
theorem dL_law_695 : decode cL_law 695 = .ok (.aload_n 0, 1) := by decide +kernel
theorem dL_law_696 : decode cL_law 696 = .ok (.iload_n 3, 1) := by decide +kernel
theorem dL_law_697 : decode cL_law 697 = .ok (.iconst 1, 1) := by decide +kernel
theorem dL_law_698 : decode cL_law 698 = .ok (.iadd, 1) := by decide +kernel
theorem dL_law_699 : decode cL_law 699 = .ok (.iaload, 1) := by decide +kernel
theorem dL_law_7 : decode cL_law 7 = .ok (.astore_n 1, 1) := by decide +kernel
theorem dL_law_700 : decode cL_law 700 = .ok (.invokevirtual 76, 3) := by decide +kernel
theorem dL_law_703 : decode cL_law 703 = .ok (.pop, 1) := by decide +kernel
theorem dL_law_704 : decode cL_law 704 = .ok (.goto 1411, 3) := by decide +kernel
theorem dL_law_707 : decode cL_law 707 = .ok (.aload_n 1, 1) := by decide +kernel
theorem dL_law_708 : decode cL_law 708 = .ok (.invokevirtual 77, 3) := by decide +kernel
theorem dL_law_711 : decode cL_law 711 = .ok (.pop, 1) := by decide +kernel
theorem dL_law_712 : decode cL_law 712 = .ok (.aload_n 2, 1) := by decide +kernel
theorem dL_law_713 : decode cL_law 713 = .ok (.invokevirtual 80, 3) := by decide +kernel
theorem dL_law_716 : decode cL_law 716 = .ok (.pop, 1) := by decide +kernel
theorem dL_law_717 : decode cL_law 717 = .ok (.goto 1398, 3) := by decide +kernel
theorem dL_law_720 : decode cL_law 720 = .ok (.aload_n 1, 1) := by decide +kernel
theorem dL_law_721 : decode cL_law 721 = .ok (.invokevirtual 81, 3) := by decide +kernel
theorem dL_law_724 : decode cL_law 724 = .ok (.pop, 1) := by decide +kernel
theorem dL_law_725 : decode cL_law 725 = .ok (.aload_n 2, 1) := by decide +kernel
theorem dL_law_726 : decode cL_law 726 = .ok (.invokevirtual 84, 3) := by decide +kernel
theorem dL_law_729 : decode cL_law 729 = .ok (.pop, 1) := by decide +kernel
theorem dL_law_730 : decode cL_law 730 = .ok (.goto 1385, 3) := by decide +kernel
theorem dL_law_733 : decode cL_law 733 = .ok (.aload_n 1, 1) := by decide +kernel
theorem dL_law_734 : decode cL_law 734 = .ok (.invokevirtual 85, 3) := by decide +kernel
theorem dL_law_737 : decode cL_law 737 = .ok (.pop, 1) := by decide +kernel
theorem dL_law_738 : decode cL_law 738 = .ok (.aload_n 2, 1) := by decide +kernel
theorem dL_law_739 : decode cL_law 739 = .ok (.invokevirtual 88, 3) := by decide +kernel
theorem dL_law_742 : decode cL_law 742 = .ok (.pop, 1) := by decide +kernel
theorem dL_law_743 : decode cL_law 743 = .ok (.goto 1372, 3) := by decide +kernel
theorem dL_law_746 : decode cL_law 746 = .ok (.aload_n 1, 1) := by decide +kernel
theorem dL_law_747 : decode cL_law 747 = .ok (.aload_n 0, 1) := by decide +kernel
theorem dL_law_748 : decode cL_law 748 = .ok (.iload_n 3, 1) := by decide +kernel
theorem dL_law_749 : decode cL_law 749 = .ok (.iconst 1, 1) := by decide +kernel
theorem dL_law_750 : decode cL_law 750 = .ok (.iadd, 1) := by decide +kernel
theorem dL_law_751 : decode cL_law 751 = .ok (.iaload, 1) := by decide +kernel
theorem dL_law_752 : decode cL_law 752 = .ok (.invokevirtual 89, 3) := by decide +kernel
theorem dL_law_755 : decode cL_law 755 = .ok (.pop, 1) := by decide +kernel
theorem dL_law_756 : decode cL_law 756 = .ok (.aload_n 2, 1) := by decide +kernel
theorem dL_law_757 : decode cL_law 757 = .ok (.aload_n 0, 1) := by decide +kernel
theorem dL_law_758 : decode cL_law 758 = .ok (.iload_n 3, 1) := by decide +kernel
theorem dL_law_759 : decode cL_law 759 = .ok (.iconst 1, 1) := by decide +kernel
theorem dL_law_760 : decode cL_law 760 = .ok (.iadd, 1) := by decide +kernel
theorem dL_law_761 : decode cL_law 761 = .ok (.iaload, 1) := by decide +kernel
theorem dL_law_762 : decode cL_law 762 = .ok (.invokevirtual 92, 3) := by decide +kernel
theorem dL_law_765 : decode cL_law 765 = .ok (.pop, 1) := by decide +kernel
theorem dL_law_766 : decode cL_law 766 = .ok (.goto 1349, 3) := by decide +kernel
theorem dL_law_769 : decode cL_law 769 = .ok (.aload_n 1, 1) := by decide +kernel
theorem dL_law_770 : decode cL_law 770 = .ok (.invokevirtual 93, 3) := by decide +kernel
theorem dL_law_773 : decode cL_law 773 = .ok (.pop, 1) := by decide +kernel
theorem dL_law_774 : decode cL_law 774 = .ok (.aload_n 2, 1) := by decide +kernel
theorem dL_law_775 : decode cL_law 775 = .ok (.invokevirtual 96, 3) := by decide +kernel
theorem dL_law_778 : decode cL_law 778 = .ok (.pop, 1) := by decide +kernel
theorem dL_law_779 : decode cL_law 779 = .ok (.goto 1336, 3) := by decide +kernel
theorem dL_law_782 : decode cL_law 782 = .ok (.aload_n 1, 1) := by decide +kernel
theorem dL_law_783 : decode cL_law 783 = .ok (.invokevirtual 97, 3) := by decide +kernel
theorem dL_law_786 : decode cL_law 786 = .ok (.pop, 1) := by decide +kernel
theorem dL_law_787 : decode cL_law 787 = .ok (.aload_n 2, 1) := by decide +kernel
theorem dL_law_788 : decode cL_law 788 = .ok (.invokevirtual 100, 3) := by decide +kernel
theorem dL_law_791 : decode cL_law 791 = .ok (.pop, 1) := by decide +kernel
theorem dL_law_792 : decode cL_law 792 = .ok (.goto 1323, 3) := by decide +kernel
theorem dL_law_795 : decode cL_law 795 = .ok (.aload_n 1, 1) := by decide +kernel
theorem dL_law_796 : decode cL_law 796 = .ok (.aload_n 0, 1) := by decide +kernel
theorem dL_law_797 : decode cL_law 797 = .ok (.iload_n 3, 1) := by decide +kernel
theorem dL_law_798 : decode cL_law 798 = .ok (.iconst 1, 1) := by decide +kernel
theorem dL_law_799 : decode cL_law 799 = .ok (.iadd, 1) := by decide +kernel
theorem dL_law_8 : decode cL_law 8 = .ok (.new 10, 3) := by decide +kernel
theorem dL_law_800 : decode cL_law 800 = .ok (.iaload, 1) := by decide +kernel
theorem dL_law_801 : decode cL_law 801 = .ok (.invokevirtual 101, 3) := by decide +kernel
theorem dL_law_804 : decode cL_law 804 = .ok (.pop, 1) := by decide +kernel
theorem dL_law_805 : decode cL_law 805 = .ok (.aload_n 2, 1) := by decide +kernel
theorem dL_law_806 : decode cL_law 806 = .ok (.aload_n 0, 1) := by decide +kernel
theorem dL_law_807 : decode cL_law 807 = .ok (.iload_n 3, 1) := by decide +kernel
theorem dL_law_808 : decode cL_law 808 = .ok (.iconst 1, 1) := by decide +kernel
theorem dL_law_809 : decode cL_law 809 = .ok (.iadd, 1) := by decide +kernel
theorem dL_law_810 : decode cL_law 810 = .ok (.iaload, 1) := by decide +kernel
theorem dL_law_811 : decode cL_law 811 = .ok (.invokevirtual 104, 3) := by decide +kernel
theorem dL_law_814 : decode cL_law 814 = .ok (.pop, 1) := by decide +kernel
theorem dL_law_815 : decode cL_law 815 = .ok (.goto 1300, 3) := by decide +kernel
theorem dL_law_818 : decode cL_law 818 = .ok (.aload_n 1, 1) := by decide +kernel
theorem dL_law_819 : decode cL_law 819 = .ok (.aload_n 0, 1) := by decide +kernel
theorem dL_law_820 : decode cL_law 820 = .ok (.iload_n 3, 1) := by decide +kernel
theorem dL_law_821 : decode cL_law 821 = .ok (.iconst 1, 1) := by decide +kernel
theorem dL_law_822 : decode cL_law 822 = .ok (.iadd, 1) := by decide +kernel
theorem dL_law_823 : decode cL_law 823 = .ok (.iaload, 1) := by decide +kernel
theorem dL_law_824 : decode cL_law 824 = .ok (.invokevirtual 105, 3) := by decide +kernel
theorem dL_law_827 : decode cL_law 827 = .ok (.pop, 1) := by decide +kernel
theorem dL_law_828 : decode cL_law 828 = .ok (.aload_n 2, 1) := by decide +kernel
theorem dL_law_829 : decode cL_law 829 = .ok (.aload_n 0, 1) := by decide +kernel
theorem dL_law_830 : decode cL_law 830 = .ok (.iload_n 3, 1) := by decide +kernel
theorem dL_law_831 : decode cL_law 831 = .ok (.iconst 1, 1) := by decide +kernel
theorem dL_law_832 : decode cL_law 832 = .ok (.iadd, 1) := by decide +kernel
theorem dL_law_833 : decode cL_law 833 = .ok (.iaload, 1) := by decide +kernel
theorem dL_law_834 : decode cL_law 834 = .ok (.invokevirtual 108, 3) := by decide +kernel
theorem dL_law_837 : decode cL_law 837 = .ok (.pop, 1) := by decide +kernel
theorem dL_law_838 : decode cL_law 838 = .ok (.goto 1277, 3) := by decide +kernel
theorem dL_law_841 : decode cL_law 841 = .ok (.aload_n 1, 1) := by decide +kernel
theorem dL_law_842 : decode cL_law 842 = .ok (.aload_n 0, 1) := by decide +kernel
theorem dL_law_843 : decode cL_law 843 = .ok (.iload_n 3, 1) := by decide +kernel
theorem dL_law_844 : decode cL_law 844 = .ok (.iconst 1, 1) := by decide +kernel
theorem dL_law_845 : decode cL_law 845 = .ok (.iadd, 1) := by decide +kernel
theorem dL_law_846 : decode cL_law 846 = .ok (.iaload, 1) := by decide +kernel
theorem dL_law_847 : decode cL_law 847 = .ok (.aload_n 0, 1) := by decide +kernel
theorem dL_law_848 : decode cL_law 848 = .ok (.iload_n 3, 1) := by decide +kernel
theorem dL_law_849 : decode cL_law 849 = .ok (.iconst 2, 1) := by decide +kernel
theorem dL_law_850 : decode cL_law 850 = .ok (.iadd, 1) := by decide +kernel
theorem dL_law_851 : decode cL_law 851 = .ok (.iaload, 1) := by decide +kernel
theorem dL_law_852 : decode cL_law 852 = .ok (.invokevirtual 109, 3) := by decide +kernel
theorem dL_law_855 : decode cL_law 855 = .ok (.pop, 1) := by decide +kernel
theorem dL_law_856 : decode cL_law 856 = .ok (.aload_n 2, 1) := by decide +kernel
theorem dL_law_857 : decode cL_law 857 = .ok (.aload_n 0, 1) := by decide +kernel
theorem dL_law_858 : decode cL_law 858 = .ok (.iload_n 3, 1) := by decide +kernel
theorem dL_law_859 : decode cL_law 859 = .ok (.iconst 1, 1) := by decide +kernel
theorem dL_law_860 : decode cL_law 860 = .ok (.iadd, 1) := by decide +kernel
theorem dL_law_861 : decode cL_law 861 = .ok (.iaload, 1) := by decide +kernel
theorem dL_law_862 : decode cL_law 862 = .ok (.aload_n 0, 1) := by decide +kernel
theorem dL_law_863 : decode cL_law 863 = .ok (.iload_n 3, 1) := by decide +kernel
theorem dL_law_864 : decode cL_law 864 = .ok (.iconst 2, 1) := by decide +kernel
theorem dL_law_865 : decode cL_law 865 = .ok (.iadd, 1) := by decide +kernel
theorem dL_law_866 : decode cL_law 866 = .ok (.iaload, 1) := by decide +kernel
theorem dL_law_867 : decode cL_law 867 = .ok (.invokevirtual 112, 3) := by decide +kernel
theorem dL_law_870 : decode cL_law 870 = .ok (.pop, 1) := by decide +kernel
theorem dL_law_871 : decode cL_law 871 = .ok (.goto 1244, 3) := by decide +kernel
theorem dL_law_874 : decode cL_law 874 = .ok (.aload_n 1, 1) := by decide +kernel
theorem dL_law_875 : decode cL_law 875 = .ok (.aload_n 0, 1) := by decide +kernel
theorem dL_law_876 : decode cL_law 876 = .ok (.iload_n 3, 1) := by decide +kernel
theorem dL_law_877 : decode cL_law 877 = .ok (.iconst 1, 1) := by decide +kernel
theorem dL_law_878 : decode cL_law 878 = .ok (.iadd, 1) := by decide +kernel
theorem dL_law_879 : decode cL_law 879 = .ok (.iaload, 1) := by decide +kernel
theorem dL_law_880 : decode cL_law 880 = .ok (.aload_n 0, 1) := by decide +kernel
theorem dL_law_881 : decode cL_law 881 = .ok (.iload_n 3, 1) := by decide +kernel
theorem dL_law_882 : decode cL_law 882 = .ok (.iconst 2, 1) := by decide +kernel
theorem dL_law_883 : decode cL_law 883 = .ok (.iadd, 1) := by decide +kernel
theorem dL_law_884 : decode cL_law 884 = .ok (.iaload, 1) := by decide +kernel
theorem dL_law_885 : decode cL_law 885 = .ok (.invokevirtual 113, 3) := by decide +kernel
theorem dL_law_888 : decode cL_law 888 = .ok (.pop, 1) := by decide +kernel
theorem dL_law_889 : decode cL_law 889 = .ok (.aload_n 2, 1) := by decide +kernel
theorem dL_law_890 : decode cL_law 890 = .ok (.aload_n 0, 1) := by decide +kernel
theorem dL_law_891 : decode cL_law 891 = .ok (.iload_n 3, 1) := by decide +kernel
theorem dL_law_892 : decode cL_law 892 = .ok (.iconst 1, 1) := by decide +kernel
theorem dL_law_893 : decode cL_law 893 = .ok (.iadd, 1) := by decide +kernel
theorem dL_law_894 : decode cL_law 894 = .ok (.iaload, 1) := by decide +kernel
theorem dL_law_895 : decode cL_law 895 = .ok (.aload_n 0, 1) := by decide +kernel
theorem dL_law_896 : decode cL_law 896 = .ok (.iload_n 3, 1) := by decide +kernel
theorem dL_law_897 : decode cL_law 897 = .ok (.iconst 2, 1) := by decide +kernel
theorem dL_law_898 : decode cL_law 898 = .ok (.iadd, 1) := by decide +kernel
theorem dL_law_899 : decode cL_law 899 = .ok (.iaload, 1) := by decide +kernel
theorem dL_law_900 : decode cL_law 900 = .ok (.invokevirtual 116, 3) := by decide +kernel
theorem dL_law_903 : decode cL_law 903 = .ok (.pop, 1) := by decide +kernel
theorem dL_law_904 : decode cL_law 904 = .ok (.goto 1211, 3) := by decide +kernel
theorem dL_law_907 : decode cL_law 907 = .ok (.aload_n 1, 1) := by decide +kernel
theorem dL_law_908 : decode cL_law 908 = .ok (.aload_n 0, 1) := by decide +kernel
theorem dL_law_909 : decode cL_law 909 = .ok (.iload_n 3, 1) := by decide +kernel
theorem dL_law_910 : decode cL_law 910 = .ok (.iconst 1, 1) := by decide +kernel
theorem dL_law_911 : decode cL_law 911 = .ok (.iadd, 1) := by decide +kernel
theorem dL_law_912 : decode cL_law 912 = .ok (.iaload, 1) := by decide +kernel
theorem dL_law_913 : decode cL_law 913 = .ok (.invokevirtual 117, 3) := by decide +kernel
theorem dL_law_916 : decode cL_law 916 = .ok (.pop, 1) := by decide +kernel
theorem dL_law_917 : decode cL_law 917 = .ok (.aload_n 2, 1) := by decide +kernel
theorem dL_law_918 : decode cL_law 918 = .ok (.aload_n 0, 1) := by decide +kernel
theorem dL_law_919 : decode cL_law 919 = .ok (.iload_n 3, 1) := by decide +kernel
theorem dL_law_920 : decode cL_law 920 = .ok (.iconst 1, 1) := by decide +kernel
theorem dL_law_921 : decode cL_law 921 = .ok (.iadd, 1) := by decide +kernel
theorem dL_law_922 : decode cL_law 922 = .ok (.iaload, 1) := by decide +kernel
theorem dL_law_923 : decode cL_law 923 = .ok (.invokevirtual 120, 3) := by decide +kernel
theorem dL_law_926 : decode cL_law 926 = .ok (.pop, 1) := by decide +kernel
theorem dL_law_927 : decode cL_law 927 = .ok (.goto 1188, 3) := by decide +kernel
theorem dL_law_930 : decode cL_law 930 = .ok (.aload_n 1, 1) := by decide +kernel
theorem dL_law_931 : decode cL_law 931 = .ok (.invokevirtual 121, 3) := by decide +kernel
theorem dL_law_934 : decode cL_law 934 = .ok (.pop, 1) := by decide +kernel
theorem dL_law_935 : decode cL_law 935 = .ok (.aload_n 2, 1) := by decide +kernel
theorem dL_law_936 : decode cL_law 936 = .ok (.invokevirtual 124, 3) := by decide +kernel
theorem dL_law_939 : decode cL_law 939 = .ok (.pop, 1) := by decide +kernel
theorem dL_law_940 : decode cL_law 940 = .ok (.goto 1175, 3) := by decide +kernel
theorem dL_law_943 : decode cL_law 943 = .ok (.aload_n 1, 1) := by decide +kernel
theorem dL_law_944 : decode cL_law 944 = .ok (.invokevirtual 125, 3) := by decide +kernel
theorem dL_law_947 : decode cL_law 947 = .ok (.pop, 1) := by decide +kernel
theorem dL_law_948 : decode cL_law 948 = .ok (.aload_n 2, 1) := by decide +kernel
theorem dL_law_949 : decode cL_law 949 = .ok (.invokevirtual 128, 3) := by decide +kernel
theorem dL_law_952 : decode cL_law 952 = .ok (.pop, 1) := by decide +kernel
theorem dL_law_953 : decode cL_law 953 = .ok (.goto 1162, 3) := by decide +kernel
theorem dL_law_956 : decode cL_law 956 = .ok (.aload_n 1, 1) := by decide +kernel
theorem dL_law_957 : decode cL_law 957 = .ok (.invokevirtual 129, 3) := by decide +kernel
theorem dL_law_960 : decode cL_law 960 = .ok (.pop, 1) := by decide +kernel
theorem dL_law_961 : decode cL_law 961 = .ok (.aload_n 2, 1) := by decide +kernel
theorem dL_law_962 : decode cL_law 962 = .ok (.invokevirtual 132, 3) := by decide +kernel
theorem dL_law_965 : decode cL_law 965 = .ok (.pop, 1) := by decide +kernel
theorem dL_law_966 : decode cL_law 966 = .ok (.goto 1149, 3) := by decide +kernel
theorem dL_law_969 : decode cL_law 969 = .ok (.aload_n 1, 1) := by decide +kernel
theorem dL_law_970 : decode cL_law 970 = .ok (.aload_n 0, 1) := by decide +kernel
theorem dL_law_971 : decode cL_law 971 = .ok (.iload_n 3, 1) := by decide +kernel
theorem dL_law_972 : decode cL_law 972 = .ok (.iconst 1, 1) := by decide +kernel
theorem dL_law_973 : decode cL_law 973 = .ok (.iadd, 1) := by decide +kernel
theorem dL_law_974 : decode cL_law 974 = .ok (.iaload, 1) := by decide +kernel
theorem dL_law_975 : decode cL_law 975 = .ok (.invokevirtual 133, 3) := by decide +kernel
theorem dL_law_978 : decode cL_law 978 = .ok (.pop, 1) := by decide +kernel
theorem dL_law_979 : decode cL_law 979 = .ok (.aload_n 2, 1) := by decide +kernel
theorem dL_law_980 : decode cL_law 980 = .ok (.aload_n 0, 1) := by decide +kernel
theorem dL_law_981 : decode cL_law 981 = .ok (.iload_n 3, 1) := by decide +kernel
theorem dL_law_982 : decode cL_law 982 = .ok (.iconst 1, 1) := by decide +kernel
theorem dL_law_983 : decode cL_law 983 = .ok (.iadd, 1) := by decide +kernel
theorem dL_law_984 : decode cL_law 984 = .ok (.iaload, 1) := by decide +kernel
theorem dL_law_985 : decode cL_law 985 = .ok (.invokevirtual 136, 3) := by decide +kernel
theorem dL_law_988 : decode cL_law 988 = .ok (.pop, 1) := by decide +kernel
theorem dL_law_989 : decode cL_law 989 = .ok (.goto 1126, 3) := by decide +kernel
theorem dL_law_992 : decode cL_law 992 = .ok (.aload_n 1, 1) := by decide +kernel
theorem dL_law_993 : decode cL_law 993 = .ok (.aload_n 0, 1) := by decide +kernel
theorem dL_law_994 : decode cL_law 994 = .ok (.iload_n 3, 1) := by decide +kernel
theorem dL_law_995 : decode cL_law 995 = .ok (.iconst 1, 1) := by decide +kernel
theorem dL_law_996 : decode cL_law 996 = .ok (.iadd, 1) := by decide +kernel
theorem dL_law_997 : decode cL_law 997 = .ok (.iaload, 1) := by decide +kernel
theorem dL_law_998 : decode cL_law 998 = .ok (.invokevirtual 137, 3) := by decide +kernel
set_option maxHeartbeats 4000000 in
set_option maxRecDepth 100000 in
theorem law_0 {p : Program} {l : Launch} {e : Env} {s : State} {m : MethodId} {below : List Frame} {meth : Method} {c : Code} {G : Gho} {D : va_G} {cB cI cJ cZ cS cT : ClassId} {b L : Nat} {xs : Nat → Int32} {x0 m0 : Nat} {A B : Nat → Nat} {cells slots : Nat} (hL : L ≤ 3072) (C0 : lw_At p s m meth c b L xs) (hK : va_K D vwCl (tyL cB cI cJ cZ cS cT) s) (hN : kN s) (hT : kT G s s.heap) (hG : G.1 = s.heap.size) (hcc : cells ≤ 600000) (hss : slots ≤ 7302249) {H : Heap} {locs : List Loc} {ls : Array Slot} (V U : VX) (ok : xok V) (okm : mok U) (rel : True) (i3 : Int32) (hi : 0 ≤ i3.toInt ∧ i3.toInt + 6 ≤ (L : Int)) (hP : va_P D vwCl (xL cB cI cJ cZ cS cT x0 A V ++ mL cB cI cJ cZ cS cT m0 B U) H) (hD : va_D (fun q : Nat => s.heap.size ≤ q) (xL cB cI cJ cZ cS cT x0 A V ++ mL cB cI cJ cZ cS cT m0 B U)) (hS : va_S (fun q : Nat => s.heap.size ≤ q) s.heap H locs) (hl : lv_has ls 4 [(0, .ref b), (1, .ref x0), (2, .ref m0), (3, .int i3)]) (K : ∀ (V U : VX) (H : Heap) (locs : List Loc) (ls : Array Slot), xok V → mok U → True → va_P D vwCl (xL cB cI cJ cZ cS cT x0 A V ++ mL cB cI cJ cZ cS cT m0 B U) H → va_D (fun q : Nat => s.heap.size ≤ q) (xL cB cI cJ cZ cS cT x0 A V ++ mL cB cI cJ cZ cS cT m0 B U) → va_S (fun q : Nat => s.heap.size ≤ q) s.heap H locs → lv_has ls 4 [(0, .ref b), (1, .ref x0), (2, .ref m0), (3, .int i3)] → W p l e room_1 s m #[Value.ref b] below meth c H locs cells slots (lw_Z below #[Value.ref b] s) (F0 m 2115 ls [])) : W p l e room_1 s m #[Value.ref b] below meth c H locs cells slots (lw_Z below #[Value.ref b] s) (F0 m 332 ls []) := by
  obtain ⟨hx, hb, hr, hml, hown, hts0, hX, hbl, hlocks, hgv⟩ := id C0
  have hts : ∀ w ∈ wsL_law, w.before #[Value.ref b] s = true := fun w h => hts0 w (wsL_law_in w h)
  have hA : ∀ q : Nat, s.heap.size ≤ q → (fun q : Nat => s.heap.size ≤ q) q := fun _ h => h
  have hAB : ∀ q : Nat, (fun q : Nat => s.heap.size ≤ q) q → G.1 ≤ q := fun q h => by rw [hG]; exact h
  have hG1 : G.1 ≤ s.heap.size := by rw [hG]; exact Nat.le_refl _
  have hbA : ¬ (fun q : Nat => s.heap.size ≤ q) b := Nat.not_le.mpr hbl
  refine lv_aload_n hx hb dL_law_332 rfl (lv_at hl 1 rfl) ?_
  refine lv_aload_n hx hb dL_law_333 rfl (lv_at hl 0 rfl) ?_
  refine lv_iload_n hx hb dL_law_334 rfl (lv_at hl 3 rfl) ?_
  refine lv_iconst (v := 1) hx hb dL_law_335 (by decide) ?_
  obtain ⟨t_1, et_1⟩ : ∃ v9 : Int32, i3 + 1 = v9 := ⟨_, rfl⟩
  refine z_iadd (v := t_1) hx hb dL_law_336 et_1 ?_
  have b_i3 := i32b i3
  have ft_1 : t_1.toInt = i3.toInt + 1 := addT (a := i3.toInt) (b := 1) rfl (by decide) et_1 (by omega) (by omega)
  obtain ⟨t_2, et_2⟩ : ∃ v9 : Int32, xs (t_1 : Int32).toNatClampNeg = v9 := ⟨_, rfl⟩
  refine va_sld hx hb hX hbl hbA hS (vin_nat (by omega) (by omega)) dL_law_337 ?_
  rw [et_2]
  refine lv_aload_n hx hb dL_law_338 rfl (lv_at hl 0 rfl) ?_
  refine lv_iload_n hx hb dL_law_339 rfl (lv_at hl 3 rfl) ?_
  refine lv_iconst (v := 2) hx hb dL_law_340 (by decide) ?_
  obtain ⟨t_3, et_3⟩ : ∃ v9 : Int32, i3 + 2 = v9 := ⟨_, rfl⟩
  refine z_iadd (v := t_3) hx hb dL_law_341 et_3 ?_
  have ft_3 : t_3.toInt = i3.toInt + 2 := addT (a := i3.toInt) (b := 2) rfl (by decide) et_3 (by omega) (by omega)
  obtain ⟨t_4, et_4⟩ : ∃ v9 : Int32, xs (t_3 : Int32).toNatClampNeg = v9 := ⟨_, rfl⟩
  refine va_sld hx hb hX hbl hbA hS (vin_nat (by omega) (by omega)) dL_law_342 ?_
  rw [et_4]
  refine lv_aload_n hx hb dL_law_343 rfl (lv_at hl 0 rfl) ?_
  refine lv_iload_n hx hb dL_law_344 rfl (lv_at hl 3 rfl) ?_
  refine lv_iconst (v := 3) hx hb dL_law_345 (by decide) ?_
  obtain ⟨t_5, et_5⟩ : ∃ v9 : Int32, i3 + 3 = v9 := ⟨_, rfl⟩
  refine z_iadd (v := t_5) hx hb dL_law_346 et_5 ?_
  have ft_5 : t_5.toInt = i3.toInt + 3 := addT (a := i3.toInt) (b := 3) rfl (by decide) et_5 (by omega) (by omega)
  obtain ⟨t_6, et_6⟩ : ∃ v9 : Int32, xs (t_5 : Int32).toNatClampNeg = v9 := ⟨_, rfl⟩
  refine va_sld hx hb hX hbl hbA hS (vin_nat (by omega) (by omega)) dL_law_347 ?_
  rw [et_6]
  refine lv_aload_n hx hb dL_law_348 rfl (lv_at hl 0 rfl) ?_
  refine lv_iload_n hx hb dL_law_349 rfl (lv_at hl 3 rfl) ?_
  refine lv_iconst (v := 4) hx hb dL_law_350 (by decide) ?_
  obtain ⟨t_7, et_7⟩ : ∃ v9 : Int32, i3 + 4 = v9 := ⟨_, rfl⟩
  refine z_iadd (v := t_7) hx hb dL_law_351 et_7 ?_
  have ft_7 : t_7.toInt = i3.toInt + 4 := addT (a := i3.toInt) (b := 4) rfl (by decide) et_7 (by omega) (by omega)
  obtain ⟨t_8, et_8⟩ : ∃ v9 : Int32, xs (t_7 : Int32).toNatClampNeg = v9 := ⟨_, rfl⟩
  refine va_sld hx hb hX hbl hbA hS (vin_nat (by omega) (by omega)) dL_law_352 ?_
  rw [et_8]
  refine lv_aload_n hx hb dL_law_353 rfl (lv_at hl 0 rfl) ?_
  refine lv_iload_n hx hb dL_law_354 rfl (lv_at hl 3 rfl) ?_
  refine lv_iconst (v := 5) hx hb dL_law_355 (by decide) ?_
  obtain ⟨t_9, et_9⟩ : ∃ v9 : Int32, i3 + 5 = v9 := ⟨_, rfl⟩
  refine z_iadd (v := t_9) hx hb dL_law_356 et_9 ?_
  have ft_9 : t_9.toInt = i3.toInt + 5 := addT (a := i3.toInt) (b := 5) rfl (by decide) et_9 (by omega) (by omega)
  obtain ⟨t_10, et_10⟩ : ∃ v9 : Int32, xs (t_9 : Int32).toNatClampNeg = v9 := ⟨_, rfl⟩
  refine va_sld hx hb hX hbl hbA hS (vin_nat (by omega) (by omega)) dL_law_357 ?_
  rw [et_10]
  refine laAi (As := [.int t_2, .int t_4, .int t_6, .int t_8, .int t_10]) (rest := []) (wa := xL cB cI cJ cZ cS cT x0 A V) (wb := mL cB cI cJ cZ cS cT m0 B U) ⟨hx, hb, hml, hown, hts⟩ (f_X11_feed l G D cB cI cJ cZ cS cT H.size x0 A V ok t_2 t_4 t_6 t_8 t_10) hP hD hS hA hK hN hT hAB hG1 (cvB (n := 5) (inr7 _ (List.mem_of_getElem? (i := 18) rfl)) (inr7 _ (List.mem_of_getElem? (i := 19) rfl)) (inr7 _ (List.mem_of_getElem? (i := 20) rfl)) (inr1 _ (List.mem_of_getElem? (i := 2) rfl)) (inr7 _ (List.mem_of_getElem? (i := 21) rfl)) (by decide +kernel) hts rfl rfl ⟨Nat.le_of_ble_eq_true rfl, Nat.le_of_ble_eq_true rfl⟩) 0 11 rfl rfl rfl rfl hl.1 rfl (Nat.le_of_ble_eq_true rfl) ⟨hcc, hss⟩ dL_law_358 (fun r_11 V_13 H locs h_12 hP hD hS => ?_)
  refine lv_pop hx hb dL_law_361 rfl ?_
  refine lv_aload_n hx hb dL_law_362 rfl (lv_at hl 2 rfl) ?_
  refine lv_aload_n hx hb dL_law_363 rfl (lv_at hl 0 rfl) ?_
  refine lv_iload_n hx hb dL_law_364 rfl (lv_at hl 3 rfl) ?_
  refine lv_iconst (v := 1) hx hb dL_law_365 (by decide) ?_
  refine z_iadd (v := t_1) hx hb dL_law_366 et_1 ?_
  refine va_sld hx hb hX hbl hbA hS (vin_nat (by omega) (by omega)) dL_law_367 ?_
  rw [et_2]
  refine lv_aload_n hx hb dL_law_368 rfl (lv_at hl 0 rfl) ?_
  refine lv_iload_n hx hb dL_law_369 rfl (lv_at hl 3 rfl) ?_
  refine lv_iconst (v := 2) hx hb dL_law_370 (by decide) ?_
  refine z_iadd (v := t_3) hx hb dL_law_371 et_3 ?_
  refine va_sld hx hb hX hbl hbA hS (vin_nat (by omega) (by omega)) dL_law_372 ?_
  rw [et_4]
  refine lv_aload_n hx hb dL_law_373 rfl (lv_at hl 0 rfl) ?_
  refine lv_iload_n hx hb dL_law_374 rfl (lv_at hl 3 rfl) ?_
  refine lv_iconst (v := 3) hx hb dL_law_375 (by decide) ?_
  refine z_iadd (v := t_5) hx hb dL_law_376 et_5 ?_
  refine va_sld hx hb hX hbl hbA hS (vin_nat (by omega) (by omega)) dL_law_377 ?_
  rw [et_6]
  refine lv_aload_n hx hb dL_law_378 rfl (lv_at hl 0 rfl) ?_
  refine lv_iload_n hx hb dL_law_379 rfl (lv_at hl 3 rfl) ?_
  refine lv_iconst (v := 4) hx hb dL_law_380 (by decide) ?_
  refine z_iadd (v := t_7) hx hb dL_law_381 et_7 ?_
  refine va_sld hx hb hX hbl hbA hS (vin_nat (by omega) (by omega)) dL_law_382 ?_
  rw [et_8]
  refine lv_aload_n hx hb dL_law_383 rfl (lv_at hl 0 rfl) ?_
  refine lv_iload_n hx hb dL_law_384 rfl (lv_at hl 3 rfl) ?_
  refine lv_iconst (v := 5) hx hb dL_law_385 (by decide) ?_
  refine z_iadd (v := t_9) hx hb dL_law_386 et_9 ?_
  refine va_sld hx hb hX hbl hbA hS (vin_nat (by omega) (by omega)) dL_law_387 ?_
  rw [et_10]
  refine laBi (As := [.int t_2, .int t_4, .int t_6, .int t_8, .int t_10]) (rest := []) (wa := xL cB cI cJ cZ cS cT x0 A V_13) (wb := mL cB cI cJ cZ cS cT m0 B U) ⟨hx, hb, hml, hown, hts⟩ (f_X12_feed l G D cB cI cJ cZ cS cT H.size m0 B U okm t_2 t_4 t_6 t_8 t_10) hP hD hS hA hK hN hT hAB hG1 (cvB (n := 5) (inr8 _ (List.mem_of_getElem? (i := 7) rfl)) (inr8 _ (List.mem_of_getElem? (i := 8) rfl)) (inr8 _ (List.mem_of_getElem? (i := 9) rfl)) (inr1 _ (List.mem_of_getElem? (i := 5) rfl)) (inr8 _ (List.mem_of_getElem? (i := 10) rfl)) (by decide +kernel) hts rfl rfl ⟨Nat.le_of_ble_eq_true rfl, Nat.le_of_ble_eq_true rfl⟩) 0 12 rfl rfl rfl rfl hl.1 rfl (Nat.le_of_ble_eq_true rfl) ⟨hcc, hss⟩ dL_law_388 (fun r_15 U_17 H locs h_16 hP hD hS => ?_)
  refine lv_pop hx hb dL_law_391 rfl ?_
  refine lv_goto (tgt := 2115) hx hb dL_law_392 (by decide) ?_
  exact K V_13 U_17 H locs ls h_12 h_16 trivial hP hD hS (lv_sub hl [0, 1, 2, 3] rfl)

set_option maxHeartbeats 4000000 in
set_option maxRecDepth 100000 in
theorem law_1 {p : Program} {l : Launch} {e : Env} {s : State} {m : MethodId} {below : List Frame} {meth : Method} {c : Code} {G : Gho} {D : va_G} {cB cI cJ cZ cS cT : ClassId} {b L : Nat} {xs : Nat → Int32} {x0 m0 : Nat} {A B : Nat → Nat} {cells slots : Nat} (hL : L ≤ 3072) (C0 : lw_At p s m meth c b L xs) (hK : va_K D vwCl (tyL cB cI cJ cZ cS cT) s) (hN : kN s) (hT : kT G s s.heap) (hG : G.1 = s.heap.size) (hcc : cells ≤ 600000) (hss : slots ≤ 7302249) {H : Heap} {locs : List Loc} {ls : Array Slot} (V U : VX) (ok : xok V) (okm : mok U) (rel : True) (i3 : Int32) (hi : 0 ≤ i3.toInt ∧ i3.toInt + 6 ≤ (L : Int)) (hP : va_P D vwCl (xL cB cI cJ cZ cS cT x0 A V ++ mL cB cI cJ cZ cS cT m0 B U) H) (hD : va_D (fun q : Nat => s.heap.size ≤ q) (xL cB cI cJ cZ cS cT x0 A V ++ mL cB cI cJ cZ cS cT m0 B U)) (hS : va_S (fun q : Nat => s.heap.size ≤ q) s.heap H locs) (hl : lv_has ls 4 [(0, .ref b), (1, .ref x0), (2, .ref m0), (3, .int i3)]) (K : ∀ (V U : VX) (H : Heap) (locs : List Loc) (ls : Array Slot), xok V → mok U → True → va_P D vwCl (xL cB cI cJ cZ cS cT x0 A V ++ mL cB cI cJ cZ cS cT m0 B U) H → va_D (fun q : Nat => s.heap.size ≤ q) (xL cB cI cJ cZ cS cT x0 A V ++ mL cB cI cJ cZ cS cT m0 B U) → va_S (fun q : Nat => s.heap.size ≤ q) s.heap H locs → lv_has ls 4 [(0, .ref b), (1, .ref x0), (2, .ref m0), (3, .int i3)] → W p l e room_1 s m #[Value.ref b] below meth c H locs cells slots (lw_Z below #[Value.ref b] s) (F0 m 2115 ls [])) : W p l e room_1 s m #[Value.ref b] below meth c H locs cells slots (lw_Z below #[Value.ref b] s) (F0 m 395 ls []) := by
  obtain ⟨hx, hb, hr, hml, hown, hts0, hX, hbl, hlocks, hgv⟩ := id C0
  have hts : ∀ w ∈ wsL_law, w.before #[Value.ref b] s = true := fun w h => hts0 w (wsL_law_in w h)
  have hA : ∀ q : Nat, s.heap.size ≤ q → (fun q : Nat => s.heap.size ≤ q) q := fun _ h => h
  have hAB : ∀ q : Nat, (fun q : Nat => s.heap.size ≤ q) q → G.1 ≤ q := fun q h => by rw [hG]; exact h
  have hG1 : G.1 ≤ s.heap.size := by rw [hG]; exact Nat.le_refl _
  have hbA : ¬ (fun q : Nat => s.heap.size ≤ q) b := Nat.not_le.mpr hbl
  refine lv_aload_n hx hb dL_law_395 rfl (lv_at hl 1 rfl) ?_
  refine lv_aload_n hx hb dL_law_396 rfl (lv_at hl 0 rfl) ?_
  refine lv_iload_n hx hb dL_law_397 rfl (lv_at hl 3 rfl) ?_
  refine lv_iconst (v := 1) hx hb dL_law_398 (by decide) ?_
  obtain ⟨t_1, et_1⟩ : ∃ v9 : Int32, i3 + 1 = v9 := ⟨_, rfl⟩
  refine z_iadd (v := t_1) hx hb dL_law_399 et_1 ?_
  have b_i3 := i32b i3
  have ft_1 : t_1.toInt = i3.toInt + 1 := addT (a := i3.toInt) (b := 1) rfl (by decide) et_1 (by omega) (by omega)
  obtain ⟨t_2, et_2⟩ : ∃ v9 : Int32, xs (t_1 : Int32).toNatClampNeg = v9 := ⟨_, rfl⟩
  refine va_sld hx hb hX hbl hbA hS (vin_nat (by omega) (by omega)) dL_law_400 ?_
  rw [et_2]
  refine laAi (As := [.int t_2]) (rest := []) (wa := xL cB cI cJ cZ cS cT x0 A V) (wb := mL cB cI cJ cZ cS cT m0 B U) ⟨hx, hb, hml, hown, hts⟩ (f_X11_end l G D cB cI cJ cZ cS cT H.size x0 A V ok t_2) hP hD hS hA hK hN hT hAB hG1 (cvB (n := 1) (inr8 _ (List.mem_of_getElem? (i := 12) rfl)) (inr8 _ (List.mem_of_getElem? (i := 13) rfl)) (inr8 _ (List.mem_of_getElem? (i := 14) rfl)) (inr1 _ (List.mem_of_getElem? (i := 2) rfl)) (inr8 _ (List.mem_of_getElem? (i := 15) rfl)) (by decide +kernel) hts rfl rfl ⟨Nat.le_of_ble_eq_true rfl, Nat.le_of_ble_eq_true rfl⟩) 0 11 rfl rfl rfl rfl hl.1 rfl (Nat.le_of_ble_eq_true rfl) ⟨hcc, hss⟩ dL_law_401 (fun r_3 V_5 H locs h_4 hP hD hS => ?_)
  refine lv_pop hx hb dL_law_404 rfl ?_
  refine lv_aload_n hx hb dL_law_405 rfl (lv_at hl 2 rfl) ?_
  refine lv_aload_n hx hb dL_law_406 rfl (lv_at hl 0 rfl) ?_
  refine lv_iload_n hx hb dL_law_407 rfl (lv_at hl 3 rfl) ?_
  refine lv_iconst (v := 1) hx hb dL_law_408 (by decide) ?_
  refine z_iadd (v := t_1) hx hb dL_law_409 et_1 ?_
  refine va_sld hx hb hX hbl hbA hS (vin_nat (by omega) (by omega)) dL_law_410 ?_
  rw [et_2]
  refine laBi (As := [.int t_2]) (rest := []) (wa := xL cB cI cJ cZ cS cT x0 A V_5) (wb := mL cB cI cJ cZ cS cT m0 B U) ⟨hx, hb, hml, hown, hts⟩ (f_X12_end l G D cB cI cJ cZ cS cT H.size m0 B U okm t_2) hP hD hS hA hK hN hT hAB hG1 (cvB (n := 1) (inr8 _ (List.mem_of_getElem? (i := 23) rfl)) (inr9 _ (List.mem_of_getElem? (i := 0) rfl)) (inr9 _ (List.mem_of_getElem? (i := 1) rfl)) (inr1 _ (List.mem_of_getElem? (i := 5) rfl)) (inr9 _ (List.mem_of_getElem? (i := 2) rfl)) (by decide +kernel) hts rfl rfl ⟨Nat.le_of_ble_eq_true rfl, Nat.le_of_ble_eq_true rfl⟩) 0 12 rfl rfl rfl rfl hl.1 rfl (Nat.le_of_ble_eq_true rfl) ⟨hcc, hss⟩ dL_law_411 (fun r_7 U_9 H locs h_8 hP hD hS => ?_)
  refine lv_pop hx hb dL_law_414 rfl ?_
  refine lv_goto (tgt := 2115) hx hb dL_law_415 (by decide) ?_
  exact K V_5 U_9 H locs ls h_4 h_8 trivial hP hD hS (lv_sub hl [0, 1, 2, 3] rfl)

set_option maxHeartbeats 4000000 in
set_option maxRecDepth 100000 in
theorem law_2 {p : Program} {l : Launch} {e : Env} {s : State} {m : MethodId} {below : List Frame} {meth : Method} {c : Code} {G : Gho} {D : va_G} {cB cI cJ cZ cS cT : ClassId} {b L : Nat} {xs : Nat → Int32} {x0 m0 : Nat} {A B : Nat → Nat} {cells slots : Nat} (hL : L ≤ 3072) (C0 : lw_At p s m meth c b L xs) (hK : va_K D vwCl (tyL cB cI cJ cZ cS cT) s) (hN : kN s) (hT : kT G s s.heap) (hG : G.1 = s.heap.size) (hcc : cells ≤ 600000) (hss : slots ≤ 7302249) {H : Heap} {locs : List Loc} {ls : Array Slot} (V U : VX) (ok : xok V) (okm : mok U) (rel : True) (i3 : Int32) (hi : 0 ≤ i3.toInt ∧ i3.toInt + 6 ≤ (L : Int)) (hP : va_P D vwCl (xL cB cI cJ cZ cS cT x0 A V ++ mL cB cI cJ cZ cS cT m0 B U) H) (hD : va_D (fun q : Nat => s.heap.size ≤ q) (xL cB cI cJ cZ cS cT x0 A V ++ mL cB cI cJ cZ cS cT m0 B U)) (hS : va_S (fun q : Nat => s.heap.size ≤ q) s.heap H locs) (hl : lv_has ls 4 [(0, .ref b), (1, .ref x0), (2, .ref m0), (3, .int i3)]) (K : ∀ (V U : VX) (H : Heap) (locs : List Loc) (ls : Array Slot), xok V → mok U → True → va_P D vwCl (xL cB cI cJ cZ cS cT x0 A V ++ mL cB cI cJ cZ cS cT m0 B U) H → va_D (fun q : Nat => s.heap.size ≤ q) (xL cB cI cJ cZ cS cT x0 A V ++ mL cB cI cJ cZ cS cT m0 B U) → va_S (fun q : Nat => s.heap.size ≤ q) s.heap H locs → lv_has ls 4 [(0, .ref b), (1, .ref x0), (2, .ref m0), (3, .int i3)] → W p l e room_1 s m #[Value.ref b] below meth c H locs cells slots (lw_Z below #[Value.ref b] s) (F0 m 2115 ls [])) : W p l e room_1 s m #[Value.ref b] below meth c H locs cells slots (lw_Z below #[Value.ref b] s) (F0 m 418 ls []) := by
  obtain ⟨hx, hb, hr, hml, hown, hts0, hX, hbl, hlocks, hgv⟩ := id C0
  have hts : ∀ w ∈ wsL_law, w.before #[Value.ref b] s = true := fun w h => hts0 w (wsL_law_in w h)
  have hA : ∀ q : Nat, s.heap.size ≤ q → (fun q : Nat => s.heap.size ≤ q) q := fun _ h => h
  have hAB : ∀ q : Nat, (fun q : Nat => s.heap.size ≤ q) q → G.1 ≤ q := fun q h => by rw [hG]; exact h
  have hG1 : G.1 ≤ s.heap.size := by rw [hG]; exact Nat.le_refl _
  have hbA : ¬ (fun q : Nat => s.heap.size ≤ q) b := Nat.not_le.mpr hbl
  refine lv_aload_n hx hb dL_law_418 rfl (lv_at hl 1 rfl) ?_
  refine laAi (As := []) (rest := []) (wa := xL cB cI cJ cZ cS cT x0 A V) (wb := mL cB cI cJ cZ cS cT m0 B U) ⟨hx, hb, hml, hown, hts⟩ (f_X11_station l G D cB cI cJ cZ cS cT H.size x0 A V ok ) hP hD hS hA hK hN hT hAB hG1 (cvB (n := 0) (inr9 _ (List.mem_of_getElem? (i := 6) rfl)) (inr9 _ (List.mem_of_getElem? (i := 7) rfl)) (inr9 _ (List.mem_of_getElem? (i := 8) rfl)) (inr1 _ (List.mem_of_getElem? (i := 2) rfl)) (inr9 _ (List.mem_of_getElem? (i := 9) rfl)) (by decide +kernel) hts rfl rfl ⟨Nat.le_of_ble_eq_true rfl, Nat.le_of_ble_eq_true rfl⟩) 0 11 rfl rfl rfl rfl hl.1 rfl (Nat.le_of_ble_eq_true rfl) ⟨hcc, hss⟩ dL_law_419 (fun r_1 V_3 H locs h_2 hP hD hS => ?_)
  refine lv_pop hx hb dL_law_422 rfl ?_
  refine lv_aload_n hx hb dL_law_423 rfl (lv_at hl 2 rfl) ?_
  refine laBi (As := []) (rest := []) (wa := xL cB cI cJ cZ cS cT x0 A V_3) (wb := mL cB cI cJ cZ cS cT m0 B U) ⟨hx, hb, hml, hown, hts⟩ (f_X12_station l G D cB cI cJ cZ cS cT H.size m0 B U okm ) hP hD hS hA hK hN hT hAB hG1 (cvB (n := 0) (inr17 _ (List.mem_of_getElem? (i := 15) rfl)) (inr17 _ (List.mem_of_getElem? (i := 16) rfl)) (inr17 _ (List.mem_of_getElem? (i := 17) rfl)) (inr1 _ (List.mem_of_getElem? (i := 5) rfl)) (inr17 _ (List.mem_of_getElem? (i := 18) rfl)) (by decide +kernel) hts rfl rfl ⟨Nat.le_of_ble_eq_true rfl, Nat.le_of_ble_eq_true rfl⟩) 0 12 rfl rfl rfl rfl hl.1 rfl (Nat.le_of_ble_eq_true rfl) ⟨hcc, hss⟩ dL_law_424 (fun r_5 U_7 H locs h_6 hP hD hS => ?_)
  refine lv_pop hx hb dL_law_427 rfl ?_
  refine lv_goto (tgt := 2115) hx hb dL_law_428 (by decide) ?_
  exact K V_3 U_7 H locs ls h_2 h_6 trivial hP hD hS (lv_sub hl [0, 1, 2, 3] rfl)

set_option maxHeartbeats 4000000 in
set_option maxRecDepth 100000 in
theorem law_3 {p : Program} {l : Launch} {e : Env} {s : State} {m : MethodId} {below : List Frame} {meth : Method} {c : Code} {G : Gho} {D : va_G} {cB cI cJ cZ cS cT : ClassId} {b L : Nat} {xs : Nat → Int32} {x0 m0 : Nat} {A B : Nat → Nat} {cells slots : Nat} (hL : L ≤ 3072) (C0 : lw_At p s m meth c b L xs) (hK : va_K D vwCl (tyL cB cI cJ cZ cS cT) s) (hN : kN s) (hT : kT G s s.heap) (hG : G.1 = s.heap.size) (hcc : cells ≤ 600000) (hss : slots ≤ 7302249) {H : Heap} {locs : List Loc} {ls : Array Slot} (V U : VX) (ok : xok V) (okm : mok U) (rel : True) (i3 : Int32) (hi : 0 ≤ i3.toInt ∧ i3.toInt + 6 ≤ (L : Int)) (hP : va_P D vwCl (xL cB cI cJ cZ cS cT x0 A V ++ mL cB cI cJ cZ cS cT m0 B U) H) (hD : va_D (fun q : Nat => s.heap.size ≤ q) (xL cB cI cJ cZ cS cT x0 A V ++ mL cB cI cJ cZ cS cT m0 B U)) (hS : va_S (fun q : Nat => s.heap.size ≤ q) s.heap H locs) (hl : lv_has ls 4 [(0, .ref b), (1, .ref x0), (2, .ref m0), (3, .int i3)]) (K : ∀ (V U : VX) (H : Heap) (locs : List Loc) (ls : Array Slot), xok V → mok U → True → va_P D vwCl (xL cB cI cJ cZ cS cT x0 A V ++ mL cB cI cJ cZ cS cT m0 B U) H → va_D (fun q : Nat => s.heap.size ≤ q) (xL cB cI cJ cZ cS cT x0 A V ++ mL cB cI cJ cZ cS cT m0 B U) → va_S (fun q : Nat => s.heap.size ≤ q) s.heap H locs → lv_has ls 4 [(0, .ref b), (1, .ref x0), (2, .ref m0), (3, .int i3)] → W p l e room_1 s m #[Value.ref b] below meth c H locs cells slots (lw_Z below #[Value.ref b] s) (F0 m 2115 ls [])) : W p l e room_1 s m #[Value.ref b] below meth c H locs cells slots (lw_Z below #[Value.ref b] s) (F0 m 431 ls []) := by
  obtain ⟨hx, hb, hr, hml, hown, hts0, hX, hbl, hlocks, hgv⟩ := id C0
  have hts : ∀ w ∈ wsL_law, w.before #[Value.ref b] s = true := fun w h => hts0 w (wsL_law_in w h)
  have hA : ∀ q : Nat, s.heap.size ≤ q → (fun q : Nat => s.heap.size ≤ q) q := fun _ h => h
  have hAB : ∀ q : Nat, (fun q : Nat => s.heap.size ≤ q) q → G.1 ≤ q := fun q h => by rw [hG]; exact h
  have hG1 : G.1 ≤ s.heap.size := by rw [hG]; exact Nat.le_refl _
  have hbA : ¬ (fun q : Nat => s.heap.size ≤ q) b := Nat.not_le.mpr hbl
  refine lv_aload_n hx hb dL_law_431 rfl (lv_at hl 1 rfl) ?_
  refine lv_aload_n hx hb dL_law_432 rfl (lv_at hl 0 rfl) ?_
  refine lv_iload_n hx hb dL_law_433 rfl (lv_at hl 3 rfl) ?_
  refine lv_iconst (v := 1) hx hb dL_law_434 (by decide) ?_
  obtain ⟨t_1, et_1⟩ : ∃ v9 : Int32, i3 + 1 = v9 := ⟨_, rfl⟩
  refine z_iadd (v := t_1) hx hb dL_law_435 et_1 ?_
  have b_i3 := i32b i3
  have ft_1 : t_1.toInt = i3.toInt + 1 := addT (a := i3.toInt) (b := 1) rfl (by decide) et_1 (by omega) (by omega)
  obtain ⟨t_2, et_2⟩ : ∃ v9 : Int32, xs (t_1 : Int32).toNatClampNeg = v9 := ⟨_, rfl⟩
  refine va_sld hx hb hX hbl hbA hS (vin_nat (by omega) (by omega)) dL_law_436 ?_
  rw [et_2]
  refine laAri (As := [.int t_2]) (rest := []) (wa := xL cB cI cJ cZ cS cT x0 A V) (wb := mL cB cI cJ cZ cS cT m0 B U) ⟨hx, hb, hml, hown, hts⟩ (f_X11_fault l G D cB cI cJ cZ cS cT x0 A V ok t_2) hP hD hS hA hK hN hT hAB hG1 (cvB (n := 1) (inr20 _ (List.mem_of_getElem? (i := 12) rfl)) (inr20 _ (List.mem_of_getElem? (i := 13) rfl)) (inr20 _ (List.mem_of_getElem? (i := 14) rfl)) (inr1 _ (List.mem_of_getElem? (i := 2) rfl)) (inr20 _ (List.mem_of_getElem? (i := 15) rfl)) (by decide +kernel) hts rfl rfl ⟨Nat.le_of_ble_eq_true rfl, Nat.le_of_ble_eq_true rfl⟩) 0 11 rfl rfl rfl rfl hl.1 rfl (Nat.le_of_ble_eq_true rfl) ⟨hcc, hss⟩ dL_law_437 (fun r_3 h_4 => ?_)
  refine lv_pop hx hb dL_law_440 rfl ?_
  refine lv_aload_n hx hb dL_law_441 rfl (lv_at hl 2 rfl) ?_
  refine lv_aload_n hx hb dL_law_442 rfl (lv_at hl 0 rfl) ?_
  refine lv_iload_n hx hb dL_law_443 rfl (lv_at hl 3 rfl) ?_
  refine lv_iconst (v := 1) hx hb dL_law_444 (by decide) ?_
  refine z_iadd (v := t_1) hx hb dL_law_445 et_1 ?_
  refine va_sld hx hb hX hbl hbA hS (vin_nat (by omega) (by omega)) dL_law_446 ?_
  rw [et_2]
  refine laBri (As := [.int t_2]) (rest := []) (wa := xL cB cI cJ cZ cS cT x0 A V) (wb := mL cB cI cJ cZ cS cT m0 B U) ⟨hx, hb, hml, hown, hts⟩ (f_X12_fault l G D cB cI cJ cZ cS cT m0 B U okm t_2) hP hD hS hA hK hN hT hAB hG1 (cvB (n := 1) (inr20 _ (List.mem_of_getElem? (i := 20) rfl)) (inr20 _ (List.mem_of_getElem? (i := 21) rfl)) (inr20 _ (List.mem_of_getElem? (i := 22) rfl)) (inr1 _ (List.mem_of_getElem? (i := 5) rfl)) (inr20 _ (List.mem_of_getElem? (i := 23) rfl)) (by decide +kernel) hts rfl rfl ⟨Nat.le_of_ble_eq_true rfl, Nat.le_of_ble_eq_true rfl⟩) 0 12 rfl rfl rfl rfl hl.1 rfl (Nat.le_of_ble_eq_true rfl) ⟨hcc, hss⟩ dL_law_447 (fun r_5 h_6 => ?_)
  refine lv_pop hx hb dL_law_450 rfl ?_
  refine lv_goto (tgt := 2115) hx hb dL_law_451 (by decide) ?_
  exact K V U H locs ls ok okm trivial hP hD hS (lv_sub hl [0, 1, 2, 3] rfl)

set_option maxHeartbeats 4000000 in
set_option maxRecDepth 100000 in
theorem law_4 {p : Program} {l : Launch} {e : Env} {s : State} {m : MethodId} {below : List Frame} {meth : Method} {c : Code} {G : Gho} {D : va_G} {cB cI cJ cZ cS cT : ClassId} {b L : Nat} {xs : Nat → Int32} {x0 m0 : Nat} {A B : Nat → Nat} {cells slots : Nat} (hL : L ≤ 3072) (C0 : lw_At p s m meth c b L xs) (hK : va_K D vwCl (tyL cB cI cJ cZ cS cT) s) (hN : kN s) (hT : kT G s s.heap) (hG : G.1 = s.heap.size) (hcc : cells ≤ 600000) (hss : slots ≤ 7302249) {H : Heap} {locs : List Loc} {ls : Array Slot} (V U : VX) (ok : xok V) (okm : mok U) (rel : True) (i3 : Int32) (hi : 0 ≤ i3.toInt ∧ i3.toInt + 6 ≤ (L : Int)) (hP : va_P D vwCl (xL cB cI cJ cZ cS cT x0 A V ++ mL cB cI cJ cZ cS cT m0 B U) H) (hD : va_D (fun q : Nat => s.heap.size ≤ q) (xL cB cI cJ cZ cS cT x0 A V ++ mL cB cI cJ cZ cS cT m0 B U)) (hS : va_S (fun q : Nat => s.heap.size ≤ q) s.heap H locs) (hl : lv_has ls 4 [(0, .ref b), (1, .ref x0), (2, .ref m0), (3, .int i3)]) (K : ∀ (V U : VX) (H : Heap) (locs : List Loc) (ls : Array Slot), xok V → mok U → True → va_P D vwCl (xL cB cI cJ cZ cS cT x0 A V ++ mL cB cI cJ cZ cS cT m0 B U) H → va_D (fun q : Nat => s.heap.size ≤ q) (xL cB cI cJ cZ cS cT x0 A V ++ mL cB cI cJ cZ cS cT m0 B U) → va_S (fun q : Nat => s.heap.size ≤ q) s.heap H locs → lv_has ls 4 [(0, .ref b), (1, .ref x0), (2, .ref m0), (3, .int i3)] → W p l e room_1 s m #[Value.ref b] below meth c H locs cells slots (lw_Z below #[Value.ref b] s) (F0 m 2115 ls [])) : W p l e room_1 s m #[Value.ref b] below meth c H locs cells slots (lw_Z below #[Value.ref b] s) (F0 m 454 ls []) := by
  obtain ⟨hx, hb, hr, hml, hown, hts0, hX, hbl, hlocks, hgv⟩ := id C0
  have hts : ∀ w ∈ wsL_law, w.before #[Value.ref b] s = true := fun w h => hts0 w (wsL_law_in w h)
  have hA : ∀ q : Nat, s.heap.size ≤ q → (fun q : Nat => s.heap.size ≤ q) q := fun _ h => h
  have hAB : ∀ q : Nat, (fun q : Nat => s.heap.size ≤ q) q → G.1 ≤ q := fun q h => by rw [hG]; exact h
  have hG1 : G.1 ≤ s.heap.size := by rw [hG]; exact Nat.le_refl _
  have hbA : ¬ (fun q : Nat => s.heap.size ≤ q) b := Nat.not_le.mpr hbl
  refine lv_aload_n hx hb dL_law_454 rfl (lv_at hl 1 rfl) ?_
  refine lv_aload_n hx hb dL_law_455 rfl (lv_at hl 0 rfl) ?_
  refine lv_iload_n hx hb dL_law_456 rfl (lv_at hl 3 rfl) ?_
  refine lv_iconst (v := 1) hx hb dL_law_457 (by decide) ?_
  obtain ⟨t_1, et_1⟩ : ∃ v9 : Int32, i3 + 1 = v9 := ⟨_, rfl⟩
  refine z_iadd (v := t_1) hx hb dL_law_458 et_1 ?_
  have b_i3 := i32b i3
  have ft_1 : t_1.toInt = i3.toInt + 1 := addT (a := i3.toInt) (b := 1) rfl (by decide) et_1 (by omega) (by omega)
  obtain ⟨t_2, et_2⟩ : ∃ v9 : Int32, xs (t_1 : Int32).toNatClampNeg = v9 := ⟨_, rfl⟩
  refine va_sld hx hb hX hbl hbA hS (vin_nat (by omega) (by omega)) dL_law_459 ?_
  rw [et_2]
  refine laAri (As := [.int t_2]) (rest := []) (wa := xL cB cI cJ cZ cS cT x0 A V) (wb := mL cB cI cJ cZ cS cT m0 B U) ⟨hx, hb, hml, hown, hts⟩ (f_X11_sign l G D cB cI cJ cZ cS cT x0 A V ok t_2) hP hD hS hA hK hN hT hAB hG1 (cvB (n := 1) (inr21 _ (List.mem_of_getElem? (i := 0) rfl)) (inr21 _ (List.mem_of_getElem? (i := 1) rfl)) (inr21 _ (List.mem_of_getElem? (i := 2) rfl)) (inr1 _ (List.mem_of_getElem? (i := 2) rfl)) (inr21 _ (List.mem_of_getElem? (i := 3) rfl)) (by decide +kernel) hts rfl rfl ⟨Nat.le_of_ble_eq_true rfl, Nat.le_of_ble_eq_true rfl⟩) 0 11 rfl rfl rfl rfl hl.1 rfl (Nat.le_of_ble_eq_true rfl) ⟨hcc, hss⟩ dL_law_460 (fun r_3 h_4 => ?_)
  refine lv_pop hx hb dL_law_463 rfl ?_
  refine lv_aload_n hx hb dL_law_464 rfl (lv_at hl 2 rfl) ?_
  refine lv_aload_n hx hb dL_law_465 rfl (lv_at hl 0 rfl) ?_
  refine lv_iload_n hx hb dL_law_466 rfl (lv_at hl 3 rfl) ?_
  refine lv_iconst (v := 1) hx hb dL_law_467 (by decide) ?_
  refine z_iadd (v := t_1) hx hb dL_law_468 et_1 ?_
  refine va_sld hx hb hX hbl hbA hS (vin_nat (by omega) (by omega)) dL_law_469 ?_
  rw [et_2]
  refine laBri (As := [.int t_2]) (rest := []) (wa := xL cB cI cJ cZ cS cT x0 A V) (wb := mL cB cI cJ cZ cS cT m0 B U) ⟨hx, hb, hml, hown, hts⟩ (f_X12_sign l G D cB cI cJ cZ cS cT m0 B U okm t_2) hP hD hS hA hK hN hT hAB hG1 (cvB (n := 1) (inr21 _ (List.mem_of_getElem? (i := 9) rfl)) (inr21 _ (List.mem_of_getElem? (i := 10) rfl)) (inr21 _ (List.mem_of_getElem? (i := 11) rfl)) (inr1 _ (List.mem_of_getElem? (i := 5) rfl)) (inr21 _ (List.mem_of_getElem? (i := 12) rfl)) (by decide +kernel) hts rfl rfl ⟨Nat.le_of_ble_eq_true rfl, Nat.le_of_ble_eq_true rfl⟩) 0 12 rfl rfl rfl rfl hl.1 rfl (Nat.le_of_ble_eq_true rfl) ⟨hcc, hss⟩ dL_law_470 (fun r_5 h_6 => ?_)
  refine lv_pop hx hb dL_law_473 rfl ?_
  refine lv_goto (tgt := 2115) hx hb dL_law_474 (by decide) ?_
  exact K V U H locs ls ok okm trivial hP hD hS (lv_sub hl [0, 1, 2, 3] rfl)

set_option maxHeartbeats 4000000 in
set_option maxRecDepth 100000 in
theorem law_5 {p : Program} {l : Launch} {e : Env} {s : State} {m : MethodId} {below : List Frame} {meth : Method} {c : Code} {G : Gho} {D : va_G} {cB cI cJ cZ cS cT : ClassId} {b L : Nat} {xs : Nat → Int32} {x0 m0 : Nat} {A B : Nat → Nat} {cells slots : Nat} (hL : L ≤ 3072) (C0 : lw_At p s m meth c b L xs) (hK : va_K D vwCl (tyL cB cI cJ cZ cS cT) s) (hN : kN s) (hT : kT G s s.heap) (hG : G.1 = s.heap.size) (hcc : cells ≤ 600000) (hss : slots ≤ 7302249) {H : Heap} {locs : List Loc} {ls : Array Slot} (V U : VX) (ok : xok V) (okm : mok U) (rel : True) (i3 : Int32) (hi : 0 ≤ i3.toInt ∧ i3.toInt + 6 ≤ (L : Int)) (hP : va_P D vwCl (xL cB cI cJ cZ cS cT x0 A V ++ mL cB cI cJ cZ cS cT m0 B U) H) (hD : va_D (fun q : Nat => s.heap.size ≤ q) (xL cB cI cJ cZ cS cT x0 A V ++ mL cB cI cJ cZ cS cT m0 B U)) (hS : va_S (fun q : Nat => s.heap.size ≤ q) s.heap H locs) (hl : lv_has ls 4 [(0, .ref b), (1, .ref x0), (2, .ref m0), (3, .int i3)]) (K : ∀ (V U : VX) (H : Heap) (locs : List Loc) (ls : Array Slot), xok V → mok U → True → va_P D vwCl (xL cB cI cJ cZ cS cT x0 A V ++ mL cB cI cJ cZ cS cT m0 B U) H → va_D (fun q : Nat => s.heap.size ≤ q) (xL cB cI cJ cZ cS cT x0 A V ++ mL cB cI cJ cZ cS cT m0 B U) → va_S (fun q : Nat => s.heap.size ≤ q) s.heap H locs → lv_has ls 4 [(0, .ref b), (1, .ref x0), (2, .ref m0), (3, .int i3)] → W p l e room_1 s m #[Value.ref b] below meth c H locs cells slots (lw_Z below #[Value.ref b] s) (F0 m 2115 ls [])) : W p l e room_1 s m #[Value.ref b] below meth c H locs cells slots (lw_Z below #[Value.ref b] s) (F0 m 477 ls []) := by
  obtain ⟨hx, hb, hr, hml, hown, hts0, hX, hbl, hlocks, hgv⟩ := id C0
  have hts : ∀ w ∈ wsL_law, w.before #[Value.ref b] s = true := fun w h => hts0 w (wsL_law_in w h)
  have hA : ∀ q : Nat, s.heap.size ≤ q → (fun q : Nat => s.heap.size ≤ q) q := fun _ h => h
  have hAB : ∀ q : Nat, (fun q : Nat => s.heap.size ≤ q) q → G.1 ≤ q := fun q h => by rw [hG]; exact h
  have hG1 : G.1 ≤ s.heap.size := by rw [hG]; exact Nat.le_refl _
  have hbA : ¬ (fun q : Nat => s.heap.size ≤ q) b := Nat.not_le.mpr hbl
  refine lv_aload_n hx hb dL_law_477 rfl (lv_at hl 1 rfl) ?_
  refine lv_aload_n hx hb dL_law_478 rfl (lv_at hl 0 rfl) ?_
  refine lv_iload_n hx hb dL_law_479 rfl (lv_at hl 3 rfl) ?_
  refine lv_iconst (v := 1) hx hb dL_law_480 (by decide) ?_
  obtain ⟨t_1, et_1⟩ : ∃ v9 : Int32, i3 + 1 = v9 := ⟨_, rfl⟩
  refine z_iadd (v := t_1) hx hb dL_law_481 et_1 ?_
  have b_i3 := i32b i3
  have ft_1 : t_1.toInt = i3.toInt + 1 := addT (a := i3.toInt) (b := 1) rfl (by decide) et_1 (by omega) (by omega)
  obtain ⟨t_2, et_2⟩ : ∃ v9 : Int32, xs (t_1 : Int32).toNatClampNeg = v9 := ⟨_, rfl⟩
  refine va_sld hx hb hX hbl hbA hS (vin_nat (by omega) (by omega)) dL_law_482 ?_
  rw [et_2]
  refine laAri (As := [.int t_2]) (rest := []) (wa := xL cB cI cJ cZ cS cT x0 A V) (wb := mL cB cI cJ cZ cS cT m0 B U) ⟨hx, hb, hml, hown, hts⟩ (f_X11_post l G D cB cI cJ cZ cS cT x0 A V ok t_2) hP hD hS hA hK hN hT hAB hG1 (cvB (n := 1) (inr21 _ (List.mem_of_getElem? (i := 13) rfl)) (inr21 _ (List.mem_of_getElem? (i := 14) rfl)) (inr21 _ (List.mem_of_getElem? (i := 15) rfl)) (inr1 _ (List.mem_of_getElem? (i := 2) rfl)) (inr21 _ (List.mem_of_getElem? (i := 16) rfl)) (by decide +kernel) hts rfl rfl ⟨Nat.le_of_ble_eq_true rfl, Nat.le_of_ble_eq_true rfl⟩) 0 11 rfl rfl rfl rfl hl.1 rfl (Nat.le_of_ble_eq_true rfl) ⟨hcc, hss⟩ dL_law_483 (fun r_3 h_4 => ?_)
  refine lv_pop hx hb dL_law_486 rfl ?_
  refine lv_aload_n hx hb dL_law_487 rfl (lv_at hl 2 rfl) ?_
  refine lv_aload_n hx hb dL_law_488 rfl (lv_at hl 0 rfl) ?_
  refine lv_iload_n hx hb dL_law_489 rfl (lv_at hl 3 rfl) ?_
  refine lv_iconst (v := 1) hx hb dL_law_490 (by decide) ?_
  refine z_iadd (v := t_1) hx hb dL_law_491 et_1 ?_
  refine va_sld hx hb hX hbl hbA hS (vin_nat (by omega) (by omega)) dL_law_492 ?_
  rw [et_2]
  refine laBri (As := [.int t_2]) (rest := []) (wa := xL cB cI cJ cZ cS cT x0 A V) (wb := mL cB cI cJ cZ cS cT m0 B U) ⟨hx, hb, hml, hown, hts⟩ (f_X12_post l G D cB cI cJ cZ cS cT m0 B U okm t_2) hP hD hS hA hK hN hT hAB hG1 (cvB (n := 1) (inr21 _ (List.mem_of_getElem? (i := 22) rfl)) (inr21 _ (List.mem_of_getElem? (i := 23) rfl)) (inr22 _ (List.mem_of_getElem? (i := 0) rfl)) (inr1 _ (List.mem_of_getElem? (i := 5) rfl)) (inr22 _ (List.mem_of_getElem? (i := 1) rfl)) (by decide +kernel) hts rfl rfl ⟨Nat.le_of_ble_eq_true rfl, Nat.le_of_ble_eq_true rfl⟩) 0 12 rfl rfl rfl rfl hl.1 rfl (Nat.le_of_ble_eq_true rfl) ⟨hcc, hss⟩ dL_law_493 (fun r_5 h_6 => ?_)
  refine lv_pop hx hb dL_law_496 rfl ?_
  refine lv_goto (tgt := 2115) hx hb dL_law_497 (by decide) ?_
  exact K V U H locs ls ok okm trivial hP hD hS (lv_sub hl [0, 1, 2, 3] rfl)

set_option maxHeartbeats 4000000 in
set_option maxRecDepth 100000 in
theorem law_6 {p : Program} {l : Launch} {e : Env} {s : State} {m : MethodId} {below : List Frame} {meth : Method} {c : Code} {G : Gho} {D : va_G} {cB cI cJ cZ cS cT : ClassId} {b L : Nat} {xs : Nat → Int32} {x0 m0 : Nat} {A B : Nat → Nat} {cells slots : Nat} (hL : L ≤ 3072) (C0 : lw_At p s m meth c b L xs) (hK : va_K D vwCl (tyL cB cI cJ cZ cS cT) s) (hN : kN s) (hT : kT G s s.heap) (hG : G.1 = s.heap.size) (hcc : cells ≤ 600000) (hss : slots ≤ 7302249) {H : Heap} {locs : List Loc} {ls : Array Slot} (V U : VX) (ok : xok V) (okm : mok U) (rel : True) (i3 : Int32) (hi : 0 ≤ i3.toInt ∧ i3.toInt + 6 ≤ (L : Int)) (hP : va_P D vwCl (xL cB cI cJ cZ cS cT x0 A V ++ mL cB cI cJ cZ cS cT m0 B U) H) (hD : va_D (fun q : Nat => s.heap.size ≤ q) (xL cB cI cJ cZ cS cT x0 A V ++ mL cB cI cJ cZ cS cT m0 B U)) (hS : va_S (fun q : Nat => s.heap.size ≤ q) s.heap H locs) (hl : lv_has ls 4 [(0, .ref b), (1, .ref x0), (2, .ref m0), (3, .int i3)]) (K : ∀ (V U : VX) (H : Heap) (locs : List Loc) (ls : Array Slot), xok V → mok U → True → va_P D vwCl (xL cB cI cJ cZ cS cT x0 A V ++ mL cB cI cJ cZ cS cT m0 B U) H → va_D (fun q : Nat => s.heap.size ≤ q) (xL cB cI cJ cZ cS cT x0 A V ++ mL cB cI cJ cZ cS cT m0 B U) → va_S (fun q : Nat => s.heap.size ≤ q) s.heap H locs → lv_has ls 4 [(0, .ref b), (1, .ref x0), (2, .ref m0), (3, .int i3)] → W p l e room_1 s m #[Value.ref b] below meth c H locs cells slots (lw_Z below #[Value.ref b] s) (F0 m 2115 ls [])) : W p l e room_1 s m #[Value.ref b] below meth c H locs cells slots (lw_Z below #[Value.ref b] s) (F0 m 500 ls []) := by
  obtain ⟨hx, hb, hr, hml, hown, hts0, hX, hbl, hlocks, hgv⟩ := id C0
  have hts : ∀ w ∈ wsL_law, w.before #[Value.ref b] s = true := fun w h => hts0 w (wsL_law_in w h)
  have hA : ∀ q : Nat, s.heap.size ≤ q → (fun q : Nat => s.heap.size ≤ q) q := fun _ h => h
  have hAB : ∀ q : Nat, (fun q : Nat => s.heap.size ≤ q) q → G.1 ≤ q := fun q h => by rw [hG]; exact h
  have hG1 : G.1 ≤ s.heap.size := by rw [hG]; exact Nat.le_refl _
  have hbA : ¬ (fun q : Nat => s.heap.size ≤ q) b := Nat.not_le.mpr hbl
  refine lv_aload_n hx hb dL_law_500 rfl (lv_at hl 1 rfl) ?_
  refine lv_aload_n hx hb dL_law_501 rfl (lv_at hl 0 rfl) ?_
  refine lv_iload_n hx hb dL_law_502 rfl (lv_at hl 3 rfl) ?_
  refine lv_iconst (v := 1) hx hb dL_law_503 (by decide) ?_
  obtain ⟨t_1, et_1⟩ : ∃ v9 : Int32, i3 + 1 = v9 := ⟨_, rfl⟩
  refine z_iadd (v := t_1) hx hb dL_law_504 et_1 ?_
  have b_i3 := i32b i3
  have ft_1 : t_1.toInt = i3.toInt + 1 := addT (a := i3.toInt) (b := 1) rfl (by decide) et_1 (by omega) (by omega)
  obtain ⟨t_2, et_2⟩ : ∃ v9 : Int32, xs (t_1 : Int32).toNatClampNeg = v9 := ⟨_, rfl⟩
  refine va_sld hx hb hX hbl hbA hS (vin_nat (by omega) (by omega)) dL_law_505 ?_
  rw [et_2]
  refine laAi (As := [.int t_2]) (rest := []) (wa := xL cB cI cJ cZ cS cT x0 A V) (wb := mL cB cI cJ cZ cS cT m0 B U) ⟨hx, hb, hml, hown, hts⟩ (f_X11_heard l G D cB cI cJ cZ cS cT H.size x0 A V ok t_2) hP hD hS hA hK hN hT hAB hG1 (cvB (n := 1) (inr22 _ (List.mem_of_getElem? (i := 2) rfl)) (inr22 _ (List.mem_of_getElem? (i := 3) rfl)) (inr22 _ (List.mem_of_getElem? (i := 4) rfl)) (inr1 _ (List.mem_of_getElem? (i := 2) rfl)) (inr22 _ (List.mem_of_getElem? (i := 5) rfl)) (by decide +kernel) hts rfl rfl ⟨Nat.le_of_ble_eq_true rfl, Nat.le_of_ble_eq_true rfl⟩) 0 11 rfl rfl rfl rfl hl.1 rfl (Nat.le_of_ble_eq_true rfl) ⟨hcc, hss⟩ dL_law_506 (fun r_3 V_5 H locs h_4 hP hD hS => ?_)
  refine lv_pop hx hb dL_law_509 rfl ?_
  refine lv_aload_n hx hb dL_law_510 rfl (lv_at hl 2 rfl) ?_
  refine lv_aload_n hx hb dL_law_511 rfl (lv_at hl 0 rfl) ?_
  refine lv_iload_n hx hb dL_law_512 rfl (lv_at hl 3 rfl) ?_
  refine lv_iconst (v := 1) hx hb dL_law_513 (by decide) ?_
  refine z_iadd (v := t_1) hx hb dL_law_514 et_1 ?_
  refine va_sld hx hb hX hbl hbA hS (vin_nat (by omega) (by omega)) dL_law_515 ?_
  rw [et_2]
  refine laBi (As := [.int t_2]) (rest := []) (wa := xL cB cI cJ cZ cS cT x0 A V_5) (wb := mL cB cI cJ cZ cS cT m0 B U) ⟨hx, hb, hml, hown, hts⟩ (f_X12_heard l G D cB cI cJ cZ cS cT H.size m0 B U okm t_2) hP hD hS hA hK hN hT hAB hG1 (cvB (n := 1) (inr23 _ (List.mem_of_getElem? (i := 19) rfl)) (inr23 _ (List.mem_of_getElem? (i := 20) rfl)) (inr23 _ (List.mem_of_getElem? (i := 21) rfl)) (inr1 _ (List.mem_of_getElem? (i := 5) rfl)) (inr23 _ (List.mem_of_getElem? (i := 22) rfl)) (by decide +kernel) hts rfl rfl ⟨Nat.le_of_ble_eq_true rfl, Nat.le_of_ble_eq_true rfl⟩) 0 12 rfl rfl rfl rfl hl.1 rfl (Nat.le_of_ble_eq_true rfl) ⟨hcc, hss⟩ dL_law_516 (fun r_7 U_9 H locs h_8 hP hD hS => ?_)
  refine lv_pop hx hb dL_law_519 rfl ?_
  refine lv_goto (tgt := 2115) hx hb dL_law_520 (by decide) ?_
  exact K V_5 U_9 H locs ls h_4 h_8 trivial hP hD hS (lv_sub hl [0, 1, 2, 3] rfl)

set_option maxHeartbeats 4000000 in
set_option maxRecDepth 100000 in
theorem law_7 {p : Program} {l : Launch} {e : Env} {s : State} {m : MethodId} {below : List Frame} {meth : Method} {c : Code} {G : Gho} {D : va_G} {cB cI cJ cZ cS cT : ClassId} {b L : Nat} {xs : Nat → Int32} {x0 m0 : Nat} {A B : Nat → Nat} {cells slots : Nat} (hL : L ≤ 3072) (C0 : lw_At p s m meth c b L xs) (hK : va_K D vwCl (tyL cB cI cJ cZ cS cT) s) (hN : kN s) (hT : kT G s s.heap) (hG : G.1 = s.heap.size) (hcc : cells ≤ 600000) (hss : slots ≤ 7302249) {H : Heap} {locs : List Loc} {ls : Array Slot} (V U : VX) (ok : xok V) (okm : mok U) (rel : True) (i3 : Int32) (hi : 0 ≤ i3.toInt ∧ i3.toInt + 6 ≤ (L : Int)) (hP : va_P D vwCl (xL cB cI cJ cZ cS cT x0 A V ++ mL cB cI cJ cZ cS cT m0 B U) H) (hD : va_D (fun q : Nat => s.heap.size ≤ q) (xL cB cI cJ cZ cS cT x0 A V ++ mL cB cI cJ cZ cS cT m0 B U)) (hS : va_S (fun q : Nat => s.heap.size ≤ q) s.heap H locs) (hl : lv_has ls 4 [(0, .ref b), (1, .ref x0), (2, .ref m0), (3, .int i3)]) (K : ∀ (V U : VX) (H : Heap) (locs : List Loc) (ls : Array Slot), xok V → mok U → True → va_P D vwCl (xL cB cI cJ cZ cS cT x0 A V ++ mL cB cI cJ cZ cS cT m0 B U) H → va_D (fun q : Nat => s.heap.size ≤ q) (xL cB cI cJ cZ cS cT x0 A V ++ mL cB cI cJ cZ cS cT m0 B U) → va_S (fun q : Nat => s.heap.size ≤ q) s.heap H locs → lv_has ls 4 [(0, .ref b), (1, .ref x0), (2, .ref m0), (3, .int i3)] → W p l e room_1 s m #[Value.ref b] below meth c H locs cells slots (lw_Z below #[Value.ref b] s) (F0 m 2115 ls [])) : W p l e room_1 s m #[Value.ref b] below meth c H locs cells slots (lw_Z below #[Value.ref b] s) (F0 m 523 ls []) := by
  obtain ⟨hx, hb, hr, hml, hown, hts0, hX, hbl, hlocks, hgv⟩ := id C0
  have hts : ∀ w ∈ wsL_law, w.before #[Value.ref b] s = true := fun w h => hts0 w (wsL_law_in w h)
  have hA : ∀ q : Nat, s.heap.size ≤ q → (fun q : Nat => s.heap.size ≤ q) q := fun _ h => h
  have hAB : ∀ q : Nat, (fun q : Nat => s.heap.size ≤ q) q → G.1 ≤ q := fun q h => by rw [hG]; exact h
  have hG1 : G.1 ≤ s.heap.size := by rw [hG]; exact Nat.le_refl _
  have hbA : ¬ (fun q : Nat => s.heap.size ≤ q) b := Nat.not_le.mpr hbl
  refine lv_aload_n hx hb dL_law_523 rfl (lv_at hl 1 rfl) ?_
  refine lv_aload_n hx hb dL_law_524 rfl (lv_at hl 0 rfl) ?_
  refine lv_iload_n hx hb dL_law_525 rfl (lv_at hl 3 rfl) ?_
  refine lv_iconst (v := 1) hx hb dL_law_526 (by decide) ?_
  obtain ⟨t_1, et_1⟩ : ∃ v9 : Int32, i3 + 1 = v9 := ⟨_, rfl⟩
  refine z_iadd (v := t_1) hx hb dL_law_527 et_1 ?_
  have b_i3 := i32b i3
  have ft_1 : t_1.toInt = i3.toInt + 1 := addT (a := i3.toInt) (b := 1) rfl (by decide) et_1 (by omega) (by omega)
  obtain ⟨t_2, et_2⟩ : ∃ v9 : Int32, xs (t_1 : Int32).toNatClampNeg = v9 := ⟨_, rfl⟩
  refine va_sld hx hb hX hbl hbA hS (vin_nat (by omega) (by omega)) dL_law_528 ?_
  rw [et_2]
  refine laAi (As := [.int t_2]) (rest := []) (wa := xL cB cI cJ cZ cS cT x0 A V) (wb := mL cB cI cJ cZ cS cT m0 B U) ⟨hx, hb, hml, hown, hts⟩ (f_X11_last l G D cB cI cJ cZ cS cT H.size x0 A V ok t_2) hP hD hS hA hK hN hT hAB hG1 (cvB (n := 1) (inr26 _ (List.mem_of_getElem? (i := 10) rfl)) (inr26 _ (List.mem_of_getElem? (i := 11) rfl)) (inr26 _ (List.mem_of_getElem? (i := 12) rfl)) (inr1 _ (List.mem_of_getElem? (i := 2) rfl)) (inr26 _ (List.mem_of_getElem? (i := 13) rfl)) (by decide +kernel) hts rfl rfl ⟨Nat.le_of_ble_eq_true rfl, Nat.le_of_ble_eq_true rfl⟩) 0 11 rfl rfl rfl rfl hl.1 rfl (Nat.le_of_ble_eq_true rfl) ⟨hcc, hss⟩ dL_law_529 (fun r_3 V_5 H locs h_4 hP hD hS => ?_)
  refine lv_pop hx hb dL_law_532 rfl ?_
  refine lv_aload_n hx hb dL_law_533 rfl (lv_at hl 2 rfl) ?_
  refine lv_aload_n hx hb dL_law_534 rfl (lv_at hl 0 rfl) ?_
  refine lv_iload_n hx hb dL_law_535 rfl (lv_at hl 3 rfl) ?_
  refine lv_iconst (v := 1) hx hb dL_law_536 (by decide) ?_
  refine z_iadd (v := t_1) hx hb dL_law_537 et_1 ?_
  refine va_sld hx hb hX hbl hbA hS (vin_nat (by omega) (by omega)) dL_law_538 ?_
  rw [et_2]
  refine laBi (As := [.int t_2]) (rest := []) (wa := xL cB cI cJ cZ cS cT x0 A V_5) (wb := mL cB cI cJ cZ cS cT m0 B U) ⟨hx, hb, hml, hown, hts⟩ (f_X12_last l G D cB cI cJ cZ cS cT H.size m0 B U okm t_2) hP hD hS hA hK hN hT hAB hG1 (cvB (n := 1) (inr26 _ (List.mem_of_getElem? (i := 18) rfl)) (inr26 _ (List.mem_of_getElem? (i := 19) rfl)) (inr26 _ (List.mem_of_getElem? (i := 20) rfl)) (inr1 _ (List.mem_of_getElem? (i := 5) rfl)) (inr26 _ (List.mem_of_getElem? (i := 21) rfl)) (by decide +kernel) hts rfl rfl ⟨Nat.le_of_ble_eq_true rfl, Nat.le_of_ble_eq_true rfl⟩) 0 12 rfl rfl rfl rfl hl.1 rfl (Nat.le_of_ble_eq_true rfl) ⟨hcc, hss⟩ dL_law_539 (fun r_7 U_9 H locs h_8 hP hD hS => ?_)
  refine lv_pop hx hb dL_law_542 rfl ?_
  refine lv_goto (tgt := 2115) hx hb dL_law_543 (by decide) ?_
  exact K V_5 U_9 H locs ls h_4 h_8 trivial hP hD hS (lv_sub hl [0, 1, 2, 3] rfl)

set_option maxHeartbeats 4000000 in
set_option maxRecDepth 100000 in
theorem law_8 {p : Program} {l : Launch} {e : Env} {s : State} {m : MethodId} {below : List Frame} {meth : Method} {c : Code} {G : Gho} {D : va_G} {cB cI cJ cZ cS cT : ClassId} {b L : Nat} {xs : Nat → Int32} {x0 m0 : Nat} {A B : Nat → Nat} {cells slots : Nat} (hL : L ≤ 3072) (C0 : lw_At p s m meth c b L xs) (hK : va_K D vwCl (tyL cB cI cJ cZ cS cT) s) (hN : kN s) (hT : kT G s s.heap) (hG : G.1 = s.heap.size) (hcc : cells ≤ 600000) (hss : slots ≤ 7302249) {H : Heap} {locs : List Loc} {ls : Array Slot} (V U : VX) (ok : xok V) (okm : mok U) (rel : True) (i3 : Int32) (hi : 0 ≤ i3.toInt ∧ i3.toInt + 6 ≤ (L : Int)) (hP : va_P D vwCl (xL cB cI cJ cZ cS cT x0 A V ++ mL cB cI cJ cZ cS cT m0 B U) H) (hD : va_D (fun q : Nat => s.heap.size ≤ q) (xL cB cI cJ cZ cS cT x0 A V ++ mL cB cI cJ cZ cS cT m0 B U)) (hS : va_S (fun q : Nat => s.heap.size ≤ q) s.heap H locs) (hl : lv_has ls 4 [(0, .ref b), (1, .ref x0), (2, .ref m0), (3, .int i3)]) (K : ∀ (V U : VX) (H : Heap) (locs : List Loc) (ls : Array Slot), xok V → mok U → True → va_P D vwCl (xL cB cI cJ cZ cS cT x0 A V ++ mL cB cI cJ cZ cS cT m0 B U) H → va_D (fun q : Nat => s.heap.size ≤ q) (xL cB cI cJ cZ cS cT x0 A V ++ mL cB cI cJ cZ cS cT m0 B U) → va_S (fun q : Nat => s.heap.size ≤ q) s.heap H locs → lv_has ls 4 [(0, .ref b), (1, .ref x0), (2, .ref m0), (3, .int i3)] → W p l e room_1 s m #[Value.ref b] below meth c H locs cells slots (lw_Z below #[Value.ref b] s) (F0 m 2115 ls [])) : W p l e room_1 s m #[Value.ref b] below meth c H locs cells slots (lw_Z below #[Value.ref b] s) (F0 m 546 ls []) := by
  obtain ⟨hx, hb, hr, hml, hown, hts0, hX, hbl, hlocks, hgv⟩ := id C0
  have hts : ∀ w ∈ wsL_law, w.before #[Value.ref b] s = true := fun w h => hts0 w (wsL_law_in w h)
  have hA : ∀ q : Nat, s.heap.size ≤ q → (fun q : Nat => s.heap.size ≤ q) q := fun _ h => h
  have hAB : ∀ q : Nat, (fun q : Nat => s.heap.size ≤ q) q → G.1 ≤ q := fun q h => by rw [hG]; exact h
  have hG1 : G.1 ≤ s.heap.size := by rw [hG]; exact Nat.le_refl _
  have hbA : ¬ (fun q : Nat => s.heap.size ≤ q) b := Nat.not_le.mpr hbl
  refine lv_aload_n hx hb dL_law_546 rfl (lv_at hl 1 rfl) ?_
  refine lv_aload_n hx hb dL_law_547 rfl (lv_at hl 0 rfl) ?_
  refine lv_iload_n hx hb dL_law_548 rfl (lv_at hl 3 rfl) ?_
  refine lv_iconst (v := 1) hx hb dL_law_549 (by decide) ?_
  obtain ⟨t_1, et_1⟩ : ∃ v9 : Int32, i3 + 1 = v9 := ⟨_, rfl⟩
  refine z_iadd (v := t_1) hx hb dL_law_550 et_1 ?_
  have b_i3 := i32b i3
  have ft_1 : t_1.toInt = i3.toInt + 1 := addT (a := i3.toInt) (b := 1) rfl (by decide) et_1 (by omega) (by omega)
  obtain ⟨t_2, et_2⟩ : ∃ v9 : Int32, xs (t_1 : Int32).toNatClampNeg = v9 := ⟨_, rfl⟩
  refine va_sld hx hb hX hbl hbA hS (vin_nat (by omega) (by omega)) dL_law_551 ?_
  rw [et_2]
  refine laAi (As := [.int t_2]) (rest := []) (wa := xL cB cI cJ cZ cS cT x0 A V) (wb := mL cB cI cJ cZ cS cT m0 B U) ⟨hx, hb, hml, hown, hts⟩ (f_X11_answer l G D cB cI cJ cZ cS cT H.size x0 A V ok t_2) hP hD hS hA hK hN hT hAB hG1 (cvB (n := 1) (inr26 _ (List.mem_of_getElem? (i := 22) rfl)) (inr26 _ (List.mem_of_getElem? (i := 23) rfl)) (inr27 _ (List.mem_of_getElem? (i := 0) rfl)) (inr1 _ (List.mem_of_getElem? (i := 2) rfl)) (inr27 _ (List.mem_of_getElem? (i := 1) rfl)) (by decide +kernel) hts rfl rfl ⟨Nat.le_of_ble_eq_true rfl, Nat.le_of_ble_eq_true rfl⟩) 0 11 rfl rfl rfl rfl hl.1 rfl (Nat.le_of_ble_eq_true rfl) ⟨hcc, hss⟩ dL_law_552 (fun r_3 V_5 H locs h_4 hP hD hS => ?_)
  refine lv_pop hx hb dL_law_555 rfl ?_
  refine lv_aload_n hx hb dL_law_556 rfl (lv_at hl 2 rfl) ?_
  refine lv_aload_n hx hb dL_law_557 rfl (lv_at hl 0 rfl) ?_
  refine lv_iload_n hx hb dL_law_558 rfl (lv_at hl 3 rfl) ?_
  refine lv_iconst (v := 1) hx hb dL_law_559 (by decide) ?_
  refine z_iadd (v := t_1) hx hb dL_law_560 et_1 ?_
  refine va_sld hx hb hX hbl hbA hS (vin_nat (by omega) (by omega)) dL_law_561 ?_
  rw [et_2]
  refine laBi (As := [.int t_2]) (rest := []) (wa := xL cB cI cJ cZ cS cT x0 A V_5) (wb := mL cB cI cJ cZ cS cT m0 B U) ⟨hx, hb, hml, hown, hts⟩ (f_X12_answer l G D cB cI cJ cZ cS cT H.size m0 B U okm t_2) hP hD hS hA hK hN hT hAB hG1 (cvB (n := 1) (inr27 _ (List.mem_of_getElem? (i := 6) rfl)) (inr27 _ (List.mem_of_getElem? (i := 7) rfl)) (inr27 _ (List.mem_of_getElem? (i := 8) rfl)) (inr1 _ (List.mem_of_getElem? (i := 5) rfl)) (inr27 _ (List.mem_of_getElem? (i := 9) rfl)) (by decide +kernel) hts rfl rfl ⟨Nat.le_of_ble_eq_true rfl, Nat.le_of_ble_eq_true rfl⟩) 0 12 rfl rfl rfl rfl hl.1 rfl (Nat.le_of_ble_eq_true rfl) ⟨hcc, hss⟩ dL_law_562 (fun r_7 U_9 H locs h_8 hP hD hS => ?_)
  refine lv_pop hx hb dL_law_565 rfl ?_
  refine lv_goto (tgt := 2115) hx hb dL_law_566 (by decide) ?_
  exact K V_5 U_9 H locs ls h_4 h_8 trivial hP hD hS (lv_sub hl [0, 1, 2, 3] rfl)

set_option maxHeartbeats 4000000 in
set_option maxRecDepth 100000 in
theorem law_9 {p : Program} {l : Launch} {e : Env} {s : State} {m : MethodId} {below : List Frame} {meth : Method} {c : Code} {G : Gho} {D : va_G} {cB cI cJ cZ cS cT : ClassId} {b L : Nat} {xs : Nat → Int32} {x0 m0 : Nat} {A B : Nat → Nat} {cells slots : Nat} (hL : L ≤ 3072) (C0 : lw_At p s m meth c b L xs) (hK : va_K D vwCl (tyL cB cI cJ cZ cS cT) s) (hN : kN s) (hT : kT G s s.heap) (hG : G.1 = s.heap.size) (hcc : cells ≤ 600000) (hss : slots ≤ 7302249) {H : Heap} {locs : List Loc} {ls : Array Slot} (V U : VX) (ok : xok V) (okm : mok U) (rel : True) (i3 : Int32) (hi : 0 ≤ i3.toInt ∧ i3.toInt + 6 ≤ (L : Int)) (hP : va_P D vwCl (xL cB cI cJ cZ cS cT x0 A V ++ mL cB cI cJ cZ cS cT m0 B U) H) (hD : va_D (fun q : Nat => s.heap.size ≤ q) (xL cB cI cJ cZ cS cT x0 A V ++ mL cB cI cJ cZ cS cT m0 B U)) (hS : va_S (fun q : Nat => s.heap.size ≤ q) s.heap H locs) (hl : lv_has ls 4 [(0, .ref b), (1, .ref x0), (2, .ref m0), (3, .int i3)]) (K : ∀ (V U : VX) (H : Heap) (locs : List Loc) (ls : Array Slot), xok V → mok U → True → va_P D vwCl (xL cB cI cJ cZ cS cT x0 A V ++ mL cB cI cJ cZ cS cT m0 B U) H → va_D (fun q : Nat => s.heap.size ≤ q) (xL cB cI cJ cZ cS cT x0 A V ++ mL cB cI cJ cZ cS cT m0 B U) → va_S (fun q : Nat => s.heap.size ≤ q) s.heap H locs → lv_has ls 4 [(0, .ref b), (1, .ref x0), (2, .ref m0), (3, .int i3)] → W p l e room_1 s m #[Value.ref b] below meth c H locs cells slots (lw_Z below #[Value.ref b] s) (F0 m 2115 ls [])) : W p l e room_1 s m #[Value.ref b] below meth c H locs cells slots (lw_Z below #[Value.ref b] s) (F0 m 569 ls []) := by
  obtain ⟨hx, hb, hr, hml, hown, hts0, hX, hbl, hlocks, hgv⟩ := id C0
  have hts : ∀ w ∈ wsL_law, w.before #[Value.ref b] s = true := fun w h => hts0 w (wsL_law_in w h)
  have hA : ∀ q : Nat, s.heap.size ≤ q → (fun q : Nat => s.heap.size ≤ q) q := fun _ h => h
  have hAB : ∀ q : Nat, (fun q : Nat => s.heap.size ≤ q) q → G.1 ≤ q := fun q h => by rw [hG]; exact h
  have hG1 : G.1 ≤ s.heap.size := by rw [hG]; exact Nat.le_refl _
  have hbA : ¬ (fun q : Nat => s.heap.size ≤ q) b := Nat.not_le.mpr hbl
  refine lv_aload_n hx hb dL_law_569 rfl (lv_at hl 1 rfl) ?_
  refine lv_aload_n hx hb dL_law_570 rfl (lv_at hl 0 rfl) ?_
  refine lv_iload_n hx hb dL_law_571 rfl (lv_at hl 3 rfl) ?_
  refine lv_iconst (v := 1) hx hb dL_law_572 (by decide) ?_
  obtain ⟨t_1, et_1⟩ : ∃ v9 : Int32, i3 + 1 = v9 := ⟨_, rfl⟩
  refine z_iadd (v := t_1) hx hb dL_law_573 et_1 ?_
  have b_i3 := i32b i3
  have ft_1 : t_1.toInt = i3.toInt + 1 := addT (a := i3.toInt) (b := 1) rfl (by decide) et_1 (by omega) (by omega)
  obtain ⟨t_2, et_2⟩ : ∃ v9 : Int32, xs (t_1 : Int32).toNatClampNeg = v9 := ⟨_, rfl⟩
  refine va_sld hx hb hX hbl hbA hS (vin_nat (by omega) (by omega)) dL_law_574 ?_
  rw [et_2]
  refine laAri (As := [.int t_2]) (rest := []) (wa := xL cB cI cJ cZ cS cT x0 A V) (wb := mL cB cI cJ cZ cS cT m0 B U) ⟨hx, hb, hml, hown, hts⟩ (f_X11_gaps l G D cB cI cJ cZ cS cT x0 A V ok t_2) hP hD hS hA hK hN hT hAB hG1 (cvB (n := 1) (inr27 _ (List.mem_of_getElem? (i := 10) rfl)) (inr27 _ (List.mem_of_getElem? (i := 11) rfl)) (inr27 _ (List.mem_of_getElem? (i := 12) rfl)) (inr1 _ (List.mem_of_getElem? (i := 2) rfl)) (inr27 _ (List.mem_of_getElem? (i := 13) rfl)) (by decide +kernel) hts rfl rfl ⟨Nat.le_of_ble_eq_true rfl, Nat.le_of_ble_eq_true rfl⟩) 0 11 rfl rfl rfl rfl hl.1 rfl (Nat.le_of_ble_eq_true rfl) ⟨hcc, hss⟩ dL_law_575 (fun r_3 h_4 => ?_)
  refine lv_pop hx hb dL_law_578 rfl ?_
  refine lv_aload_n hx hb dL_law_579 rfl (lv_at hl 2 rfl) ?_
  refine lv_aload_n hx hb dL_law_580 rfl (lv_at hl 0 rfl) ?_
  refine lv_iload_n hx hb dL_law_581 rfl (lv_at hl 3 rfl) ?_
  refine lv_iconst (v := 1) hx hb dL_law_582 (by decide) ?_
  refine z_iadd (v := t_1) hx hb dL_law_583 et_1 ?_
  refine va_sld hx hb hX hbl hbA hS (vin_nat (by omega) (by omega)) dL_law_584 ?_
  rw [et_2]
  refine laBi (As := [.int t_2]) (rest := []) (wa := xL cB cI cJ cZ cS cT x0 A V) (wb := mL cB cI cJ cZ cS cT m0 B U) ⟨hx, hb, hml, hown, hts⟩ (f_X12_gaps l G D cB cI cJ cZ cS cT H.size m0 B U okm t_2) hP hD hS hA hK hN hT hAB hG1 (cvB (n := 1) (inr27 _ (List.mem_of_getElem? (i := 15) rfl)) (inr27 _ (List.mem_of_getElem? (i := 16) rfl)) (inr27 _ (List.mem_of_getElem? (i := 17) rfl)) (inr1 _ (List.mem_of_getElem? (i := 5) rfl)) (inr27 _ (List.mem_of_getElem? (i := 18) rfl)) (by decide +kernel) hts rfl rfl ⟨Nat.le_of_ble_eq_true rfl, Nat.le_of_ble_eq_true rfl⟩) 0 12 rfl rfl rfl rfl hl.1 rfl (Nat.le_of_ble_eq_true rfl) ⟨hcc, hss⟩ dL_law_585 (fun r_5 U_7 H locs h_6 hP hD hS => ?_)
  refine lv_pop hx hb dL_law_588 rfl ?_
  refine lv_goto (tgt := 2115) hx hb dL_law_589 (by decide) ?_
  exact K V U_7 H locs ls ok h_6 trivial hP hD hS (lv_sub hl [0, 1, 2, 3] rfl)

set_option maxHeartbeats 4000000 in
set_option maxRecDepth 100000 in
theorem law_10 {p : Program} {l : Launch} {e : Env} {s : State} {m : MethodId} {below : List Frame} {meth : Method} {c : Code} {G : Gho} {D : va_G} {cB cI cJ cZ cS cT : ClassId} {b L : Nat} {xs : Nat → Int32} {x0 m0 : Nat} {A B : Nat → Nat} {cells slots : Nat} (hL : L ≤ 3072) (C0 : lw_At p s m meth c b L xs) (hK : va_K D vwCl (tyL cB cI cJ cZ cS cT) s) (hN : kN s) (hT : kT G s s.heap) (hG : G.1 = s.heap.size) (hcc : cells ≤ 600000) (hss : slots ≤ 7302249) {H : Heap} {locs : List Loc} {ls : Array Slot} (V U : VX) (ok : xok V) (okm : mok U) (rel : True) (i3 : Int32) (hi : 0 ≤ i3.toInt ∧ i3.toInt + 6 ≤ (L : Int)) (hP : va_P D vwCl (xL cB cI cJ cZ cS cT x0 A V ++ mL cB cI cJ cZ cS cT m0 B U) H) (hD : va_D (fun q : Nat => s.heap.size ≤ q) (xL cB cI cJ cZ cS cT x0 A V ++ mL cB cI cJ cZ cS cT m0 B U)) (hS : va_S (fun q : Nat => s.heap.size ≤ q) s.heap H locs) (hl : lv_has ls 4 [(0, .ref b), (1, .ref x0), (2, .ref m0), (3, .int i3)]) (K : ∀ (V U : VX) (H : Heap) (locs : List Loc) (ls : Array Slot), xok V → mok U → True → va_P D vwCl (xL cB cI cJ cZ cS cT x0 A V ++ mL cB cI cJ cZ cS cT m0 B U) H → va_D (fun q : Nat => s.heap.size ≤ q) (xL cB cI cJ cZ cS cT x0 A V ++ mL cB cI cJ cZ cS cT m0 B U) → va_S (fun q : Nat => s.heap.size ≤ q) s.heap H locs → lv_has ls 4 [(0, .ref b), (1, .ref x0), (2, .ref m0), (3, .int i3)] → W p l e room_1 s m #[Value.ref b] below meth c H locs cells slots (lw_Z below #[Value.ref b] s) (F0 m 2115 ls [])) : W p l e room_1 s m #[Value.ref b] below meth c H locs cells slots (lw_Z below #[Value.ref b] s) (F0 m 592 ls []) := by
  obtain ⟨hx, hb, hr, hml, hown, hts0, hX, hbl, hlocks, hgv⟩ := id C0
  have hts : ∀ w ∈ wsL_law, w.before #[Value.ref b] s = true := fun w h => hts0 w (wsL_law_in w h)
  have hA : ∀ q : Nat, s.heap.size ≤ q → (fun q : Nat => s.heap.size ≤ q) q := fun _ h => h
  have hAB : ∀ q : Nat, (fun q : Nat => s.heap.size ≤ q) q → G.1 ≤ q := fun q h => by rw [hG]; exact h
  have hG1 : G.1 ≤ s.heap.size := by rw [hG]; exact Nat.le_refl _
  have hbA : ¬ (fun q : Nat => s.heap.size ≤ q) b := Nat.not_le.mpr hbl
  refine lv_aload_n hx hb dL_law_592 rfl (lv_at hl 1 rfl) ?_
  refine lv_aload_n hx hb dL_law_593 rfl (lv_at hl 0 rfl) ?_
  refine lv_iload_n hx hb dL_law_594 rfl (lv_at hl 3 rfl) ?_
  refine lv_iconst (v := 1) hx hb dL_law_595 (by decide) ?_
  obtain ⟨t_1, et_1⟩ : ∃ v9 : Int32, i3 + 1 = v9 := ⟨_, rfl⟩
  refine z_iadd (v := t_1) hx hb dL_law_596 et_1 ?_
  have b_i3 := i32b i3
  have ft_1 : t_1.toInt = i3.toInt + 1 := addT (a := i3.toInt) (b := 1) rfl (by decide) et_1 (by omega) (by omega)
  obtain ⟨t_2, et_2⟩ : ∃ v9 : Int32, xs (t_1 : Int32).toNatClampNeg = v9 := ⟨_, rfl⟩
  refine va_sld hx hb hX hbl hbA hS (vin_nat (by omega) (by omega)) dL_law_597 ?_
  rw [et_2]
  refine laAi (As := [.int t_2]) (rest := []) (wa := xL cB cI cJ cZ cS cT x0 A V) (wb := mL cB cI cJ cZ cS cT m0 B U) ⟨hx, hb, hml, hown, hts⟩ (f_X11_pips l G D cB cI cJ cZ cS cT H.size x0 A V ok t_2) hP hD hS hA hK hN hT hAB hG1 (cvB (n := 1) (inr27 _ (List.mem_of_getElem? (i := 19) rfl)) (inr27 _ (List.mem_of_getElem? (i := 20) rfl)) (inr27 _ (List.mem_of_getElem? (i := 21) rfl)) (inr1 _ (List.mem_of_getElem? (i := 2) rfl)) (inr27 _ (List.mem_of_getElem? (i := 22) rfl)) (by decide +kernel) hts rfl rfl ⟨Nat.le_of_ble_eq_true rfl, Nat.le_of_ble_eq_true rfl⟩) 0 11 rfl rfl rfl rfl hl.1 rfl (Nat.le_of_ble_eq_true rfl) ⟨hcc, hss⟩ dL_law_598 (fun r_3 V_5 H locs h_4 hP hD hS => ?_)
  refine lv_pop hx hb dL_law_601 rfl ?_
  refine lv_aload_n hx hb dL_law_602 rfl (lv_at hl 2 rfl) ?_
  refine lv_aload_n hx hb dL_law_603 rfl (lv_at hl 0 rfl) ?_
  refine lv_iload_n hx hb dL_law_604 rfl (lv_at hl 3 rfl) ?_
  refine lv_iconst (v := 1) hx hb dL_law_605 (by decide) ?_
  refine z_iadd (v := t_1) hx hb dL_law_606 et_1 ?_
  refine va_sld hx hb hX hbl hbA hS (vin_nat (by omega) (by omega)) dL_law_607 ?_
  rw [et_2]
  refine laBi (As := [.int t_2]) (rest := []) (wa := xL cB cI cJ cZ cS cT x0 A V_5) (wb := mL cB cI cJ cZ cS cT m0 B U) ⟨hx, hb, hml, hown, hts⟩ (f_X12_pips l G D cB cI cJ cZ cS cT H.size m0 B U okm t_2) hP hD hS hA hK hN hT hAB hG1 (cvB (n := 1) (inr28 _ (List.mem_of_getElem? (i := 3) rfl)) (inr28 _ (List.mem_of_getElem? (i := 4) rfl)) (inr28 _ (List.mem_of_getElem? (i := 5) rfl)) (inr1 _ (List.mem_of_getElem? (i := 5) rfl)) (inr28 _ (List.mem_of_getElem? (i := 6) rfl)) (by decide +kernel) hts rfl rfl ⟨Nat.le_of_ble_eq_true rfl, Nat.le_of_ble_eq_true rfl⟩) 0 12 rfl rfl rfl rfl hl.1 rfl (Nat.le_of_ble_eq_true rfl) ⟨hcc, hss⟩ dL_law_608 (fun r_7 U_9 H locs h_8 hP hD hS => ?_)
  refine lv_pop hx hb dL_law_611 rfl ?_
  refine lv_goto (tgt := 2115) hx hb dL_law_612 (by decide) ?_
  exact K V_5 U_9 H locs ls h_4 h_8 trivial hP hD hS (lv_sub hl [0, 1, 2, 3] rfl)

set_option maxHeartbeats 4000000 in
set_option maxRecDepth 100000 in
theorem law_11 {p : Program} {l : Launch} {e : Env} {s : State} {m : MethodId} {below : List Frame} {meth : Method} {c : Code} {G : Gho} {D : va_G} {cB cI cJ cZ cS cT : ClassId} {b L : Nat} {xs : Nat → Int32} {x0 m0 : Nat} {A B : Nat → Nat} {cells slots : Nat} (hL : L ≤ 3072) (C0 : lw_At p s m meth c b L xs) (hK : va_K D vwCl (tyL cB cI cJ cZ cS cT) s) (hN : kN s) (hT : kT G s s.heap) (hG : G.1 = s.heap.size) (hcc : cells ≤ 600000) (hss : slots ≤ 7302249) {H : Heap} {locs : List Loc} {ls : Array Slot} (V U : VX) (ok : xok V) (okm : mok U) (rel : True) (i3 : Int32) (hi : 0 ≤ i3.toInt ∧ i3.toInt + 6 ≤ (L : Int)) (hP : va_P D vwCl (xL cB cI cJ cZ cS cT x0 A V ++ mL cB cI cJ cZ cS cT m0 B U) H) (hD : va_D (fun q : Nat => s.heap.size ≤ q) (xL cB cI cJ cZ cS cT x0 A V ++ mL cB cI cJ cZ cS cT m0 B U)) (hS : va_S (fun q : Nat => s.heap.size ≤ q) s.heap H locs) (hl : lv_has ls 4 [(0, .ref b), (1, .ref x0), (2, .ref m0), (3, .int i3)]) (K : ∀ (V U : VX) (H : Heap) (locs : List Loc) (ls : Array Slot), xok V → mok U → True → va_P D vwCl (xL cB cI cJ cZ cS cT x0 A V ++ mL cB cI cJ cZ cS cT m0 B U) H → va_D (fun q : Nat => s.heap.size ≤ q) (xL cB cI cJ cZ cS cT x0 A V ++ mL cB cI cJ cZ cS cT m0 B U) → va_S (fun q : Nat => s.heap.size ≤ q) s.heap H locs → lv_has ls 4 [(0, .ref b), (1, .ref x0), (2, .ref m0), (3, .int i3)] → W p l e room_1 s m #[Value.ref b] below meth c H locs cells slots (lw_Z below #[Value.ref b] s) (F0 m 2115 ls [])) : W p l e room_1 s m #[Value.ref b] below meth c H locs cells slots (lw_Z below #[Value.ref b] s) (F0 m 615 ls []) := by
  obtain ⟨hx, hb, hr, hml, hown, hts0, hX, hbl, hlocks, hgv⟩ := id C0
  have hts : ∀ w ∈ wsL_law, w.before #[Value.ref b] s = true := fun w h => hts0 w (wsL_law_in w h)
  have hA : ∀ q : Nat, s.heap.size ≤ q → (fun q : Nat => s.heap.size ≤ q) q := fun _ h => h
  have hAB : ∀ q : Nat, (fun q : Nat => s.heap.size ≤ q) q → G.1 ≤ q := fun q h => by rw [hG]; exact h
  have hG1 : G.1 ≤ s.heap.size := by rw [hG]; exact Nat.le_refl _
  have hbA : ¬ (fun q : Nat => s.heap.size ≤ q) b := Nat.not_le.mpr hbl
  refine lv_aload_n hx hb dL_law_615 rfl (lv_at hl 1 rfl) ?_
  refine laAi (As := []) (rest := []) (wa := xL cB cI cJ cZ cS cT x0 A V) (wb := mL cB cI cJ cZ cS cT m0 B U) ⟨hx, hb, hml, hown, hts⟩ (f_X11_wed l G D cB cI cJ cZ cS cT H.size x0 A V ok ) hP hD hS hA hK hN hT hAB hG1 (cvB (n := 0) (inr28 _ (List.mem_of_getElem? (i := 15) rfl)) (inr28 _ (List.mem_of_getElem? (i := 16) rfl)) (inr28 _ (List.mem_of_getElem? (i := 17) rfl)) (inr1 _ (List.mem_of_getElem? (i := 2) rfl)) (inr28 _ (List.mem_of_getElem? (i := 18) rfl)) (by decide +kernel) hts rfl rfl ⟨Nat.le_of_ble_eq_true rfl, Nat.le_of_ble_eq_true rfl⟩) 0 11 rfl rfl rfl rfl hl.1 rfl (Nat.le_of_ble_eq_true rfl) ⟨hcc, hss⟩ dL_law_616 (fun r_1 V_3 H locs h_2 hP hD hS => ?_)
  refine lv_pop hx hb dL_law_619 rfl ?_
  refine lv_aload_n hx hb dL_law_620 rfl (lv_at hl 2 rfl) ?_
  refine laBi (As := []) (rest := []) (wa := xL cB cI cJ cZ cS cT x0 A V_3) (wb := mL cB cI cJ cZ cS cT m0 B U) ⟨hx, hb, hml, hown, hts⟩ (f_X12_wed l G D cB cI cJ cZ cS cT H.size m0 B U okm ) hP hD hS hA hK hN hT hAB hG1 (cvB (n := 0) (inr28 _ (List.mem_of_getElem? (i := 23) rfl)) (inr29 _ (List.mem_of_getElem? (i := 0) rfl)) (inr29 _ (List.mem_of_getElem? (i := 1) rfl)) (inr1 _ (List.mem_of_getElem? (i := 5) rfl)) (inr29 _ (List.mem_of_getElem? (i := 2) rfl)) (by decide +kernel) hts rfl rfl ⟨Nat.le_of_ble_eq_true rfl, Nat.le_of_ble_eq_true rfl⟩) 0 12 rfl rfl rfl rfl hl.1 rfl (Nat.le_of_ble_eq_true rfl) ⟨hcc, hss⟩ dL_law_621 (fun r_5 U_7 H locs h_6 hP hD hS => ?_)
  refine lv_pop hx hb dL_law_624 rfl ?_
  refine lv_goto (tgt := 2115) hx hb dL_law_625 (by decide) ?_
  exact K V_3 U_7 H locs ls h_2 h_6 trivial hP hD hS (lv_sub hl [0, 1, 2, 3] rfl)

set_option maxHeartbeats 4000000 in
set_option maxRecDepth 100000 in
theorem law_12 {p : Program} {l : Launch} {e : Env} {s : State} {m : MethodId} {below : List Frame} {meth : Method} {c : Code} {G : Gho} {D : va_G} {cB cI cJ cZ cS cT : ClassId} {b L : Nat} {xs : Nat → Int32} {x0 m0 : Nat} {A B : Nat → Nat} {cells slots : Nat} (hL : L ≤ 3072) (C0 : lw_At p s m meth c b L xs) (hK : va_K D vwCl (tyL cB cI cJ cZ cS cT) s) (hN : kN s) (hT : kT G s s.heap) (hG : G.1 = s.heap.size) (hcc : cells ≤ 600000) (hss : slots ≤ 7302249) {H : Heap} {locs : List Loc} {ls : Array Slot} (V U : VX) (ok : xok V) (okm : mok U) (rel : True) (i3 : Int32) (hi : 0 ≤ i3.toInt ∧ i3.toInt + 6 ≤ (L : Int)) (hP : va_P D vwCl (xL cB cI cJ cZ cS cT x0 A V ++ mL cB cI cJ cZ cS cT m0 B U) H) (hD : va_D (fun q : Nat => s.heap.size ≤ q) (xL cB cI cJ cZ cS cT x0 A V ++ mL cB cI cJ cZ cS cT m0 B U)) (hS : va_S (fun q : Nat => s.heap.size ≤ q) s.heap H locs) (hl : lv_has ls 4 [(0, .ref b), (1, .ref x0), (2, .ref m0), (3, .int i3)]) (K : ∀ (V U : VX) (H : Heap) (locs : List Loc) (ls : Array Slot), xok V → mok U → True → va_P D vwCl (xL cB cI cJ cZ cS cT x0 A V ++ mL cB cI cJ cZ cS cT m0 B U) H → va_D (fun q : Nat => s.heap.size ≤ q) (xL cB cI cJ cZ cS cT x0 A V ++ mL cB cI cJ cZ cS cT m0 B U) → va_S (fun q : Nat => s.heap.size ≤ q) s.heap H locs → lv_has ls 4 [(0, .ref b), (1, .ref x0), (2, .ref m0), (3, .int i3)] → W p l e room_1 s m #[Value.ref b] below meth c H locs cells slots (lw_Z below #[Value.ref b] s) (F0 m 2115 ls [])) : W p l e room_1 s m #[Value.ref b] below meth c H locs cells slots (lw_Z below #[Value.ref b] s) (F0 m 628 ls []) := by
  obtain ⟨hx, hb, hr, hml, hown, hts0, hX, hbl, hlocks, hgv⟩ := id C0
  have hts : ∀ w ∈ wsL_law, w.before #[Value.ref b] s = true := fun w h => hts0 w (wsL_law_in w h)
  have hA : ∀ q : Nat, s.heap.size ≤ q → (fun q : Nat => s.heap.size ≤ q) q := fun _ h => h
  have hAB : ∀ q : Nat, (fun q : Nat => s.heap.size ≤ q) q → G.1 ≤ q := fun q h => by rw [hG]; exact h
  have hG1 : G.1 ≤ s.heap.size := by rw [hG]; exact Nat.le_refl _
  have hbA : ¬ (fun q : Nat => s.heap.size ≤ q) b := Nat.not_le.mpr hbl
  refine lv_aload_n hx hb dL_law_628 rfl (lv_at hl 1 rfl) ?_
  refine lv_aload_n hx hb dL_law_629 rfl (lv_at hl 0 rfl) ?_
  refine lv_iload_n hx hb dL_law_630 rfl (lv_at hl 3 rfl) ?_
  refine lv_iconst (v := 1) hx hb dL_law_631 (by decide) ?_
  obtain ⟨t_1, et_1⟩ : ∃ v9 : Int32, i3 + 1 = v9 := ⟨_, rfl⟩
  refine z_iadd (v := t_1) hx hb dL_law_632 et_1 ?_
  have b_i3 := i32b i3
  have ft_1 : t_1.toInt = i3.toInt + 1 := addT (a := i3.toInt) (b := 1) rfl (by decide) et_1 (by omega) (by omega)
  obtain ⟨t_2, et_2⟩ : ∃ v9 : Int32, xs (t_1 : Int32).toNatClampNeg = v9 := ⟨_, rfl⟩
  refine va_sld hx hb hX hbl hbA hS (vin_nat (by omega) (by omega)) dL_law_633 ?_
  rw [et_2]
  refine laAi (As := [.int t_2]) (rest := []) (wa := xL cB cI cJ cZ cS cT x0 A V) (wb := mL cB cI cJ cZ cS cT m0 B U) ⟨hx, hb, hml, hown, hts⟩ (f_X11_first l G D cB cI cJ cZ cS cT H.size x0 A V ok t_2) hP hD hS hA hK hN hT hAB hG1 (cvB (n := 1) (inr29 _ (List.mem_of_getElem? (i := 7) rfl)) (inr29 _ (List.mem_of_getElem? (i := 8) rfl)) (inr29 _ (List.mem_of_getElem? (i := 9) rfl)) (inr1 _ (List.mem_of_getElem? (i := 2) rfl)) (inr29 _ (List.mem_of_getElem? (i := 10) rfl)) (by decide +kernel) hts rfl rfl ⟨Nat.le_of_ble_eq_true rfl, Nat.le_of_ble_eq_true rfl⟩) 0 11 rfl rfl rfl rfl hl.1 rfl (Nat.le_of_ble_eq_true rfl) ⟨hcc, hss⟩ dL_law_634 (fun r_3 V_5 H locs h_4 hP hD hS => ?_)
  refine lv_pop hx hb dL_law_637 rfl ?_
  refine lv_aload_n hx hb dL_law_638 rfl (lv_at hl 2 rfl) ?_
  refine lv_aload_n hx hb dL_law_639 rfl (lv_at hl 0 rfl) ?_
  refine lv_iload_n hx hb dL_law_640 rfl (lv_at hl 3 rfl) ?_
  refine lv_iconst (v := 1) hx hb dL_law_641 (by decide) ?_
  refine z_iadd (v := t_1) hx hb dL_law_642 et_1 ?_
  refine va_sld hx hb hX hbl hbA hS (vin_nat (by omega) (by omega)) dL_law_643 ?_
  rw [et_2]
  refine laBi (As := [.int t_2]) (rest := []) (wa := xL cB cI cJ cZ cS cT x0 A V_5) (wb := mL cB cI cJ cZ cS cT m0 B U) ⟨hx, hb, hml, hown, hts⟩ (f_X12_first l G D cB cI cJ cZ cS cT H.size m0 B U okm t_2) hP hD hS hA hK hN hT hAB hG1 (cvB (n := 1) (inr29 _ (List.mem_of_getElem? (i := 20) rfl)) (inr29 _ (List.mem_of_getElem? (i := 21) rfl)) (inr29 _ (List.mem_of_getElem? (i := 22) rfl)) (inr1 _ (List.mem_of_getElem? (i := 5) rfl)) (inr29 _ (List.mem_of_getElem? (i := 23) rfl)) (by decide +kernel) hts rfl rfl ⟨Nat.le_of_ble_eq_true rfl, Nat.le_of_ble_eq_true rfl⟩) 0 12 rfl rfl rfl rfl hl.1 rfl (Nat.le_of_ble_eq_true rfl) ⟨hcc, hss⟩ dL_law_644 (fun r_7 U_9 H locs h_8 hP hD hS => ?_)
  refine lv_pop hx hb dL_law_647 rfl ?_
  refine lv_goto (tgt := 2115) hx hb dL_law_648 (by decide) ?_
  exact K V_5 U_9 H locs ls h_4 h_8 trivial hP hD hS (lv_sub hl [0, 1, 2, 3] rfl)

set_option maxHeartbeats 4000000 in
set_option maxRecDepth 100000 in
theorem law_13 {p : Program} {l : Launch} {e : Env} {s : State} {m : MethodId} {below : List Frame} {meth : Method} {c : Code} {G : Gho} {D : va_G} {cB cI cJ cZ cS cT : ClassId} {b L : Nat} {xs : Nat → Int32} {x0 m0 : Nat} {A B : Nat → Nat} {cells slots : Nat} (hL : L ≤ 3072) (C0 : lw_At p s m meth c b L xs) (hK : va_K D vwCl (tyL cB cI cJ cZ cS cT) s) (hN : kN s) (hT : kT G s s.heap) (hG : G.1 = s.heap.size) (hcc : cells ≤ 600000) (hss : slots ≤ 7302249) {H : Heap} {locs : List Loc} {ls : Array Slot} (V U : VX) (ok : xok V) (okm : mok U) (rel : True) (i3 : Int32) (hi : 0 ≤ i3.toInt ∧ i3.toInt + 6 ≤ (L : Int)) (hP : va_P D vwCl (xL cB cI cJ cZ cS cT x0 A V ++ mL cB cI cJ cZ cS cT m0 B U) H) (hD : va_D (fun q : Nat => s.heap.size ≤ q) (xL cB cI cJ cZ cS cT x0 A V ++ mL cB cI cJ cZ cS cT m0 B U)) (hS : va_S (fun q : Nat => s.heap.size ≤ q) s.heap H locs) (hl : lv_has ls 4 [(0, .ref b), (1, .ref x0), (2, .ref m0), (3, .int i3)]) (K : ∀ (V U : VX) (H : Heap) (locs : List Loc) (ls : Array Slot), xok V → mok U → True → va_P D vwCl (xL cB cI cJ cZ cS cT x0 A V ++ mL cB cI cJ cZ cS cT m0 B U) H → va_D (fun q : Nat => s.heap.size ≤ q) (xL cB cI cJ cZ cS cT x0 A V ++ mL cB cI cJ cZ cS cT m0 B U) → va_S (fun q : Nat => s.heap.size ≤ q) s.heap H locs → lv_has ls 4 [(0, .ref b), (1, .ref x0), (2, .ref m0), (3, .int i3)] → W p l e room_1 s m #[Value.ref b] below meth c H locs cells slots (lw_Z below #[Value.ref b] s) (F0 m 2115 ls [])) : W p l e room_1 s m #[Value.ref b] below meth c H locs cells slots (lw_Z below #[Value.ref b] s) (F0 m 651 ls []) := by
  obtain ⟨hx, hb, hr, hml, hown, hts0, hX, hbl, hlocks, hgv⟩ := id C0
  have hts : ∀ w ∈ wsL_law, w.before #[Value.ref b] s = true := fun w h => hts0 w (wsL_law_in w h)
  have hA : ∀ q : Nat, s.heap.size ≤ q → (fun q : Nat => s.heap.size ≤ q) q := fun _ h => h
  have hAB : ∀ q : Nat, (fun q : Nat => s.heap.size ≤ q) q → G.1 ≤ q := fun q h => by rw [hG]; exact h
  have hG1 : G.1 ≤ s.heap.size := by rw [hG]; exact Nat.le_refl _
  have hbA : ¬ (fun q : Nat => s.heap.size ≤ q) b := Nat.not_le.mpr hbl
  refine lv_aload_n hx hb dL_law_651 rfl (lv_at hl 1 rfl) ?_
  refine lv_aload_n hx hb dL_law_652 rfl (lv_at hl 0 rfl) ?_
  refine lv_iload_n hx hb dL_law_653 rfl (lv_at hl 3 rfl) ?_
  refine lv_iconst (v := 1) hx hb dL_law_654 (by decide) ?_
  obtain ⟨t_1, et_1⟩ : ∃ v9 : Int32, i3 + 1 = v9 := ⟨_, rfl⟩
  refine z_iadd (v := t_1) hx hb dL_law_655 et_1 ?_
  have b_i3 := i32b i3
  have ft_1 : t_1.toInt = i3.toInt + 1 := addT (a := i3.toInt) (b := 1) rfl (by decide) et_1 (by omega) (by omega)
  obtain ⟨t_2, et_2⟩ : ∃ v9 : Int32, xs (t_1 : Int32).toNatClampNeg = v9 := ⟨_, rfl⟩
  refine va_sld hx hb hX hbl hbA hS (vin_nat (by omega) (by omega)) dL_law_656 ?_
  rw [et_2]
  refine lv_aload_n hx hb dL_law_657 rfl (lv_at hl 0 rfl) ?_
  refine lv_iload_n hx hb dL_law_658 rfl (lv_at hl 3 rfl) ?_
  refine lv_iconst (v := 2) hx hb dL_law_659 (by decide) ?_
  obtain ⟨t_3, et_3⟩ : ∃ v9 : Int32, i3 + 2 = v9 := ⟨_, rfl⟩
  refine z_iadd (v := t_3) hx hb dL_law_660 et_3 ?_
  have ft_3 : t_3.toInt = i3.toInt + 2 := addT (a := i3.toInt) (b := 2) rfl (by decide) et_3 (by omega) (by omega)
  obtain ⟨t_4, et_4⟩ : ∃ v9 : Int32, xs (t_3 : Int32).toNatClampNeg = v9 := ⟨_, rfl⟩
  refine va_sld hx hb hX hbl hbA hS (vin_nat (by omega) (by omega)) dL_law_661 ?_
  rw [et_4]
  refine laAi (As := [.int t_2, .int t_4]) (rest := []) (wa := xL cB cI cJ cZ cS cT x0 A V) (wb := mL cB cI cJ cZ cS cT m0 B U) ⟨hx, hb, hml, hown, hts⟩ (f_X11_often l G D cB cI cJ cZ cS cT H.size x0 A V ok t_2 t_4) hP hD hS hA hK hN hT hAB hG1 (cvB (n := 2) (inr30 _ (List.mem_of_getElem? (i := 4) rfl)) (inr30 _ (List.mem_of_getElem? (i := 5) rfl)) (inr30 _ (List.mem_of_getElem? (i := 6) rfl)) (inr1 _ (List.mem_of_getElem? (i := 2) rfl)) (inr30 _ (List.mem_of_getElem? (i := 7) rfl)) (by decide +kernel) hts rfl rfl ⟨Nat.le_of_ble_eq_true rfl, Nat.le_of_ble_eq_true rfl⟩) 0 11 rfl rfl rfl rfl hl.1 rfl (Nat.le_of_ble_eq_true rfl) ⟨hcc, hss⟩ dL_law_662 (fun r_5 V_7 H locs h_6 hP hD hS => ?_)
  refine lv_pop hx hb dL_law_665 rfl ?_
  refine lv_aload_n hx hb dL_law_666 rfl (lv_at hl 2 rfl) ?_
  refine lv_aload_n hx hb dL_law_667 rfl (lv_at hl 0 rfl) ?_
  refine lv_iload_n hx hb dL_law_668 rfl (lv_at hl 3 rfl) ?_
  refine lv_iconst (v := 1) hx hb dL_law_669 (by decide) ?_
  refine z_iadd (v := t_1) hx hb dL_law_670 et_1 ?_
  refine va_sld hx hb hX hbl hbA hS (vin_nat (by omega) (by omega)) dL_law_671 ?_
  rw [et_2]
  refine lv_aload_n hx hb dL_law_672 rfl (lv_at hl 0 rfl) ?_
  refine lv_iload_n hx hb dL_law_673 rfl (lv_at hl 3 rfl) ?_
  refine lv_iconst (v := 2) hx hb dL_law_674 (by decide) ?_
  refine z_iadd (v := t_3) hx hb dL_law_675 et_3 ?_
  refine va_sld hx hb hX hbl hbA hS (vin_nat (by omega) (by omega)) dL_law_676 ?_
  rw [et_4]
  refine laBi (As := [.int t_2, .int t_4]) (rest := []) (wa := xL cB cI cJ cZ cS cT x0 A V_7) (wb := mL cB cI cJ cZ cS cT m0 B U) ⟨hx, hb, hml, hown, hts⟩ (f_X12_often l G D cB cI cJ cZ cS cT H.size m0 B U okm t_2 t_4) hP hD hS hA hK hN hT hAB hG1 (cvB (n := 2) (inr30 _ (List.mem_of_getElem? (i := 12) rfl)) (inr30 _ (List.mem_of_getElem? (i := 13) rfl)) (inr30 _ (List.mem_of_getElem? (i := 14) rfl)) (inr1 _ (List.mem_of_getElem? (i := 5) rfl)) (inr30 _ (List.mem_of_getElem? (i := 15) rfl)) (by decide +kernel) hts rfl rfl ⟨Nat.le_of_ble_eq_true rfl, Nat.le_of_ble_eq_true rfl⟩) 0 12 rfl rfl rfl rfl hl.1 rfl (Nat.le_of_ble_eq_true rfl) ⟨hcc, hss⟩ dL_law_677 (fun r_9 U_11 H locs h_10 hP hD hS => ?_)
  refine lv_pop hx hb dL_law_680 rfl ?_
  refine lv_goto (tgt := 2115) hx hb dL_law_681 (by decide) ?_
  exact K V_7 U_11 H locs ls h_6 h_10 trivial hP hD hS (lv_sub hl [0, 1, 2, 3] rfl)

set_option maxHeartbeats 4000000 in
set_option maxRecDepth 100000 in
theorem law_14 {p : Program} {l : Launch} {e : Env} {s : State} {m : MethodId} {below : List Frame} {meth : Method} {c : Code} {G : Gho} {D : va_G} {cB cI cJ cZ cS cT : ClassId} {b L : Nat} {xs : Nat → Int32} {x0 m0 : Nat} {A B : Nat → Nat} {cells slots : Nat} (hL : L ≤ 3072) (C0 : lw_At p s m meth c b L xs) (hK : va_K D vwCl (tyL cB cI cJ cZ cS cT) s) (hN : kN s) (hT : kT G s s.heap) (hG : G.1 = s.heap.size) (hcc : cells ≤ 600000) (hss : slots ≤ 7302249) {H : Heap} {locs : List Loc} {ls : Array Slot} (V U : VX) (ok : xok V) (okm : mok U) (rel : True) (i3 : Int32) (hi : 0 ≤ i3.toInt ∧ i3.toInt + 6 ≤ (L : Int)) (hP : va_P D vwCl (xL cB cI cJ cZ cS cT x0 A V ++ mL cB cI cJ cZ cS cT m0 B U) H) (hD : va_D (fun q : Nat => s.heap.size ≤ q) (xL cB cI cJ cZ cS cT x0 A V ++ mL cB cI cJ cZ cS cT m0 B U)) (hS : va_S (fun q : Nat => s.heap.size ≤ q) s.heap H locs) (hl : lv_has ls 4 [(0, .ref b), (1, .ref x0), (2, .ref m0), (3, .int i3)]) (K : ∀ (V U : VX) (H : Heap) (locs : List Loc) (ls : Array Slot), xok V → mok U → True → va_P D vwCl (xL cB cI cJ cZ cS cT x0 A V ++ mL cB cI cJ cZ cS cT m0 B U) H → va_D (fun q : Nat => s.heap.size ≤ q) (xL cB cI cJ cZ cS cT x0 A V ++ mL cB cI cJ cZ cS cT m0 B U) → va_S (fun q : Nat => s.heap.size ≤ q) s.heap H locs → lv_has ls 4 [(0, .ref b), (1, .ref x0), (2, .ref m0), (3, .int i3)] → W p l e room_1 s m #[Value.ref b] below meth c H locs cells slots (lw_Z below #[Value.ref b] s) (F0 m 2115 ls [])) : W p l e room_1 s m #[Value.ref b] below meth c H locs cells slots (lw_Z below #[Value.ref b] s) (F0 m 684 ls []) := by
  obtain ⟨hx, hb, hr, hml, hown, hts0, hX, hbl, hlocks, hgv⟩ := id C0
  have hts : ∀ w ∈ wsL_law, w.before #[Value.ref b] s = true := fun w h => hts0 w (wsL_law_in w h)
  have hA : ∀ q : Nat, s.heap.size ≤ q → (fun q : Nat => s.heap.size ≤ q) q := fun _ h => h
  have hAB : ∀ q : Nat, (fun q : Nat => s.heap.size ≤ q) q → G.1 ≤ q := fun q h => by rw [hG]; exact h
  have hG1 : G.1 ≤ s.heap.size := by rw [hG]; exact Nat.le_refl _
  have hbA : ¬ (fun q : Nat => s.heap.size ≤ q) b := Nat.not_le.mpr hbl
  refine lv_aload_n hx hb dL_law_684 rfl (lv_at hl 1 rfl) ?_
  refine lv_aload_n hx hb dL_law_685 rfl (lv_at hl 0 rfl) ?_
  refine lv_iload_n hx hb dL_law_686 rfl (lv_at hl 3 rfl) ?_
  refine lv_iconst (v := 1) hx hb dL_law_687 (by decide) ?_
  obtain ⟨t_1, et_1⟩ : ∃ v9 : Int32, i3 + 1 = v9 := ⟨_, rfl⟩
  refine z_iadd (v := t_1) hx hb dL_law_688 et_1 ?_
  have b_i3 := i32b i3
  have ft_1 : t_1.toInt = i3.toInt + 1 := addT (a := i3.toInt) (b := 1) rfl (by decide) et_1 (by omega) (by omega)
  obtain ⟨t_2, et_2⟩ : ∃ v9 : Int32, xs (t_1 : Int32).toNatClampNeg = v9 := ⟨_, rfl⟩
  refine va_sld hx hb hX hbl hbA hS (vin_nat (by omega) (by omega)) dL_law_689 ?_
  rw [et_2]
  refine laAi (As := [.int t_2]) (rest := []) (wa := xL cB cI cJ cZ cS cT x0 A V) (wb := mL cB cI cJ cZ cS cT m0 B U) ⟨hx, hb, hml, hown, hts⟩ (f_X11_all l G D cB cI cJ cZ cS cT H.size x0 A V ok t_2) hP hD hS hA hK hN hT hAB hG1 (cvB (n := 1) (inr30 _ (List.mem_of_getElem? (i := 20) rfl)) (inr30 _ (List.mem_of_getElem? (i := 21) rfl)) (inr30 _ (List.mem_of_getElem? (i := 22) rfl)) (inr1 _ (List.mem_of_getElem? (i := 2) rfl)) (inr30 _ (List.mem_of_getElem? (i := 23) rfl)) (by decide +kernel) hts rfl rfl ⟨Nat.le_of_ble_eq_true rfl, Nat.le_of_ble_eq_true rfl⟩) 0 11 rfl rfl rfl rfl hl.1 rfl (Nat.le_of_ble_eq_true rfl) ⟨hcc, hss⟩ dL_law_690 (fun r_3 V_5 H locs h_4 hP hD hS => ?_)
  refine lv_pop hx hb dL_law_693 rfl ?_
  refine lv_aload_n hx hb dL_law_694 rfl (lv_at hl 2 rfl) ?_
  refine lv_aload_n hx hb dL_law_695 rfl (lv_at hl 0 rfl) ?_
  refine lv_iload_n hx hb dL_law_696 rfl (lv_at hl 3 rfl) ?_
  refine lv_iconst (v := 1) hx hb dL_law_697 (by decide) ?_
  refine z_iadd (v := t_1) hx hb dL_law_698 et_1 ?_
  refine va_sld hx hb hX hbl hbA hS (vin_nat (by omega) (by omega)) dL_law_699 ?_
  rw [et_2]
  refine laBi (As := [.int t_2]) (rest := []) (wa := xL cB cI cJ cZ cS cT x0 A V_5) (wb := mL cB cI cJ cZ cS cT m0 B U) ⟨hx, hb, hml, hown, hts⟩ (f_X12_all l G D cB cI cJ cZ cS cT H.size m0 B U okm t_2) hP hD hS hA hK hN hT hAB hG1 (cvB (n := 1) (inr31 _ (List.mem_of_getElem? (i := 4) rfl)) (inr31 _ (List.mem_of_getElem? (i := 5) rfl)) (inr31 _ (List.mem_of_getElem? (i := 6) rfl)) (inr1 _ (List.mem_of_getElem? (i := 5) rfl)) (inr31 _ (List.mem_of_getElem? (i := 7) rfl)) (by decide +kernel) hts rfl rfl ⟨Nat.le_of_ble_eq_true rfl, Nat.le_of_ble_eq_true rfl⟩) 0 12 rfl rfl rfl rfl hl.1 rfl (Nat.le_of_ble_eq_true rfl) ⟨hcc, hss⟩ dL_law_700 (fun r_7 U_9 H locs h_8 hP hD hS => ?_)
  refine lv_pop hx hb dL_law_703 rfl ?_
  refine lv_goto (tgt := 2115) hx hb dL_law_704 (by decide) ?_
  exact K V_5 U_9 H locs ls h_4 h_8 trivial hP hD hS (lv_sub hl [0, 1, 2, 3] rfl)

set_option maxHeartbeats 4000000 in
set_option maxRecDepth 100000 in
theorem law_15 {p : Program} {l : Launch} {e : Env} {s : State} {m : MethodId} {below : List Frame} {meth : Method} {c : Code} {G : Gho} {D : va_G} {cB cI cJ cZ cS cT : ClassId} {b L : Nat} {xs : Nat → Int32} {x0 m0 : Nat} {A B : Nat → Nat} {cells slots : Nat} (hL : L ≤ 3072) (C0 : lw_At p s m meth c b L xs) (hK : va_K D vwCl (tyL cB cI cJ cZ cS cT) s) (hN : kN s) (hT : kT G s s.heap) (hG : G.1 = s.heap.size) (hcc : cells ≤ 600000) (hss : slots ≤ 7302249) {H : Heap} {locs : List Loc} {ls : Array Slot} (V U : VX) (ok : xok V) (okm : mok U) (rel : True) (i3 : Int32) (hi : 0 ≤ i3.toInt ∧ i3.toInt + 6 ≤ (L : Int)) (hP : va_P D vwCl (xL cB cI cJ cZ cS cT x0 A V ++ mL cB cI cJ cZ cS cT m0 B U) H) (hD : va_D (fun q : Nat => s.heap.size ≤ q) (xL cB cI cJ cZ cS cT x0 A V ++ mL cB cI cJ cZ cS cT m0 B U)) (hS : va_S (fun q : Nat => s.heap.size ≤ q) s.heap H locs) (hl : lv_has ls 4 [(0, .ref b), (1, .ref x0), (2, .ref m0), (3, .int i3)]) (K : ∀ (V U : VX) (H : Heap) (locs : List Loc) (ls : Array Slot), xok V → mok U → True → va_P D vwCl (xL cB cI cJ cZ cS cT x0 A V ++ mL cB cI cJ cZ cS cT m0 B U) H → va_D (fun q : Nat => s.heap.size ≤ q) (xL cB cI cJ cZ cS cT x0 A V ++ mL cB cI cJ cZ cS cT m0 B U) → va_S (fun q : Nat => s.heap.size ≤ q) s.heap H locs → lv_has ls 4 [(0, .ref b), (1, .ref x0), (2, .ref m0), (3, .int i3)] → W p l e room_1 s m #[Value.ref b] below meth c H locs cells slots (lw_Z below #[Value.ref b] s) (F0 m 2115 ls [])) : W p l e room_1 s m #[Value.ref b] below meth c H locs cells slots (lw_Z below #[Value.ref b] s) (F0 m 707 ls []) := by
  obtain ⟨hx, hb, hr, hml, hown, hts0, hX, hbl, hlocks, hgv⟩ := id C0
  have hts : ∀ w ∈ wsL_law, w.before #[Value.ref b] s = true := fun w h => hts0 w (wsL_law_in w h)
  have hA : ∀ q : Nat, s.heap.size ≤ q → (fun q : Nat => s.heap.size ≤ q) q := fun _ h => h
  have hAB : ∀ q : Nat, (fun q : Nat => s.heap.size ≤ q) q → G.1 ≤ q := fun q h => by rw [hG]; exact h
  have hG1 : G.1 ≤ s.heap.size := by rw [hG]; exact Nat.le_refl _
  have hbA : ¬ (fun q : Nat => s.heap.size ≤ q) b := Nat.not_le.mpr hbl
  refine lv_aload_n hx hb dL_law_707 rfl (lv_at hl 1 rfl) ?_
  refine laAi (As := []) (rest := []) (wa := xL cB cI cJ cZ cS cT x0 A V) (wb := mL cB cI cJ cZ cS cT m0 B U) ⟨hx, hb, hml, hown, hts⟩ (f_X11_most l G D cB cI cJ cZ cS cT H.size x0 A V ok ) hP hD hS hA hK hN hT hAB hG1 (cvB (n := 0) (inr31 _ (List.mem_of_getElem? (i := 12) rfl)) (inr31 _ (List.mem_of_getElem? (i := 13) rfl)) (inr31 _ (List.mem_of_getElem? (i := 14) rfl)) (inr1 _ (List.mem_of_getElem? (i := 2) rfl)) (inr31 _ (List.mem_of_getElem? (i := 15) rfl)) (by decide +kernel) hts rfl rfl ⟨Nat.le_of_ble_eq_true rfl, Nat.le_of_ble_eq_true rfl⟩) 0 11 rfl rfl rfl rfl hl.1 rfl (Nat.le_of_ble_eq_true rfl) ⟨hcc, hss⟩ dL_law_708 (fun r_1 V_3 H locs h_2 hP hD hS => ?_)
  refine lv_pop hx hb dL_law_711 rfl ?_
  refine lv_aload_n hx hb dL_law_712 rfl (lv_at hl 2 rfl) ?_
  refine laBi (As := []) (rest := []) (wa := xL cB cI cJ cZ cS cT x0 A V_3) (wb := mL cB cI cJ cZ cS cT m0 B U) ⟨hx, hb, hml, hown, hts⟩ (f_X12_most l G D cB cI cJ cZ cS cT H.size m0 B U okm ) hP hD hS hA hK hN hT hAB hG1 (cvB (n := 0) (inr31 _ (List.mem_of_getElem? (i := 16) rfl)) (inr31 _ (List.mem_of_getElem? (i := 17) rfl)) (inr31 _ (List.mem_of_getElem? (i := 18) rfl)) (inr1 _ (List.mem_of_getElem? (i := 5) rfl)) (inr31 _ (List.mem_of_getElem? (i := 19) rfl)) (by decide +kernel) hts rfl rfl ⟨Nat.le_of_ble_eq_true rfl, Nat.le_of_ble_eq_true rfl⟩) 0 12 rfl rfl rfl rfl hl.1 rfl (Nat.le_of_ble_eq_true rfl) ⟨hcc, hss⟩ dL_law_713 (fun r_5 U_7 H locs h_6 hP hD hS => ?_)
  refine lv_pop hx hb dL_law_716 rfl ?_
  refine lv_goto (tgt := 2115) hx hb dL_law_717 (by decide) ?_
  exact K V_3 U_7 H locs ls h_2 h_6 trivial hP hD hS (lv_sub hl [0, 1, 2, 3] rfl)

set_option maxHeartbeats 4000000 in
set_option maxRecDepth 100000 in
theorem law_16 {p : Program} {l : Launch} {e : Env} {s : State} {m : MethodId} {below : List Frame} {meth : Method} {c : Code} {G : Gho} {D : va_G} {cB cI cJ cZ cS cT : ClassId} {b L : Nat} {xs : Nat → Int32} {x0 m0 : Nat} {A B : Nat → Nat} {cells slots : Nat} (hL : L ≤ 3072) (C0 : lw_At p s m meth c b L xs) (hK : va_K D vwCl (tyL cB cI cJ cZ cS cT) s) (hN : kN s) (hT : kT G s s.heap) (hG : G.1 = s.heap.size) (hcc : cells ≤ 600000) (hss : slots ≤ 7302249) {H : Heap} {locs : List Loc} {ls : Array Slot} (V U : VX) (ok : xok V) (okm : mok U) (rel : True) (i3 : Int32) (hi : 0 ≤ i3.toInt ∧ i3.toInt + 6 ≤ (L : Int)) (hP : va_P D vwCl (xL cB cI cJ cZ cS cT x0 A V ++ mL cB cI cJ cZ cS cT m0 B U) H) (hD : va_D (fun q : Nat => s.heap.size ≤ q) (xL cB cI cJ cZ cS cT x0 A V ++ mL cB cI cJ cZ cS cT m0 B U)) (hS : va_S (fun q : Nat => s.heap.size ≤ q) s.heap H locs) (hl : lv_has ls 4 [(0, .ref b), (1, .ref x0), (2, .ref m0), (3, .int i3)]) (K : ∀ (V U : VX) (H : Heap) (locs : List Loc) (ls : Array Slot), xok V → mok U → True → va_P D vwCl (xL cB cI cJ cZ cS cT x0 A V ++ mL cB cI cJ cZ cS cT m0 B U) H → va_D (fun q : Nat => s.heap.size ≤ q) (xL cB cI cJ cZ cS cT x0 A V ++ mL cB cI cJ cZ cS cT m0 B U) → va_S (fun q : Nat => s.heap.size ≤ q) s.heap H locs → lv_has ls 4 [(0, .ref b), (1, .ref x0), (2, .ref m0), (3, .int i3)] → W p l e room_1 s m #[Value.ref b] below meth c H locs cells slots (lw_Z below #[Value.ref b] s) (F0 m 2115 ls [])) : W p l e room_1 s m #[Value.ref b] below meth c H locs cells slots (lw_Z below #[Value.ref b] s) (F0 m 720 ls []) := by
  obtain ⟨hx, hb, hr, hml, hown, hts0, hX, hbl, hlocks, hgv⟩ := id C0
  have hts : ∀ w ∈ wsL_law, w.before #[Value.ref b] s = true := fun w h => hts0 w (wsL_law_in w h)
  have hA : ∀ q : Nat, s.heap.size ≤ q → (fun q : Nat => s.heap.size ≤ q) q := fun _ h => h
  have hAB : ∀ q : Nat, (fun q : Nat => s.heap.size ≤ q) q → G.1 ≤ q := fun q h => by rw [hG]; exact h
  have hG1 : G.1 ≤ s.heap.size := by rw [hG]; exact Nat.le_refl _
  have hbA : ¬ (fun q : Nat => s.heap.size ≤ q) b := Nat.not_le.mpr hbl
  refine lv_aload_n hx hb dL_law_720 rfl (lv_at hl 1 rfl) ?_
  refine laAi (As := []) (rest := []) (wa := xL cB cI cJ cZ cS cT x0 A V) (wb := mL cB cI cJ cZ cS cT m0 B U) ⟨hx, hb, hml, hown, hts⟩ (f_X11_held l G D cB cI cJ cZ cS cT H.size x0 A V ok ) hP hD hS hA hK hN hT hAB hG1 (cvB (n := 0) (inr31 _ (List.mem_of_getElem? (i := 20) rfl)) (inr31 _ (List.mem_of_getElem? (i := 21) rfl)) (inr31 _ (List.mem_of_getElem? (i := 22) rfl)) (inr1 _ (List.mem_of_getElem? (i := 2) rfl)) (inr31 _ (List.mem_of_getElem? (i := 23) rfl)) (by decide +kernel) hts rfl rfl ⟨Nat.le_of_ble_eq_true rfl, Nat.le_of_ble_eq_true rfl⟩) 0 11 rfl rfl rfl rfl hl.1 rfl (Nat.le_of_ble_eq_true rfl) ⟨hcc, hss⟩ dL_law_721 (fun r_1 V_3 H locs h_2 hP hD hS => ?_)
  refine lv_pop hx hb dL_law_724 rfl ?_
  refine lv_aload_n hx hb dL_law_725 rfl (lv_at hl 2 rfl) ?_
  refine laBi (As := []) (rest := []) (wa := xL cB cI cJ cZ cS cT x0 A V_3) (wb := mL cB cI cJ cZ cS cT m0 B U) ⟨hx, hb, hml, hown, hts⟩ (f_X12_held l G D cB cI cJ cZ cS cT H.size m0 B U okm ) hP hD hS hA hK hN hT hAB hG1 (cvB (n := 0) (inr32 _ (List.mem_of_getElem? (i := 7) rfl)) (inr32 _ (List.mem_of_getElem? (i := 8) rfl)) (inr32 _ (List.mem_of_getElem? (i := 9) rfl)) (inr1 _ (List.mem_of_getElem? (i := 5) rfl)) (inr32 _ (List.mem_of_getElem? (i := 10) rfl)) (by decide +kernel) hts rfl rfl ⟨Nat.le_of_ble_eq_true rfl, Nat.le_of_ble_eq_true rfl⟩) 0 12 rfl rfl rfl rfl hl.1 rfl (Nat.le_of_ble_eq_true rfl) ⟨hcc, hss⟩ dL_law_726 (fun r_5 U_7 H locs h_6 hP hD hS => ?_)
  refine lv_pop hx hb dL_law_729 rfl ?_
  refine lv_goto (tgt := 2115) hx hb dL_law_730 (by decide) ?_
  exact K V_3 U_7 H locs ls h_2 h_6 trivial hP hD hS (lv_sub hl [0, 1, 2, 3] rfl)

set_option maxHeartbeats 4000000 in
set_option maxRecDepth 100000 in
theorem law_17 {p : Program} {l : Launch} {e : Env} {s : State} {m : MethodId} {below : List Frame} {meth : Method} {c : Code} {G : Gho} {D : va_G} {cB cI cJ cZ cS cT : ClassId} {b L : Nat} {xs : Nat → Int32} {x0 m0 : Nat} {A B : Nat → Nat} {cells slots : Nat} (hL : L ≤ 3072) (C0 : lw_At p s m meth c b L xs) (hK : va_K D vwCl (tyL cB cI cJ cZ cS cT) s) (hN : kN s) (hT : kT G s s.heap) (hG : G.1 = s.heap.size) (hcc : cells ≤ 600000) (hss : slots ≤ 7302249) {H : Heap} {locs : List Loc} {ls : Array Slot} (V U : VX) (ok : xok V) (okm : mok U) (rel : True) (i3 : Int32) (hi : 0 ≤ i3.toInt ∧ i3.toInt + 6 ≤ (L : Int)) (hP : va_P D vwCl (xL cB cI cJ cZ cS cT x0 A V ++ mL cB cI cJ cZ cS cT m0 B U) H) (hD : va_D (fun q : Nat => s.heap.size ≤ q) (xL cB cI cJ cZ cS cT x0 A V ++ mL cB cI cJ cZ cS cT m0 B U)) (hS : va_S (fun q : Nat => s.heap.size ≤ q) s.heap H locs) (hl : lv_has ls 4 [(0, .ref b), (1, .ref x0), (2, .ref m0), (3, .int i3)]) (K : ∀ (V U : VX) (H : Heap) (locs : List Loc) (ls : Array Slot), xok V → mok U → True → va_P D vwCl (xL cB cI cJ cZ cS cT x0 A V ++ mL cB cI cJ cZ cS cT m0 B U) H → va_D (fun q : Nat => s.heap.size ≤ q) (xL cB cI cJ cZ cS cT x0 A V ++ mL cB cI cJ cZ cS cT m0 B U) → va_S (fun q : Nat => s.heap.size ≤ q) s.heap H locs → lv_has ls 4 [(0, .ref b), (1, .ref x0), (2, .ref m0), (3, .int i3)] → W p l e room_1 s m #[Value.ref b] below meth c H locs cells slots (lw_Z below #[Value.ref b] s) (F0 m 2115 ls [])) : W p l e room_1 s m #[Value.ref b] below meth c H locs cells slots (lw_Z below #[Value.ref b] s) (F0 m 733 ls []) := by
  obtain ⟨hx, hb, hr, hml, hown, hts0, hX, hbl, hlocks, hgv⟩ := id C0
  have hts : ∀ w ∈ wsL_law, w.before #[Value.ref b] s = true := fun w h => hts0 w (wsL_law_in w h)
  have hA : ∀ q : Nat, s.heap.size ≤ q → (fun q : Nat => s.heap.size ≤ q) q := fun _ h => h
  have hAB : ∀ q : Nat, (fun q : Nat => s.heap.size ≤ q) q → G.1 ≤ q := fun q h => by rw [hG]; exact h
  have hG1 : G.1 ≤ s.heap.size := by rw [hG]; exact Nat.le_refl _
  have hbA : ¬ (fun q : Nat => s.heap.size ≤ q) b := Nat.not_le.mpr hbl
  refine lv_aload_n hx hb dL_law_733 rfl (lv_at hl 1 rfl) ?_
  refine laAi (As := []) (rest := []) (wa := xL cB cI cJ cZ cS cT x0 A V) (wb := mL cB cI cJ cZ cS cT m0 B U) ⟨hx, hb, hml, hown, hts⟩ (f_X11_rises l G D cB cI cJ cZ cS cT H.size x0 A V ok ) hP hD hS hA hK hN hT hAB hG1 (cvB (n := 0) (inr32 _ (List.mem_of_getElem? (i := 12) rfl)) (inr32 _ (List.mem_of_getElem? (i := 13) rfl)) (inr32 _ (List.mem_of_getElem? (i := 14) rfl)) (inr1 _ (List.mem_of_getElem? (i := 2) rfl)) (inr32 _ (List.mem_of_getElem? (i := 15) rfl)) (by decide +kernel) hts rfl rfl ⟨Nat.le_of_ble_eq_true rfl, Nat.le_of_ble_eq_true rfl⟩) 0 11 rfl rfl rfl rfl hl.1 rfl (Nat.le_of_ble_eq_true rfl) ⟨hcc, hss⟩ dL_law_734 (fun r_1 V_3 H locs h_2 hP hD hS => ?_)
  refine lv_pop hx hb dL_law_737 rfl ?_
  refine lv_aload_n hx hb dL_law_738 rfl (lv_at hl 2 rfl) ?_
  refine laBi (As := []) (rest := []) (wa := xL cB cI cJ cZ cS cT x0 A V_3) (wb := mL cB cI cJ cZ cS cT m0 B U) ⟨hx, hb, hml, hown, hts⟩ (f_X12_rises l G D cB cI cJ cZ cS cT H.size m0 B U okm ) hP hD hS hA hK hN hT hAB hG1 (cvB (n := 0) (inr32 _ (List.mem_of_getElem? (i := 20) rfl)) (inr32 _ (List.mem_of_getElem? (i := 21) rfl)) (inr32 _ (List.mem_of_getElem? (i := 22) rfl)) (inr1 _ (List.mem_of_getElem? (i := 5) rfl)) (inr32 _ (List.mem_of_getElem? (i := 23) rfl)) (by decide +kernel) hts rfl rfl ⟨Nat.le_of_ble_eq_true rfl, Nat.le_of_ble_eq_true rfl⟩) 0 12 rfl rfl rfl rfl hl.1 rfl (Nat.le_of_ble_eq_true rfl) ⟨hcc, hss⟩ dL_law_739 (fun r_5 U_7 H locs h_6 hP hD hS => ?_)
  refine lv_pop hx hb dL_law_742 rfl ?_
  refine lv_goto (tgt := 2115) hx hb dL_law_743 (by decide) ?_
  exact K V_3 U_7 H locs ls h_2 h_6 trivial hP hD hS (lv_sub hl [0, 1, 2, 3] rfl)

set_option maxHeartbeats 4000000 in
set_option maxRecDepth 100000 in
theorem law_18 {p : Program} {l : Launch} {e : Env} {s : State} {m : MethodId} {below : List Frame} {meth : Method} {c : Code} {G : Gho} {D : va_G} {cB cI cJ cZ cS cT : ClassId} {b L : Nat} {xs : Nat → Int32} {x0 m0 : Nat} {A B : Nat → Nat} {cells slots : Nat} (hL : L ≤ 3072) (C0 : lw_At p s m meth c b L xs) (hK : va_K D vwCl (tyL cB cI cJ cZ cS cT) s) (hN : kN s) (hT : kT G s s.heap) (hG : G.1 = s.heap.size) (hcc : cells ≤ 600000) (hss : slots ≤ 7302249) {H : Heap} {locs : List Loc} {ls : Array Slot} (V U : VX) (ok : xok V) (okm : mok U) (rel : True) (i3 : Int32) (hi : 0 ≤ i3.toInt ∧ i3.toInt + 6 ≤ (L : Int)) (hP : va_P D vwCl (xL cB cI cJ cZ cS cT x0 A V ++ mL cB cI cJ cZ cS cT m0 B U) H) (hD : va_D (fun q : Nat => s.heap.size ≤ q) (xL cB cI cJ cZ cS cT x0 A V ++ mL cB cI cJ cZ cS cT m0 B U)) (hS : va_S (fun q : Nat => s.heap.size ≤ q) s.heap H locs) (hl : lv_has ls 4 [(0, .ref b), (1, .ref x0), (2, .ref m0), (3, .int i3)]) (K : ∀ (V U : VX) (H : Heap) (locs : List Loc) (ls : Array Slot), xok V → mok U → True → va_P D vwCl (xL cB cI cJ cZ cS cT x0 A V ++ mL cB cI cJ cZ cS cT m0 B U) H → va_D (fun q : Nat => s.heap.size ≤ q) (xL cB cI cJ cZ cS cT x0 A V ++ mL cB cI cJ cZ cS cT m0 B U) → va_S (fun q : Nat => s.heap.size ≤ q) s.heap H locs → lv_has ls 4 [(0, .ref b), (1, .ref x0), (2, .ref m0), (3, .int i3)] → W p l e room_1 s m #[Value.ref b] below meth c H locs cells slots (lw_Z below #[Value.ref b] s) (F0 m 2115 ls [])) : W p l e room_1 s m #[Value.ref b] below meth c H locs cells slots (lw_Z below #[Value.ref b] s) (F0 m 746 ls []) := by
  obtain ⟨hx, hb, hr, hml, hown, hts0, hX, hbl, hlocks, hgv⟩ := id C0
  have hts : ∀ w ∈ wsL_law, w.before #[Value.ref b] s = true := fun w h => hts0 w (wsL_law_in w h)
  have hA : ∀ q : Nat, s.heap.size ≤ q → (fun q : Nat => s.heap.size ≤ q) q := fun _ h => h
  have hAB : ∀ q : Nat, (fun q : Nat => s.heap.size ≤ q) q → G.1 ≤ q := fun q h => by rw [hG]; exact h
  have hG1 : G.1 ≤ s.heap.size := by rw [hG]; exact Nat.le_refl _
  have hbA : ¬ (fun q : Nat => s.heap.size ≤ q) b := Nat.not_le.mpr hbl
  refine lv_aload_n hx hb dL_law_746 rfl (lv_at hl 1 rfl) ?_
  refine lv_aload_n hx hb dL_law_747 rfl (lv_at hl 0 rfl) ?_
  refine lv_iload_n hx hb dL_law_748 rfl (lv_at hl 3 rfl) ?_
  refine lv_iconst (v := 1) hx hb dL_law_749 (by decide) ?_
  obtain ⟨t_1, et_1⟩ : ∃ v9 : Int32, i3 + 1 = v9 := ⟨_, rfl⟩
  refine z_iadd (v := t_1) hx hb dL_law_750 et_1 ?_
  have b_i3 := i32b i3
  have ft_1 : t_1.toInt = i3.toInt + 1 := addT (a := i3.toInt) (b := 1) rfl (by decide) et_1 (by omega) (by omega)
  obtain ⟨t_2, et_2⟩ : ∃ v9 : Int32, xs (t_1 : Int32).toNatClampNeg = v9 := ⟨_, rfl⟩
  refine va_sld hx hb hX hbl hbA hS (vin_nat (by omega) (by omega)) dL_law_751 ?_
  rw [et_2]
  refine laAi (As := [.int t_2]) (rest := []) (wa := xL cB cI cJ cZ cS cT x0 A V) (wb := mL cB cI cJ cZ cS cT m0 B U) ⟨hx, hb, hml, hown, hts⟩ (f_X11_unlike l G D cB cI cJ cZ cS cT H.size x0 A V ok t_2) hP hD hS hA hK hN hT hAB hG1 (cvB (n := 1) (inr33 _ (List.mem_of_getElem? (i := 0) rfl)) (inr33 _ (List.mem_of_getElem? (i := 1) rfl)) (inr33 _ (List.mem_of_getElem? (i := 2) rfl)) (inr1 _ (List.mem_of_getElem? (i := 2) rfl)) (inr33 _ (List.mem_of_getElem? (i := 3) rfl)) (by decide +kernel) hts rfl rfl ⟨Nat.le_of_ble_eq_true rfl, Nat.le_of_ble_eq_true rfl⟩) 0 11 rfl rfl rfl rfl hl.1 rfl (Nat.le_of_ble_eq_true rfl) ⟨hcc, hss⟩ dL_law_752 (fun r_3 V_5 H locs h_4 hP hD hS => ?_)
  refine lv_pop hx hb dL_law_755 rfl ?_
  refine lv_aload_n hx hb dL_law_756 rfl (lv_at hl 2 rfl) ?_
  refine lv_aload_n hx hb dL_law_757 rfl (lv_at hl 0 rfl) ?_
  refine lv_iload_n hx hb dL_law_758 rfl (lv_at hl 3 rfl) ?_
  refine lv_iconst (v := 1) hx hb dL_law_759 (by decide) ?_
  refine z_iadd (v := t_1) hx hb dL_law_760 et_1 ?_
  refine va_sld hx hb hX hbl hbA hS (vin_nat (by omega) (by omega)) dL_law_761 ?_
  rw [et_2]
  refine laBi (As := [.int t_2]) (rest := []) (wa := xL cB cI cJ cZ cS cT x0 A V_5) (wb := mL cB cI cJ cZ cS cT m0 B U) ⟨hx, hb, hml, hown, hts⟩ (f_X12_unlike l G D cB cI cJ cZ cS cT H.size m0 B U okm t_2) hP hD hS hA hK hN hT hAB hG1 (cvB (n := 1) (inr33 _ (List.mem_of_getElem? (i := 11) rfl)) (inr33 _ (List.mem_of_getElem? (i := 12) rfl)) (inr33 _ (List.mem_of_getElem? (i := 13) rfl)) (inr1 _ (List.mem_of_getElem? (i := 5) rfl)) (inr33 _ (List.mem_of_getElem? (i := 14) rfl)) (by decide +kernel) hts rfl rfl ⟨Nat.le_of_ble_eq_true rfl, Nat.le_of_ble_eq_true rfl⟩) 0 12 rfl rfl rfl rfl hl.1 rfl (Nat.le_of_ble_eq_true rfl) ⟨hcc, hss⟩ dL_law_762 (fun r_7 U_9 H locs h_8 hP hD hS => ?_)
  refine lv_pop hx hb dL_law_765 rfl ?_
  refine lv_goto (tgt := 2115) hx hb dL_law_766 (by decide) ?_
  exact K V_5 U_9 H locs ls h_4 h_8 trivial hP hD hS (lv_sub hl [0, 1, 2, 3] rfl)

set_option maxHeartbeats 4000000 in
set_option maxRecDepth 100000 in
theorem law_19 {p : Program} {l : Launch} {e : Env} {s : State} {m : MethodId} {below : List Frame} {meth : Method} {c : Code} {G : Gho} {D : va_G} {cB cI cJ cZ cS cT : ClassId} {b L : Nat} {xs : Nat → Int32} {x0 m0 : Nat} {A B : Nat → Nat} {cells slots : Nat} (hL : L ≤ 3072) (C0 : lw_At p s m meth c b L xs) (hK : va_K D vwCl (tyL cB cI cJ cZ cS cT) s) (hN : kN s) (hT : kT G s s.heap) (hG : G.1 = s.heap.size) (hcc : cells ≤ 600000) (hss : slots ≤ 7302249) {H : Heap} {locs : List Loc} {ls : Array Slot} (V U : VX) (ok : xok V) (okm : mok U) (rel : True) (i3 : Int32) (hi : 0 ≤ i3.toInt ∧ i3.toInt + 6 ≤ (L : Int)) (hP : va_P D vwCl (xL cB cI cJ cZ cS cT x0 A V ++ mL cB cI cJ cZ cS cT m0 B U) H) (hD : va_D (fun q : Nat => s.heap.size ≤ q) (xL cB cI cJ cZ cS cT x0 A V ++ mL cB cI cJ cZ cS cT m0 B U)) (hS : va_S (fun q : Nat => s.heap.size ≤ q) s.heap H locs) (hl : lv_has ls 4 [(0, .ref b), (1, .ref x0), (2, .ref m0), (3, .int i3)]) (K : ∀ (V U : VX) (H : Heap) (locs : List Loc) (ls : Array Slot), xok V → mok U → True → va_P D vwCl (xL cB cI cJ cZ cS cT x0 A V ++ mL cB cI cJ cZ cS cT m0 B U) H → va_D (fun q : Nat => s.heap.size ≤ q) (xL cB cI cJ cZ cS cT x0 A V ++ mL cB cI cJ cZ cS cT m0 B U) → va_S (fun q : Nat => s.heap.size ≤ q) s.heap H locs → lv_has ls 4 [(0, .ref b), (1, .ref x0), (2, .ref m0), (3, .int i3)] → W p l e room_1 s m #[Value.ref b] below meth c H locs cells slots (lw_Z below #[Value.ref b] s) (F0 m 2115 ls [])) : W p l e room_1 s m #[Value.ref b] below meth c H locs cells slots (lw_Z below #[Value.ref b] s) (F0 m 769 ls []) := by
  obtain ⟨hx, hb, hr, hml, hown, hts0, hX, hbl, hlocks, hgv⟩ := id C0
  have hts : ∀ w ∈ wsL_law, w.before #[Value.ref b] s = true := fun w h => hts0 w (wsL_law_in w h)
  have hA : ∀ q : Nat, s.heap.size ≤ q → (fun q : Nat => s.heap.size ≤ q) q := fun _ h => h
  have hAB : ∀ q : Nat, (fun q : Nat => s.heap.size ≤ q) q → G.1 ≤ q := fun q h => by rw [hG]; exact h
  have hG1 : G.1 ≤ s.heap.size := by rw [hG]; exact Nat.le_refl _
  have hbA : ¬ (fun q : Nat => s.heap.size ≤ q) b := Nat.not_le.mpr hbl
  refine lv_aload_n hx hb dL_law_769 rfl (lv_at hl 1 rfl) ?_
  refine laAi (As := []) (rest := []) (wa := xL cB cI cJ cZ cS cT x0 A V) (wb := mL cB cI cJ cZ cS cT m0 B U) ⟨hx, hb, hml, hown, hts⟩ (f_X11_falls l G D cB cI cJ cZ cS cT H.size x0 A V ok ) hP hD hS hA hK hN hT hAB hG1 (cvB (n := 0) (inr33 _ (List.mem_of_getElem? (i := 18) rfl)) (inr33 _ (List.mem_of_getElem? (i := 19) rfl)) (inr33 _ (List.mem_of_getElem? (i := 20) rfl)) (inr1 _ (List.mem_of_getElem? (i := 2) rfl)) (inr33 _ (List.mem_of_getElem? (i := 21) rfl)) (by decide +kernel) hts rfl rfl ⟨Nat.le_of_ble_eq_true rfl, Nat.le_of_ble_eq_true rfl⟩) 0 11 rfl rfl rfl rfl hl.1 rfl (Nat.le_of_ble_eq_true rfl) ⟨hcc, hss⟩ dL_law_770 (fun r_1 V_3 H locs h_2 hP hD hS => ?_)
  refine lv_pop hx hb dL_law_773 rfl ?_
  refine lv_aload_n hx hb dL_law_774 rfl (lv_at hl 2 rfl) ?_
  refine laBi (As := []) (rest := []) (wa := xL cB cI cJ cZ cS cT x0 A V_3) (wb := mL cB cI cJ cZ cS cT m0 B U) ⟨hx, hb, hml, hown, hts⟩ (f_X12_falls l G D cB cI cJ cZ cS cT H.size m0 B U okm ) hP hD hS hA hK hN hT hAB hG1 (cvB (n := 0) (inr33 _ (List.mem_of_getElem? (i := 22) rfl)) (inr33 _ (List.mem_of_getElem? (i := 23) rfl)) (inr34 _ (List.mem_of_getElem? (i := 0) rfl)) (inr1 _ (List.mem_of_getElem? (i := 5) rfl)) (inr34 _ (List.mem_of_getElem? (i := 1) rfl)) (by decide +kernel) hts rfl rfl ⟨Nat.le_of_ble_eq_true rfl, Nat.le_of_ble_eq_true rfl⟩) 0 12 rfl rfl rfl rfl hl.1 rfl (Nat.le_of_ble_eq_true rfl) ⟨hcc, hss⟩ dL_law_775 (fun r_5 U_7 H locs h_6 hP hD hS => ?_)
  refine lv_pop hx hb dL_law_778 rfl ?_
  refine lv_goto (tgt := 2115) hx hb dL_law_779 (by decide) ?_
  exact K V_3 U_7 H locs ls h_2 h_6 trivial hP hD hS (lv_sub hl [0, 1, 2, 3] rfl)

set_option maxHeartbeats 4000000 in
set_option maxRecDepth 100000 in
theorem law_20 {p : Program} {l : Launch} {e : Env} {s : State} {m : MethodId} {below : List Frame} {meth : Method} {c : Code} {G : Gho} {D : va_G} {cB cI cJ cZ cS cT : ClassId} {b L : Nat} {xs : Nat → Int32} {x0 m0 : Nat} {A B : Nat → Nat} {cells slots : Nat} (hL : L ≤ 3072) (C0 : lw_At p s m meth c b L xs) (hK : va_K D vwCl (tyL cB cI cJ cZ cS cT) s) (hN : kN s) (hT : kT G s s.heap) (hG : G.1 = s.heap.size) (hcc : cells ≤ 600000) (hss : slots ≤ 7302249) {H : Heap} {locs : List Loc} {ls : Array Slot} (V U : VX) (ok : xok V) (okm : mok U) (rel : True) (i3 : Int32) (hi : 0 ≤ i3.toInt ∧ i3.toInt + 6 ≤ (L : Int)) (hP : va_P D vwCl (xL cB cI cJ cZ cS cT x0 A V ++ mL cB cI cJ cZ cS cT m0 B U) H) (hD : va_D (fun q : Nat => s.heap.size ≤ q) (xL cB cI cJ cZ cS cT x0 A V ++ mL cB cI cJ cZ cS cT m0 B U)) (hS : va_S (fun q : Nat => s.heap.size ≤ q) s.heap H locs) (hl : lv_has ls 4 [(0, .ref b), (1, .ref x0), (2, .ref m0), (3, .int i3)]) (K : ∀ (V U : VX) (H : Heap) (locs : List Loc) (ls : Array Slot), xok V → mok U → True → va_P D vwCl (xL cB cI cJ cZ cS cT x0 A V ++ mL cB cI cJ cZ cS cT m0 B U) H → va_D (fun q : Nat => s.heap.size ≤ q) (xL cB cI cJ cZ cS cT x0 A V ++ mL cB cI cJ cZ cS cT m0 B U) → va_S (fun q : Nat => s.heap.size ≤ q) s.heap H locs → lv_has ls 4 [(0, .ref b), (1, .ref x0), (2, .ref m0), (3, .int i3)] → W p l e room_1 s m #[Value.ref b] below meth c H locs cells slots (lw_Z below #[Value.ref b] s) (F0 m 2115 ls [])) : W p l e room_1 s m #[Value.ref b] below meth c H locs cells slots (lw_Z below #[Value.ref b] s) (F0 m 782 ls []) := by
  obtain ⟨hx, hb, hr, hml, hown, hts0, hX, hbl, hlocks, hgv⟩ := id C0
  have hts : ∀ w ∈ wsL_law, w.before #[Value.ref b] s = true := fun w h => hts0 w (wsL_law_in w h)
  have hA : ∀ q : Nat, s.heap.size ≤ q → (fun q : Nat => s.heap.size ≤ q) q := fun _ h => h
  have hAB : ∀ q : Nat, (fun q : Nat => s.heap.size ≤ q) q → G.1 ≤ q := fun q h => by rw [hG]; exact h
  have hG1 : G.1 ≤ s.heap.size := by rw [hG]; exact Nat.le_refl _
  have hbA : ¬ (fun q : Nat => s.heap.size ≤ q) b := Nat.not_le.mpr hbl
  refine lv_aload_n hx hb dL_law_782 rfl (lv_at hl 1 rfl) ?_
  refine laAi (As := []) (rest := []) (wa := xL cB cI cJ cZ cS cT x0 A V) (wb := mL cB cI cJ cZ cS cT m0 B U) ⟨hx, hb, hml, hown, hts⟩ (f_X11_leap l G D cB cI cJ cZ cS cT H.size x0 A V ok ) hP hD hS hA hK hN hT hAB hG1 (cvB (n := 0) (inr34 _ (List.mem_of_getElem? (i := 2) rfl)) (inr34 _ (List.mem_of_getElem? (i := 3) rfl)) (inr34 _ (List.mem_of_getElem? (i := 4) rfl)) (inr1 _ (List.mem_of_getElem? (i := 2) rfl)) (inr34 _ (List.mem_of_getElem? (i := 5) rfl)) (by decide +kernel) hts rfl rfl ⟨Nat.le_of_ble_eq_true rfl, Nat.le_of_ble_eq_true rfl⟩) 0 11 rfl rfl rfl rfl hl.1 rfl (Nat.le_of_ble_eq_true rfl) ⟨hcc, hss⟩ dL_law_783 (fun r_1 V_3 H locs h_2 hP hD hS => ?_)
  refine lv_pop hx hb dL_law_786 rfl ?_
  refine lv_aload_n hx hb dL_law_787 rfl (lv_at hl 2 rfl) ?_
  refine laBi (As := []) (rest := []) (wa := xL cB cI cJ cZ cS cT x0 A V_3) (wb := mL cB cI cJ cZ cS cT m0 B U) ⟨hx, hb, hml, hown, hts⟩ (f_X12_leap l G D cB cI cJ cZ cS cT H.size m0 B U okm ) hP hD hS hA hK hN hT hAB hG1 (cvB (n := 0) (inr34 _ (List.mem_of_getElem? (i := 13) rfl)) (inr34 _ (List.mem_of_getElem? (i := 14) rfl)) (inr34 _ (List.mem_of_getElem? (i := 15) rfl)) (inr1 _ (List.mem_of_getElem? (i := 5) rfl)) (inr34 _ (List.mem_of_getElem? (i := 16) rfl)) (by decide +kernel) hts rfl rfl ⟨Nat.le_of_ble_eq_true rfl, Nat.le_of_ble_eq_true rfl⟩) 0 12 rfl rfl rfl rfl hl.1 rfl (Nat.le_of_ble_eq_true rfl) ⟨hcc, hss⟩ dL_law_788 (fun r_5 U_7 H locs h_6 hP hD hS => ?_)
  refine lv_pop hx hb dL_law_791 rfl ?_
  refine lv_goto (tgt := 2115) hx hb dL_law_792 (by decide) ?_
  exact K V_3 U_7 H locs ls h_2 h_6 trivial hP hD hS (lv_sub hl [0, 1, 2, 3] rfl)

set_option maxHeartbeats 4000000 in
set_option maxRecDepth 100000 in
theorem law_21 {p : Program} {l : Launch} {e : Env} {s : State} {m : MethodId} {below : List Frame} {meth : Method} {c : Code} {G : Gho} {D : va_G} {cB cI cJ cZ cS cT : ClassId} {b L : Nat} {xs : Nat → Int32} {x0 m0 : Nat} {A B : Nat → Nat} {cells slots : Nat} (hL : L ≤ 3072) (C0 : lw_At p s m meth c b L xs) (hK : va_K D vwCl (tyL cB cI cJ cZ cS cT) s) (hN : kN s) (hT : kT G s s.heap) (hG : G.1 = s.heap.size) (hcc : cells ≤ 600000) (hss : slots ≤ 7302249) {H : Heap} {locs : List Loc} {ls : Array Slot} (V U : VX) (ok : xok V) (okm : mok U) (rel : True) (i3 : Int32) (hi : 0 ≤ i3.toInt ∧ i3.toInt + 6 ≤ (L : Int)) (hP : va_P D vwCl (xL cB cI cJ cZ cS cT x0 A V ++ mL cB cI cJ cZ cS cT m0 B U) H) (hD : va_D (fun q : Nat => s.heap.size ≤ q) (xL cB cI cJ cZ cS cT x0 A V ++ mL cB cI cJ cZ cS cT m0 B U)) (hS : va_S (fun q : Nat => s.heap.size ≤ q) s.heap H locs) (hl : lv_has ls 4 [(0, .ref b), (1, .ref x0), (2, .ref m0), (3, .int i3)]) (K : ∀ (V U : VX) (H : Heap) (locs : List Loc) (ls : Array Slot), xok V → mok U → True → va_P D vwCl (xL cB cI cJ cZ cS cT x0 A V ++ mL cB cI cJ cZ cS cT m0 B U) H → va_D (fun q : Nat => s.heap.size ≤ q) (xL cB cI cJ cZ cS cT x0 A V ++ mL cB cI cJ cZ cS cT m0 B U) → va_S (fun q : Nat => s.heap.size ≤ q) s.heap H locs → lv_has ls 4 [(0, .ref b), (1, .ref x0), (2, .ref m0), (3, .int i3)] → W p l e room_1 s m #[Value.ref b] below meth c H locs cells slots (lw_Z below #[Value.ref b] s) (F0 m 2115 ls [])) : W p l e room_1 s m #[Value.ref b] below meth c H locs cells slots (lw_Z below #[Value.ref b] s) (F0 m 795 ls []) := by
  obtain ⟨hx, hb, hr, hml, hown, hts0, hX, hbl, hlocks, hgv⟩ := id C0
  have hts : ∀ w ∈ wsL_law, w.before #[Value.ref b] s = true := fun w h => hts0 w (wsL_law_in w h)
  have hA : ∀ q : Nat, s.heap.size ≤ q → (fun q : Nat => s.heap.size ≤ q) q := fun _ h => h
  have hAB : ∀ q : Nat, (fun q : Nat => s.heap.size ≤ q) q → G.1 ≤ q := fun q h => by rw [hG]; exact h
  have hG1 : G.1 ≤ s.heap.size := by rw [hG]; exact Nat.le_refl _
  have hbA : ¬ (fun q : Nat => s.heap.size ≤ q) b := Nat.not_le.mpr hbl
  refine lv_aload_n hx hb dL_law_795 rfl (lv_at hl 1 rfl) ?_
  refine lv_aload_n hx hb dL_law_796 rfl (lv_at hl 0 rfl) ?_
  refine lv_iload_n hx hb dL_law_797 rfl (lv_at hl 3 rfl) ?_
  refine lv_iconst (v := 1) hx hb dL_law_798 (by decide) ?_
  obtain ⟨t_1, et_1⟩ : ∃ v9 : Int32, i3 + 1 = v9 := ⟨_, rfl⟩
  refine z_iadd (v := t_1) hx hb dL_law_799 et_1 ?_
  have b_i3 := i32b i3
  have ft_1 : t_1.toInt = i3.toInt + 1 := addT (a := i3.toInt) (b := 1) rfl (by decide) et_1 (by omega) (by omega)
  obtain ⟨t_2, et_2⟩ : ∃ v9 : Int32, xs (t_1 : Int32).toNatClampNeg = v9 := ⟨_, rfl⟩
  refine va_sld hx hb hX hbl hbA hS (vin_nat (by omega) (by omega)) dL_law_800 ?_
  rw [et_2]
  refine laAi (As := [.int t_2]) (rest := []) (wa := xL cB cI cJ cZ cS cT x0 A V) (wb := mL cB cI cJ cZ cS cT m0 B U) ⟨hx, hb, hml, hown, hts⟩ (f_X11_when l G D cB cI cJ cZ cS cT H.size x0 A V ok t_2) hP hD hS hA hK hN hT hAB hG1 (cvB (n := 1) (inr34 _ (List.mem_of_getElem? (i := 18) rfl)) (inr34 _ (List.mem_of_getElem? (i := 19) rfl)) (inr34 _ (List.mem_of_getElem? (i := 20) rfl)) (inr1 _ (List.mem_of_getElem? (i := 2) rfl)) (inr34 _ (List.mem_of_getElem? (i := 21) rfl)) (by decide +kernel) hts rfl rfl ⟨Nat.le_of_ble_eq_true rfl, Nat.le_of_ble_eq_true rfl⟩) 0 11 rfl rfl rfl rfl hl.1 rfl (Nat.le_of_ble_eq_true rfl) ⟨hcc, hss⟩ dL_law_801 (fun r_3 V_5 H locs h_4 hP hD hS => ?_)
  refine lv_pop hx hb dL_law_804 rfl ?_
  refine lv_aload_n hx hb dL_law_805 rfl (lv_at hl 2 rfl) ?_
  refine lv_aload_n hx hb dL_law_806 rfl (lv_at hl 0 rfl) ?_
  refine lv_iload_n hx hb dL_law_807 rfl (lv_at hl 3 rfl) ?_
  refine lv_iconst (v := 1) hx hb dL_law_808 (by decide) ?_
  refine z_iadd (v := t_1) hx hb dL_law_809 et_1 ?_
  refine va_sld hx hb hX hbl hbA hS (vin_nat (by omega) (by omega)) dL_law_810 ?_
  rw [et_2]
  refine laBi (As := [.int t_2]) (rest := []) (wa := xL cB cI cJ cZ cS cT x0 A V_5) (wb := mL cB cI cJ cZ cS cT m0 B U) ⟨hx, hb, hml, hown, hts⟩ (f_X12_when l G D cB cI cJ cZ cS cT H.size m0 B U okm t_2) hP hD hS hA hK hN hT hAB hG1 (cvB (n := 1) (inr34 _ (List.mem_of_getElem? (i := 22) rfl)) (inr34 _ (List.mem_of_getElem? (i := 23) rfl)) (inr35 _ (List.mem_of_getElem? (i := 0) rfl)) (inr1 _ (List.mem_of_getElem? (i := 5) rfl)) (inr35 _ (List.mem_of_getElem? (i := 1) rfl)) (by decide +kernel) hts rfl rfl ⟨Nat.le_of_ble_eq_true rfl, Nat.le_of_ble_eq_true rfl⟩) 0 12 rfl rfl rfl rfl hl.1 rfl (Nat.le_of_ble_eq_true rfl) ⟨hcc, hss⟩ dL_law_811 (fun r_7 U_9 H locs h_8 hP hD hS => ?_)
  refine lv_pop hx hb dL_law_814 rfl ?_
  refine lv_goto (tgt := 2115) hx hb dL_law_815 (by decide) ?_
  exact K V_5 U_9 H locs ls h_4 h_8 trivial hP hD hS (lv_sub hl [0, 1, 2, 3] rfl)

set_option maxHeartbeats 4000000 in
set_option maxRecDepth 100000 in
theorem law_22 {p : Program} {l : Launch} {e : Env} {s : State} {m : MethodId} {below : List Frame} {meth : Method} {c : Code} {G : Gho} {D : va_G} {cB cI cJ cZ cS cT : ClassId} {b L : Nat} {xs : Nat → Int32} {x0 m0 : Nat} {A B : Nat → Nat} {cells slots : Nat} (hL : L ≤ 3072) (C0 : lw_At p s m meth c b L xs) (hK : va_K D vwCl (tyL cB cI cJ cZ cS cT) s) (hN : kN s) (hT : kT G s s.heap) (hG : G.1 = s.heap.size) (hcc : cells ≤ 600000) (hss : slots ≤ 7302249) {H : Heap} {locs : List Loc} {ls : Array Slot} (V U : VX) (ok : xok V) (okm : mok U) (rel : True) (i3 : Int32) (hi : 0 ≤ i3.toInt ∧ i3.toInt + 6 ≤ (L : Int)) (hP : va_P D vwCl (xL cB cI cJ cZ cS cT x0 A V ++ mL cB cI cJ cZ cS cT m0 B U) H) (hD : va_D (fun q : Nat => s.heap.size ≤ q) (xL cB cI cJ cZ cS cT x0 A V ++ mL cB cI cJ cZ cS cT m0 B U)) (hS : va_S (fun q : Nat => s.heap.size ≤ q) s.heap H locs) (hl : lv_has ls 4 [(0, .ref b), (1, .ref x0), (2, .ref m0), (3, .int i3)]) (K : ∀ (V U : VX) (H : Heap) (locs : List Loc) (ls : Array Slot), xok V → mok U → True → va_P D vwCl (xL cB cI cJ cZ cS cT x0 A V ++ mL cB cI cJ cZ cS cT m0 B U) H → va_D (fun q : Nat => s.heap.size ≤ q) (xL cB cI cJ cZ cS cT x0 A V ++ mL cB cI cJ cZ cS cT m0 B U) → va_S (fun q : Nat => s.heap.size ≤ q) s.heap H locs → lv_has ls 4 [(0, .ref b), (1, .ref x0), (2, .ref m0), (3, .int i3)] → W p l e room_1 s m #[Value.ref b] below meth c H locs cells slots (lw_Z below #[Value.ref b] s) (F0 m 2115 ls [])) : W p l e room_1 s m #[Value.ref b] below meth c H locs cells slots (lw_Z below #[Value.ref b] s) (F0 m 818 ls []) := by
  obtain ⟨hx, hb, hr, hml, hown, hts0, hX, hbl, hlocks, hgv⟩ := id C0
  have hts : ∀ w ∈ wsL_law, w.before #[Value.ref b] s = true := fun w h => hts0 w (wsL_law_in w h)
  have hA : ∀ q : Nat, s.heap.size ≤ q → (fun q : Nat => s.heap.size ≤ q) q := fun _ h => h
  have hAB : ∀ q : Nat, (fun q : Nat => s.heap.size ≤ q) q → G.1 ≤ q := fun q h => by rw [hG]; exact h
  have hG1 : G.1 ≤ s.heap.size := by rw [hG]; exact Nat.le_refl _
  have hbA : ¬ (fun q : Nat => s.heap.size ≤ q) b := Nat.not_le.mpr hbl
  refine lv_aload_n hx hb dL_law_818 rfl (lv_at hl 1 rfl) ?_
  refine lv_aload_n hx hb dL_law_819 rfl (lv_at hl 0 rfl) ?_
  refine lv_iload_n hx hb dL_law_820 rfl (lv_at hl 3 rfl) ?_
  refine lv_iconst (v := 1) hx hb dL_law_821 (by decide) ?_
  obtain ⟨t_1, et_1⟩ : ∃ v9 : Int32, i3 + 1 = v9 := ⟨_, rfl⟩
  refine z_iadd (v := t_1) hx hb dL_law_822 et_1 ?_
  have b_i3 := i32b i3
  have ft_1 : t_1.toInt = i3.toInt + 1 := addT (a := i3.toInt) (b := 1) rfl (by decide) et_1 (by omega) (by omega)
  obtain ⟨t_2, et_2⟩ : ∃ v9 : Int32, xs (t_1 : Int32).toNatClampNeg = v9 := ⟨_, rfl⟩
  refine va_sld hx hb hX hbl hbA hS (vin_nat (by omega) (by omega)) dL_law_823 ?_
  rw [et_2]
  refine laAi (As := [.int t_2]) (rest := []) (wa := xL cB cI cJ cZ cS cT x0 A V) (wb := mL cB cI cJ cZ cS cT m0 B U) ⟨hx, hb, hml, hown, hts⟩ (f_X11_echo l G D cB cI cJ cZ cS cT H.size x0 A V ok t_2) hP hD hS hA hK hN hT hAB hG1 (cvB (n := 1) (inr35 _ (List.mem_of_getElem? (i := 2) rfl)) (inr35 _ (List.mem_of_getElem? (i := 3) rfl)) (inr35 _ (List.mem_of_getElem? (i := 4) rfl)) (inr1 _ (List.mem_of_getElem? (i := 2) rfl)) (inr35 _ (List.mem_of_getElem? (i := 5) rfl)) (by decide +kernel) hts rfl rfl ⟨Nat.le_of_ble_eq_true rfl, Nat.le_of_ble_eq_true rfl⟩) 0 11 rfl rfl rfl rfl hl.1 rfl (Nat.le_of_ble_eq_true rfl) ⟨hcc, hss⟩ dL_law_824 (fun r_3 V_5 H locs h_4 hP hD hS => ?_)
  refine lv_pop hx hb dL_law_827 rfl ?_
  refine lv_aload_n hx hb dL_law_828 rfl (lv_at hl 2 rfl) ?_
  refine lv_aload_n hx hb dL_law_829 rfl (lv_at hl 0 rfl) ?_
  refine lv_iload_n hx hb dL_law_830 rfl (lv_at hl 3 rfl) ?_
  refine lv_iconst (v := 1) hx hb dL_law_831 (by decide) ?_
  refine z_iadd (v := t_1) hx hb dL_law_832 et_1 ?_
  refine va_sld hx hb hX hbl hbA hS (vin_nat (by omega) (by omega)) dL_law_833 ?_
  rw [et_2]
  refine laBi (As := [.int t_2]) (rest := []) (wa := xL cB cI cJ cZ cS cT x0 A V_5) (wb := mL cB cI cJ cZ cS cT m0 B U) ⟨hx, hb, hml, hown, hts⟩ (f_X12_echo l G D cB cI cJ cZ cS cT H.size m0 B U okm t_2) hP hD hS hA hK hN hT hAB hG1 (cvB (n := 1) (inr35 _ (List.mem_of_getElem? (i := 11) rfl)) (inr35 _ (List.mem_of_getElem? (i := 12) rfl)) (inr35 _ (List.mem_of_getElem? (i := 13) rfl)) (inr1 _ (List.mem_of_getElem? (i := 5) rfl)) (inr35 _ (List.mem_of_getElem? (i := 14) rfl)) (by decide +kernel) hts rfl rfl ⟨Nat.le_of_ble_eq_true rfl, Nat.le_of_ble_eq_true rfl⟩) 0 12 rfl rfl rfl rfl hl.1 rfl (Nat.le_of_ble_eq_true rfl) ⟨hcc, hss⟩ dL_law_834 (fun r_7 U_9 H locs h_8 hP hD hS => ?_)
  refine lv_pop hx hb dL_law_837 rfl ?_
  refine lv_goto (tgt := 2115) hx hb dL_law_838 (by decide) ?_
  exact K V_5 U_9 H locs ls h_4 h_8 trivial hP hD hS (lv_sub hl [0, 1, 2, 3] rfl)

set_option maxHeartbeats 4000000 in
set_option maxRecDepth 100000 in
theorem law_23 {p : Program} {l : Launch} {e : Env} {s : State} {m : MethodId} {below : List Frame} {meth : Method} {c : Code} {G : Gho} {D : va_G} {cB cI cJ cZ cS cT : ClassId} {b L : Nat} {xs : Nat → Int32} {x0 m0 : Nat} {A B : Nat → Nat} {cells slots : Nat} (hL : L ≤ 3072) (C0 : lw_At p s m meth c b L xs) (hK : va_K D vwCl (tyL cB cI cJ cZ cS cT) s) (hN : kN s) (hT : kT G s s.heap) (hG : G.1 = s.heap.size) (hcc : cells ≤ 600000) (hss : slots ≤ 7302249) {H : Heap} {locs : List Loc} {ls : Array Slot} (V U : VX) (ok : xok V) (okm : mok U) (rel : True) (i3 : Int32) (hi : 0 ≤ i3.toInt ∧ i3.toInt + 6 ≤ (L : Int)) (hP : va_P D vwCl (xL cB cI cJ cZ cS cT x0 A V ++ mL cB cI cJ cZ cS cT m0 B U) H) (hD : va_D (fun q : Nat => s.heap.size ≤ q) (xL cB cI cJ cZ cS cT x0 A V ++ mL cB cI cJ cZ cS cT m0 B U)) (hS : va_S (fun q : Nat => s.heap.size ≤ q) s.heap H locs) (hl : lv_has ls 4 [(0, .ref b), (1, .ref x0), (2, .ref m0), (3, .int i3)]) (K : ∀ (V U : VX) (H : Heap) (locs : List Loc) (ls : Array Slot), xok V → mok U → True → va_P D vwCl (xL cB cI cJ cZ cS cT x0 A V ++ mL cB cI cJ cZ cS cT m0 B U) H → va_D (fun q : Nat => s.heap.size ≤ q) (xL cB cI cJ cZ cS cT x0 A V ++ mL cB cI cJ cZ cS cT m0 B U) → va_S (fun q : Nat => s.heap.size ≤ q) s.heap H locs → lv_has ls 4 [(0, .ref b), (1, .ref x0), (2, .ref m0), (3, .int i3)] → W p l e room_1 s m #[Value.ref b] below meth c H locs cells slots (lw_Z below #[Value.ref b] s) (F0 m 2115 ls [])) : W p l e room_1 s m #[Value.ref b] below meth c H locs cells slots (lw_Z below #[Value.ref b] s) (F0 m 841 ls []) := by
  obtain ⟨hx, hb, hr, hml, hown, hts0, hX, hbl, hlocks, hgv⟩ := id C0
  have hts : ∀ w ∈ wsL_law, w.before #[Value.ref b] s = true := fun w h => hts0 w (wsL_law_in w h)
  have hA : ∀ q : Nat, s.heap.size ≤ q → (fun q : Nat => s.heap.size ≤ q) q := fun _ h => h
  have hAB : ∀ q : Nat, (fun q : Nat => s.heap.size ≤ q) q → G.1 ≤ q := fun q h => by rw [hG]; exact h
  have hG1 : G.1 ≤ s.heap.size := by rw [hG]; exact Nat.le_refl _
  have hbA : ¬ (fun q : Nat => s.heap.size ≤ q) b := Nat.not_le.mpr hbl
  refine lv_aload_n hx hb dL_law_841 rfl (lv_at hl 1 rfl) ?_
  refine lv_aload_n hx hb dL_law_842 rfl (lv_at hl 0 rfl) ?_
  refine lv_iload_n hx hb dL_law_843 rfl (lv_at hl 3 rfl) ?_
  refine lv_iconst (v := 1) hx hb dL_law_844 (by decide) ?_
  obtain ⟨t_1, et_1⟩ : ∃ v9 : Int32, i3 + 1 = v9 := ⟨_, rfl⟩
  refine z_iadd (v := t_1) hx hb dL_law_845 et_1 ?_
  have b_i3 := i32b i3
  have ft_1 : t_1.toInt = i3.toInt + 1 := addT (a := i3.toInt) (b := 1) rfl (by decide) et_1 (by omega) (by omega)
  obtain ⟨t_2, et_2⟩ : ∃ v9 : Int32, xs (t_1 : Int32).toNatClampNeg = v9 := ⟨_, rfl⟩
  refine va_sld hx hb hX hbl hbA hS (vin_nat (by omega) (by omega)) dL_law_846 ?_
  rw [et_2]
  refine lv_aload_n hx hb dL_law_847 rfl (lv_at hl 0 rfl) ?_
  refine lv_iload_n hx hb dL_law_848 rfl (lv_at hl 3 rfl) ?_
  refine lv_iconst (v := 2) hx hb dL_law_849 (by decide) ?_
  obtain ⟨t_3, et_3⟩ : ∃ v9 : Int32, i3 + 2 = v9 := ⟨_, rfl⟩
  refine z_iadd (v := t_3) hx hb dL_law_850 et_3 ?_
  have ft_3 : t_3.toInt = i3.toInt + 2 := addT (a := i3.toInt) (b := 2) rfl (by decide) et_3 (by omega) (by omega)
  obtain ⟨t_4, et_4⟩ : ∃ v9 : Int32, xs (t_3 : Int32).toNatClampNeg = v9 := ⟨_, rfl⟩
  refine va_sld hx hb hX hbl hbA hS (vin_nat (by omega) (by omega)) dL_law_851 ?_
  rw [et_4]
  refine laAi (As := [.int t_2, .int t_4]) (rest := []) (wa := xL cB cI cJ cZ cS cT x0 A V) (wb := mL cB cI cJ cZ cS cT m0 B U) ⟨hx, hb, hml, hown, hts⟩ (f_X11_shift l G D cB cI cJ cZ cS cT H.size x0 A V ok t_2 t_4) hP hD hS hA hK hN hT hAB hG1 (cvB (n := 2) (inr35 _ (List.mem_of_getElem? (i := 15) rfl)) (inr35 _ (List.mem_of_getElem? (i := 16) rfl)) (inr35 _ (List.mem_of_getElem? (i := 17) rfl)) (inr1 _ (List.mem_of_getElem? (i := 2) rfl)) (inr35 _ (List.mem_of_getElem? (i := 18) rfl)) (by decide +kernel) hts rfl rfl ⟨Nat.le_of_ble_eq_true rfl, Nat.le_of_ble_eq_true rfl⟩) 0 11 rfl rfl rfl rfl hl.1 rfl (Nat.le_of_ble_eq_true rfl) ⟨hcc, hss⟩ dL_law_852 (fun r_5 V_7 H locs h_6 hP hD hS => ?_)
  refine lv_pop hx hb dL_law_855 rfl ?_
  refine lv_aload_n hx hb dL_law_856 rfl (lv_at hl 2 rfl) ?_
  refine lv_aload_n hx hb dL_law_857 rfl (lv_at hl 0 rfl) ?_
  refine lv_iload_n hx hb dL_law_858 rfl (lv_at hl 3 rfl) ?_
  refine lv_iconst (v := 1) hx hb dL_law_859 (by decide) ?_
  refine z_iadd (v := t_1) hx hb dL_law_860 et_1 ?_
  refine va_sld hx hb hX hbl hbA hS (vin_nat (by omega) (by omega)) dL_law_861 ?_
  rw [et_2]
  refine lv_aload_n hx hb dL_law_862 rfl (lv_at hl 0 rfl) ?_
  refine lv_iload_n hx hb dL_law_863 rfl (lv_at hl 3 rfl) ?_
  refine lv_iconst (v := 2) hx hb dL_law_864 (by decide) ?_
  refine z_iadd (v := t_3) hx hb dL_law_865 et_3 ?_
  refine va_sld hx hb hX hbl hbA hS (vin_nat (by omega) (by omega)) dL_law_866 ?_
  rw [et_4]
  refine laBi (As := [.int t_2, .int t_4]) (rest := []) (wa := xL cB cI cJ cZ cS cT x0 A V_7) (wb := mL cB cI cJ cZ cS cT m0 B U) ⟨hx, hb, hml, hown, hts⟩ (f_X12_shift l G D cB cI cJ cZ cS cT H.size m0 B U okm t_2 t_4) hP hD hS hA hK hN hT hAB hG1 (cvB (n := 2) (inr36 _ (List.mem_of_getElem? (i := 11) rfl)) (inr36 _ (List.mem_of_getElem? (i := 12) rfl)) (inr36 _ (List.mem_of_getElem? (i := 13) rfl)) (inr1 _ (List.mem_of_getElem? (i := 5) rfl)) (inr36 _ (List.mem_of_getElem? (i := 14) rfl)) (by decide +kernel) hts rfl rfl ⟨Nat.le_of_ble_eq_true rfl, Nat.le_of_ble_eq_true rfl⟩) 0 12 rfl rfl rfl rfl hl.1 rfl (Nat.le_of_ble_eq_true rfl) ⟨hcc, hss⟩ dL_law_867 (fun r_9 U_11 H locs h_10 hP hD hS => ?_)
  refine lv_pop hx hb dL_law_870 rfl ?_
  refine lv_goto (tgt := 2115) hx hb dL_law_871 (by decide) ?_
  exact K V_7 U_11 H locs ls h_6 h_10 trivial hP hD hS (lv_sub hl [0, 1, 2, 3] rfl)

set_option maxHeartbeats 4000000 in
set_option maxRecDepth 100000 in
theorem law_24 {p : Program} {l : Launch} {e : Env} {s : State} {m : MethodId} {below : List Frame} {meth : Method} {c : Code} {G : Gho} {D : va_G} {cB cI cJ cZ cS cT : ClassId} {b L : Nat} {xs : Nat → Int32} {x0 m0 : Nat} {A B : Nat → Nat} {cells slots : Nat} (hL : L ≤ 3072) (C0 : lw_At p s m meth c b L xs) (hK : va_K D vwCl (tyL cB cI cJ cZ cS cT) s) (hN : kN s) (hT : kT G s s.heap) (hG : G.1 = s.heap.size) (hcc : cells ≤ 600000) (hss : slots ≤ 7302249) {H : Heap} {locs : List Loc} {ls : Array Slot} (V U : VX) (ok : xok V) (okm : mok U) (rel : True) (i3 : Int32) (hi : 0 ≤ i3.toInt ∧ i3.toInt + 6 ≤ (L : Int)) (hP : va_P D vwCl (xL cB cI cJ cZ cS cT x0 A V ++ mL cB cI cJ cZ cS cT m0 B U) H) (hD : va_D (fun q : Nat => s.heap.size ≤ q) (xL cB cI cJ cZ cS cT x0 A V ++ mL cB cI cJ cZ cS cT m0 B U)) (hS : va_S (fun q : Nat => s.heap.size ≤ q) s.heap H locs) (hl : lv_has ls 4 [(0, .ref b), (1, .ref x0), (2, .ref m0), (3, .int i3)]) (K : ∀ (V U : VX) (H : Heap) (locs : List Loc) (ls : Array Slot), xok V → mok U → True → va_P D vwCl (xL cB cI cJ cZ cS cT x0 A V ++ mL cB cI cJ cZ cS cT m0 B U) H → va_D (fun q : Nat => s.heap.size ≤ q) (xL cB cI cJ cZ cS cT x0 A V ++ mL cB cI cJ cZ cS cT m0 B U) → va_S (fun q : Nat => s.heap.size ≤ q) s.heap H locs → lv_has ls 4 [(0, .ref b), (1, .ref x0), (2, .ref m0), (3, .int i3)] → W p l e room_1 s m #[Value.ref b] below meth c H locs cells slots (lw_Z below #[Value.ref b] s) (F0 m 2115 ls [])) : W p l e room_1 s m #[Value.ref b] below meth c H locs cells slots (lw_Z below #[Value.ref b] s) (F0 m 874 ls []) := by
  obtain ⟨hx, hb, hr, hml, hown, hts0, hX, hbl, hlocks, hgv⟩ := id C0
  have hts : ∀ w ∈ wsL_law, w.before #[Value.ref b] s = true := fun w h => hts0 w (wsL_law_in w h)
  have hA : ∀ q : Nat, s.heap.size ≤ q → (fun q : Nat => s.heap.size ≤ q) q := fun _ h => h
  have hAB : ∀ q : Nat, (fun q : Nat => s.heap.size ≤ q) q → G.1 ≤ q := fun q h => by rw [hG]; exact h
  have hG1 : G.1 ≤ s.heap.size := by rw [hG]; exact Nat.le_refl _
  have hbA : ¬ (fun q : Nat => s.heap.size ≤ q) b := Nat.not_le.mpr hbl
  refine lv_aload_n hx hb dL_law_874 rfl (lv_at hl 1 rfl) ?_
  refine lv_aload_n hx hb dL_law_875 rfl (lv_at hl 0 rfl) ?_
  refine lv_iload_n hx hb dL_law_876 rfl (lv_at hl 3 rfl) ?_
  refine lv_iconst (v := 1) hx hb dL_law_877 (by decide) ?_
  obtain ⟨t_1, et_1⟩ : ∃ v9 : Int32, i3 + 1 = v9 := ⟨_, rfl⟩
  refine z_iadd (v := t_1) hx hb dL_law_878 et_1 ?_
  have b_i3 := i32b i3
  have ft_1 : t_1.toInt = i3.toInt + 1 := addT (a := i3.toInt) (b := 1) rfl (by decide) et_1 (by omega) (by omega)
  obtain ⟨t_2, et_2⟩ : ∃ v9 : Int32, xs (t_1 : Int32).toNatClampNeg = v9 := ⟨_, rfl⟩
  refine va_sld hx hb hX hbl hbA hS (vin_nat (by omega) (by omega)) dL_law_879 ?_
  rw [et_2]
  refine lv_aload_n hx hb dL_law_880 rfl (lv_at hl 0 rfl) ?_
  refine lv_iload_n hx hb dL_law_881 rfl (lv_at hl 3 rfl) ?_
  refine lv_iconst (v := 2) hx hb dL_law_882 (by decide) ?_
  obtain ⟨t_3, et_3⟩ : ∃ v9 : Int32, i3 + 2 = v9 := ⟨_, rfl⟩
  refine z_iadd (v := t_3) hx hb dL_law_883 et_3 ?_
  have ft_3 : t_3.toInt = i3.toInt + 2 := addT (a := i3.toInt) (b := 2) rfl (by decide) et_3 (by omega) (by omega)
  obtain ⟨t_4, et_4⟩ : ∃ v9 : Int32, xs (t_3 : Int32).toNatClampNeg = v9 := ⟨_, rfl⟩
  refine va_sld hx hb hX hbl hbA hS (vin_nat (by omega) (by omega)) dL_law_884 ?_
  rw [et_4]
  refine laAi (As := [.int t_2, .int t_4]) (rest := []) (wa := xL cB cI cJ cZ cS cT x0 A V) (wb := mL cB cI cJ cZ cS cT m0 B U) ⟨hx, hb, hml, hown, hts⟩ (f_X11_heals l G D cB cI cJ cZ cS cT H.size x0 A V ok t_2 t_4) hP hD hS hA hK hN hT hAB hG1 (cvB (n := 2) (inr36 _ (List.mem_of_getElem? (i := 23) rfl)) (inr37 _ (List.mem_of_getElem? (i := 0) rfl)) (inr37 _ (List.mem_of_getElem? (i := 1) rfl)) (inr1 _ (List.mem_of_getElem? (i := 2) rfl)) (inr37 _ (List.mem_of_getElem? (i := 2) rfl)) (by decide +kernel) hts rfl rfl ⟨Nat.le_of_ble_eq_true rfl, Nat.le_of_ble_eq_true rfl⟩) 0 11 rfl rfl rfl rfl hl.1 rfl (Nat.le_of_ble_eq_true rfl) ⟨hcc, hss⟩ dL_law_885 (fun r_5 V_7 H locs h_6 hP hD hS => ?_)
  refine lv_pop hx hb dL_law_888 rfl ?_
  refine lv_aload_n hx hb dL_law_889 rfl (lv_at hl 2 rfl) ?_
  refine lv_aload_n hx hb dL_law_890 rfl (lv_at hl 0 rfl) ?_
  refine lv_iload_n hx hb dL_law_891 rfl (lv_at hl 3 rfl) ?_
  refine lv_iconst (v := 1) hx hb dL_law_892 (by decide) ?_
  refine z_iadd (v := t_1) hx hb dL_law_893 et_1 ?_
  refine va_sld hx hb hX hbl hbA hS (vin_nat (by omega) (by omega)) dL_law_894 ?_
  rw [et_2]
  refine lv_aload_n hx hb dL_law_895 rfl (lv_at hl 0 rfl) ?_
  refine lv_iload_n hx hb dL_law_896 rfl (lv_at hl 3 rfl) ?_
  refine lv_iconst (v := 2) hx hb dL_law_897 (by decide) ?_
  refine z_iadd (v := t_3) hx hb dL_law_898 et_3 ?_
  refine va_sld hx hb hX hbl hbA hS (vin_nat (by omega) (by omega)) dL_law_899 ?_
  rw [et_4]
  refine laBi (As := [.int t_2, .int t_4]) (rest := []) (wa := xL cB cI cJ cZ cS cT x0 A V_7) (wb := mL cB cI cJ cZ cS cT m0 B U) ⟨hx, hb, hml, hown, hts⟩ (f_X12_heals l G D cB cI cJ cZ cS cT H.size m0 B U okm t_2 t_4) hP hD hS hA hK hN hT hAB hG1 (cvB (n := 2) (inr37 _ (List.mem_of_getElem? (i := 3) rfl)) (inr37 _ (List.mem_of_getElem? (i := 4) rfl)) (inr37 _ (List.mem_of_getElem? (i := 5) rfl)) (inr1 _ (List.mem_of_getElem? (i := 5) rfl)) (inr37 _ (List.mem_of_getElem? (i := 6) rfl)) (by decide +kernel) hts rfl rfl ⟨Nat.le_of_ble_eq_true rfl, Nat.le_of_ble_eq_true rfl⟩) 0 12 rfl rfl rfl rfl hl.1 rfl (Nat.le_of_ble_eq_true rfl) ⟨hcc, hss⟩ dL_law_900 (fun r_9 U_11 H locs h_10 hP hD hS => ?_)
  refine lv_pop hx hb dL_law_903 rfl ?_
  refine lv_goto (tgt := 2115) hx hb dL_law_904 (by decide) ?_
  exact K V_7 U_11 H locs ls h_6 h_10 trivial hP hD hS (lv_sub hl [0, 1, 2, 3] rfl)

set_option maxHeartbeats 4000000 in
set_option maxRecDepth 100000 in
theorem law_25 {p : Program} {l : Launch} {e : Env} {s : State} {m : MethodId} {below : List Frame} {meth : Method} {c : Code} {G : Gho} {D : va_G} {cB cI cJ cZ cS cT : ClassId} {b L : Nat} {xs : Nat → Int32} {x0 m0 : Nat} {A B : Nat → Nat} {cells slots : Nat} (hL : L ≤ 3072) (C0 : lw_At p s m meth c b L xs) (hK : va_K D vwCl (tyL cB cI cJ cZ cS cT) s) (hN : kN s) (hT : kT G s s.heap) (hG : G.1 = s.heap.size) (hcc : cells ≤ 600000) (hss : slots ≤ 7302249) {H : Heap} {locs : List Loc} {ls : Array Slot} (V U : VX) (ok : xok V) (okm : mok U) (rel : True) (i3 : Int32) (hi : 0 ≤ i3.toInt ∧ i3.toInt + 6 ≤ (L : Int)) (hP : va_P D vwCl (xL cB cI cJ cZ cS cT x0 A V ++ mL cB cI cJ cZ cS cT m0 B U) H) (hD : va_D (fun q : Nat => s.heap.size ≤ q) (xL cB cI cJ cZ cS cT x0 A V ++ mL cB cI cJ cZ cS cT m0 B U)) (hS : va_S (fun q : Nat => s.heap.size ≤ q) s.heap H locs) (hl : lv_has ls 4 [(0, .ref b), (1, .ref x0), (2, .ref m0), (3, .int i3)]) (K : ∀ (V U : VX) (H : Heap) (locs : List Loc) (ls : Array Slot), xok V → mok U → True → va_P D vwCl (xL cB cI cJ cZ cS cT x0 A V ++ mL cB cI cJ cZ cS cT m0 B U) H → va_D (fun q : Nat => s.heap.size ≤ q) (xL cB cI cJ cZ cS cT x0 A V ++ mL cB cI cJ cZ cS cT m0 B U) → va_S (fun q : Nat => s.heap.size ≤ q) s.heap H locs → lv_has ls 4 [(0, .ref b), (1, .ref x0), (2, .ref m0), (3, .int i3)] → W p l e room_1 s m #[Value.ref b] below meth c H locs cells slots (lw_Z below #[Value.ref b] s) (F0 m 2115 ls [])) : W p l e room_1 s m #[Value.ref b] below meth c H locs cells slots (lw_Z below #[Value.ref b] s) (F0 m 907 ls []) := by
  obtain ⟨hx, hb, hr, hml, hown, hts0, hX, hbl, hlocks, hgv⟩ := id C0
  have hts : ∀ w ∈ wsL_law, w.before #[Value.ref b] s = true := fun w h => hts0 w (wsL_law_in w h)
  have hA : ∀ q : Nat, s.heap.size ≤ q → (fun q : Nat => s.heap.size ≤ q) q := fun _ h => h
  have hAB : ∀ q : Nat, (fun q : Nat => s.heap.size ≤ q) q → G.1 ≤ q := fun q h => by rw [hG]; exact h
  have hG1 : G.1 ≤ s.heap.size := by rw [hG]; exact Nat.le_refl _
  have hbA : ¬ (fun q : Nat => s.heap.size ≤ q) b := Nat.not_le.mpr hbl
  refine lv_aload_n hx hb dL_law_907 rfl (lv_at hl 1 rfl) ?_
  refine lv_aload_n hx hb dL_law_908 rfl (lv_at hl 0 rfl) ?_
  refine lv_iload_n hx hb dL_law_909 rfl (lv_at hl 3 rfl) ?_
  refine lv_iconst (v := 1) hx hb dL_law_910 (by decide) ?_
  obtain ⟨t_1, et_1⟩ : ∃ v9 : Int32, i3 + 1 = v9 := ⟨_, rfl⟩
  refine z_iadd (v := t_1) hx hb dL_law_911 et_1 ?_
  have b_i3 := i32b i3
  have ft_1 : t_1.toInt = i3.toInt + 1 := addT (a := i3.toInt) (b := 1) rfl (by decide) et_1 (by omega) (by omega)
  obtain ⟨t_2, et_2⟩ : ∃ v9 : Int32, xs (t_1 : Int32).toNatClampNeg = v9 := ⟨_, rfl⟩
  refine va_sld hx hb hX hbl hbA hS (vin_nat (by omega) (by omega)) dL_law_912 ?_
  rw [et_2]
  refine laAi (As := [.int t_2]) (rest := []) (wa := xL cB cI cJ cZ cS cT x0 A V) (wb := mL cB cI cJ cZ cS cT m0 B U) ⟨hx, hb, hml, hown, hts⟩ (f_X11_worst l G D cB cI cJ cZ cS cT H.size x0 A V ok t_2) hP hD hS hA hK hN hT hAB hG1 (cvB (n := 1) (inr37 _ (List.mem_of_getElem? (i := 7) rfl)) (inr37 _ (List.mem_of_getElem? (i := 8) rfl)) (inr37 _ (List.mem_of_getElem? (i := 9) rfl)) (inr1 _ (List.mem_of_getElem? (i := 2) rfl)) (inr37 _ (List.mem_of_getElem? (i := 10) rfl)) (by decide +kernel) hts rfl rfl ⟨Nat.le_of_ble_eq_true rfl, Nat.le_of_ble_eq_true rfl⟩) 0 11 rfl rfl rfl rfl hl.1 rfl (Nat.le_of_ble_eq_true rfl) ⟨hcc, hss⟩ dL_law_913 (fun r_3 V_5 H locs h_4 hP hD hS => ?_)
  refine lv_pop hx hb dL_law_916 rfl ?_
  refine lv_aload_n hx hb dL_law_917 rfl (lv_at hl 2 rfl) ?_
  refine lv_aload_n hx hb dL_law_918 rfl (lv_at hl 0 rfl) ?_
  refine lv_iload_n hx hb dL_law_919 rfl (lv_at hl 3 rfl) ?_
  refine lv_iconst (v := 1) hx hb dL_law_920 (by decide) ?_
  refine z_iadd (v := t_1) hx hb dL_law_921 et_1 ?_
  refine va_sld hx hb hX hbl hbA hS (vin_nat (by omega) (by omega)) dL_law_922 ?_
  rw [et_2]
  refine laBi (As := [.int t_2]) (rest := []) (wa := xL cB cI cJ cZ cS cT x0 A V_5) (wb := mL cB cI cJ cZ cS cT m0 B U) ⟨hx, hb, hml, hown, hts⟩ (f_X12_worst l G D cB cI cJ cZ cS cT H.size m0 B U okm t_2) hP hD hS hA hK hN hT hAB hG1 (cvB (n := 1) (inr37 _ (List.mem_of_getElem? (i := 11) rfl)) (inr37 _ (List.mem_of_getElem? (i := 12) rfl)) (inr37 _ (List.mem_of_getElem? (i := 13) rfl)) (inr1 _ (List.mem_of_getElem? (i := 5) rfl)) (inr37 _ (List.mem_of_getElem? (i := 14) rfl)) (by decide +kernel) hts rfl rfl ⟨Nat.le_of_ble_eq_true rfl, Nat.le_of_ble_eq_true rfl⟩) 0 12 rfl rfl rfl rfl hl.1 rfl (Nat.le_of_ble_eq_true rfl) ⟨hcc, hss⟩ dL_law_923 (fun r_7 U_9 H locs h_8 hP hD hS => ?_)
  refine lv_pop hx hb dL_law_926 rfl ?_
  refine lv_goto (tgt := 2115) hx hb dL_law_927 (by decide) ?_
  exact K V_5 U_9 H locs ls h_4 h_8 trivial hP hD hS (lv_sub hl [0, 1, 2, 3] rfl)

set_option maxHeartbeats 4000000 in
set_option maxRecDepth 100000 in
theorem law_26 {p : Program} {l : Launch} {e : Env} {s : State} {m : MethodId} {below : List Frame} {meth : Method} {c : Code} {G : Gho} {D : va_G} {cB cI cJ cZ cS cT : ClassId} {b L : Nat} {xs : Nat → Int32} {x0 m0 : Nat} {A B : Nat → Nat} {cells slots : Nat} (hL : L ≤ 3072) (C0 : lw_At p s m meth c b L xs) (hK : va_K D vwCl (tyL cB cI cJ cZ cS cT) s) (hN : kN s) (hT : kT G s s.heap) (hG : G.1 = s.heap.size) (hcc : cells ≤ 600000) (hss : slots ≤ 7302249) {H : Heap} {locs : List Loc} {ls : Array Slot} (V U : VX) (ok : xok V) (okm : mok U) (rel : True) (i3 : Int32) (hi : 0 ≤ i3.toInt ∧ i3.toInt + 6 ≤ (L : Int)) (hP : va_P D vwCl (xL cB cI cJ cZ cS cT x0 A V ++ mL cB cI cJ cZ cS cT m0 B U) H) (hD : va_D (fun q : Nat => s.heap.size ≤ q) (xL cB cI cJ cZ cS cT x0 A V ++ mL cB cI cJ cZ cS cT m0 B U)) (hS : va_S (fun q : Nat => s.heap.size ≤ q) s.heap H locs) (hl : lv_has ls 4 [(0, .ref b), (1, .ref x0), (2, .ref m0), (3, .int i3)]) (K : ∀ (V U : VX) (H : Heap) (locs : List Loc) (ls : Array Slot), xok V → mok U → True → va_P D vwCl (xL cB cI cJ cZ cS cT x0 A V ++ mL cB cI cJ cZ cS cT m0 B U) H → va_D (fun q : Nat => s.heap.size ≤ q) (xL cB cI cJ cZ cS cT x0 A V ++ mL cB cI cJ cZ cS cT m0 B U) → va_S (fun q : Nat => s.heap.size ≤ q) s.heap H locs → lv_has ls 4 [(0, .ref b), (1, .ref x0), (2, .ref m0), (3, .int i3)] → W p l e room_1 s m #[Value.ref b] below meth c H locs cells slots (lw_Z below #[Value.ref b] s) (F0 m 2115 ls [])) : W p l e room_1 s m #[Value.ref b] below meth c H locs cells slots (lw_Z below #[Value.ref b] s) (F0 m 930 ls []) := by
  obtain ⟨hx, hb, hr, hml, hown, hts0, hX, hbl, hlocks, hgv⟩ := id C0
  have hts : ∀ w ∈ wsL_law, w.before #[Value.ref b] s = true := fun w h => hts0 w (wsL_law_in w h)
  have hA : ∀ q : Nat, s.heap.size ≤ q → (fun q : Nat => s.heap.size ≤ q) q := fun _ h => h
  have hAB : ∀ q : Nat, (fun q : Nat => s.heap.size ≤ q) q → G.1 ≤ q := fun q h => by rw [hG]; exact h
  have hG1 : G.1 ≤ s.heap.size := by rw [hG]; exact Nat.le_refl _
  have hbA : ¬ (fun q : Nat => s.heap.size ≤ q) b := Nat.not_le.mpr hbl
  refine lv_aload_n hx hb dL_law_930 rfl (lv_at hl 1 rfl) ?_
  refine laAi (As := []) (rest := []) (wa := xL cB cI cJ cZ cS cT x0 A V) (wb := mL cB cI cJ cZ cS cT m0 B U) ⟨hx, hb, hml, hown, hts⟩ (f_X11_pretty l G D cB cI cJ cZ cS cT H.size x0 A V ok ) hP hD hS hA hK hN hT hAB hG1 (cvB (n := 0) (inr37 _ (List.mem_of_getElem? (i := 15) rfl)) (inr37 _ (List.mem_of_getElem? (i := 16) rfl)) (inr37 _ (List.mem_of_getElem? (i := 17) rfl)) (inr1 _ (List.mem_of_getElem? (i := 2) rfl)) (inr37 _ (List.mem_of_getElem? (i := 18) rfl)) (by decide +kernel) hts rfl rfl ⟨Nat.le_of_ble_eq_true rfl, Nat.le_of_ble_eq_true rfl⟩) 0 11 rfl rfl rfl rfl hl.1 rfl (Nat.le_of_ble_eq_true rfl) ⟨hcc, hss⟩ dL_law_931 (fun r_1 V_3 H locs h_2 hP hD hS => ?_)
  refine lv_pop hx hb dL_law_934 rfl ?_
  refine lv_aload_n hx hb dL_law_935 rfl (lv_at hl 2 rfl) ?_
  refine laBi (As := []) (rest := []) (wa := xL cB cI cJ cZ cS cT x0 A V_3) (wb := mL cB cI cJ cZ cS cT m0 B U) ⟨hx, hb, hml, hown, hts⟩ (f_X12_pretty l G D cB cI cJ cZ cS cT H.size m0 B U okm ) hP hD hS hA hK hN hT hAB hG1 (cvB (n := 0) (inr38 _ (List.mem_of_getElem? (i := 21) rfl)) (inr38 _ (List.mem_of_getElem? (i := 22) rfl)) (inr38 _ (List.mem_of_getElem? (i := 23) rfl)) (inr1 _ (List.mem_of_getElem? (i := 5) rfl)) (inr39 _ (List.mem_of_getElem? (i := 0) rfl)) (by decide +kernel) hts rfl rfl ⟨Nat.le_of_ble_eq_true rfl, Nat.le_of_ble_eq_true rfl⟩) 0 12 rfl rfl rfl rfl hl.1 rfl (Nat.le_of_ble_eq_true rfl) ⟨hcc, hss⟩ dL_law_936 (fun r_5 U_7 H locs h_6 hP hD hS => ?_)
  refine lv_pop hx hb dL_law_939 rfl ?_
  refine lv_goto (tgt := 2115) hx hb dL_law_940 (by decide) ?_
  exact K V_3 U_7 H locs ls h_2 h_6 trivial hP hD hS (lv_sub hl [0, 1, 2, 3] rfl)

set_option maxHeartbeats 4000000 in
set_option maxRecDepth 100000 in
theorem law_27 {p : Program} {l : Launch} {e : Env} {s : State} {m : MethodId} {below : List Frame} {meth : Method} {c : Code} {G : Gho} {D : va_G} {cB cI cJ cZ cS cT : ClassId} {b L : Nat} {xs : Nat → Int32} {x0 m0 : Nat} {A B : Nat → Nat} {cells slots : Nat} (hL : L ≤ 3072) (C0 : lw_At p s m meth c b L xs) (hK : va_K D vwCl (tyL cB cI cJ cZ cS cT) s) (hN : kN s) (hT : kT G s s.heap) (hG : G.1 = s.heap.size) (hcc : cells ≤ 600000) (hss : slots ≤ 7302249) {H : Heap} {locs : List Loc} {ls : Array Slot} (V U : VX) (ok : xok V) (okm : mok U) (rel : True) (i3 : Int32) (hi : 0 ≤ i3.toInt ∧ i3.toInt + 6 ≤ (L : Int)) (hP : va_P D vwCl (xL cB cI cJ cZ cS cT x0 A V ++ mL cB cI cJ cZ cS cT m0 B U) H) (hD : va_D (fun q : Nat => s.heap.size ≤ q) (xL cB cI cJ cZ cS cT x0 A V ++ mL cB cI cJ cZ cS cT m0 B U)) (hS : va_S (fun q : Nat => s.heap.size ≤ q) s.heap H locs) (hl : lv_has ls 4 [(0, .ref b), (1, .ref x0), (2, .ref m0), (3, .int i3)]) (K : ∀ (V U : VX) (H : Heap) (locs : List Loc) (ls : Array Slot), xok V → mok U → True → va_P D vwCl (xL cB cI cJ cZ cS cT x0 A V ++ mL cB cI cJ cZ cS cT m0 B U) H → va_D (fun q : Nat => s.heap.size ≤ q) (xL cB cI cJ cZ cS cT x0 A V ++ mL cB cI cJ cZ cS cT m0 B U) → va_S (fun q : Nat => s.heap.size ≤ q) s.heap H locs → lv_has ls 4 [(0, .ref b), (1, .ref x0), (2, .ref m0), (3, .int i3)] → W p l e room_1 s m #[Value.ref b] below meth c H locs cells slots (lw_Z below #[Value.ref b] s) (F0 m 2115 ls [])) : W p l e room_1 s m #[Value.ref b] below meth c H locs cells slots (lw_Z below #[Value.ref b] s) (F0 m 943 ls []) := by
  obtain ⟨hx, hb, hr, hml, hown, hts0, hX, hbl, hlocks, hgv⟩ := id C0
  have hts : ∀ w ∈ wsL_law, w.before #[Value.ref b] s = true := fun w h => hts0 w (wsL_law_in w h)
  have hA : ∀ q : Nat, s.heap.size ≤ q → (fun q : Nat => s.heap.size ≤ q) q := fun _ h => h
  have hAB : ∀ q : Nat, (fun q : Nat => s.heap.size ≤ q) q → G.1 ≤ q := fun q h => by rw [hG]; exact h
  have hG1 : G.1 ≤ s.heap.size := by rw [hG]; exact Nat.le_refl _
  have hbA : ¬ (fun q : Nat => s.heap.size ≤ q) b := Nat.not_le.mpr hbl
  refine lv_aload_n hx hb dL_law_943 rfl (lv_at hl 1 rfl) ?_
  refine laAi (As := []) (rest := []) (wa := xL cB cI cJ cZ cS cT x0 A V) (wb := mL cB cI cJ cZ cS cT m0 B U) ⟨hx, hb, hml, hown, hts⟩ (f_X11_silent l G D cB cI cJ cZ cS cT H.size x0 A V ok ) hP hD hS hA hK hN hT hAB hG1 (cvB (n := 0) (inr39 _ (List.mem_of_getElem? (i := 9) rfl)) (inr39 _ (List.mem_of_getElem? (i := 10) rfl)) (inr39 _ (List.mem_of_getElem? (i := 11) rfl)) (inr1 _ (List.mem_of_getElem? (i := 2) rfl)) (inr39 _ (List.mem_of_getElem? (i := 12) rfl)) (by decide +kernel) hts rfl rfl ⟨Nat.le_of_ble_eq_true rfl, Nat.le_of_ble_eq_true rfl⟩) 0 11 rfl rfl rfl rfl hl.1 rfl (Nat.le_of_ble_eq_true rfl) ⟨hcc, hss⟩ dL_law_944 (fun r_1 V_3 H locs h_2 hP hD hS => ?_)
  refine lv_pop hx hb dL_law_947 rfl ?_
  refine lv_aload_n hx hb dL_law_948 rfl (lv_at hl 2 rfl) ?_
  refine laBi (As := []) (rest := []) (wa := xL cB cI cJ cZ cS cT x0 A V_3) (wb := mL cB cI cJ cZ cS cT m0 B U) ⟨hx, hb, hml, hown, hts⟩ (f_X12_silent l G D cB cI cJ cZ cS cT H.size m0 B U okm ) hP hD hS hA hK hN hT hAB hG1 (cvB (n := 0) (inr39 _ (List.mem_of_getElem? (i := 17) rfl)) (inr39 _ (List.mem_of_getElem? (i := 18) rfl)) (inr39 _ (List.mem_of_getElem? (i := 19) rfl)) (inr1 _ (List.mem_of_getElem? (i := 5) rfl)) (inr39 _ (List.mem_of_getElem? (i := 20) rfl)) (by decide +kernel) hts rfl rfl ⟨Nat.le_of_ble_eq_true rfl, Nat.le_of_ble_eq_true rfl⟩) 0 12 rfl rfl rfl rfl hl.1 rfl (Nat.le_of_ble_eq_true rfl) ⟨hcc, hss⟩ dL_law_949 (fun r_5 U_7 H locs h_6 hP hD hS => ?_)
  refine lv_pop hx hb dL_law_952 rfl ?_
  refine lv_goto (tgt := 2115) hx hb dL_law_953 (by decide) ?_
  exact K V_3 U_7 H locs ls h_2 h_6 trivial hP hD hS (lv_sub hl [0, 1, 2, 3] rfl)

set_option maxHeartbeats 4000000 in
set_option maxRecDepth 100000 in
theorem law_28 {p : Program} {l : Launch} {e : Env} {s : State} {m : MethodId} {below : List Frame} {meth : Method} {c : Code} {G : Gho} {D : va_G} {cB cI cJ cZ cS cT : ClassId} {b L : Nat} {xs : Nat → Int32} {x0 m0 : Nat} {A B : Nat → Nat} {cells slots : Nat} (hL : L ≤ 3072) (C0 : lw_At p s m meth c b L xs) (hK : va_K D vwCl (tyL cB cI cJ cZ cS cT) s) (hN : kN s) (hT : kT G s s.heap) (hG : G.1 = s.heap.size) (hcc : cells ≤ 600000) (hss : slots ≤ 7302249) {H : Heap} {locs : List Loc} {ls : Array Slot} (V U : VX) (ok : xok V) (okm : mok U) (rel : True) (i3 : Int32) (hi : 0 ≤ i3.toInt ∧ i3.toInt + 6 ≤ (L : Int)) (hP : va_P D vwCl (xL cB cI cJ cZ cS cT x0 A V ++ mL cB cI cJ cZ cS cT m0 B U) H) (hD : va_D (fun q : Nat => s.heap.size ≤ q) (xL cB cI cJ cZ cS cT x0 A V ++ mL cB cI cJ cZ cS cT m0 B U)) (hS : va_S (fun q : Nat => s.heap.size ≤ q) s.heap H locs) (hl : lv_has ls 4 [(0, .ref b), (1, .ref x0), (2, .ref m0), (3, .int i3)]) (K : ∀ (V U : VX) (H : Heap) (locs : List Loc) (ls : Array Slot), xok V → mok U → True → va_P D vwCl (xL cB cI cJ cZ cS cT x0 A V ++ mL cB cI cJ cZ cS cT m0 B U) H → va_D (fun q : Nat => s.heap.size ≤ q) (xL cB cI cJ cZ cS cT x0 A V ++ mL cB cI cJ cZ cS cT m0 B U) → va_S (fun q : Nat => s.heap.size ≤ q) s.heap H locs → lv_has ls 4 [(0, .ref b), (1, .ref x0), (2, .ref m0), (3, .int i3)] → W p l e room_1 s m #[Value.ref b] below meth c H locs cells slots (lw_Z below #[Value.ref b] s) (F0 m 2115 ls [])) : W p l e room_1 s m #[Value.ref b] below meth c H locs cells slots (lw_Z below #[Value.ref b] s) (F0 m 956 ls []) := by
  obtain ⟨hx, hb, hr, hml, hown, hts0, hX, hbl, hlocks, hgv⟩ := id C0
  have hts : ∀ w ∈ wsL_law, w.before #[Value.ref b] s = true := fun w h => hts0 w (wsL_law_in w h)
  have hA : ∀ q : Nat, s.heap.size ≤ q → (fun q : Nat => s.heap.size ≤ q) q := fun _ h => h
  have hAB : ∀ q : Nat, (fun q : Nat => s.heap.size ≤ q) q → G.1 ≤ q := fun q h => by rw [hG]; exact h
  have hG1 : G.1 ≤ s.heap.size := by rw [hG]; exact Nat.le_refl _
  have hbA : ¬ (fun q : Nat => s.heap.size ≤ q) b := Nat.not_le.mpr hbl
  refine lv_aload_n hx hb dL_law_956 rfl (lv_at hl 1 rfl) ?_
  refine laAi (As := []) (rest := []) (wa := xL cB cI cJ cZ cS cT x0 A V) (wb := mL cB cI cJ cZ cS cT m0 B U) ⟨hx, hb, hml, hown, hts⟩ (f_X11_tuned l G D cB cI cJ cZ cS cT H.size x0 A V ok ) hP hD hS hA hK hN hT hAB hG1 (cvB (n := 0) (inr39 _ (List.mem_of_getElem? (i := 21) rfl)) (inr39 _ (List.mem_of_getElem? (i := 22) rfl)) (inr39 _ (List.mem_of_getElem? (i := 23) rfl)) (inr1 _ (List.mem_of_getElem? (i := 2) rfl)) (inr40 _ (List.mem_of_getElem? (i := 0) rfl)) (by decide +kernel) hts rfl rfl ⟨Nat.le_of_ble_eq_true rfl, Nat.le_of_ble_eq_true rfl⟩) 0 11 rfl rfl rfl rfl hl.1 rfl (Nat.le_of_ble_eq_true rfl) ⟨hcc, hss⟩ dL_law_957 (fun r_1 V_3 H locs h_2 hP hD hS => ?_)
  refine lv_pop hx hb dL_law_960 rfl ?_
  refine lv_aload_n hx hb dL_law_961 rfl (lv_at hl 2 rfl) ?_
  refine laBi (As := []) (rest := []) (wa := xL cB cI cJ cZ cS cT x0 A V_3) (wb := mL cB cI cJ cZ cS cT m0 B U) ⟨hx, hb, hml, hown, hts⟩ (f_X12_tuned l G D cB cI cJ cZ cS cT H.size m0 B U okm ) hP hD hS hA hK hN hT hAB hG1 (cvB (n := 0) (inr40 _ (List.mem_of_getElem? (i := 5) rfl)) (inr40 _ (List.mem_of_getElem? (i := 6) rfl)) (inr40 _ (List.mem_of_getElem? (i := 7) rfl)) (inr1 _ (List.mem_of_getElem? (i := 5) rfl)) (inr40 _ (List.mem_of_getElem? (i := 8) rfl)) (by decide +kernel) hts rfl rfl ⟨Nat.le_of_ble_eq_true rfl, Nat.le_of_ble_eq_true rfl⟩) 0 12 rfl rfl rfl rfl hl.1 rfl (Nat.le_of_ble_eq_true rfl) ⟨hcc, hss⟩ dL_law_962 (fun r_5 U_7 H locs h_6 hP hD hS => ?_)
  refine lv_pop hx hb dL_law_965 rfl ?_
  refine lv_goto (tgt := 2115) hx hb dL_law_966 (by decide) ?_
  exact K V_3 U_7 H locs ls h_2 h_6 trivial hP hD hS (lv_sub hl [0, 1, 2, 3] rfl)

set_option maxHeartbeats 4000000 in
set_option maxRecDepth 100000 in
theorem law_29 {p : Program} {l : Launch} {e : Env} {s : State} {m : MethodId} {below : List Frame} {meth : Method} {c : Code} {G : Gho} {D : va_G} {cB cI cJ cZ cS cT : ClassId} {b L : Nat} {xs : Nat → Int32} {x0 m0 : Nat} {A B : Nat → Nat} {cells slots : Nat} (hL : L ≤ 3072) (C0 : lw_At p s m meth c b L xs) (hK : va_K D vwCl (tyL cB cI cJ cZ cS cT) s) (hN : kN s) (hT : kT G s s.heap) (hG : G.1 = s.heap.size) (hcc : cells ≤ 600000) (hss : slots ≤ 7302249) {H : Heap} {locs : List Loc} {ls : Array Slot} (V U : VX) (ok : xok V) (okm : mok U) (rel : True) (i3 : Int32) (hi : 0 ≤ i3.toInt ∧ i3.toInt + 6 ≤ (L : Int)) (hP : va_P D vwCl (xL cB cI cJ cZ cS cT x0 A V ++ mL cB cI cJ cZ cS cT m0 B U) H) (hD : va_D (fun q : Nat => s.heap.size ≤ q) (xL cB cI cJ cZ cS cT x0 A V ++ mL cB cI cJ cZ cS cT m0 B U)) (hS : va_S (fun q : Nat => s.heap.size ≤ q) s.heap H locs) (hl : lv_has ls 4 [(0, .ref b), (1, .ref x0), (2, .ref m0), (3, .int i3)]) (K : ∀ (V U : VX) (H : Heap) (locs : List Loc) (ls : Array Slot), xok V → mok U → True → va_P D vwCl (xL cB cI cJ cZ cS cT x0 A V ++ mL cB cI cJ cZ cS cT m0 B U) H → va_D (fun q : Nat => s.heap.size ≤ q) (xL cB cI cJ cZ cS cT x0 A V ++ mL cB cI cJ cZ cS cT m0 B U) → va_S (fun q : Nat => s.heap.size ≤ q) s.heap H locs → lv_has ls 4 [(0, .ref b), (1, .ref x0), (2, .ref m0), (3, .int i3)] → W p l e room_1 s m #[Value.ref b] below meth c H locs cells slots (lw_Z below #[Value.ref b] s) (F0 m 2115 ls [])) : W p l e room_1 s m #[Value.ref b] below meth c H locs cells slots (lw_Z below #[Value.ref b] s) (F0 m 969 ls []) := by
  obtain ⟨hx, hb, hr, hml, hown, hts0, hX, hbl, hlocks, hgv⟩ := id C0
  have hts : ∀ w ∈ wsL_law, w.before #[Value.ref b] s = true := fun w h => hts0 w (wsL_law_in w h)
  have hA : ∀ q : Nat, s.heap.size ≤ q → (fun q : Nat => s.heap.size ≤ q) q := fun _ h => h
  have hAB : ∀ q : Nat, (fun q : Nat => s.heap.size ≤ q) q → G.1 ≤ q := fun q h => by rw [hG]; exact h
  have hG1 : G.1 ≤ s.heap.size := by rw [hG]; exact Nat.le_refl _
  have hbA : ¬ (fun q : Nat => s.heap.size ≤ q) b := Nat.not_le.mpr hbl
  refine lv_aload_n hx hb dL_law_969 rfl (lv_at hl 1 rfl) ?_
  refine lv_aload_n hx hb dL_law_970 rfl (lv_at hl 0 rfl) ?_
  refine lv_iload_n hx hb dL_law_971 rfl (lv_at hl 3 rfl) ?_
  refine lv_iconst (v := 1) hx hb dL_law_972 (by decide) ?_
  obtain ⟨t_1, et_1⟩ : ∃ v9 : Int32, i3 + 1 = v9 := ⟨_, rfl⟩
  refine z_iadd (v := t_1) hx hb dL_law_973 et_1 ?_
  have b_i3 := i32b i3
  have ft_1 : t_1.toInt = i3.toInt + 1 := addT (a := i3.toInt) (b := 1) rfl (by decide) et_1 (by omega) (by omega)
  obtain ⟨t_2, et_2⟩ : ∃ v9 : Int32, xs (t_1 : Int32).toNatClampNeg = v9 := ⟨_, rfl⟩
  refine va_sld hx hb hX hbl hbA hS (vin_nat (by omega) (by omega)) dL_law_974 ?_
  rw [et_2]
  refine laAi (As := [.int t_2]) (rest := []) (wa := xL cB cI cJ cZ cS cT x0 A V) (wb := mL cB cI cJ cZ cS cT m0 B U) ⟨hx, hb, hml, hown, hts⟩ (f_X11_reach l G D cB cI cJ cZ cS cT H.size x0 A V ok t_2) hP hD hS hA hK hN hT hAB hG1 (cvB (n := 1) (inr40 _ (List.mem_of_getElem? (i := 10) rfl)) (inr40 _ (List.mem_of_getElem? (i := 11) rfl)) (inr40 _ (List.mem_of_getElem? (i := 12) rfl)) (inr1 _ (List.mem_of_getElem? (i := 2) rfl)) (inr40 _ (List.mem_of_getElem? (i := 13) rfl)) (by decide +kernel) hts rfl rfl ⟨Nat.le_of_ble_eq_true rfl, Nat.le_of_ble_eq_true rfl⟩) 0 11 rfl rfl rfl rfl hl.1 rfl (Nat.le_of_ble_eq_true rfl) ⟨hcc, hss⟩ dL_law_975 (fun r_3 V_5 H locs h_4 hP hD hS => ?_)
  refine lv_pop hx hb dL_law_978 rfl ?_
  refine lv_aload_n hx hb dL_law_979 rfl (lv_at hl 2 rfl) ?_
  refine lv_aload_n hx hb dL_law_980 rfl (lv_at hl 0 rfl) ?_
  refine lv_iload_n hx hb dL_law_981 rfl (lv_at hl 3 rfl) ?_
  refine lv_iconst (v := 1) hx hb dL_law_982 (by decide) ?_
  refine z_iadd (v := t_1) hx hb dL_law_983 et_1 ?_
  refine va_sld hx hb hX hbl hbA hS (vin_nat (by omega) (by omega)) dL_law_984 ?_
  rw [et_2]
  refine laBi (As := [.int t_2]) (rest := []) (wa := xL cB cI cJ cZ cS cT x0 A V_5) (wb := mL cB cI cJ cZ cS cT m0 B U) ⟨hx, hb, hml, hown, hts⟩ (f_X12_reach l G D cB cI cJ cZ cS cT H.size m0 B U okm t_2) hP hD hS hA hK hN hT hAB hG1 (cvB (n := 1) (inr42 _ (List.mem_of_getElem? (i := 5) rfl)) (inr42 _ (List.mem_of_getElem? (i := 6) rfl)) (inr42 _ (List.mem_of_getElem? (i := 7) rfl)) (inr1 _ (List.mem_of_getElem? (i := 5) rfl)) (inr42 _ (List.mem_of_getElem? (i := 8) rfl)) (by decide +kernel) hts rfl rfl ⟨Nat.le_of_ble_eq_true rfl, Nat.le_of_ble_eq_true rfl⟩) 0 12 rfl rfl rfl rfl hl.1 rfl (Nat.le_of_ble_eq_true rfl) ⟨hcc, hss⟩ dL_law_985 (fun r_7 U_9 H locs h_8 hP hD hS => ?_)
  refine lv_pop hx hb dL_law_988 rfl ?_
  refine lv_goto (tgt := 2115) hx hb dL_law_989 (by decide) ?_
  exact K V_5 U_9 H locs ls h_4 h_8 trivial hP hD hS (lv_sub hl [0, 1, 2, 3] rfl)

set_option maxHeartbeats 4000000 in
set_option maxRecDepth 100000 in
theorem law_30 {p : Program} {l : Launch} {e : Env} {s : State} {m : MethodId} {below : List Frame} {meth : Method} {c : Code} {G : Gho} {D : va_G} {cB cI cJ cZ cS cT : ClassId} {b L : Nat} {xs : Nat → Int32} {x0 m0 : Nat} {A B : Nat → Nat} {cells slots : Nat} (hL : L ≤ 3072) (C0 : lw_At p s m meth c b L xs) (hK : va_K D vwCl (tyL cB cI cJ cZ cS cT) s) (hN : kN s) (hT : kT G s s.heap) (hG : G.1 = s.heap.size) (hcc : cells ≤ 600000) (hss : slots ≤ 7302249) {H : Heap} {locs : List Loc} {ls : Array Slot} (V U : VX) (ok : xok V) (okm : mok U) (rel : True) (i3 : Int32) (hi : 0 ≤ i3.toInt ∧ i3.toInt + 6 ≤ (L : Int)) (hP : va_P D vwCl (xL cB cI cJ cZ cS cT x0 A V ++ mL cB cI cJ cZ cS cT m0 B U) H) (hD : va_D (fun q : Nat => s.heap.size ≤ q) (xL cB cI cJ cZ cS cT x0 A V ++ mL cB cI cJ cZ cS cT m0 B U)) (hS : va_S (fun q : Nat => s.heap.size ≤ q) s.heap H locs) (hl : lv_has ls 4 [(0, .ref b), (1, .ref x0), (2, .ref m0), (3, .int i3)]) (K : ∀ (V U : VX) (H : Heap) (locs : List Loc) (ls : Array Slot), xok V → mok U → True → va_P D vwCl (xL cB cI cJ cZ cS cT x0 A V ++ mL cB cI cJ cZ cS cT m0 B U) H → va_D (fun q : Nat => s.heap.size ≤ q) (xL cB cI cJ cZ cS cT x0 A V ++ mL cB cI cJ cZ cS cT m0 B U) → va_S (fun q : Nat => s.heap.size ≤ q) s.heap H locs → lv_has ls 4 [(0, .ref b), (1, .ref x0), (2, .ref m0), (3, .int i3)] → W p l e room_1 s m #[Value.ref b] below meth c H locs cells slots (lw_Z below #[Value.ref b] s) (F0 m 2115 ls [])) : W p l e room_1 s m #[Value.ref b] below meth c H locs cells slots (lw_Z below #[Value.ref b] s) (F0 m 992 ls []) := by
  obtain ⟨hx, hb, hr, hml, hown, hts0, hX, hbl, hlocks, hgv⟩ := id C0
  have hts : ∀ w ∈ wsL_law, w.before #[Value.ref b] s = true := fun w h => hts0 w (wsL_law_in w h)
  have hA : ∀ q : Nat, s.heap.size ≤ q → (fun q : Nat => s.heap.size ≤ q) q := fun _ h => h
  have hAB : ∀ q : Nat, (fun q : Nat => s.heap.size ≤ q) q → G.1 ≤ q := fun q h => by rw [hG]; exact h
  have hG1 : G.1 ≤ s.heap.size := by rw [hG]; exact Nat.le_refl _
  have hbA : ¬ (fun q : Nat => s.heap.size ≤ q) b := Nat.not_le.mpr hbl
  refine lv_aload_n hx hb dL_law_992 rfl (lv_at hl 1 rfl) ?_
  refine lv_aload_n hx hb dL_law_993 rfl (lv_at hl 0 rfl) ?_
  refine lv_iload_n hx hb dL_law_994 rfl (lv_at hl 3 rfl) ?_
  refine lv_iconst (v := 1) hx hb dL_law_995 (by decide) ?_
  obtain ⟨t_1, et_1⟩ : ∃ v9 : Int32, i3 + 1 = v9 := ⟨_, rfl⟩
  refine z_iadd (v := t_1) hx hb dL_law_996 et_1 ?_
  have b_i3 := i32b i3
  have ft_1 : t_1.toInt = i3.toInt + 1 := addT (a := i3.toInt) (b := 1) rfl (by decide) et_1 (by omega) (by omega)
  obtain ⟨t_2, et_2⟩ : ∃ v9 : Int32, xs (t_1 : Int32).toNatClampNeg = v9 := ⟨_, rfl⟩
  refine va_sld hx hb hX hbl hbA hS (vin_nat (by omega) (by omega)) dL_law_997 ?_
  rw [et_2]
  refine laAri (As := [.int t_2]) (rest := []) (wa := xL cB cI cJ cZ cS cT x0 A V) (wb := mL cB cI cJ cZ cS cT m0 B U) ⟨hx, hb, hml, hown, hts⟩ (f_X11_spread l G D cB cI cJ cZ cS cT x0 A V ok t_2) hP hD hS hA hK hN hT hAB hG1 (cvB (n := 1) (inr43 _ (List.mem_of_getElem? (i := 5) rfl)) (inr43 _ (List.mem_of_getElem? (i := 6) rfl)) (inr43 _ (List.mem_of_getElem? (i := 7) rfl)) (inr1 _ (List.mem_of_getElem? (i := 2) rfl)) (inr43 _ (List.mem_of_getElem? (i := 8) rfl)) (by decide +kernel) hts rfl rfl ⟨Nat.le_of_ble_eq_true rfl, Nat.le_of_ble_eq_true rfl⟩) 0 11 rfl rfl rfl rfl hl.1 rfl (Nat.le_of_ble_eq_true rfl) ⟨hcc, hss⟩ dL_law_998 (fun r_3 h_4 => ?_)
  refine lv_pop hx hb dL_law_1001 rfl ?_
  refine lv_aload_n hx hb dL_law_1002 rfl (lv_at hl 2 rfl) ?_
  refine lv_aload_n hx hb dL_law_1003 rfl (lv_at hl 0 rfl) ?_
  refine lv_iload_n hx hb dL_law_1004 rfl (lv_at hl 3 rfl) ?_
  refine lv_iconst (v := 1) hx hb dL_law_1005 (by decide) ?_
  refine z_iadd (v := t_1) hx hb dL_law_1006 et_1 ?_
  refine va_sld hx hb hX hbl hbA hS (vin_nat (by omega) (by omega)) dL_law_1007 ?_
  rw [et_2]
  refine laBri (As := [.int t_2]) (rest := []) (wa := xL cB cI cJ cZ cS cT x0 A V) (wb := mL cB cI cJ cZ cS cT m0 B U) ⟨hx, hb, hml, hown, hts⟩ (f_X12_spread l G D cB cI cJ cZ cS cT m0 B U okm t_2) hP hD hS hA hK hN hT hAB hG1 (cvB (n := 1) (inr43 _ (List.mem_of_getElem? (i := 18) rfl)) (inr43 _ (List.mem_of_getElem? (i := 19) rfl)) (inr43 _ (List.mem_of_getElem? (i := 20) rfl)) (inr1 _ (List.mem_of_getElem? (i := 5) rfl)) (inr43 _ (List.mem_of_getElem? (i := 21) rfl)) (by decide +kernel) hts rfl rfl ⟨Nat.le_of_ble_eq_true rfl, Nat.le_of_ble_eq_true rfl⟩) 0 12 rfl rfl rfl rfl hl.1 rfl (Nat.le_of_ble_eq_true rfl) ⟨hcc, hss⟩ dL_law_1008 (fun r_5 h_6 => ?_)
  refine lv_pop hx hb dL_law_1011 rfl ?_
  refine lv_goto (tgt := 2115) hx hb dL_law_1012 (by decide) ?_
  exact K V U H locs ls ok okm trivial hP hD hS (lv_sub hl [0, 1, 2, 3] rfl)

set_option maxHeartbeats 4000000 in
set_option maxRecDepth 100000 in
theorem law_31 {p : Program} {l : Launch} {e : Env} {s : State} {m : MethodId} {below : List Frame} {meth : Method} {c : Code} {G : Gho} {D : va_G} {cB cI cJ cZ cS cT : ClassId} {b L : Nat} {xs : Nat → Int32} {x0 m0 : Nat} {A B : Nat → Nat} {cells slots : Nat} (hL : L ≤ 3072) (C0 : lw_At p s m meth c b L xs) (hK : va_K D vwCl (tyL cB cI cJ cZ cS cT) s) (hN : kN s) (hT : kT G s s.heap) (hG : G.1 = s.heap.size) (hcc : cells ≤ 600000) (hss : slots ≤ 7302249) {H : Heap} {locs : List Loc} {ls : Array Slot} (V U : VX) (ok : xok V) (okm : mok U) (rel : True) (i3 : Int32) (hi : 0 ≤ i3.toInt ∧ i3.toInt + 6 ≤ (L : Int)) (hP : va_P D vwCl (xL cB cI cJ cZ cS cT x0 A V ++ mL cB cI cJ cZ cS cT m0 B U) H) (hD : va_D (fun q : Nat => s.heap.size ≤ q) (xL cB cI cJ cZ cS cT x0 A V ++ mL cB cI cJ cZ cS cT m0 B U)) (hS : va_S (fun q : Nat => s.heap.size ≤ q) s.heap H locs) (hl : lv_has ls 4 [(0, .ref b), (1, .ref x0), (2, .ref m0), (3, .int i3)]) (K : ∀ (V U : VX) (H : Heap) (locs : List Loc) (ls : Array Slot), xok V → mok U → True → va_P D vwCl (xL cB cI cJ cZ cS cT x0 A V ++ mL cB cI cJ cZ cS cT m0 B U) H → va_D (fun q : Nat => s.heap.size ≤ q) (xL cB cI cJ cZ cS cT x0 A V ++ mL cB cI cJ cZ cS cT m0 B U) → va_S (fun q : Nat => s.heap.size ≤ q) s.heap H locs → lv_has ls 4 [(0, .ref b), (1, .ref x0), (2, .ref m0), (3, .int i3)] → W p l e room_1 s m #[Value.ref b] below meth c H locs cells slots (lw_Z below #[Value.ref b] s) (F0 m 2115 ls [])) : W p l e room_1 s m #[Value.ref b] below meth c H locs cells slots (lw_Z below #[Value.ref b] s) (F0 m 1015 ls []) := by
  obtain ⟨hx, hb, hr, hml, hown, hts0, hX, hbl, hlocks, hgv⟩ := id C0
  have hts : ∀ w ∈ wsL_law, w.before #[Value.ref b] s = true := fun w h => hts0 w (wsL_law_in w h)
  have hA : ∀ q : Nat, s.heap.size ≤ q → (fun q : Nat => s.heap.size ≤ q) q := fun _ h => h
  have hAB : ∀ q : Nat, (fun q : Nat => s.heap.size ≤ q) q → G.1 ≤ q := fun q h => by rw [hG]; exact h
  have hG1 : G.1 ≤ s.heap.size := by rw [hG]; exact Nat.le_refl _
  have hbA : ¬ (fun q : Nat => s.heap.size ≤ q) b := Nat.not_le.mpr hbl
  refine lv_aload_n hx hb dL_law_1015 rfl (lv_at hl 1 rfl) ?_
  refine laAri (As := []) (rest := []) (wa := xL cB cI cJ cZ cS cT x0 A V) (wb := mL cB cI cJ cZ cS cT m0 B U) ⟨hx, hb, hml, hown, hts⟩ (f_X11_blind l G D cB cI cJ cZ cS cT x0 A V ok ) hP hD hS hA hK hN hT hAB hG1 (cvB (n := 0) (inr44 _ (List.mem_of_getElem? (i := 3) rfl)) (inr44 _ (List.mem_of_getElem? (i := 4) rfl)) (inr44 _ (List.mem_of_getElem? (i := 5) rfl)) (inr1 _ (List.mem_of_getElem? (i := 2) rfl)) (inr44 _ (List.mem_of_getElem? (i := 6) rfl)) (by decide +kernel) hts rfl rfl ⟨Nat.le_of_ble_eq_true rfl, Nat.le_of_ble_eq_true rfl⟩) 0 11 rfl rfl rfl rfl hl.1 rfl (Nat.le_of_ble_eq_true rfl) ⟨hcc, hss⟩ dL_law_1016 (fun r_1 h_2 => ?_)
  refine lv_pop hx hb dL_law_1019 rfl ?_
  refine lv_aload_n hx hb dL_law_1020 rfl (lv_at hl 2 rfl) ?_
  refine laBri (As := []) (rest := []) (wa := xL cB cI cJ cZ cS cT x0 A V) (wb := mL cB cI cJ cZ cS cT m0 B U) ⟨hx, hb, hml, hown, hts⟩ (f_X12_blind l G D cB cI cJ cZ cS cT m0 B U okm ) hP hD hS hA hK hN hT hAB hG1 (cvB (n := 0) (inr44 _ (List.mem_of_getElem? (i := 12) rfl)) (inr44 _ (List.mem_of_getElem? (i := 13) rfl)) (inr44 _ (List.mem_of_getElem? (i := 14) rfl)) (inr1 _ (List.mem_of_getElem? (i := 5) rfl)) (inr44 _ (List.mem_of_getElem? (i := 15) rfl)) (by decide +kernel) hts rfl rfl ⟨Nat.le_of_ble_eq_true rfl, Nat.le_of_ble_eq_true rfl⟩) 0 12 rfl rfl rfl rfl hl.1 rfl (Nat.le_of_ble_eq_true rfl) ⟨hcc, hss⟩ dL_law_1021 (fun r_3 h_4 => ?_)
  refine lv_pop hx hb dL_law_1024 rfl ?_
  refine lv_goto (tgt := 2115) hx hb dL_law_1025 (by decide) ?_
  exact K V U H locs ls ok okm trivial hP hD hS (lv_sub hl [0, 1, 2, 3] rfl)

set_option maxHeartbeats 4000000 in
set_option maxRecDepth 100000 in
theorem law_32 {p : Program} {l : Launch} {e : Env} {s : State} {m : MethodId} {below : List Frame} {meth : Method} {c : Code} {G : Gho} {D : va_G} {cB cI cJ cZ cS cT : ClassId} {b L : Nat} {xs : Nat → Int32} {x0 m0 : Nat} {A B : Nat → Nat} {cells slots : Nat} (hL : L ≤ 3072) (C0 : lw_At p s m meth c b L xs) (hK : va_K D vwCl (tyL cB cI cJ cZ cS cT) s) (hN : kN s) (hT : kT G s s.heap) (hG : G.1 = s.heap.size) (hcc : cells ≤ 600000) (hss : slots ≤ 7302249) {H : Heap} {locs : List Loc} {ls : Array Slot} (V U : VX) (ok : xok V) (okm : mok U) (rel : True) (i3 : Int32) (hi : 0 ≤ i3.toInt ∧ i3.toInt + 6 ≤ (L : Int)) (hP : va_P D vwCl (xL cB cI cJ cZ cS cT x0 A V ++ mL cB cI cJ cZ cS cT m0 B U) H) (hD : va_D (fun q : Nat => s.heap.size ≤ q) (xL cB cI cJ cZ cS cT x0 A V ++ mL cB cI cJ cZ cS cT m0 B U)) (hS : va_S (fun q : Nat => s.heap.size ≤ q) s.heap H locs) (hl : lv_has ls 4 [(0, .ref b), (1, .ref x0), (2, .ref m0), (3, .int i3)]) (K : ∀ (V U : VX) (H : Heap) (locs : List Loc) (ls : Array Slot), xok V → mok U → True → va_P D vwCl (xL cB cI cJ cZ cS cT x0 A V ++ mL cB cI cJ cZ cS cT m0 B U) H → va_D (fun q : Nat => s.heap.size ≤ q) (xL cB cI cJ cZ cS cT x0 A V ++ mL cB cI cJ cZ cS cT m0 B U) → va_S (fun q : Nat => s.heap.size ≤ q) s.heap H locs → lv_has ls 4 [(0, .ref b), (1, .ref x0), (2, .ref m0), (3, .int i3)] → W p l e room_1 s m #[Value.ref b] below meth c H locs cells slots (lw_Z below #[Value.ref b] s) (F0 m 2115 ls [])) : W p l e room_1 s m #[Value.ref b] below meth c H locs cells slots (lw_Z below #[Value.ref b] s) (F0 m 1028 ls []) := by
  obtain ⟨hx, hb, hr, hml, hown, hts0, hX, hbl, hlocks, hgv⟩ := id C0
  have hts : ∀ w ∈ wsL_law, w.before #[Value.ref b] s = true := fun w h => hts0 w (wsL_law_in w h)
  have hA : ∀ q : Nat, s.heap.size ≤ q → (fun q : Nat => s.heap.size ≤ q) q := fun _ h => h
  have hAB : ∀ q : Nat, (fun q : Nat => s.heap.size ≤ q) q → G.1 ≤ q := fun q h => by rw [hG]; exact h
  have hG1 : G.1 ≤ s.heap.size := by rw [hG]; exact Nat.le_refl _
  have hbA : ¬ (fun q : Nat => s.heap.size ≤ q) b := Nat.not_le.mpr hbl
  refine lv_aload_n hx hb dL_law_1028 rfl (lv_at hl 1 rfl) ?_
  refine laAi (As := []) (rest := []) (wa := xL cB cI cJ cZ cS cT x0 A V) (wb := mL cB cI cJ cZ cS cT m0 B U) ⟨hx, hb, hml, hown, hts⟩ (f_X11_settles l G D cB cI cJ cZ cS cT H.size x0 A V ok ) hP hD hS hA hK hN hT hAB hG1 (cvB (n := 0) (inr44 _ (List.mem_of_getElem? (i := 16) rfl)) (inr44 _ (List.mem_of_getElem? (i := 17) rfl)) (inr44 _ (List.mem_of_getElem? (i := 18) rfl)) (inr1 _ (List.mem_of_getElem? (i := 2) rfl)) (inr44 _ (List.mem_of_getElem? (i := 19) rfl)) (by decide +kernel) hts rfl rfl ⟨Nat.le_of_ble_eq_true rfl, Nat.le_of_ble_eq_true rfl⟩) 0 11 rfl rfl rfl rfl hl.1 rfl (Nat.le_of_ble_eq_true rfl) ⟨hcc, hss⟩ dL_law_1029 (fun r_1 V_3 H locs h_2 hP hD hS => ?_)
  refine lv_pop hx hb dL_law_1032 rfl ?_
  refine lv_aload_n hx hb dL_law_1033 rfl (lv_at hl 2 rfl) ?_
  refine laBi (As := []) (rest := []) (wa := xL cB cI cJ cZ cS cT x0 A V_3) (wb := mL cB cI cJ cZ cS cT m0 B U) ⟨hx, hb, hml, hown, hts⟩ (f_X12_settles l G D cB cI cJ cZ cS cT H.size m0 B U okm ) hP hD hS hA hK hN hT hAB hG1 (cvB (n := 0) (inr45 _ (List.mem_of_getElem? (i := 12) rfl)) (inr45 _ (List.mem_of_getElem? (i := 13) rfl)) (inr45 _ (List.mem_of_getElem? (i := 14) rfl)) (inr1 _ (List.mem_of_getElem? (i := 5) rfl)) (inr45 _ (List.mem_of_getElem? (i := 15) rfl)) (by decide +kernel) hts rfl rfl ⟨Nat.le_of_ble_eq_true rfl, Nat.le_of_ble_eq_true rfl⟩) 0 12 rfl rfl rfl rfl hl.1 rfl (Nat.le_of_ble_eq_true rfl) ⟨hcc, hss⟩ dL_law_1034 (fun r_5 U_7 H locs h_6 hP hD hS => ?_)
  refine lv_pop hx hb dL_law_1037 rfl ?_
  refine lv_goto (tgt := 2115) hx hb dL_law_1038 (by decide) ?_
  exact K V_3 U_7 H locs ls h_2 h_6 trivial hP hD hS (lv_sub hl [0, 1, 2, 3] rfl)

set_option maxHeartbeats 4000000 in
set_option maxRecDepth 100000 in
theorem law_33 {p : Program} {l : Launch} {e : Env} {s : State} {m : MethodId} {below : List Frame} {meth : Method} {c : Code} {G : Gho} {D : va_G} {cB cI cJ cZ cS cT : ClassId} {b L : Nat} {xs : Nat → Int32} {x0 m0 : Nat} {A B : Nat → Nat} {cells slots : Nat} (hL : L ≤ 3072) (C0 : lw_At p s m meth c b L xs) (hK : va_K D vwCl (tyL cB cI cJ cZ cS cT) s) (hN : kN s) (hT : kT G s s.heap) (hG : G.1 = s.heap.size) (hcc : cells ≤ 600000) (hss : slots ≤ 7302249) {H : Heap} {locs : List Loc} {ls : Array Slot} (V U : VX) (ok : xok V) (okm : mok U) (rel : True) (i3 : Int32) (hi : 0 ≤ i3.toInt ∧ i3.toInt + 6 ≤ (L : Int)) (hP : va_P D vwCl (xL cB cI cJ cZ cS cT x0 A V ++ mL cB cI cJ cZ cS cT m0 B U) H) (hD : va_D (fun q : Nat => s.heap.size ≤ q) (xL cB cI cJ cZ cS cT x0 A V ++ mL cB cI cJ cZ cS cT m0 B U)) (hS : va_S (fun q : Nat => s.heap.size ≤ q) s.heap H locs) (hl : lv_has ls 4 [(0, .ref b), (1, .ref x0), (2, .ref m0), (3, .int i3)]) (K : ∀ (V U : VX) (H : Heap) (locs : List Loc) (ls : Array Slot), xok V → mok U → True → va_P D vwCl (xL cB cI cJ cZ cS cT x0 A V ++ mL cB cI cJ cZ cS cT m0 B U) H → va_D (fun q : Nat => s.heap.size ≤ q) (xL cB cI cJ cZ cS cT x0 A V ++ mL cB cI cJ cZ cS cT m0 B U) → va_S (fun q : Nat => s.heap.size ≤ q) s.heap H locs → lv_has ls 4 [(0, .ref b), (1, .ref x0), (2, .ref m0), (3, .int i3)] → W p l e room_1 s m #[Value.ref b] below meth c H locs cells slots (lw_Z below #[Value.ref b] s) (F0 m 2115 ls [])) : W p l e room_1 s m #[Value.ref b] below meth c H locs cells slots (lw_Z below #[Value.ref b] s) (F0 m 1041 ls []) := by
  obtain ⟨hx, hb, hr, hml, hown, hts0, hX, hbl, hlocks, hgv⟩ := id C0
  have hts : ∀ w ∈ wsL_law, w.before #[Value.ref b] s = true := fun w h => hts0 w (wsL_law_in w h)
  have hA : ∀ q : Nat, s.heap.size ≤ q → (fun q : Nat => s.heap.size ≤ q) q := fun _ h => h
  have hAB : ∀ q : Nat, (fun q : Nat => s.heap.size ≤ q) q → G.1 ≤ q := fun q h => by rw [hG]; exact h
  have hG1 : G.1 ≤ s.heap.size := by rw [hG]; exact Nat.le_refl _
  have hbA : ¬ (fun q : Nat => s.heap.size ≤ q) b := Nat.not_le.mpr hbl
  refine lv_aload_n hx hb dL_law_1041 rfl (lv_at hl 1 rfl) ?_
  refine laAi (As := []) (rest := []) (wa := xL cB cI cJ cZ cS cT x0 A V) (wb := mL cB cI cJ cZ cS cT m0 B U) ⟨hx, hb, hml, hown, hts⟩ (f_X11_round l G D cB cI cJ cZ cS cT H.size x0 A V ok ) hP hD hS hA hK hN hT hAB hG1 (cvB (n := 0) (inr46 _ (List.mem_of_getElem? (i := 9) rfl)) (inr46 _ (List.mem_of_getElem? (i := 10) rfl)) (inr46 _ (List.mem_of_getElem? (i := 11) rfl)) (inr1 _ (List.mem_of_getElem? (i := 2) rfl)) (inr46 _ (List.mem_of_getElem? (i := 12) rfl)) (by decide +kernel) hts rfl rfl ⟨Nat.le_of_ble_eq_true rfl, Nat.le_of_ble_eq_true rfl⟩) 0 11 rfl rfl rfl rfl hl.1 rfl (Nat.le_of_ble_eq_true rfl) ⟨hcc, hss⟩ dL_law_1042 (fun r_1 V_3 H locs h_2 hP hD hS => ?_)
  refine lv_pop hx hb dL_law_1045 rfl ?_
  refine lv_aload_n hx hb dL_law_1046 rfl (lv_at hl 2 rfl) ?_
  refine laBi (As := []) (rest := []) (wa := xL cB cI cJ cZ cS cT x0 A V_3) (wb := mL cB cI cJ cZ cS cT m0 B U) ⟨hx, hb, hml, hown, hts⟩ (f_X12_round l G D cB cI cJ cZ cS cT H.size m0 B U okm ) hP hD hS hA hK hN hT hAB hG1 (cvB (n := 0) (inr46 _ (List.mem_of_getElem? (i := 17) rfl)) (inr46 _ (List.mem_of_getElem? (i := 18) rfl)) (inr46 _ (List.mem_of_getElem? (i := 19) rfl)) (inr1 _ (List.mem_of_getElem? (i := 5) rfl)) (inr46 _ (List.mem_of_getElem? (i := 20) rfl)) (by decide +kernel) hts rfl rfl ⟨Nat.le_of_ble_eq_true rfl, Nat.le_of_ble_eq_true rfl⟩) 0 12 rfl rfl rfl rfl hl.1 rfl (Nat.le_of_ble_eq_true rfl) ⟨hcc, hss⟩ dL_law_1047 (fun r_5 U_7 H locs h_6 hP hD hS => ?_)
  refine lv_pop hx hb dL_law_1050 rfl ?_
  refine lv_goto (tgt := 2115) hx hb dL_law_1051 (by decide) ?_
  exact K V_3 U_7 H locs ls h_2 h_6 trivial hP hD hS (lv_sub hl [0, 1, 2, 3] rfl)

set_option maxHeartbeats 4000000 in
set_option maxRecDepth 100000 in
theorem law_34 {p : Program} {l : Launch} {e : Env} {s : State} {m : MethodId} {below : List Frame} {meth : Method} {c : Code} {G : Gho} {D : va_G} {cB cI cJ cZ cS cT : ClassId} {b L : Nat} {xs : Nat → Int32} {x0 m0 : Nat} {A B : Nat → Nat} {cells slots : Nat} (hL : L ≤ 3072) (C0 : lw_At p s m meth c b L xs) (hK : va_K D vwCl (tyL cB cI cJ cZ cS cT) s) (hN : kN s) (hT : kT G s s.heap) (hG : G.1 = s.heap.size) (hcc : cells ≤ 600000) (hss : slots ≤ 7302249) {H : Heap} {locs : List Loc} {ls : Array Slot} (V U : VX) (ok : xok V) (okm : mok U) (rel : True) (i3 : Int32) (hi : 0 ≤ i3.toInt ∧ i3.toInt + 6 ≤ (L : Int)) (hP : va_P D vwCl (xL cB cI cJ cZ cS cT x0 A V ++ mL cB cI cJ cZ cS cT m0 B U) H) (hD : va_D (fun q : Nat => s.heap.size ≤ q) (xL cB cI cJ cZ cS cT x0 A V ++ mL cB cI cJ cZ cS cT m0 B U)) (hS : va_S (fun q : Nat => s.heap.size ≤ q) s.heap H locs) (hl : lv_has ls 4 [(0, .ref b), (1, .ref x0), (2, .ref m0), (3, .int i3)]) (K : ∀ (V U : VX) (H : Heap) (locs : List Loc) (ls : Array Slot), xok V → mok U → True → va_P D vwCl (xL cB cI cJ cZ cS cT x0 A V ++ mL cB cI cJ cZ cS cT m0 B U) H → va_D (fun q : Nat => s.heap.size ≤ q) (xL cB cI cJ cZ cS cT x0 A V ++ mL cB cI cJ cZ cS cT m0 B U) → va_S (fun q : Nat => s.heap.size ≤ q) s.heap H locs → lv_has ls 4 [(0, .ref b), (1, .ref x0), (2, .ref m0), (3, .int i3)] → W p l e room_1 s m #[Value.ref b] below meth c H locs cells slots (lw_Z below #[Value.ref b] s) (F0 m 2115 ls [])) : W p l e room_1 s m #[Value.ref b] below meth c H locs cells slots (lw_Z below #[Value.ref b] s) (F0 m 1054 ls []) := by
  obtain ⟨hx, hb, hr, hml, hown, hts0, hX, hbl, hlocks, hgv⟩ := id C0
  have hts : ∀ w ∈ wsL_law, w.before #[Value.ref b] s = true := fun w h => hts0 w (wsL_law_in w h)
  have hA : ∀ q : Nat, s.heap.size ≤ q → (fun q : Nat => s.heap.size ≤ q) q := fun _ h => h
  have hAB : ∀ q : Nat, (fun q : Nat => s.heap.size ≤ q) q → G.1 ≤ q := fun q h => by rw [hG]; exact h
  have hG1 : G.1 ≤ s.heap.size := by rw [hG]; exact Nat.le_refl _
  have hbA : ¬ (fun q : Nat => s.heap.size ≤ q) b := Nat.not_le.mpr hbl
  refine lv_aload_n hx hb dL_law_1054 rfl (lv_at hl 1 rfl) ?_
  refine laAi (As := []) (rest := []) (wa := xL cB cI cJ cZ cS cT x0 A V) (wb := mL cB cI cJ cZ cS cT m0 B U) ⟨hx, hb, hml, hown, hts⟩ (f_X11_births l G D cB cI cJ cZ cS cT H.size x0 A V ok ) hP hD hS hA hK hN hT hAB hG1 (cvB (n := 0) (inr46 _ (List.mem_of_getElem? (i := 21) rfl)) (inr46 _ (List.mem_of_getElem? (i := 22) rfl)) (inr46 _ (List.mem_of_getElem? (i := 23) rfl)) (inr1 _ (List.mem_of_getElem? (i := 2) rfl)) (inr47 _ (List.mem_of_getElem? (i := 0) rfl)) (by decide +kernel) hts rfl rfl ⟨Nat.le_of_ble_eq_true rfl, Nat.le_of_ble_eq_true rfl⟩) 0 11 rfl rfl rfl rfl hl.1 rfl (Nat.le_of_ble_eq_true rfl) ⟨hcc, hss⟩ dL_law_1055 (fun r_1 V_3 H locs h_2 hP hD hS => ?_)
  refine lv_pop hx hb dL_law_1058 rfl ?_
  refine lv_aload_n hx hb dL_law_1059 rfl (lv_at hl 2 rfl) ?_
  refine laBi (As := []) (rest := []) (wa := xL cB cI cJ cZ cS cT x0 A V_3) (wb := mL cB cI cJ cZ cS cT m0 B U) ⟨hx, hb, hml, hown, hts⟩ (f_X12_births l G D cB cI cJ cZ cS cT H.size m0 B U okm ) hP hD hS hA hK hN hT hAB hG1 (cvB (n := 0) (inr47 _ (List.mem_of_getElem? (i := 5) rfl)) (inr47 _ (List.mem_of_getElem? (i := 6) rfl)) (inr47 _ (List.mem_of_getElem? (i := 7) rfl)) (inr1 _ (List.mem_of_getElem? (i := 5) rfl)) (inr47 _ (List.mem_of_getElem? (i := 8) rfl)) (by decide +kernel) hts rfl rfl ⟨Nat.le_of_ble_eq_true rfl, Nat.le_of_ble_eq_true rfl⟩) 0 12 rfl rfl rfl rfl hl.1 rfl (Nat.le_of_ble_eq_true rfl) ⟨hcc, hss⟩ dL_law_1060 (fun r_5 U_7 H locs h_6 hP hD hS => ?_)
  refine lv_pop hx hb dL_law_1063 rfl ?_
  refine lv_goto (tgt := 2115) hx hb dL_law_1064 (by decide) ?_
  exact K V_3 U_7 H locs ls h_2 h_6 trivial hP hD hS (lv_sub hl [0, 1, 2, 3] rfl)

set_option maxHeartbeats 4000000 in
set_option maxRecDepth 100000 in
theorem law_35 {p : Program} {l : Launch} {e : Env} {s : State} {m : MethodId} {below : List Frame} {meth : Method} {c : Code} {G : Gho} {D : va_G} {cB cI cJ cZ cS cT : ClassId} {b L : Nat} {xs : Nat → Int32} {x0 m0 : Nat} {A B : Nat → Nat} {cells slots : Nat} (hL : L ≤ 3072) (C0 : lw_At p s m meth c b L xs) (hK : va_K D vwCl (tyL cB cI cJ cZ cS cT) s) (hN : kN s) (hT : kT G s s.heap) (hG : G.1 = s.heap.size) (hcc : cells ≤ 600000) (hss : slots ≤ 7302249) {H : Heap} {locs : List Loc} {ls : Array Slot} (V U : VX) (ok : xok V) (okm : mok U) (rel : True) (i3 : Int32) (hi : 0 ≤ i3.toInt ∧ i3.toInt + 6 ≤ (L : Int)) (hP : va_P D vwCl (xL cB cI cJ cZ cS cT x0 A V ++ mL cB cI cJ cZ cS cT m0 B U) H) (hD : va_D (fun q : Nat => s.heap.size ≤ q) (xL cB cI cJ cZ cS cT x0 A V ++ mL cB cI cJ cZ cS cT m0 B U)) (hS : va_S (fun q : Nat => s.heap.size ≤ q) s.heap H locs) (hl : lv_has ls 4 [(0, .ref b), (1, .ref x0), (2, .ref m0), (3, .int i3)]) (K : ∀ (V U : VX) (H : Heap) (locs : List Loc) (ls : Array Slot), xok V → mok U → True → va_P D vwCl (xL cB cI cJ cZ cS cT x0 A V ++ mL cB cI cJ cZ cS cT m0 B U) H → va_D (fun q : Nat => s.heap.size ≤ q) (xL cB cI cJ cZ cS cT x0 A V ++ mL cB cI cJ cZ cS cT m0 B U) → va_S (fun q : Nat => s.heap.size ≤ q) s.heap H locs → lv_has ls 4 [(0, .ref b), (1, .ref x0), (2, .ref m0), (3, .int i3)] → W p l e room_1 s m #[Value.ref b] below meth c H locs cells slots (lw_Z below #[Value.ref b] s) (F0 m 2115 ls [])) : W p l e room_1 s m #[Value.ref b] below meth c H locs cells slots (lw_Z below #[Value.ref b] s) (F0 m 1067 ls []) := by
  obtain ⟨hx, hb, hr, hml, hown, hts0, hX, hbl, hlocks, hgv⟩ := id C0
  have hts : ∀ w ∈ wsL_law, w.before #[Value.ref b] s = true := fun w h => hts0 w (wsL_law_in w h)
  have hA : ∀ q : Nat, s.heap.size ≤ q → (fun q : Nat => s.heap.size ≤ q) q := fun _ h => h
  have hAB : ∀ q : Nat, (fun q : Nat => s.heap.size ≤ q) q → G.1 ≤ q := fun q h => by rw [hG]; exact h
  have hG1 : G.1 ≤ s.heap.size := by rw [hG]; exact Nat.le_refl _
  have hbA : ¬ (fun q : Nat => s.heap.size ≤ q) b := Nat.not_le.mpr hbl
  refine lv_aload_n hx hb dL_law_1067 rfl (lv_at hl 1 rfl) ?_
  refine lv_aload_n hx hb dL_law_1068 rfl (lv_at hl 0 rfl) ?_
  refine lv_iload_n hx hb dL_law_1069 rfl (lv_at hl 3 rfl) ?_
  refine lv_iconst (v := 1) hx hb dL_law_1070 (by decide) ?_
  obtain ⟨t_1, et_1⟩ : ∃ v9 : Int32, i3 + 1 = v9 := ⟨_, rfl⟩
  refine z_iadd (v := t_1) hx hb dL_law_1071 et_1 ?_
  have b_i3 := i32b i3
  have ft_1 : t_1.toInt = i3.toInt + 1 := addT (a := i3.toInt) (b := 1) rfl (by decide) et_1 (by omega) (by omega)
  obtain ⟨t_2, et_2⟩ : ∃ v9 : Int32, xs (t_1 : Int32).toNatClampNeg = v9 := ⟨_, rfl⟩
  refine va_sld hx hb hX hbl hbA hS (vin_nat (by omega) (by omega)) dL_law_1072 ?_
  rw [et_2]
  refine laAi (As := [.int t_2]) (rest := []) (wa := xL cB cI cJ cZ cS cT x0 A V) (wb := mL cB cI cJ cZ cS cT m0 B U) ⟨hx, hb, hml, hown, hts⟩ (f_X11_far l G D cB cI cJ cZ cS cT H.size x0 A V ok t_2) hP hD hS hA hK hN hT hAB hG1 (cvB (n := 1) (inr47 _ (List.mem_of_getElem? (i := 9) rfl)) (inr47 _ (List.mem_of_getElem? (i := 10) rfl)) (inr47 _ (List.mem_of_getElem? (i := 11) rfl)) (inr1 _ (List.mem_of_getElem? (i := 2) rfl)) (inr47 _ (List.mem_of_getElem? (i := 12) rfl)) (by decide +kernel) hts rfl rfl ⟨Nat.le_of_ble_eq_true rfl, Nat.le_of_ble_eq_true rfl⟩) 0 11 rfl rfl rfl rfl hl.1 rfl (Nat.le_of_ble_eq_true rfl) ⟨hcc, hss⟩ dL_law_1073 (fun r_3 V_5 H locs h_4 hP hD hS => ?_)
  refine lv_pop hx hb dL_law_1076 rfl ?_
  refine lv_aload_n hx hb dL_law_1077 rfl (lv_at hl 2 rfl) ?_
  refine lv_aload_n hx hb dL_law_1078 rfl (lv_at hl 0 rfl) ?_
  refine lv_iload_n hx hb dL_law_1079 rfl (lv_at hl 3 rfl) ?_
  refine lv_iconst (v := 1) hx hb dL_law_1080 (by decide) ?_
  refine z_iadd (v := t_1) hx hb dL_law_1081 et_1 ?_
  refine va_sld hx hb hX hbl hbA hS (vin_nat (by omega) (by omega)) dL_law_1082 ?_
  rw [et_2]
  refine laBi (As := [.int t_2]) (rest := []) (wa := xL cB cI cJ cZ cS cT x0 A V_5) (wb := mL cB cI cJ cZ cS cT m0 B U) ⟨hx, hb, hml, hown, hts⟩ (f_X12_far l G D cB cI cJ cZ cS cT H.size m0 B U okm t_2) hP hD hS hA hK hN hT hAB hG1 (cvB (n := 1) (inr47 _ (List.mem_of_getElem? (i := 19) rfl)) (inr47 _ (List.mem_of_getElem? (i := 20) rfl)) (inr47 _ (List.mem_of_getElem? (i := 21) rfl)) (inr1 _ (List.mem_of_getElem? (i := 5) rfl)) (inr47 _ (List.mem_of_getElem? (i := 22) rfl)) (by decide +kernel) hts rfl rfl ⟨Nat.le_of_ble_eq_true rfl, Nat.le_of_ble_eq_true rfl⟩) 0 12 rfl rfl rfl rfl hl.1 rfl (Nat.le_of_ble_eq_true rfl) ⟨hcc, hss⟩ dL_law_1083 (fun r_7 U_9 H locs h_8 hP hD hS => ?_)
  refine lv_pop hx hb dL_law_1086 rfl ?_
  refine lv_goto (tgt := 2115) hx hb dL_law_1087 (by decide) ?_
  exact K V_5 U_9 H locs ls h_4 h_8 trivial hP hD hS (lv_sub hl [0, 1, 2, 3] rfl)

set_option maxHeartbeats 4000000 in
set_option maxRecDepth 100000 in
theorem law_36 {p : Program} {l : Launch} {e : Env} {s : State} {m : MethodId} {below : List Frame} {meth : Method} {c : Code} {G : Gho} {D : va_G} {cB cI cJ cZ cS cT : ClassId} {b L : Nat} {xs : Nat → Int32} {x0 m0 : Nat} {A B : Nat → Nat} {cells slots : Nat} (hL : L ≤ 3072) (C0 : lw_At p s m meth c b L xs) (hK : va_K D vwCl (tyL cB cI cJ cZ cS cT) s) (hN : kN s) (hT : kT G s s.heap) (hG : G.1 = s.heap.size) (hcc : cells ≤ 600000) (hss : slots ≤ 7302249) {H : Heap} {locs : List Loc} {ls : Array Slot} (V U : VX) (ok : xok V) (okm : mok U) (rel : True) (i3 : Int32) (hi : 0 ≤ i3.toInt ∧ i3.toInt + 6 ≤ (L : Int)) (hP : va_P D vwCl (xL cB cI cJ cZ cS cT x0 A V ++ mL cB cI cJ cZ cS cT m0 B U) H) (hD : va_D (fun q : Nat => s.heap.size ≤ q) (xL cB cI cJ cZ cS cT x0 A V ++ mL cB cI cJ cZ cS cT m0 B U)) (hS : va_S (fun q : Nat => s.heap.size ≤ q) s.heap H locs) (hl : lv_has ls 4 [(0, .ref b), (1, .ref x0), (2, .ref m0), (3, .int i3)]) (K : ∀ (V U : VX) (H : Heap) (locs : List Loc) (ls : Array Slot), xok V → mok U → True → va_P D vwCl (xL cB cI cJ cZ cS cT x0 A V ++ mL cB cI cJ cZ cS cT m0 B U) H → va_D (fun q : Nat => s.heap.size ≤ q) (xL cB cI cJ cZ cS cT x0 A V ++ mL cB cI cJ cZ cS cT m0 B U) → va_S (fun q : Nat => s.heap.size ≤ q) s.heap H locs → lv_has ls 4 [(0, .ref b), (1, .ref x0), (2, .ref m0), (3, .int i3)] → W p l e room_1 s m #[Value.ref b] below meth c H locs cells slots (lw_Z below #[Value.ref b] s) (F0 m 2115 ls [])) : W p l e room_1 s m #[Value.ref b] below meth c H locs cells slots (lw_Z below #[Value.ref b] s) (F0 m 1090 ls []) := by
  obtain ⟨hx, hb, hr, hml, hown, hts0, hX, hbl, hlocks, hgv⟩ := id C0
  have hts : ∀ w ∈ wsL_law, w.before #[Value.ref b] s = true := fun w h => hts0 w (wsL_law_in w h)
  have hA : ∀ q : Nat, s.heap.size ≤ q → (fun q : Nat => s.heap.size ≤ q) q := fun _ h => h
  have hAB : ∀ q : Nat, (fun q : Nat => s.heap.size ≤ q) q → G.1 ≤ q := fun q h => by rw [hG]; exact h
  have hG1 : G.1 ≤ s.heap.size := by rw [hG]; exact Nat.le_refl _
  have hbA : ¬ (fun q : Nat => s.heap.size ≤ q) b := Nat.not_le.mpr hbl
  refine lv_aload_n hx hb dL_law_1090 rfl (lv_at hl 1 rfl) ?_
  refine lv_aload_n hx hb dL_law_1091 rfl (lv_at hl 0 rfl) ?_
  refine lv_iload_n hx hb dL_law_1092 rfl (lv_at hl 3 rfl) ?_
  refine lv_iconst (v := 1) hx hb dL_law_1093 (by decide) ?_
  obtain ⟨t_1, et_1⟩ : ∃ v9 : Int32, i3 + 1 = v9 := ⟨_, rfl⟩
  refine z_iadd (v := t_1) hx hb dL_law_1094 et_1 ?_
  have b_i3 := i32b i3
  have ft_1 : t_1.toInt = i3.toInt + 1 := addT (a := i3.toInt) (b := 1) rfl (by decide) et_1 (by omega) (by omega)
  obtain ⟨t_2, et_2⟩ : ∃ v9 : Int32, xs (t_1 : Int32).toNatClampNeg = v9 := ⟨_, rfl⟩
  refine va_sld hx hb hX hbl hbA hS (vin_nat (by omega) (by omega)) dL_law_1095 ?_
  rw [et_2]
  refine lv_aload_n hx hb dL_law_1096 rfl (lv_at hl 0 rfl) ?_
  refine lv_iload_n hx hb dL_law_1097 rfl (lv_at hl 3 rfl) ?_
  refine lv_iconst (v := 2) hx hb dL_law_1098 (by decide) ?_
  obtain ⟨t_3, et_3⟩ : ∃ v9 : Int32, i3 + 2 = v9 := ⟨_, rfl⟩
  refine z_iadd (v := t_3) hx hb dL_law_1099 et_3 ?_
  have ft_3 : t_3.toInt = i3.toInt + 2 := addT (a := i3.toInt) (b := 2) rfl (by decide) et_3 (by omega) (by omega)
  obtain ⟨t_4, et_4⟩ : ∃ v9 : Int32, xs (t_3 : Int32).toNatClampNeg = v9 := ⟨_, rfl⟩
  refine va_sld hx hb hX hbl hbA hS (vin_nat (by omega) (by omega)) dL_law_1100 ?_
  rw [et_4]
  refine laAi (As := [.int t_2, .int t_4]) (rest := []) (wa := xL cB cI cJ cZ cS cT x0 A V) (wb := mL cB cI cJ cZ cS cT m0 B U) ⟨hx, hb, hml, hown, hts⟩ (f_X11_needs l G D cB cI cJ cZ cS cT H.size x0 A V ok t_2 t_4) hP hD hS hA hK hN hT hAB hG1 (cvB (n := 2) (inr48 _ (List.mem_of_getElem? (i := 0) rfl)) (inr48 _ (List.mem_of_getElem? (i := 1) rfl)) (inr48 _ (List.mem_of_getElem? (i := 2) rfl)) (inr1 _ (List.mem_of_getElem? (i := 2) rfl)) (inr48 _ (List.mem_of_getElem? (i := 3) rfl)) (by decide +kernel) hts rfl rfl ⟨Nat.le_of_ble_eq_true rfl, Nat.le_of_ble_eq_true rfl⟩) 0 11 rfl rfl rfl rfl hl.1 rfl (Nat.le_of_ble_eq_true rfl) ⟨hcc, hss⟩ dL_law_1101 (fun r_5 V_7 H locs h_6 hP hD hS => ?_)
  refine lv_pop hx hb dL_law_1104 rfl ?_
  refine lv_aload_n hx hb dL_law_1105 rfl (lv_at hl 2 rfl) ?_
  refine lv_aload_n hx hb dL_law_1106 rfl (lv_at hl 0 rfl) ?_
  refine lv_iload_n hx hb dL_law_1107 rfl (lv_at hl 3 rfl) ?_
  refine lv_iconst (v := 1) hx hb dL_law_1108 (by decide) ?_
  refine z_iadd (v := t_1) hx hb dL_law_1109 et_1 ?_
  refine va_sld hx hb hX hbl hbA hS (vin_nat (by omega) (by omega)) dL_law_1110 ?_
  rw [et_2]
  refine lv_aload_n hx hb dL_law_1111 rfl (lv_at hl 0 rfl) ?_
  refine lv_iload_n hx hb dL_law_1112 rfl (lv_at hl 3 rfl) ?_
  refine lv_iconst (v := 2) hx hb dL_law_1113 (by decide) ?_
  refine z_iadd (v := t_3) hx hb dL_law_1114 et_3 ?_
  refine va_sld hx hb hX hbl hbA hS (vin_nat (by omega) (by omega)) dL_law_1115 ?_
  rw [et_4]
  refine laBi (As := [.int t_2, .int t_4]) (rest := []) (wa := xL cB cI cJ cZ cS cT x0 A V_7) (wb := mL cB cI cJ cZ cS cT m0 B U) ⟨hx, hb, hml, hown, hts⟩ (f_X12_needs_ l G D cB cI cJ cZ cS cT H.size m0 B U okm t_2 t_4) hP hD hS hA hK hN hT hAB hG1 (cvB (n := 2) (inr48 _ (List.mem_of_getElem? (i := 8) rfl)) (inr48 _ (List.mem_of_getElem? (i := 9) rfl)) (inr48 _ (List.mem_of_getElem? (i := 10) rfl)) (inr1 _ (List.mem_of_getElem? (i := 5) rfl)) (inr48 _ (List.mem_of_getElem? (i := 11) rfl)) (by decide +kernel) hts rfl rfl ⟨Nat.le_of_ble_eq_true rfl, Nat.le_of_ble_eq_true rfl⟩) 0 12 rfl rfl rfl rfl hl.1 rfl (Nat.le_of_ble_eq_true rfl) ⟨hcc, hss⟩ dL_law_1116 (fun r_9 U_11 H locs h_10 hP hD hS => ?_)
  refine lv_pop hx hb dL_law_1119 rfl ?_
  refine lv_goto (tgt := 2115) hx hb dL_law_1120 (by decide) ?_
  exact K V_7 U_11 H locs ls h_6 h_10 trivial hP hD hS (lv_sub hl [0, 1, 2, 3] rfl)

set_option maxHeartbeats 4000000 in
set_option maxRecDepth 100000 in
theorem law_37 {p : Program} {l : Launch} {e : Env} {s : State} {m : MethodId} {below : List Frame} {meth : Method} {c : Code} {G : Gho} {D : va_G} {cB cI cJ cZ cS cT : ClassId} {b L : Nat} {xs : Nat → Int32} {x0 m0 : Nat} {A B : Nat → Nat} {cells slots : Nat} (hL : L ≤ 3072) (C0 : lw_At p s m meth c b L xs) (hK : va_K D vwCl (tyL cB cI cJ cZ cS cT) s) (hN : kN s) (hT : kT G s s.heap) (hG : G.1 = s.heap.size) (hcc : cells ≤ 600000) (hss : slots ≤ 7302249) {H : Heap} {locs : List Loc} {ls : Array Slot} (V U : VX) (ok : xok V) (okm : mok U) (rel : True) (i3 : Int32) (hi : 0 ≤ i3.toInt ∧ i3.toInt + 6 ≤ (L : Int)) (hP : va_P D vwCl (xL cB cI cJ cZ cS cT x0 A V ++ mL cB cI cJ cZ cS cT m0 B U) H) (hD : va_D (fun q : Nat => s.heap.size ≤ q) (xL cB cI cJ cZ cS cT x0 A V ++ mL cB cI cJ cZ cS cT m0 B U)) (hS : va_S (fun q : Nat => s.heap.size ≤ q) s.heap H locs) (hl : lv_has ls 4 [(0, .ref b), (1, .ref x0), (2, .ref m0), (3, .int i3)]) (K : ∀ (V U : VX) (H : Heap) (locs : List Loc) (ls : Array Slot), xok V → mok U → True → va_P D vwCl (xL cB cI cJ cZ cS cT x0 A V ++ mL cB cI cJ cZ cS cT m0 B U) H → va_D (fun q : Nat => s.heap.size ≤ q) (xL cB cI cJ cZ cS cT x0 A V ++ mL cB cI cJ cZ cS cT m0 B U) → va_S (fun q : Nat => s.heap.size ≤ q) s.heap H locs → lv_has ls 4 [(0, .ref b), (1, .ref x0), (2, .ref m0), (3, .int i3)] → W p l e room_1 s m #[Value.ref b] below meth c H locs cells slots (lw_Z below #[Value.ref b] s) (F0 m 2115 ls [])) : W p l e room_1 s m #[Value.ref b] below meth c H locs cells slots (lw_Z below #[Value.ref b] s) (F0 m 1123 ls []) := by
  obtain ⟨hx, hb, hr, hml, hown, hts0, hX, hbl, hlocks, hgv⟩ := id C0
  have hts : ∀ w ∈ wsL_law, w.before #[Value.ref b] s = true := fun w h => hts0 w (wsL_law_in w h)
  have hA : ∀ q : Nat, s.heap.size ≤ q → (fun q : Nat => s.heap.size ≤ q) q := fun _ h => h
  have hAB : ∀ q : Nat, (fun q : Nat => s.heap.size ≤ q) q → G.1 ≤ q := fun q h => by rw [hG]; exact h
  have hG1 : G.1 ≤ s.heap.size := by rw [hG]; exact Nat.le_refl _
  have hbA : ¬ (fun q : Nat => s.heap.size ≤ q) b := Nat.not_le.mpr hbl
  refine lv_aload_n hx hb dL_law_1123 rfl (lv_at hl 1 rfl) ?_
  refine lv_aload_n hx hb dL_law_1124 rfl (lv_at hl 0 rfl) ?_
  refine lv_iload_n hx hb dL_law_1125 rfl (lv_at hl 3 rfl) ?_
  refine lv_iconst (v := 1) hx hb dL_law_1126 (by decide) ?_
  obtain ⟨t_1, et_1⟩ : ∃ v9 : Int32, i3 + 1 = v9 := ⟨_, rfl⟩
  refine z_iadd (v := t_1) hx hb dL_law_1127 et_1 ?_
  have b_i3 := i32b i3
  have ft_1 : t_1.toInt = i3.toInt + 1 := addT (a := i3.toInt) (b := 1) rfl (by decide) et_1 (by omega) (by omega)
  obtain ⟨t_2, et_2⟩ : ∃ v9 : Int32, xs (t_1 : Int32).toNatClampNeg = v9 := ⟨_, rfl⟩
  refine va_sld hx hb hX hbl hbA hS (vin_nat (by omega) (by omega)) dL_law_1128 ?_
  rw [et_2]
  refine lv_aload_n hx hb dL_law_1129 rfl (lv_at hl 0 rfl) ?_
  refine lv_iload_n hx hb dL_law_1130 rfl (lv_at hl 3 rfl) ?_
  refine lv_iconst (v := 2) hx hb dL_law_1131 (by decide) ?_
  obtain ⟨t_3, et_3⟩ : ∃ v9 : Int32, i3 + 2 = v9 := ⟨_, rfl⟩
  refine z_iadd (v := t_3) hx hb dL_law_1132 et_3 ?_
  have ft_3 : t_3.toInt = i3.toInt + 2 := addT (a := i3.toInt) (b := 2) rfl (by decide) et_3 (by omega) (by omega)
  obtain ⟨t_4, et_4⟩ : ∃ v9 : Int32, xs (t_3 : Int32).toNatClampNeg = v9 := ⟨_, rfl⟩
  refine va_sld hx hb hX hbl hbA hS (vin_nat (by omega) (by omega)) dL_law_1133 ?_
  rw [et_4]
  refine lv_aload_n hx hb dL_law_1134 rfl (lv_at hl 0 rfl) ?_
  refine lv_iload_n hx hb dL_law_1135 rfl (lv_at hl 3 rfl) ?_
  refine lv_iconst (v := 3) hx hb dL_law_1136 (by decide) ?_
  obtain ⟨t_5, et_5⟩ : ∃ v9 : Int32, i3 + 3 = v9 := ⟨_, rfl⟩
  refine z_iadd (v := t_5) hx hb dL_law_1137 et_5 ?_
  have ft_5 : t_5.toInt = i3.toInt + 3 := addT (a := i3.toInt) (b := 3) rfl (by decide) et_5 (by omega) (by omega)
  obtain ⟨t_6, et_6⟩ : ∃ v9 : Int32, xs (t_5 : Int32).toNatClampNeg = v9 := ⟨_, rfl⟩
  refine va_sld hx hb hX hbl hbA hS (vin_nat (by omega) (by omega)) dL_law_1138 ?_
  rw [et_6]
  refine laAi (As := [.int t_2, .int t_4, .int t_6]) (rest := []) (wa := xL cB cI cJ cZ cS cT x0 A V) (wb := mL cB cI cJ cZ cS cT m0 B U) ⟨hx, hb, hml, hown, hts⟩ (f_X11_plan l G D cB cI cJ cZ cS cT H.size x0 A V ok t_2 t_4 t_6) hP hD hS hA hK hN hT hAB hG1 (cvB (n := 3) (inr48 _ (List.mem_of_getElem? (i := 16) rfl)) (inr48 _ (List.mem_of_getElem? (i := 17) rfl)) (inr48 _ (List.mem_of_getElem? (i := 18) rfl)) (inr1 _ (List.mem_of_getElem? (i := 2) rfl)) (inr48 _ (List.mem_of_getElem? (i := 19) rfl)) (by decide +kernel) hts rfl rfl ⟨Nat.le_of_ble_eq_true rfl, Nat.le_of_ble_eq_true rfl⟩) 0 11 rfl rfl rfl rfl hl.1 rfl (Nat.le_of_ble_eq_true rfl) ⟨hcc, hss⟩ dL_law_1139 (fun r_7 V_9 H locs h_8 hP hD hS => ?_)
  refine lv_pop hx hb dL_law_1142 rfl ?_
  refine lv_aload_n hx hb dL_law_1143 rfl (lv_at hl 2 rfl) ?_
  refine lv_aload_n hx hb dL_law_1144 rfl (lv_at hl 0 rfl) ?_
  refine lv_iload_n hx hb dL_law_1145 rfl (lv_at hl 3 rfl) ?_
  refine lv_iconst (v := 1) hx hb dL_law_1146 (by decide) ?_
  refine z_iadd (v := t_1) hx hb dL_law_1147 et_1 ?_
  refine va_sld hx hb hX hbl hbA hS (vin_nat (by omega) (by omega)) dL_law_1148 ?_
  rw [et_2]
  refine lv_aload_n hx hb dL_law_1149 rfl (lv_at hl 0 rfl) ?_
  refine lv_iload_n hx hb dL_law_1150 rfl (lv_at hl 3 rfl) ?_
  refine lv_iconst (v := 2) hx hb dL_law_1151 (by decide) ?_
  refine z_iadd (v := t_3) hx hb dL_law_1152 et_3 ?_
  refine va_sld hx hb hX hbl hbA hS (vin_nat (by omega) (by omega)) dL_law_1153 ?_
  rw [et_4]
  refine lv_aload_n hx hb dL_law_1154 rfl (lv_at hl 0 rfl) ?_
  refine lv_iload_n hx hb dL_law_1155 rfl (lv_at hl 3 rfl) ?_
  refine lv_iconst (v := 3) hx hb dL_law_1156 (by decide) ?_
  refine z_iadd (v := t_5) hx hb dL_law_1157 et_5 ?_
  refine va_sld hx hb hX hbl hbA hS (vin_nat (by omega) (by omega)) dL_law_1158 ?_
  rw [et_6]
  refine laBi (As := [.int t_2, .int t_4, .int t_6]) (rest := []) (wa := xL cB cI cJ cZ cS cT x0 A V_9) (wb := mL cB cI cJ cZ cS cT m0 B U) ⟨hx, hb, hml, hown, hts⟩ (f_X12_plan l G D cB cI cJ cZ cS cT H.size m0 B U okm t_2 t_4 t_6) hP hD hS hA hK hN hT hAB hG1 (cvB (n := 3) (inr49 _ (List.mem_of_getElem? (i := 16) rfl)) (inr49 _ (List.mem_of_getElem? (i := 17) rfl)) (inr49 _ (List.mem_of_getElem? (i := 18) rfl)) (inr1 _ (List.mem_of_getElem? (i := 5) rfl)) (inr49 _ (List.mem_of_getElem? (i := 19) rfl)) (by decide +kernel) hts rfl rfl ⟨Nat.le_of_ble_eq_true rfl, Nat.le_of_ble_eq_true rfl⟩) 0 12 rfl rfl rfl rfl hl.1 rfl (Nat.le_of_ble_eq_true rfl) ⟨hcc, hss⟩ dL_law_1159 (fun r_11 U_13 H locs h_12 hP hD hS => ?_)
  refine lv_pop hx hb dL_law_1162 rfl ?_
  refine lv_goto (tgt := 2115) hx hb dL_law_1163 (by decide) ?_
  exact K V_9 U_13 H locs ls h_8 h_12 trivial hP hD hS (lv_sub hl [0, 1, 2, 3] rfl)

set_option maxHeartbeats 4000000 in
set_option maxRecDepth 100000 in
theorem law_38 {p : Program} {l : Launch} {e : Env} {s : State} {m : MethodId} {below : List Frame} {meth : Method} {c : Code} {G : Gho} {D : va_G} {cB cI cJ cZ cS cT : ClassId} {b L : Nat} {xs : Nat → Int32} {x0 m0 : Nat} {A B : Nat → Nat} {cells slots : Nat} (hL : L ≤ 3072) (C0 : lw_At p s m meth c b L xs) (hK : va_K D vwCl (tyL cB cI cJ cZ cS cT) s) (hN : kN s) (hT : kT G s s.heap) (hG : G.1 = s.heap.size) (hcc : cells ≤ 600000) (hss : slots ≤ 7302249) {H : Heap} {locs : List Loc} {ls : Array Slot} (V U : VX) (ok : xok V) (okm : mok U) (rel : True) (i3 : Int32) (hi : 0 ≤ i3.toInt ∧ i3.toInt + 6 ≤ (L : Int)) (hP : va_P D vwCl (xL cB cI cJ cZ cS cT x0 A V ++ mL cB cI cJ cZ cS cT m0 B U) H) (hD : va_D (fun q : Nat => s.heap.size ≤ q) (xL cB cI cJ cZ cS cT x0 A V ++ mL cB cI cJ cZ cS cT m0 B U)) (hS : va_S (fun q : Nat => s.heap.size ≤ q) s.heap H locs) (hl : lv_has ls 4 [(0, .ref b), (1, .ref x0), (2, .ref m0), (3, .int i3)]) (K : ∀ (V U : VX) (H : Heap) (locs : List Loc) (ls : Array Slot), xok V → mok U → True → va_P D vwCl (xL cB cI cJ cZ cS cT x0 A V ++ mL cB cI cJ cZ cS cT m0 B U) H → va_D (fun q : Nat => s.heap.size ≤ q) (xL cB cI cJ cZ cS cT x0 A V ++ mL cB cI cJ cZ cS cT m0 B U) → va_S (fun q : Nat => s.heap.size ≤ q) s.heap H locs → lv_has ls 4 [(0, .ref b), (1, .ref x0), (2, .ref m0), (3, .int i3)] → W p l e room_1 s m #[Value.ref b] below meth c H locs cells slots (lw_Z below #[Value.ref b] s) (F0 m 2115 ls [])) : W p l e room_1 s m #[Value.ref b] below meth c H locs cells slots (lw_Z below #[Value.ref b] s) (F0 m 1166 ls []) := by
  obtain ⟨hx, hb, hr, hml, hown, hts0, hX, hbl, hlocks, hgv⟩ := id C0
  have hts : ∀ w ∈ wsL_law, w.before #[Value.ref b] s = true := fun w h => hts0 w (wsL_law_in w h)
  have hA : ∀ q : Nat, s.heap.size ≤ q → (fun q : Nat => s.heap.size ≤ q) q := fun _ h => h
  have hAB : ∀ q : Nat, (fun q : Nat => s.heap.size ≤ q) q → G.1 ≤ q := fun q h => by rw [hG]; exact h
  have hG1 : G.1 ≤ s.heap.size := by rw [hG]; exact Nat.le_refl _
  have hbA : ¬ (fun q : Nat => s.heap.size ≤ q) b := Nat.not_le.mpr hbl
  refine lv_aload_n hx hb dL_law_1166 rfl (lv_at hl 1 rfl) ?_
  refine lv_aload_n hx hb dL_law_1167 rfl (lv_at hl 0 rfl) ?_
  refine lv_iload_n hx hb dL_law_1168 rfl (lv_at hl 3 rfl) ?_
  refine lv_iconst (v := 1) hx hb dL_law_1169 (by decide) ?_
  obtain ⟨t_1, et_1⟩ : ∃ v9 : Int32, i3 + 1 = v9 := ⟨_, rfl⟩
  refine z_iadd (v := t_1) hx hb dL_law_1170 et_1 ?_
  have b_i3 := i32b i3
  have ft_1 : t_1.toInt = i3.toInt + 1 := addT (a := i3.toInt) (b := 1) rfl (by decide) et_1 (by omega) (by omega)
  obtain ⟨t_2, et_2⟩ : ∃ v9 : Int32, xs (t_1 : Int32).toNatClampNeg = v9 := ⟨_, rfl⟩
  refine va_sld hx hb hX hbl hbA hS (vin_nat (by omega) (by omega)) dL_law_1171 ?_
  rw [et_2]
  refine lv_aload_n hx hb dL_law_1172 rfl (lv_at hl 0 rfl) ?_
  refine lv_iload_n hx hb dL_law_1173 rfl (lv_at hl 3 rfl) ?_
  refine lv_iconst (v := 2) hx hb dL_law_1174 (by decide) ?_
  obtain ⟨t_3, et_3⟩ : ∃ v9 : Int32, i3 + 2 = v9 := ⟨_, rfl⟩
  refine z_iadd (v := t_3) hx hb dL_law_1175 et_3 ?_
  have ft_3 : t_3.toInt = i3.toInt + 2 := addT (a := i3.toInt) (b := 2) rfl (by decide) et_3 (by omega) (by omega)
  obtain ⟨t_4, et_4⟩ : ∃ v9 : Int32, xs (t_3 : Int32).toNatClampNeg = v9 := ⟨_, rfl⟩
  refine va_sld hx hb hX hbl hbA hS (vin_nat (by omega) (by omega)) dL_law_1176 ?_
  rw [et_4]
  refine laAi (As := [.int t_2, .int t_4]) (rest := []) (wa := xL cB cI cJ cZ cS cT x0 A V) (wb := mL cB cI cJ cZ cS cT m0 B U) ⟨hx, hb, hml, hown, hts⟩ (f_X11_quietly l G D cB cI cJ cZ cS cT H.size x0 A V ok t_2 t_4) hP hD hS hA hK hN hT hAB hG1 (cvB (n := 2) (inr49 _ (List.mem_of_getElem? (i := 20) rfl)) (inr49 _ (List.mem_of_getElem? (i := 21) rfl)) (inr49 _ (List.mem_of_getElem? (i := 22) rfl)) (inr1 _ (List.mem_of_getElem? (i := 2) rfl)) (inr49 _ (List.mem_of_getElem? (i := 23) rfl)) (by decide +kernel) hts rfl rfl ⟨Nat.le_of_ble_eq_true rfl, Nat.le_of_ble_eq_true rfl⟩) 0 11 rfl rfl rfl rfl hl.1 rfl (Nat.le_of_ble_eq_true rfl) ⟨hcc, hss⟩ dL_law_1177 (fun r_5 V_7 H locs h_6 hP hD hS => ?_)
  refine lv_pop hx hb dL_law_1180 rfl ?_
  refine lv_aload_n hx hb dL_law_1181 rfl (lv_at hl 2 rfl) ?_
  refine lv_aload_n hx hb dL_law_1182 rfl (lv_at hl 0 rfl) ?_
  refine lv_iload_n hx hb dL_law_1183 rfl (lv_at hl 3 rfl) ?_
  refine lv_iconst (v := 1) hx hb dL_law_1184 (by decide) ?_
  refine z_iadd (v := t_1) hx hb dL_law_1185 et_1 ?_
  refine va_sld hx hb hX hbl hbA hS (vin_nat (by omega) (by omega)) dL_law_1186 ?_
  rw [et_2]
  refine lv_aload_n hx hb dL_law_1187 rfl (lv_at hl 0 rfl) ?_
  refine lv_iload_n hx hb dL_law_1188 rfl (lv_at hl 3 rfl) ?_
  refine lv_iconst (v := 2) hx hb dL_law_1189 (by decide) ?_
  refine z_iadd (v := t_3) hx hb dL_law_1190 et_3 ?_
  refine va_sld hx hb hX hbl hbA hS (vin_nat (by omega) (by omega)) dL_law_1191 ?_
  rw [et_4]
  refine laBi (As := [.int t_2, .int t_4]) (rest := []) (wa := xL cB cI cJ cZ cS cT x0 A V_7) (wb := mL cB cI cJ cZ cS cT m0 B U) ⟨hx, hb, hml, hown, hts⟩ (f_X12_quietly l G D cB cI cJ cZ cS cT H.size m0 B U okm t_2 t_4) hP hD hS hA hK hN hT hAB hG1 (cvB (n := 2) (inr50 _ (List.mem_of_getElem? (i := 0) rfl)) (inr50 _ (List.mem_of_getElem? (i := 1) rfl)) (inr50 _ (List.mem_of_getElem? (i := 2) rfl)) (inr1 _ (List.mem_of_getElem? (i := 5) rfl)) (inr50 _ (List.mem_of_getElem? (i := 3) rfl)) (by decide +kernel) hts rfl rfl ⟨Nat.le_of_ble_eq_true rfl, Nat.le_of_ble_eq_true rfl⟩) 0 12 rfl rfl rfl rfl hl.1 rfl (Nat.le_of_ble_eq_true rfl) ⟨hcc, hss⟩ dL_law_1192 (fun r_9 U_11 H locs h_10 hP hD hS => ?_)
  refine lv_pop hx hb dL_law_1195 rfl ?_
  refine lv_goto (tgt := 2115) hx hb dL_law_1196 (by decide) ?_
  exact K V_7 U_11 H locs ls h_6 h_10 trivial hP hD hS (lv_sub hl [0, 1, 2, 3] rfl)

set_option maxHeartbeats 4000000 in
set_option maxRecDepth 100000 in
theorem law_39 {p : Program} {l : Launch} {e : Env} {s : State} {m : MethodId} {below : List Frame} {meth : Method} {c : Code} {G : Gho} {D : va_G} {cB cI cJ cZ cS cT : ClassId} {b L : Nat} {xs : Nat → Int32} {x0 m0 : Nat} {A B : Nat → Nat} {cells slots : Nat} (hL : L ≤ 3072) (C0 : lw_At p s m meth c b L xs) (hK : va_K D vwCl (tyL cB cI cJ cZ cS cT) s) (hN : kN s) (hT : kT G s s.heap) (hG : G.1 = s.heap.size) (hcc : cells ≤ 600000) (hss : slots ≤ 7302249) {H : Heap} {locs : List Loc} {ls : Array Slot} (V U : VX) (ok : xok V) (okm : mok U) (rel : True) (i3 : Int32) (hi : 0 ≤ i3.toInt ∧ i3.toInt + 6 ≤ (L : Int)) (hP : va_P D vwCl (xL cB cI cJ cZ cS cT x0 A V ++ mL cB cI cJ cZ cS cT m0 B U) H) (hD : va_D (fun q : Nat => s.heap.size ≤ q) (xL cB cI cJ cZ cS cT x0 A V ++ mL cB cI cJ cZ cS cT m0 B U)) (hS : va_S (fun q : Nat => s.heap.size ≤ q) s.heap H locs) (hl : lv_has ls 4 [(0, .ref b), (1, .ref x0), (2, .ref m0), (3, .int i3)]) (K : ∀ (V U : VX) (H : Heap) (locs : List Loc) (ls : Array Slot), xok V → mok U → True → va_P D vwCl (xL cB cI cJ cZ cS cT x0 A V ++ mL cB cI cJ cZ cS cT m0 B U) H → va_D (fun q : Nat => s.heap.size ≤ q) (xL cB cI cJ cZ cS cT x0 A V ++ mL cB cI cJ cZ cS cT m0 B U) → va_S (fun q : Nat => s.heap.size ≤ q) s.heap H locs → lv_has ls 4 [(0, .ref b), (1, .ref x0), (2, .ref m0), (3, .int i3)] → W p l e room_1 s m #[Value.ref b] below meth c H locs cells slots (lw_Z below #[Value.ref b] s) (F0 m 2115 ls [])) : W p l e room_1 s m #[Value.ref b] below meth c H locs cells slots (lw_Z below #[Value.ref b] s) (F0 m 1199 ls []) := by
  obtain ⟨hx, hb, hr, hml, hown, hts0, hX, hbl, hlocks, hgv⟩ := id C0
  have hts : ∀ w ∈ wsL_law, w.before #[Value.ref b] s = true := fun w h => hts0 w (wsL_law_in w h)
  have hA : ∀ q : Nat, s.heap.size ≤ q → (fun q : Nat => s.heap.size ≤ q) q := fun _ h => h
  have hAB : ∀ q : Nat, (fun q : Nat => s.heap.size ≤ q) q → G.1 ≤ q := fun q h => by rw [hG]; exact h
  have hG1 : G.1 ≤ s.heap.size := by rw [hG]; exact Nat.le_refl _
  have hbA : ¬ (fun q : Nat => s.heap.size ≤ q) b := Nat.not_le.mpr hbl
  refine lv_aload_n hx hb dL_law_1199 rfl (lv_at hl 1 rfl) ?_
  refine lv_aload_n hx hb dL_law_1200 rfl (lv_at hl 0 rfl) ?_
  refine lv_iload_n hx hb dL_law_1201 rfl (lv_at hl 3 rfl) ?_
  refine lv_iconst (v := 1) hx hb dL_law_1202 (by decide) ?_
  obtain ⟨t_1, et_1⟩ : ∃ v9 : Int32, i3 + 1 = v9 := ⟨_, rfl⟩
  refine z_iadd (v := t_1) hx hb dL_law_1203 et_1 ?_
  have b_i3 := i32b i3
  have ft_1 : t_1.toInt = i3.toInt + 1 := addT (a := i3.toInt) (b := 1) rfl (by decide) et_1 (by omega) (by omega)
  obtain ⟨t_2, et_2⟩ : ∃ v9 : Int32, xs (t_1 : Int32).toNatClampNeg = v9 := ⟨_, rfl⟩
  refine va_sld hx hb hX hbl hbA hS (vin_nat (by omega) (by omega)) dL_law_1204 ?_
  rw [et_2]
  refine lv_aload_n hx hb dL_law_1205 rfl (lv_at hl 0 rfl) ?_
  refine lv_iload_n hx hb dL_law_1206 rfl (lv_at hl 3 rfl) ?_
  refine lv_iconst (v := 2) hx hb dL_law_1207 (by decide) ?_
  obtain ⟨t_3, et_3⟩ : ∃ v9 : Int32, i3 + 2 = v9 := ⟨_, rfl⟩
  refine z_iadd (v := t_3) hx hb dL_law_1208 et_3 ?_
  have ft_3 : t_3.toInt = i3.toInt + 2 := addT (a := i3.toInt) (b := 2) rfl (by decide) et_3 (by omega) (by omega)
  obtain ⟨t_4, et_4⟩ : ∃ v9 : Int32, xs (t_3 : Int32).toNatClampNeg = v9 := ⟨_, rfl⟩
  refine va_sld hx hb hX hbl hbA hS (vin_nat (by omega) (by omega)) dL_law_1209 ?_
  rw [et_4]
  refine laAi (As := [.int t_2, .int t_4]) (rest := []) (wa := xL cB cI cJ cZ cS cT x0 A V) (wb := mL cB cI cJ cZ cS cT m0 B U) ⟨hx, hb, hml, hown, hts⟩ (f_X11_sooner l G D cB cI cJ cZ cS cT H.size x0 A V ok t_2 t_4) hP hD hS hA hK hN hT hAB hG1 (cvB (n := 2) (inr50 _ (List.mem_of_getElem? (i := 4) rfl)) (inr50 _ (List.mem_of_getElem? (i := 5) rfl)) (inr50 _ (List.mem_of_getElem? (i := 6) rfl)) (inr1 _ (List.mem_of_getElem? (i := 2) rfl)) (inr50 _ (List.mem_of_getElem? (i := 7) rfl)) (by decide +kernel) hts rfl rfl ⟨Nat.le_of_ble_eq_true rfl, Nat.le_of_ble_eq_true rfl⟩) 0 11 rfl rfl rfl rfl hl.1 rfl (Nat.le_of_ble_eq_true rfl) ⟨hcc, hss⟩ dL_law_1210 (fun r_5 V_7 H locs h_6 hP hD hS => ?_)
  refine lv_pop hx hb dL_law_1213 rfl ?_
  refine lv_aload_n hx hb dL_law_1214 rfl (lv_at hl 2 rfl) ?_
  refine lv_aload_n hx hb dL_law_1215 rfl (lv_at hl 0 rfl) ?_
  refine lv_iload_n hx hb dL_law_1216 rfl (lv_at hl 3 rfl) ?_
  refine lv_iconst (v := 1) hx hb dL_law_1217 (by decide) ?_
  refine z_iadd (v := t_1) hx hb dL_law_1218 et_1 ?_
  refine va_sld hx hb hX hbl hbA hS (vin_nat (by omega) (by omega)) dL_law_1219 ?_
  rw [et_2]
  refine lv_aload_n hx hb dL_law_1220 rfl (lv_at hl 0 rfl) ?_
  refine lv_iload_n hx hb dL_law_1221 rfl (lv_at hl 3 rfl) ?_
  refine lv_iconst (v := 2) hx hb dL_law_1222 (by decide) ?_
  refine z_iadd (v := t_3) hx hb dL_law_1223 et_3 ?_
  refine va_sld hx hb hX hbl hbA hS (vin_nat (by omega) (by omega)) dL_law_1224 ?_
  rw [et_4]
  refine laBi (As := [.int t_2, .int t_4]) (rest := []) (wa := xL cB cI cJ cZ cS cT x0 A V_7) (wb := mL cB cI cJ cZ cS cT m0 B U) ⟨hx, hb, hml, hown, hts⟩ (f_X12_sooner l G D cB cI cJ cZ cS cT H.size m0 B U okm t_2 t_4) hP hD hS hA hK hN hT hAB hG1 (cvB (n := 2) (inr50 _ (List.mem_of_getElem? (i := 8) rfl)) (inr50 _ (List.mem_of_getElem? (i := 9) rfl)) (inr50 _ (List.mem_of_getElem? (i := 10) rfl)) (inr1 _ (List.mem_of_getElem? (i := 5) rfl)) (inr50 _ (List.mem_of_getElem? (i := 11) rfl)) (by decide +kernel) hts rfl rfl ⟨Nat.le_of_ble_eq_true rfl, Nat.le_of_ble_eq_true rfl⟩) 0 12 rfl rfl rfl rfl hl.1 rfl (Nat.le_of_ble_eq_true rfl) ⟨hcc, hss⟩ dL_law_1225 (fun r_9 U_11 H locs h_10 hP hD hS => ?_)
  refine lv_pop hx hb dL_law_1228 rfl ?_
  refine lv_goto (tgt := 2115) hx hb dL_law_1229 (by decide) ?_
  exact K V_7 U_11 H locs ls h_6 h_10 trivial hP hD hS (lv_sub hl [0, 1, 2, 3] rfl)

set_option maxHeartbeats 4000000 in
set_option maxRecDepth 100000 in
theorem law_40 {p : Program} {l : Launch} {e : Env} {s : State} {m : MethodId} {below : List Frame} {meth : Method} {c : Code} {G : Gho} {D : va_G} {cB cI cJ cZ cS cT : ClassId} {b L : Nat} {xs : Nat → Int32} {x0 m0 : Nat} {A B : Nat → Nat} {cells slots : Nat} (hL : L ≤ 3072) (C0 : lw_At p s m meth c b L xs) (hK : va_K D vwCl (tyL cB cI cJ cZ cS cT) s) (hN : kN s) (hT : kT G s s.heap) (hG : G.1 = s.heap.size) (hcc : cells ≤ 600000) (hss : slots ≤ 7302249) {H : Heap} {locs : List Loc} {ls : Array Slot} (V U : VX) (ok : xok V) (okm : mok U) (rel : True) (i3 : Int32) (hi : 0 ≤ i3.toInt ∧ i3.toInt + 6 ≤ (L : Int)) (hP : va_P D vwCl (xL cB cI cJ cZ cS cT x0 A V ++ mL cB cI cJ cZ cS cT m0 B U) H) (hD : va_D (fun q : Nat => s.heap.size ≤ q) (xL cB cI cJ cZ cS cT x0 A V ++ mL cB cI cJ cZ cS cT m0 B U)) (hS : va_S (fun q : Nat => s.heap.size ≤ q) s.heap H locs) (hl : lv_has ls 4 [(0, .ref b), (1, .ref x0), (2, .ref m0), (3, .int i3)]) (K : ∀ (V U : VX) (H : Heap) (locs : List Loc) (ls : Array Slot), xok V → mok U → True → va_P D vwCl (xL cB cI cJ cZ cS cT x0 A V ++ mL cB cI cJ cZ cS cT m0 B U) H → va_D (fun q : Nat => s.heap.size ≤ q) (xL cB cI cJ cZ cS cT x0 A V ++ mL cB cI cJ cZ cS cT m0 B U) → va_S (fun q : Nat => s.heap.size ≤ q) s.heap H locs → lv_has ls 4 [(0, .ref b), (1, .ref x0), (2, .ref m0), (3, .int i3)] → W p l e room_1 s m #[Value.ref b] below meth c H locs cells slots (lw_Z below #[Value.ref b] s) (F0 m 2115 ls [])) : W p l e room_1 s m #[Value.ref b] below meth c H locs cells slots (lw_Z below #[Value.ref b] s) (F0 m 1232 ls []) := by
  obtain ⟨hx, hb, hr, hml, hown, hts0, hX, hbl, hlocks, hgv⟩ := id C0
  have hts : ∀ w ∈ wsL_law, w.before #[Value.ref b] s = true := fun w h => hts0 w (wsL_law_in w h)
  have hA : ∀ q : Nat, s.heap.size ≤ q → (fun q : Nat => s.heap.size ≤ q) q := fun _ h => h
  have hAB : ∀ q : Nat, (fun q : Nat => s.heap.size ≤ q) q → G.1 ≤ q := fun q h => by rw [hG]; exact h
  have hG1 : G.1 ≤ s.heap.size := by rw [hG]; exact Nat.le_refl _
  have hbA : ¬ (fun q : Nat => s.heap.size ≤ q) b := Nat.not_le.mpr hbl
  refine lv_aload_n hx hb dL_law_1232 rfl (lv_at hl 1 rfl) ?_
  refine lv_aload_n hx hb dL_law_1233 rfl (lv_at hl 0 rfl) ?_
  refine lv_iload_n hx hb dL_law_1234 rfl (lv_at hl 3 rfl) ?_
  refine lv_iconst (v := 1) hx hb dL_law_1235 (by decide) ?_
  obtain ⟨t_1, et_1⟩ : ∃ v9 : Int32, i3 + 1 = v9 := ⟨_, rfl⟩
  refine z_iadd (v := t_1) hx hb dL_law_1236 et_1 ?_
  have b_i3 := i32b i3
  have ft_1 : t_1.toInt = i3.toInt + 1 := addT (a := i3.toInt) (b := 1) rfl (by decide) et_1 (by omega) (by omega)
  obtain ⟨t_2, et_2⟩ : ∃ v9 : Int32, xs (t_1 : Int32).toNatClampNeg = v9 := ⟨_, rfl⟩
  refine va_sld hx hb hX hbl hbA hS (vin_nat (by omega) (by omega)) dL_law_1237 ?_
  rw [et_2]
  refine lv_aload_n hx hb dL_law_1238 rfl (lv_at hl 0 rfl) ?_
  refine lv_iload_n hx hb dL_law_1239 rfl (lv_at hl 3 rfl) ?_
  refine lv_iconst (v := 2) hx hb dL_law_1240 (by decide) ?_
  obtain ⟨t_3, et_3⟩ : ∃ v9 : Int32, i3 + 2 = v9 := ⟨_, rfl⟩
  refine z_iadd (v := t_3) hx hb dL_law_1241 et_3 ?_
  have ft_3 : t_3.toInt = i3.toInt + 2 := addT (a := i3.toInt) (b := 2) rfl (by decide) et_3 (by omega) (by omega)
  obtain ⟨t_4, et_4⟩ : ∃ v9 : Int32, xs (t_3 : Int32).toNatClampNeg = v9 := ⟨_, rfl⟩
  refine va_sld hx hb hX hbl hbA hS (vin_nat (by omega) (by omega)) dL_law_1242 ?_
  rw [et_4]
  refine laAi (As := [.int t_2, .int t_4]) (rest := []) (wa := xL cB cI cJ cZ cS cT x0 A V) (wb := mL cB cI cJ cZ cS cT m0 B U) ⟨hx, hb, hml, hown, hts⟩ (f_X11_mend l G D cB cI cJ cZ cS cT H.size x0 A V ok t_2 t_4) hP hD hS hA hK hN hT hAB hG1 (cvB (n := 2) (inr50 _ (List.mem_of_getElem? (i := 12) rfl)) (inr50 _ (List.mem_of_getElem? (i := 13) rfl)) (inr50 _ (List.mem_of_getElem? (i := 14) rfl)) (inr1 _ (List.mem_of_getElem? (i := 2) rfl)) (inr50 _ (List.mem_of_getElem? (i := 15) rfl)) (by decide +kernel) hts rfl rfl ⟨Nat.le_of_ble_eq_true rfl, Nat.le_of_ble_eq_true rfl⟩) 0 11 rfl rfl rfl rfl hl.1 rfl (Nat.le_of_ble_eq_true rfl) ⟨hcc, hss⟩ dL_law_1243 (fun r_5 V_7 H locs h_6 hP hD hS => ?_)
  refine lv_pop hx hb dL_law_1246 rfl ?_
  refine lv_aload_n hx hb dL_law_1247 rfl (lv_at hl 2 rfl) ?_
  refine lv_aload_n hx hb dL_law_1248 rfl (lv_at hl 0 rfl) ?_
  refine lv_iload_n hx hb dL_law_1249 rfl (lv_at hl 3 rfl) ?_
  refine lv_iconst (v := 1) hx hb dL_law_1250 (by decide) ?_
  refine z_iadd (v := t_1) hx hb dL_law_1251 et_1 ?_
  refine va_sld hx hb hX hbl hbA hS (vin_nat (by omega) (by omega)) dL_law_1252 ?_
  rw [et_2]
  refine lv_aload_n hx hb dL_law_1253 rfl (lv_at hl 0 rfl) ?_
  refine lv_iload_n hx hb dL_law_1254 rfl (lv_at hl 3 rfl) ?_
  refine lv_iconst (v := 2) hx hb dL_law_1255 (by decide) ?_
  refine z_iadd (v := t_3) hx hb dL_law_1256 et_3 ?_
  refine va_sld hx hb hX hbl hbA hS (vin_nat (by omega) (by omega)) dL_law_1257 ?_
  rw [et_4]
  refine laBi (As := [.int t_2, .int t_4]) (rest := []) (wa := xL cB cI cJ cZ cS cT x0 A V_7) (wb := mL cB cI cJ cZ cS cT m0 B U) ⟨hx, hb, hml, hown, hts⟩ (f_X12_mend l G D cB cI cJ cZ cS cT H.size m0 B U okm t_2 t_4) hP hD hS hA hK hN hT hAB hG1 (cvB (n := 2) (inr50 _ (List.mem_of_getElem? (i := 23) rfl)) (inr51 _ (List.mem_of_getElem? (i := 0) rfl)) (inr51 _ (List.mem_of_getElem? (i := 1) rfl)) (inr1 _ (List.mem_of_getElem? (i := 5) rfl)) (inr51 _ (List.mem_of_getElem? (i := 2) rfl)) (by decide +kernel) hts rfl rfl ⟨Nat.le_of_ble_eq_true rfl, Nat.le_of_ble_eq_true rfl⟩) 0 12 rfl rfl rfl rfl hl.1 rfl (Nat.le_of_ble_eq_true rfl) ⟨hcc, hss⟩ dL_law_1258 (fun r_9 U_11 H locs h_10 hP hD hS => ?_)
  refine lv_pop hx hb dL_law_1261 rfl ?_
  refine lv_goto (tgt := 2115) hx hb dL_law_1262 (by decide) ?_
  exact K V_7 U_11 H locs ls h_6 h_10 trivial hP hD hS (lv_sub hl [0, 1, 2, 3] rfl)

set_option maxHeartbeats 4000000 in
set_option maxRecDepth 100000 in
theorem law_41 {p : Program} {l : Launch} {e : Env} {s : State} {m : MethodId} {below : List Frame} {meth : Method} {c : Code} {G : Gho} {D : va_G} {cB cI cJ cZ cS cT : ClassId} {b L : Nat} {xs : Nat → Int32} {x0 m0 : Nat} {A B : Nat → Nat} {cells slots : Nat} (hL : L ≤ 3072) (C0 : lw_At p s m meth c b L xs) (hK : va_K D vwCl (tyL cB cI cJ cZ cS cT) s) (hN : kN s) (hT : kT G s s.heap) (hG : G.1 = s.heap.size) (hcc : cells ≤ 600000) (hss : slots ≤ 7302249) {H : Heap} {locs : List Loc} {ls : Array Slot} (V U : VX) (ok : xok V) (okm : mok U) (rel : True) (i3 : Int32) (hi : 0 ≤ i3.toInt ∧ i3.toInt + 6 ≤ (L : Int)) (hP : va_P D vwCl (xL cB cI cJ cZ cS cT x0 A V ++ mL cB cI cJ cZ cS cT m0 B U) H) (hD : va_D (fun q : Nat => s.heap.size ≤ q) (xL cB cI cJ cZ cS cT x0 A V ++ mL cB cI cJ cZ cS cT m0 B U)) (hS : va_S (fun q : Nat => s.heap.size ≤ q) s.heap H locs) (hl : lv_has ls 4 [(0, .ref b), (1, .ref x0), (2, .ref m0), (3, .int i3)]) (K : ∀ (V U : VX) (H : Heap) (locs : List Loc) (ls : Array Slot), xok V → mok U → True → va_P D vwCl (xL cB cI cJ cZ cS cT x0 A V ++ mL cB cI cJ cZ cS cT m0 B U) H → va_D (fun q : Nat => s.heap.size ≤ q) (xL cB cI cJ cZ cS cT x0 A V ++ mL cB cI cJ cZ cS cT m0 B U) → va_S (fun q : Nat => s.heap.size ≤ q) s.heap H locs → lv_has ls 4 [(0, .ref b), (1, .ref x0), (2, .ref m0), (3, .int i3)] → W p l e room_1 s m #[Value.ref b] below meth c H locs cells slots (lw_Z below #[Value.ref b] s) (F0 m 2115 ls [])) : W p l e room_1 s m #[Value.ref b] below meth c H locs cells slots (lw_Z below #[Value.ref b] s) (F0 m 1265 ls []) := by
  obtain ⟨hx, hb, hr, hml, hown, hts0, hX, hbl, hlocks, hgv⟩ := id C0
  have hts : ∀ w ∈ wsL_law, w.before #[Value.ref b] s = true := fun w h => hts0 w (wsL_law_in w h)
  have hA : ∀ q : Nat, s.heap.size ≤ q → (fun q : Nat => s.heap.size ≤ q) q := fun _ h => h
  have hAB : ∀ q : Nat, (fun q : Nat => s.heap.size ≤ q) q → G.1 ≤ q := fun q h => by rw [hG]; exact h
  have hG1 : G.1 ≤ s.heap.size := by rw [hG]; exact Nat.le_refl _
  have hbA : ¬ (fun q : Nat => s.heap.size ≤ q) b := Nat.not_le.mpr hbl
  refine lv_aload_n hx hb dL_law_1265 rfl (lv_at hl 1 rfl) ?_
  refine lv_aload_n hx hb dL_law_1266 rfl (lv_at hl 0 rfl) ?_
  refine lv_iload_n hx hb dL_law_1267 rfl (lv_at hl 3 rfl) ?_
  refine lv_iconst (v := 1) hx hb dL_law_1268 (by decide) ?_
  obtain ⟨t_1, et_1⟩ : ∃ v9 : Int32, i3 + 1 = v9 := ⟨_, rfl⟩
  refine z_iadd (v := t_1) hx hb dL_law_1269 et_1 ?_
  have b_i3 := i32b i3
  have ft_1 : t_1.toInt = i3.toInt + 1 := addT (a := i3.toInt) (b := 1) rfl (by decide) et_1 (by omega) (by omega)
  obtain ⟨t_2, et_2⟩ : ∃ v9 : Int32, xs (t_1 : Int32).toNatClampNeg = v9 := ⟨_, rfl⟩
  refine va_sld hx hb hX hbl hbA hS (vin_nat (by omega) (by omega)) dL_law_1270 ?_
  rw [et_2]
  refine laAi (As := [.int t_2]) (rest := []) (wa := xL cB cI cJ cZ cS cT x0 A V) (wb := mL cB cI cJ cZ cS cT m0 B U) ⟨hx, hb, hml, hown, hts⟩ (f_X11_laws l G D cB cI cJ cZ cS cT H.size x0 A V ok t_2) hP hD hS hA hK hN hT hAB hG1 (cvB (n := 1) (inr51 _ (List.mem_of_getElem? (i := 7) rfl)) (inr51 _ (List.mem_of_getElem? (i := 8) rfl)) (inr51 _ (List.mem_of_getElem? (i := 9) rfl)) (inr1 _ (List.mem_of_getElem? (i := 2) rfl)) (inr51 _ (List.mem_of_getElem? (i := 10) rfl)) (by decide +kernel) hts rfl rfl ⟨Nat.le_of_ble_eq_true rfl, Nat.le_of_ble_eq_true rfl⟩) 0 11 rfl rfl rfl rfl hl.1 rfl (Nat.le_of_ble_eq_true rfl) ⟨hcc, hss⟩ dL_law_1271 (fun r_3 V_5 H locs h_4 hP hD hS => ?_)
  refine lv_pop hx hb dL_law_1274 rfl ?_
  refine lv_aload_n hx hb dL_law_1275 rfl (lv_at hl 2 rfl) ?_
  refine lv_aload_n hx hb dL_law_1276 rfl (lv_at hl 0 rfl) ?_
  refine lv_iload_n hx hb dL_law_1277 rfl (lv_at hl 3 rfl) ?_
  refine lv_iconst (v := 1) hx hb dL_law_1278 (by decide) ?_
  refine z_iadd (v := t_1) hx hb dL_law_1279 et_1 ?_
  refine va_sld hx hb hX hbl hbA hS (vin_nat (by omega) (by omega)) dL_law_1280 ?_
  rw [et_2]
  refine laBi (As := [.int t_2]) (rest := []) (wa := xL cB cI cJ cZ cS cT x0 A V_5) (wb := mL cB cI cJ cZ cS cT m0 B U) ⟨hx, hb, hml, hown, hts⟩ (f_X12_laws l G D cB cI cJ cZ cS cT H.size m0 B U okm t_2) hP hD hS hA hK hN hT hAB hG1 (cvB (n := 1) (inr53 _ (List.mem_of_getElem? (i := 19) rfl)) (inr53 _ (List.mem_of_getElem? (i := 20) rfl)) (inr53 _ (List.mem_of_getElem? (i := 21) rfl)) (inr1 _ (List.mem_of_getElem? (i := 5) rfl)) (inr53 _ (List.mem_of_getElem? (i := 22) rfl)) (by decide +kernel) hts rfl rfl ⟨Nat.le_of_ble_eq_true rfl, Nat.le_of_ble_eq_true rfl⟩) 0 12 rfl rfl rfl rfl hl.1 rfl (Nat.le_of_ble_eq_true rfl) ⟨hcc, hss⟩ dL_law_1281 (fun r_7 U_9 H locs h_8 hP hD hS => ?_)
  refine lv_pop hx hb dL_law_1284 rfl ?_
  refine lv_goto (tgt := 2115) hx hb dL_law_1285 (by decide) ?_
  exact K V_5 U_9 H locs ls h_4 h_8 trivial hP hD hS (lv_sub hl [0, 1, 2, 3] rfl)

set_option maxHeartbeats 4000000 in
set_option maxRecDepth 100000 in
theorem law_42 {p : Program} {l : Launch} {e : Env} {s : State} {m : MethodId} {below : List Frame} {meth : Method} {c : Code} {G : Gho} {D : va_G} {cB cI cJ cZ cS cT : ClassId} {b L : Nat} {xs : Nat → Int32} {x0 m0 : Nat} {A B : Nat → Nat} {cells slots : Nat} (hL : L ≤ 3072) (C0 : lw_At p s m meth c b L xs) (hK : va_K D vwCl (tyL cB cI cJ cZ cS cT) s) (hN : kN s) (hT : kT G s s.heap) (hG : G.1 = s.heap.size) (hcc : cells ≤ 600000) (hss : slots ≤ 7302249) {H : Heap} {locs : List Loc} {ls : Array Slot} (V U : VX) (ok : xok V) (okm : mok U) (rel : True) (i3 : Int32) (hi : 0 ≤ i3.toInt ∧ i3.toInt + 6 ≤ (L : Int)) (hP : va_P D vwCl (xL cB cI cJ cZ cS cT x0 A V ++ mL cB cI cJ cZ cS cT m0 B U) H) (hD : va_D (fun q : Nat => s.heap.size ≤ q) (xL cB cI cJ cZ cS cT x0 A V ++ mL cB cI cJ cZ cS cT m0 B U)) (hS : va_S (fun q : Nat => s.heap.size ≤ q) s.heap H locs) (hl : lv_has ls 4 [(0, .ref b), (1, .ref x0), (2, .ref m0), (3, .int i3)]) (K : ∀ (V U : VX) (H : Heap) (locs : List Loc) (ls : Array Slot), xok V → mok U → True → va_P D vwCl (xL cB cI cJ cZ cS cT x0 A V ++ mL cB cI cJ cZ cS cT m0 B U) H → va_D (fun q : Nat => s.heap.size ≤ q) (xL cB cI cJ cZ cS cT x0 A V ++ mL cB cI cJ cZ cS cT m0 B U) → va_S (fun q : Nat => s.heap.size ≤ q) s.heap H locs → lv_has ls 4 [(0, .ref b), (1, .ref x0), (2, .ref m0), (3, .int i3)] → W p l e room_1 s m #[Value.ref b] below meth c H locs cells slots (lw_Z below #[Value.ref b] s) (F0 m 2115 ls [])) : W p l e room_1 s m #[Value.ref b] below meth c H locs cells slots (lw_Z below #[Value.ref b] s) (F0 m 1288 ls []) := by
  obtain ⟨hx, hb, hr, hml, hown, hts0, hX, hbl, hlocks, hgv⟩ := id C0
  have hts : ∀ w ∈ wsL_law, w.before #[Value.ref b] s = true := fun w h => hts0 w (wsL_law_in w h)
  have hA : ∀ q : Nat, s.heap.size ≤ q → (fun q : Nat => s.heap.size ≤ q) q := fun _ h => h
  have hAB : ∀ q : Nat, (fun q : Nat => s.heap.size ≤ q) q → G.1 ≤ q := fun q h => by rw [hG]; exact h
  have hG1 : G.1 ≤ s.heap.size := by rw [hG]; exact Nat.le_refl _
  have hbA : ¬ (fun q : Nat => s.heap.size ≤ q) b := Nat.not_le.mpr hbl
  refine lv_aload_n hx hb dL_law_1288 rfl (lv_at hl 1 rfl) ?_
  refine lv_aload_n hx hb dL_law_1289 rfl (lv_at hl 0 rfl) ?_
  refine lv_iload_n hx hb dL_law_1290 rfl (lv_at hl 3 rfl) ?_
  refine lv_iconst (v := 1) hx hb dL_law_1291 (by decide) ?_
  obtain ⟨t_1, et_1⟩ : ∃ v9 : Int32, i3 + 1 = v9 := ⟨_, rfl⟩
  refine z_iadd (v := t_1) hx hb dL_law_1292 et_1 ?_
  have b_i3 := i32b i3
  have ft_1 : t_1.toInt = i3.toInt + 1 := addT (a := i3.toInt) (b := 1) rfl (by decide) et_1 (by omega) (by omega)
  obtain ⟨t_2, et_2⟩ : ∃ v9 : Int32, xs (t_1 : Int32).toNatClampNeg = v9 := ⟨_, rfl⟩
  refine va_sld hx hb hX hbl hbA hS (vin_nat (by omega) (by omega)) dL_law_1293 ?_
  rw [et_2]
  refine laAi (As := [.int t_2]) (rest := []) (wa := xL cB cI cJ cZ cS cT x0 A V) (wb := mL cB cI cJ cZ cS cT m0 B U) ⟨hx, hb, hml, hown, hts⟩ (f_X11_law l G D cB cI cJ cZ cS cT H.size x0 A V ok t_2) hP hD hS hA hK hN hT hAB hG1 (cvB (n := 1) (inr54 _ (List.mem_of_getElem? (i := 16) rfl)) (inr54 _ (List.mem_of_getElem? (i := 17) rfl)) (inr54 _ (List.mem_of_getElem? (i := 18) rfl)) (inr1 _ (List.mem_of_getElem? (i := 2) rfl)) (inr54 _ (List.mem_of_getElem? (i := 19) rfl)) (by decide +kernel) hts rfl rfl ⟨Nat.le_of_ble_eq_true rfl, Nat.le_of_ble_eq_true rfl⟩) 0 11 rfl rfl rfl rfl hl.1 rfl (Nat.le_of_ble_eq_true rfl) ⟨hcc, hss⟩ dL_law_1294 (fun r_3 V_5 H locs h_4 hP hD hS => ?_)
  refine lv_pop hx hb dL_law_1297 rfl ?_
  refine lv_aload_n hx hb dL_law_1298 rfl (lv_at hl 2 rfl) ?_
  refine lv_aload_n hx hb dL_law_1299 rfl (lv_at hl 0 rfl) ?_
  refine lv_iload_n hx hb dL_law_1300 rfl (lv_at hl 3 rfl) ?_
  refine lv_iconst (v := 1) hx hb dL_law_1301 (by decide) ?_
  refine z_iadd (v := t_1) hx hb dL_law_1302 et_1 ?_
  refine va_sld hx hb hX hbl hbA hS (vin_nat (by omega) (by omega)) dL_law_1303 ?_
  rw [et_2]
  refine laBi (As := [.int t_2]) (rest := []) (wa := xL cB cI cJ cZ cS cT x0 A V_5) (wb := mL cB cI cJ cZ cS cT m0 B U) ⟨hx, hb, hml, hown, hts⟩ (f_X12_law l G D cB cI cJ cZ cS cT H.size m0 B U okm t_2) hP hD hS hA hK hN hT hAB hG1 (cvB (n := 1) (inr55 _ (List.mem_of_getElem? (i := 0) rfl)) (inr55 _ (List.mem_of_getElem? (i := 1) rfl)) (inr55 _ (List.mem_of_getElem? (i := 2) rfl)) (inr1 _ (List.mem_of_getElem? (i := 5) rfl)) (inr55 _ (List.mem_of_getElem? (i := 3) rfl)) (by decide +kernel) hts rfl rfl ⟨Nat.le_of_ble_eq_true rfl, Nat.le_of_ble_eq_true rfl⟩) 0 12 rfl rfl rfl rfl hl.1 rfl (Nat.le_of_ble_eq_true rfl) ⟨hcc, hss⟩ dL_law_1304 (fun r_7 U_9 H locs h_8 hP hD hS => ?_)
  refine lv_pop hx hb dL_law_1307 rfl ?_
  refine lv_goto (tgt := 2115) hx hb dL_law_1308 (by decide) ?_
  exact K V_5 U_9 H locs ls h_4 h_8 trivial hP hD hS (lv_sub hl [0, 1, 2, 3] rfl)

set_option maxHeartbeats 4000000 in
set_option maxRecDepth 100000 in
theorem law_43 {p : Program} {l : Launch} {e : Env} {s : State} {m : MethodId} {below : List Frame} {meth : Method} {c : Code} {G : Gho} {D : va_G} {cB cI cJ cZ cS cT : ClassId} {b L : Nat} {xs : Nat → Int32} {x0 m0 : Nat} {A B : Nat → Nat} {cells slots : Nat} (hL : L ≤ 3072) (C0 : lw_At p s m meth c b L xs) (hK : va_K D vwCl (tyL cB cI cJ cZ cS cT) s) (hN : kN s) (hT : kT G s s.heap) (hG : G.1 = s.heap.size) (hcc : cells ≤ 600000) (hss : slots ≤ 7302249) {H : Heap} {locs : List Loc} {ls : Array Slot} (V U : VX) (ok : xok V) (okm : mok U) (rel : True) (i3 : Int32) (hi : 0 ≤ i3.toInt ∧ i3.toInt + 6 ≤ (L : Int)) (hP : va_P D vwCl (xL cB cI cJ cZ cS cT x0 A V ++ mL cB cI cJ cZ cS cT m0 B U) H) (hD : va_D (fun q : Nat => s.heap.size ≤ q) (xL cB cI cJ cZ cS cT x0 A V ++ mL cB cI cJ cZ cS cT m0 B U)) (hS : va_S (fun q : Nat => s.heap.size ≤ q) s.heap H locs) (hl : lv_has ls 4 [(0, .ref b), (1, .ref x0), (2, .ref m0), (3, .int i3)]) (K : ∀ (V U : VX) (H : Heap) (locs : List Loc) (ls : Array Slot), xok V → mok U → True → va_P D vwCl (xL cB cI cJ cZ cS cT x0 A V ++ mL cB cI cJ cZ cS cT m0 B U) H → va_D (fun q : Nat => s.heap.size ≤ q) (xL cB cI cJ cZ cS cT x0 A V ++ mL cB cI cJ cZ cS cT m0 B U) → va_S (fun q : Nat => s.heap.size ≤ q) s.heap H locs → lv_has ls 4 [(0, .ref b), (1, .ref x0), (2, .ref m0), (3, .int i3)] → W p l e room_1 s m #[Value.ref b] below meth c H locs cells slots (lw_Z below #[Value.ref b] s) (F0 m 2115 ls [])) : W p l e room_1 s m #[Value.ref b] below meth c H locs cells slots (lw_Z below #[Value.ref b] s) (F0 m 1311 ls []) := by
  obtain ⟨hx, hb, hr, hml, hown, hts0, hX, hbl, hlocks, hgv⟩ := id C0
  have hts : ∀ w ∈ wsL_law, w.before #[Value.ref b] s = true := fun w h => hts0 w (wsL_law_in w h)
  have hA : ∀ q : Nat, s.heap.size ≤ q → (fun q : Nat => s.heap.size ≤ q) q := fun _ h => h
  have hAB : ∀ q : Nat, (fun q : Nat => s.heap.size ≤ q) q → G.1 ≤ q := fun q h => by rw [hG]; exact h
  have hG1 : G.1 ≤ s.heap.size := by rw [hG]; exact Nat.le_refl _
  have hbA : ¬ (fun q : Nat => s.heap.size ≤ q) b := Nat.not_le.mpr hbl
  refine lv_aload_n hx hb dL_law_1311 rfl (lv_at hl 1 rfl) ?_
  refine lv_aload_n hx hb dL_law_1312 rfl (lv_at hl 0 rfl) ?_
  refine lv_iload_n hx hb dL_law_1313 rfl (lv_at hl 3 rfl) ?_
  refine lv_iconst (v := 1) hx hb dL_law_1314 (by decide) ?_
  obtain ⟨t_1, et_1⟩ : ∃ v9 : Int32, i3 + 1 = v9 := ⟨_, rfl⟩
  refine z_iadd (v := t_1) hx hb dL_law_1315 et_1 ?_
  have b_i3 := i32b i3
  have ft_1 : t_1.toInt = i3.toInt + 1 := addT (a := i3.toInt) (b := 1) rfl (by decide) et_1 (by omega) (by omega)
  obtain ⟨t_2, et_2⟩ : ∃ v9 : Int32, xs (t_1 : Int32).toNatClampNeg = v9 := ⟨_, rfl⟩
  refine va_sld hx hb hX hbl hbA hS (vin_nat (by omega) (by omega)) dL_law_1316 ?_
  rw [et_2]
  refine laAi (As := [.int t_2]) (rest := []) (wa := xL cB cI cJ cZ cS cT x0 A V) (wb := mL cB cI cJ cZ cS cT m0 B U) ⟨hx, hb, hml, hown, hts⟩ (f_X11_ask l G D cB cI cJ cZ cS cT H.size x0 A V ok t_2) hP hD hS hA hK hN hT hAB hG1 (cvB (n := 1) (inr55 _ (List.mem_of_getElem? (i := 4) rfl)) (inr55 _ (List.mem_of_getElem? (i := 5) rfl)) (inr55 _ (List.mem_of_getElem? (i := 6) rfl)) (inr1 _ (List.mem_of_getElem? (i := 2) rfl)) (inr55 _ (List.mem_of_getElem? (i := 7) rfl)) (by decide +kernel) hts rfl rfl ⟨Nat.le_of_ble_eq_true rfl, Nat.le_of_ble_eq_true rfl⟩) 0 11 rfl rfl rfl rfl hl.1 rfl (Nat.le_of_ble_eq_true rfl) ⟨hcc, hss⟩ dL_law_1317 (fun r_3 V_5 H locs h_4 hP hD hS => ?_)
  refine lv_pop hx hb dL_law_1320 rfl ?_
  refine lv_aload_n hx hb dL_law_1321 rfl (lv_at hl 2 rfl) ?_
  refine lv_aload_n hx hb dL_law_1322 rfl (lv_at hl 0 rfl) ?_
  refine lv_iload_n hx hb dL_law_1323 rfl (lv_at hl 3 rfl) ?_
  refine lv_iconst (v := 1) hx hb dL_law_1324 (by decide) ?_
  refine z_iadd (v := t_1) hx hb dL_law_1325 et_1 ?_
  refine va_sld hx hb hX hbl hbA hS (vin_nat (by omega) (by omega)) dL_law_1326 ?_
  rw [et_2]
  refine laBi (As := [.int t_2]) (rest := []) (wa := xL cB cI cJ cZ cS cT x0 A V_5) (wb := mL cB cI cJ cZ cS cT m0 B U) ⟨hx, hb, hml, hown, hts⟩ (f_X12_ask l G D cB cI cJ cZ cS cT H.size m0 B U okm t_2) hP hD hS hA hK hN hT hAB hG1 (cvB (n := 1) (inr55 _ (List.mem_of_getElem? (i := 16) rfl)) (inr55 _ (List.mem_of_getElem? (i := 17) rfl)) (inr55 _ (List.mem_of_getElem? (i := 18) rfl)) (inr1 _ (List.mem_of_getElem? (i := 5) rfl)) (inr55 _ (List.mem_of_getElem? (i := 19) rfl)) (by decide +kernel) hts rfl rfl ⟨Nat.le_of_ble_eq_true rfl, Nat.le_of_ble_eq_true rfl⟩) 0 12 rfl rfl rfl rfl hl.1 rfl (Nat.le_of_ble_eq_true rfl) ⟨hcc, hss⟩ dL_law_1327 (fun r_7 U_9 H locs h_8 hP hD hS => ?_)
  refine lv_pop hx hb dL_law_1330 rfl ?_
  refine lv_goto (tgt := 2115) hx hb dL_law_1331 (by decide) ?_
  exact K V_5 U_9 H locs ls h_4 h_8 trivial hP hD hS (lv_sub hl [0, 1, 2, 3] rfl)

set_option maxHeartbeats 4000000 in
set_option maxRecDepth 100000 in
theorem law_44 {p : Program} {l : Launch} {e : Env} {s : State} {m : MethodId} {below : List Frame} {meth : Method} {c : Code} {G : Gho} {D : va_G} {cB cI cJ cZ cS cT : ClassId} {b L : Nat} {xs : Nat → Int32} {x0 m0 : Nat} {A B : Nat → Nat} {cells slots : Nat} (hL : L ≤ 3072) (C0 : lw_At p s m meth c b L xs) (hK : va_K D vwCl (tyL cB cI cJ cZ cS cT) s) (hN : kN s) (hT : kT G s s.heap) (hG : G.1 = s.heap.size) (hcc : cells ≤ 600000) (hss : slots ≤ 7302249) {H : Heap} {locs : List Loc} {ls : Array Slot} (V U : VX) (ok : xok V) (okm : mok U) (rel : True) (i3 : Int32) (hi : 0 ≤ i3.toInt ∧ i3.toInt + 6 ≤ (L : Int)) (hP : va_P D vwCl (xL cB cI cJ cZ cS cT x0 A V ++ mL cB cI cJ cZ cS cT m0 B U) H) (hD : va_D (fun q : Nat => s.heap.size ≤ q) (xL cB cI cJ cZ cS cT x0 A V ++ mL cB cI cJ cZ cS cT m0 B U)) (hS : va_S (fun q : Nat => s.heap.size ≤ q) s.heap H locs) (hl : lv_has ls 4 [(0, .ref b), (1, .ref x0), (2, .ref m0), (3, .int i3)]) (K : ∀ (V U : VX) (H : Heap) (locs : List Loc) (ls : Array Slot), xok V → mok U → True → va_P D vwCl (xL cB cI cJ cZ cS cT x0 A V ++ mL cB cI cJ cZ cS cT m0 B U) H → va_D (fun q : Nat => s.heap.size ≤ q) (xL cB cI cJ cZ cS cT x0 A V ++ mL cB cI cJ cZ cS cT m0 B U) → va_S (fun q : Nat => s.heap.size ≤ q) s.heap H locs → lv_has ls 4 [(0, .ref b), (1, .ref x0), (2, .ref m0), (3, .int i3)] → W p l e room_1 s m #[Value.ref b] below meth c H locs cells slots (lw_Z below #[Value.ref b] s) (F0 m 2115 ls [])) : W p l e room_1 s m #[Value.ref b] below meth c H locs cells slots (lw_Z below #[Value.ref b] s) (F0 m 1334 ls []) := by
  obtain ⟨hx, hb, hr, hml, hown, hts0, hX, hbl, hlocks, hgv⟩ := id C0
  have hts : ∀ w ∈ wsL_law, w.before #[Value.ref b] s = true := fun w h => hts0 w (wsL_law_in w h)
  have hA : ∀ q : Nat, s.heap.size ≤ q → (fun q : Nat => s.heap.size ≤ q) q := fun _ h => h
  have hAB : ∀ q : Nat, (fun q : Nat => s.heap.size ≤ q) q → G.1 ≤ q := fun q h => by rw [hG]; exact h
  have hG1 : G.1 ≤ s.heap.size := by rw [hG]; exact Nat.le_refl _
  have hbA : ¬ (fun q : Nat => s.heap.size ≤ q) b := Nat.not_le.mpr hbl
  refine lv_aload_n hx hb dL_law_1334 rfl (lv_at hl 1 rfl) ?_
  refine lv_aload_n hx hb dL_law_1335 rfl (lv_at hl 0 rfl) ?_
  refine lv_iload_n hx hb dL_law_1336 rfl (lv_at hl 3 rfl) ?_
  refine lv_iconst (v := 1) hx hb dL_law_1337 (by decide) ?_
  obtain ⟨t_1, et_1⟩ : ∃ v9 : Int32, i3 + 1 = v9 := ⟨_, rfl⟩
  refine z_iadd (v := t_1) hx hb dL_law_1338 et_1 ?_
  have b_i3 := i32b i3
  have ft_1 : t_1.toInt = i3.toInt + 1 := addT (a := i3.toInt) (b := 1) rfl (by decide) et_1 (by omega) (by omega)
  obtain ⟨t_2, et_2⟩ : ∃ v9 : Int32, xs (t_1 : Int32).toNatClampNeg = v9 := ⟨_, rfl⟩
  refine va_sld hx hb hX hbl hbA hS (vin_nat (by omega) (by omega)) dL_law_1339 ?_
  rw [et_2]
  refine laAi (As := [.int t_2]) (rest := []) (wa := xL cB cI cJ cZ cS cT x0 A V) (wb := mL cB cI cJ cZ cS cT m0 B U) ⟨hx, hb, hml, hown, hts⟩ (f_X11_leaves l G D cB cI cJ cZ cS cT H.size x0 A V ok t_2) hP hD hS hA hK hN hT hAB hG1 (cvB (n := 1) (inr56 _ (List.mem_of_getElem? (i := 1) rfl)) (inr56 _ (List.mem_of_getElem? (i := 2) rfl)) (inr56 _ (List.mem_of_getElem? (i := 3) rfl)) (inr1 _ (List.mem_of_getElem? (i := 2) rfl)) (inr56 _ (List.mem_of_getElem? (i := 4) rfl)) (by decide +kernel) hts rfl rfl ⟨Nat.le_of_ble_eq_true rfl, Nat.le_of_ble_eq_true rfl⟩) 0 11 rfl rfl rfl rfl hl.1 rfl (Nat.le_of_ble_eq_true rfl) ⟨hcc, hss⟩ dL_law_1340 (fun r_3 V_5 H locs h_4 hP hD hS => ?_)
  refine lv_pop hx hb dL_law_1343 rfl ?_
  refine lv_aload_n hx hb dL_law_1344 rfl (lv_at hl 2 rfl) ?_
  refine lv_aload_n hx hb dL_law_1345 rfl (lv_at hl 0 rfl) ?_
  refine lv_iload_n hx hb dL_law_1346 rfl (lv_at hl 3 rfl) ?_
  refine lv_iconst (v := 1) hx hb dL_law_1347 (by decide) ?_
  refine z_iadd (v := t_1) hx hb dL_law_1348 et_1 ?_
  refine va_sld hx hb hX hbl hbA hS (vin_nat (by omega) (by omega)) dL_law_1349 ?_
  rw [et_2]
  refine laBi (As := [.int t_2]) (rest := []) (wa := xL cB cI cJ cZ cS cT x0 A V_5) (wb := mL cB cI cJ cZ cS cT m0 B U) ⟨hx, hb, hml, hown, hts⟩ (f_X12_leaves l G D cB cI cJ cZ cS cT H.size m0 B U okm t_2) hP hD hS hA hK hN hT hAB hG1 (cvB (n := 1) (inr56 _ (List.mem_of_getElem? (i := 6) rfl)) (inr56 _ (List.mem_of_getElem? (i := 7) rfl)) (inr56 _ (List.mem_of_getElem? (i := 8) rfl)) (inr1 _ (List.mem_of_getElem? (i := 5) rfl)) (inr56 _ (List.mem_of_getElem? (i := 9) rfl)) (by decide +kernel) hts rfl rfl ⟨Nat.le_of_ble_eq_true rfl, Nat.le_of_ble_eq_true rfl⟩) 0 12 rfl rfl rfl rfl hl.1 rfl (Nat.le_of_ble_eq_true rfl) ⟨hcc, hss⟩ dL_law_1350 (fun r_7 U_9 H locs h_8 hP hD hS => ?_)
  refine lv_pop hx hb dL_law_1353 rfl ?_
  refine lv_goto (tgt := 2115) hx hb dL_law_1354 (by decide) ?_
  exact K V_5 U_9 H locs ls h_4 h_8 trivial hP hD hS (lv_sub hl [0, 1, 2, 3] rfl)

set_option maxHeartbeats 4000000 in
set_option maxRecDepth 100000 in
theorem law_45 {p : Program} {l : Launch} {e : Env} {s : State} {m : MethodId} {below : List Frame} {meth : Method} {c : Code} {G : Gho} {D : va_G} {cB cI cJ cZ cS cT : ClassId} {b L : Nat} {xs : Nat → Int32} {x0 m0 : Nat} {A B : Nat → Nat} {cells slots : Nat} (hL : L ≤ 3072) (C0 : lw_At p s m meth c b L xs) (hK : va_K D vwCl (tyL cB cI cJ cZ cS cT) s) (hN : kN s) (hT : kT G s s.heap) (hG : G.1 = s.heap.size) (hcc : cells ≤ 600000) (hss : slots ≤ 7302249) {H : Heap} {locs : List Loc} {ls : Array Slot} (V U : VX) (ok : xok V) (okm : mok U) (rel : True) (i3 : Int32) (hi : 0 ≤ i3.toInt ∧ i3.toInt + 6 ≤ (L : Int)) (hP : va_P D vwCl (xL cB cI cJ cZ cS cT x0 A V ++ mL cB cI cJ cZ cS cT m0 B U) H) (hD : va_D (fun q : Nat => s.heap.size ≤ q) (xL cB cI cJ cZ cS cT x0 A V ++ mL cB cI cJ cZ cS cT m0 B U)) (hS : va_S (fun q : Nat => s.heap.size ≤ q) s.heap H locs) (hl : lv_has ls 4 [(0, .ref b), (1, .ref x0), (2, .ref m0), (3, .int i3)]) (K : ∀ (V U : VX) (H : Heap) (locs : List Loc) (ls : Array Slot), xok V → mok U → True → va_P D vwCl (xL cB cI cJ cZ cS cT x0 A V ++ mL cB cI cJ cZ cS cT m0 B U) H → va_D (fun q : Nat => s.heap.size ≤ q) (xL cB cI cJ cZ cS cT x0 A V ++ mL cB cI cJ cZ cS cT m0 B U) → va_S (fun q : Nat => s.heap.size ≤ q) s.heap H locs → lv_has ls 4 [(0, .ref b), (1, .ref x0), (2, .ref m0), (3, .int i3)] → W p l e room_1 s m #[Value.ref b] below meth c H locs cells slots (lw_Z below #[Value.ref b] s) (F0 m 2115 ls [])) : W p l e room_1 s m #[Value.ref b] below meth c H locs cells slots (lw_Z below #[Value.ref b] s) (F0 m 1357 ls []) := by
  obtain ⟨hx, hb, hr, hml, hown, hts0, hX, hbl, hlocks, hgv⟩ := id C0
  have hts : ∀ w ∈ wsL_law, w.before #[Value.ref b] s = true := fun w h => hts0 w (wsL_law_in w h)
  have hA : ∀ q : Nat, s.heap.size ≤ q → (fun q : Nat => s.heap.size ≤ q) q := fun _ h => h
  have hAB : ∀ q : Nat, (fun q : Nat => s.heap.size ≤ q) q → G.1 ≤ q := fun q h => by rw [hG]; exact h
  have hG1 : G.1 ≤ s.heap.size := by rw [hG]; exact Nat.le_refl _
  have hbA : ¬ (fun q : Nat => s.heap.size ≤ q) b := Nat.not_le.mpr hbl
  refine lv_aload_n hx hb dL_law_1357 rfl (lv_at hl 1 rfl) ?_
  refine lv_aload_n hx hb dL_law_1358 rfl (lv_at hl 0 rfl) ?_
  refine lv_iload_n hx hb dL_law_1359 rfl (lv_at hl 3 rfl) ?_
  refine lv_iconst (v := 1) hx hb dL_law_1360 (by decide) ?_
  obtain ⟨t_1, et_1⟩ : ∃ v9 : Int32, i3 + 1 = v9 := ⟨_, rfl⟩
  refine z_iadd (v := t_1) hx hb dL_law_1361 et_1 ?_
  have b_i3 := i32b i3
  have ft_1 : t_1.toInt = i3.toInt + 1 := addT (a := i3.toInt) (b := 1) rfl (by decide) et_1 (by omega) (by omega)
  obtain ⟨t_2, et_2⟩ : ∃ v9 : Int32, xs (t_1 : Int32).toNatClampNeg = v9 := ⟨_, rfl⟩
  refine va_sld hx hb hX hbl hbA hS (vin_nat (by omega) (by omega)) dL_law_1362 ?_
  rw [et_2]
  refine laAi (As := [.int t_2]) (rest := []) (wa := xL cB cI cJ cZ cS cT x0 A V) (wb := mL cB cI cJ cZ cS cT m0 B U) ⟨hx, hb, hml, hown, hts⟩ (f_X11_places l G D cB cI cJ cZ cS cT H.size x0 A V ok t_2) hP hD hS hA hK hN hT hAB hG1 (cvB (n := 1) (inr56 _ (List.mem_of_getElem? (i := 10) rfl)) (inr56 _ (List.mem_of_getElem? (i := 11) rfl)) (inr56 _ (List.mem_of_getElem? (i := 12) rfl)) (inr1 _ (List.mem_of_getElem? (i := 2) rfl)) (inr56 _ (List.mem_of_getElem? (i := 13) rfl)) (by decide +kernel) hts rfl rfl ⟨Nat.le_of_ble_eq_true rfl, Nat.le_of_ble_eq_true rfl⟩) 0 11 rfl rfl rfl rfl hl.1 rfl (Nat.le_of_ble_eq_true rfl) ⟨hcc, hss⟩ dL_law_1363 (fun r_3 V_5 H locs h_4 hP hD hS => ?_)
  refine lv_pop hx hb dL_law_1366 rfl ?_
  refine lv_aload_n hx hb dL_law_1367 rfl (lv_at hl 2 rfl) ?_
  refine lv_aload_n hx hb dL_law_1368 rfl (lv_at hl 0 rfl) ?_
  refine lv_iload_n hx hb dL_law_1369 rfl (lv_at hl 3 rfl) ?_
  refine lv_iconst (v := 1) hx hb dL_law_1370 (by decide) ?_
  refine z_iadd (v := t_1) hx hb dL_law_1371 et_1 ?_
  refine va_sld hx hb hX hbl hbA hS (vin_nat (by omega) (by omega)) dL_law_1372 ?_
  rw [et_2]
  refine laBi (As := [.int t_2]) (rest := []) (wa := xL cB cI cJ cZ cS cT x0 A V_5) (wb := mL cB cI cJ cZ cS cT m0 B U) ⟨hx, hb, hml, hown, hts⟩ (f_X12_places l G D cB cI cJ cZ cS cT H.size m0 B U okm t_2) hP hD hS hA hK hN hT hAB hG1 (cvB (n := 1) (inr57 _ (List.mem_of_getElem? (i := 11) rfl)) (inr57 _ (List.mem_of_getElem? (i := 12) rfl)) (inr57 _ (List.mem_of_getElem? (i := 13) rfl)) (inr1 _ (List.mem_of_getElem? (i := 5) rfl)) (inr57 _ (List.mem_of_getElem? (i := 14) rfl)) (by decide +kernel) hts rfl rfl ⟨Nat.le_of_ble_eq_true rfl, Nat.le_of_ble_eq_true rfl⟩) 0 12 rfl rfl rfl rfl hl.1 rfl (Nat.le_of_ble_eq_true rfl) ⟨hcc, hss⟩ dL_law_1373 (fun r_7 U_9 H locs h_8 hP hD hS => ?_)
  refine lv_pop hx hb dL_law_1376 rfl ?_
  refine lv_goto (tgt := 2115) hx hb dL_law_1377 (by decide) ?_
  exact K V_5 U_9 H locs ls h_4 h_8 trivial hP hD hS (lv_sub hl [0, 1, 2, 3] rfl)

set_option maxHeartbeats 4000000 in
set_option maxRecDepth 100000 in
theorem law_46 {p : Program} {l : Launch} {e : Env} {s : State} {m : MethodId} {below : List Frame} {meth : Method} {c : Code} {G : Gho} {D : va_G} {cB cI cJ cZ cS cT : ClassId} {b L : Nat} {xs : Nat → Int32} {x0 m0 : Nat} {A B : Nat → Nat} {cells slots : Nat} (hL : L ≤ 3072) (C0 : lw_At p s m meth c b L xs) (hK : va_K D vwCl (tyL cB cI cJ cZ cS cT) s) (hN : kN s) (hT : kT G s s.heap) (hG : G.1 = s.heap.size) (hcc : cells ≤ 600000) (hss : slots ≤ 7302249) {H : Heap} {locs : List Loc} {ls : Array Slot} (V U : VX) (ok : xok V) (okm : mok U) (rel : True) (i3 : Int32) (hi : 0 ≤ i3.toInt ∧ i3.toInt + 6 ≤ (L : Int)) (hP : va_P D vwCl (xL cB cI cJ cZ cS cT x0 A V ++ mL cB cI cJ cZ cS cT m0 B U) H) (hD : va_D (fun q : Nat => s.heap.size ≤ q) (xL cB cI cJ cZ cS cT x0 A V ++ mL cB cI cJ cZ cS cT m0 B U)) (hS : va_S (fun q : Nat => s.heap.size ≤ q) s.heap H locs) (hl : lv_has ls 4 [(0, .ref b), (1, .ref x0), (2, .ref m0), (3, .int i3)]) (K : ∀ (V U : VX) (H : Heap) (locs : List Loc) (ls : Array Slot), xok V → mok U → True → va_P D vwCl (xL cB cI cJ cZ cS cT x0 A V ++ mL cB cI cJ cZ cS cT m0 B U) H → va_D (fun q : Nat => s.heap.size ≤ q) (xL cB cI cJ cZ cS cT x0 A V ++ mL cB cI cJ cZ cS cT m0 B U) → va_S (fun q : Nat => s.heap.size ≤ q) s.heap H locs → lv_has ls 4 [(0, .ref b), (1, .ref x0), (2, .ref m0), (3, .int i3)] → W p l e room_1 s m #[Value.ref b] below meth c H locs cells slots (lw_Z below #[Value.ref b] s) (F0 m 2115 ls [])) : W p l e room_1 s m #[Value.ref b] below meth c H locs cells slots (lw_Z below #[Value.ref b] s) (F0 m 1380 ls []) := by
  obtain ⟨hx, hb, hr, hml, hown, hts0, hX, hbl, hlocks, hgv⟩ := id C0
  have hts : ∀ w ∈ wsL_law, w.before #[Value.ref b] s = true := fun w h => hts0 w (wsL_law_in w h)
  have hA : ∀ q : Nat, s.heap.size ≤ q → (fun q : Nat => s.heap.size ≤ q) q := fun _ h => h
  have hAB : ∀ q : Nat, (fun q : Nat => s.heap.size ≤ q) q → G.1 ≤ q := fun q h => by rw [hG]; exact h
  have hG1 : G.1 ≤ s.heap.size := by rw [hG]; exact Nat.le_refl _
  have hbA : ¬ (fun q : Nat => s.heap.size ≤ q) b := Nat.not_le.mpr hbl
  refine lv_aload_n hx hb dL_law_1380 rfl (lv_at hl 1 rfl) ?_
  refine lv_aload_n hx hb dL_law_1381 rfl (lv_at hl 0 rfl) ?_
  refine lv_iload_n hx hb dL_law_1382 rfl (lv_at hl 3 rfl) ?_
  refine lv_iconst (v := 1) hx hb dL_law_1383 (by decide) ?_
  obtain ⟨t_1, et_1⟩ : ∃ v9 : Int32, i3 + 1 = v9 := ⟨_, rfl⟩
  refine z_iadd (v := t_1) hx hb dL_law_1384 et_1 ?_
  have b_i3 := i32b i3
  have ft_1 : t_1.toInt = i3.toInt + 1 := addT (a := i3.toInt) (b := 1) rfl (by decide) et_1 (by omega) (by omega)
  obtain ⟨t_2, et_2⟩ : ∃ v9 : Int32, xs (t_1 : Int32).toNatClampNeg = v9 := ⟨_, rfl⟩
  refine va_sld hx hb hX hbl hbA hS (vin_nat (by omega) (by omega)) dL_law_1385 ?_
  rw [et_2]
  refine laAi (As := [.int t_2]) (rest := []) (wa := xL cB cI cJ cZ cS cT x0 A V) (wb := mL cB cI cJ cZ cS cT m0 B U) ⟨hx, hb, hml, hown, hts⟩ (f_X11_place l G D cB cI cJ cZ cS cT H.size x0 A V ok t_2) hP hD hS hA hK hN hT hAB hG1 (cvB (n := 1) (inr57 _ (List.mem_of_getElem? (i := 21) rfl)) (inr57 _ (List.mem_of_getElem? (i := 22) rfl)) (inr57 _ (List.mem_of_getElem? (i := 23) rfl)) (inr1 _ (List.mem_of_getElem? (i := 2) rfl)) (inr58 _ (List.mem_of_getElem? (i := 0) rfl)) (by decide +kernel) hts rfl rfl ⟨Nat.le_of_ble_eq_true rfl, Nat.le_of_ble_eq_true rfl⟩) 0 11 rfl rfl rfl rfl hl.1 rfl (Nat.le_of_ble_eq_true rfl) ⟨hcc, hss⟩ dL_law_1386 (fun r_3 V_5 H locs h_4 hP hD hS => ?_)
  refine lv_pop hx hb dL_law_1389 rfl ?_
  refine lv_aload_n hx hb dL_law_1390 rfl (lv_at hl 2 rfl) ?_
  refine lv_aload_n hx hb dL_law_1391 rfl (lv_at hl 0 rfl) ?_
  refine lv_iload_n hx hb dL_law_1392 rfl (lv_at hl 3 rfl) ?_
  refine lv_iconst (v := 1) hx hb dL_law_1393 (by decide) ?_
  refine z_iadd (v := t_1) hx hb dL_law_1394 et_1 ?_
  refine va_sld hx hb hX hbl hbA hS (vin_nat (by omega) (by omega)) dL_law_1395 ?_
  rw [et_2]
  refine laBi (As := [.int t_2]) (rest := []) (wa := xL cB cI cJ cZ cS cT x0 A V_5) (wb := mL cB cI cJ cZ cS cT m0 B U) ⟨hx, hb, hml, hown, hts⟩ (f_X12_place l G D cB cI cJ cZ cS cT H.size m0 B U okm t_2) hP hD hS hA hK hN hT hAB hG1 (cvB (n := 1) (inr58 _ (List.mem_of_getElem? (i := 5) rfl)) (inr58 _ (List.mem_of_getElem? (i := 6) rfl)) (inr58 _ (List.mem_of_getElem? (i := 7) rfl)) (inr1 _ (List.mem_of_getElem? (i := 5) rfl)) (inr58 _ (List.mem_of_getElem? (i := 8) rfl)) (by decide +kernel) hts rfl rfl ⟨Nat.le_of_ble_eq_true rfl, Nat.le_of_ble_eq_true rfl⟩) 0 12 rfl rfl rfl rfl hl.1 rfl (Nat.le_of_ble_eq_true rfl) ⟨hcc, hss⟩ dL_law_1396 (fun r_7 U_9 H locs h_8 hP hD hS => ?_)
  refine lv_pop hx hb dL_law_1399 rfl ?_
  refine lv_goto (tgt := 2115) hx hb dL_law_1400 (by decide) ?_
  exact K V_5 U_9 H locs ls h_4 h_8 trivial hP hD hS (lv_sub hl [0, 1, 2, 3] rfl)

set_option maxHeartbeats 4000000 in
set_option maxRecDepth 100000 in
theorem law_47 {p : Program} {l : Launch} {e : Env} {s : State} {m : MethodId} {below : List Frame} {meth : Method} {c : Code} {G : Gho} {D : va_G} {cB cI cJ cZ cS cT : ClassId} {b L : Nat} {xs : Nat → Int32} {x0 m0 : Nat} {A B : Nat → Nat} {cells slots : Nat} (hL : L ≤ 3072) (C0 : lw_At p s m meth c b L xs) (hK : va_K D vwCl (tyL cB cI cJ cZ cS cT) s) (hN : kN s) (hT : kT G s s.heap) (hG : G.1 = s.heap.size) (hcc : cells ≤ 600000) (hss : slots ≤ 7302249) {H : Heap} {locs : List Loc} {ls : Array Slot} (V U : VX) (ok : xok V) (okm : mok U) (rel : True) (i3 : Int32) (hi : 0 ≤ i3.toInt ∧ i3.toInt + 6 ≤ (L : Int)) (hP : va_P D vwCl (xL cB cI cJ cZ cS cT x0 A V ++ mL cB cI cJ cZ cS cT m0 B U) H) (hD : va_D (fun q : Nat => s.heap.size ≤ q) (xL cB cI cJ cZ cS cT x0 A V ++ mL cB cI cJ cZ cS cT m0 B U)) (hS : va_S (fun q : Nat => s.heap.size ≤ q) s.heap H locs) (hl : lv_has ls 4 [(0, .ref b), (1, .ref x0), (2, .ref m0), (3, .int i3)]) (K : ∀ (V U : VX) (H : Heap) (locs : List Loc) (ls : Array Slot), xok V → mok U → True → va_P D vwCl (xL cB cI cJ cZ cS cT x0 A V ++ mL cB cI cJ cZ cS cT m0 B U) H → va_D (fun q : Nat => s.heap.size ≤ q) (xL cB cI cJ cZ cS cT x0 A V ++ mL cB cI cJ cZ cS cT m0 B U) → va_S (fun q : Nat => s.heap.size ≤ q) s.heap H locs → lv_has ls 4 [(0, .ref b), (1, .ref x0), (2, .ref m0), (3, .int i3)] → W p l e room_1 s m #[Value.ref b] below meth c H locs cells slots (lw_Z below #[Value.ref b] s) (F0 m 2115 ls [])) : W p l e room_1 s m #[Value.ref b] below meth c H locs cells slots (lw_Z below #[Value.ref b] s) (F0 m 1403 ls []) := by
  obtain ⟨hx, hb, hr, hml, hown, hts0, hX, hbl, hlocks, hgv⟩ := id C0
  have hts : ∀ w ∈ wsL_law, w.before #[Value.ref b] s = true := fun w h => hts0 w (wsL_law_in w h)
  have hA : ∀ q : Nat, s.heap.size ≤ q → (fun q : Nat => s.heap.size ≤ q) q := fun _ h => h
  have hAB : ∀ q : Nat, (fun q : Nat => s.heap.size ≤ q) q → G.1 ≤ q := fun q h => by rw [hG]; exact h
  have hG1 : G.1 ≤ s.heap.size := by rw [hG]; exact Nat.le_refl _
  have hbA : ¬ (fun q : Nat => s.heap.size ≤ q) b := Nat.not_le.mpr hbl
  refine lv_aload_n hx hb dL_law_1403 rfl (lv_at hl 1 rfl) ?_
  refine lv_aload_n hx hb dL_law_1404 rfl (lv_at hl 0 rfl) ?_
  refine lv_iload_n hx hb dL_law_1405 rfl (lv_at hl 3 rfl) ?_
  refine lv_iconst (v := 1) hx hb dL_law_1406 (by decide) ?_
  obtain ⟨t_1, et_1⟩ : ∃ v9 : Int32, i3 + 1 = v9 := ⟨_, rfl⟩
  refine z_iadd (v := t_1) hx hb dL_law_1407 et_1 ?_
  have b_i3 := i32b i3
  have ft_1 : t_1.toInt = i3.toInt + 1 := addT (a := i3.toInt) (b := 1) rfl (by decide) et_1 (by omega) (by omega)
  obtain ⟨t_2, et_2⟩ : ∃ v9 : Int32, xs (t_1 : Int32).toNatClampNeg = v9 := ⟨_, rfl⟩
  refine va_sld hx hb hX hbl hbA hS (vin_nat (by omega) (by omega)) dL_law_1408 ?_
  rw [et_2]
  refine laAi (As := [.int t_2]) (rest := []) (wa := xL cB cI cJ cZ cS cT x0 A V) (wb := mL cB cI cJ cZ cS cT m0 B U) ⟨hx, hb, hml, hown, hts⟩ (f_X11_farther l G D cB cI cJ cZ cS cT H.size x0 A V ok t_2) hP hD hS hA hK hN hT hAB hG1 (cvB (n := 1) (inr58 _ (List.mem_of_getElem? (i := 9) rfl)) (inr58 _ (List.mem_of_getElem? (i := 10) rfl)) (inr58 _ (List.mem_of_getElem? (i := 11) rfl)) (inr1 _ (List.mem_of_getElem? (i := 2) rfl)) (inr58 _ (List.mem_of_getElem? (i := 12) rfl)) (by decide +kernel) hts rfl rfl ⟨Nat.le_of_ble_eq_true rfl, Nat.le_of_ble_eq_true rfl⟩) 0 11 rfl rfl rfl rfl hl.1 rfl (Nat.le_of_ble_eq_true rfl) ⟨hcc, hss⟩ dL_law_1409 (fun r_3 V_5 H locs h_4 hP hD hS => ?_)
  refine lv_pop hx hb dL_law_1412 rfl ?_
  refine lv_aload_n hx hb dL_law_1413 rfl (lv_at hl 2 rfl) ?_
  refine lv_aload_n hx hb dL_law_1414 rfl (lv_at hl 0 rfl) ?_
  refine lv_iload_n hx hb dL_law_1415 rfl (lv_at hl 3 rfl) ?_
  refine lv_iconst (v := 1) hx hb dL_law_1416 (by decide) ?_
  refine z_iadd (v := t_1) hx hb dL_law_1417 et_1 ?_
  refine va_sld hx hb hX hbl hbA hS (vin_nat (by omega) (by omega)) dL_law_1418 ?_
  rw [et_2]
  refine laBi (As := [.int t_2]) (rest := []) (wa := xL cB cI cJ cZ cS cT x0 A V_5) (wb := mL cB cI cJ cZ cS cT m0 B U) ⟨hx, hb, hml, hown, hts⟩ (f_X12_farther l G D cB cI cJ cZ cS cT H.size m0 B U okm t_2) hP hD hS hA hK hN hT hAB hG1 (cvB (n := 1) (inr58 _ (List.mem_of_getElem? (i := 17) rfl)) (inr58 _ (List.mem_of_getElem? (i := 18) rfl)) (inr58 _ (List.mem_of_getElem? (i := 19) rfl)) (inr1 _ (List.mem_of_getElem? (i := 5) rfl)) (inr58 _ (List.mem_of_getElem? (i := 20) rfl)) (by decide +kernel) hts rfl rfl ⟨Nat.le_of_ble_eq_true rfl, Nat.le_of_ble_eq_true rfl⟩) 0 12 rfl rfl rfl rfl hl.1 rfl (Nat.le_of_ble_eq_true rfl) ⟨hcc, hss⟩ dL_law_1419 (fun r_7 U_9 H locs h_8 hP hD hS => ?_)
  refine lv_pop hx hb dL_law_1422 rfl ?_
  refine lv_goto (tgt := 2115) hx hb dL_law_1423 (by decide) ?_
  exact K V_5 U_9 H locs ls h_4 h_8 trivial hP hD hS (lv_sub hl [0, 1, 2, 3] rfl)

set_option maxHeartbeats 4000000 in
set_option maxRecDepth 100000 in
theorem law_48 {p : Program} {l : Launch} {e : Env} {s : State} {m : MethodId} {below : List Frame} {meth : Method} {c : Code} {G : Gho} {D : va_G} {cB cI cJ cZ cS cT : ClassId} {b L : Nat} {xs : Nat → Int32} {x0 m0 : Nat} {A B : Nat → Nat} {cells slots : Nat} (hL : L ≤ 3072) (C0 : lw_At p s m meth c b L xs) (hK : va_K D vwCl (tyL cB cI cJ cZ cS cT) s) (hN : kN s) (hT : kT G s s.heap) (hG : G.1 = s.heap.size) (hcc : cells ≤ 600000) (hss : slots ≤ 7302249) {H : Heap} {locs : List Loc} {ls : Array Slot} (V U : VX) (ok : xok V) (okm : mok U) (rel : True) (i3 : Int32) (hi : 0 ≤ i3.toInt ∧ i3.toInt + 6 ≤ (L : Int)) (hP : va_P D vwCl (xL cB cI cJ cZ cS cT x0 A V ++ mL cB cI cJ cZ cS cT m0 B U) H) (hD : va_D (fun q : Nat => s.heap.size ≤ q) (xL cB cI cJ cZ cS cT x0 A V ++ mL cB cI cJ cZ cS cT m0 B U)) (hS : va_S (fun q : Nat => s.heap.size ≤ q) s.heap H locs) (hl : lv_has ls 4 [(0, .ref b), (1, .ref x0), (2, .ref m0), (3, .int i3)]) (K : ∀ (V U : VX) (H : Heap) (locs : List Loc) (ls : Array Slot), xok V → mok U → True → va_P D vwCl (xL cB cI cJ cZ cS cT x0 A V ++ mL cB cI cJ cZ cS cT m0 B U) H → va_D (fun q : Nat => s.heap.size ≤ q) (xL cB cI cJ cZ cS cT x0 A V ++ mL cB cI cJ cZ cS cT m0 B U) → va_S (fun q : Nat => s.heap.size ≤ q) s.heap H locs → lv_has ls 4 [(0, .ref b), (1, .ref x0), (2, .ref m0), (3, .int i3)] → W p l e room_1 s m #[Value.ref b] below meth c H locs cells slots (lw_Z below #[Value.ref b] s) (F0 m 2115 ls [])) : W p l e room_1 s m #[Value.ref b] below meth c H locs cells slots (lw_Z below #[Value.ref b] s) (F0 m 1426 ls []) := by
  obtain ⟨hx, hb, hr, hml, hown, hts0, hX, hbl, hlocks, hgv⟩ := id C0
  have hts : ∀ w ∈ wsL_law, w.before #[Value.ref b] s = true := fun w h => hts0 w (wsL_law_in w h)
  have hA : ∀ q : Nat, s.heap.size ≤ q → (fun q : Nat => s.heap.size ≤ q) q := fun _ h => h
  have hAB : ∀ q : Nat, (fun q : Nat => s.heap.size ≤ q) q → G.1 ≤ q := fun q h => by rw [hG]; exact h
  have hG1 : G.1 ≤ s.heap.size := by rw [hG]; exact Nat.le_refl _
  have hbA : ¬ (fun q : Nat => s.heap.size ≤ q) b := Nat.not_le.mpr hbl
  refine lv_aload_n hx hb dL_law_1426 rfl (lv_at hl 1 rfl) ?_
  refine lv_aload_n hx hb dL_law_1427 rfl (lv_at hl 0 rfl) ?_
  refine lv_iload_n hx hb dL_law_1428 rfl (lv_at hl 3 rfl) ?_
  refine lv_iconst (v := 1) hx hb dL_law_1429 (by decide) ?_
  obtain ⟨t_1, et_1⟩ : ∃ v9 : Int32, i3 + 1 = v9 := ⟨_, rfl⟩
  refine z_iadd (v := t_1) hx hb dL_law_1430 et_1 ?_
  have b_i3 := i32b i3
  have ft_1 : t_1.toInt = i3.toInt + 1 := addT (a := i3.toInt) (b := 1) rfl (by decide) et_1 (by omega) (by omega)
  obtain ⟨t_2, et_2⟩ : ∃ v9 : Int32, xs (t_1 : Int32).toNatClampNeg = v9 := ⟨_, rfl⟩
  refine va_sld hx hb hX hbl hbA hS (vin_nat (by omega) (by omega)) dL_law_1431 ?_
  rw [et_2]
  refine laAi (As := [.int t_2]) (rest := []) (wa := xL cB cI cJ cZ cS cT x0 A V) (wb := mL cB cI cJ cZ cS cT m0 B U) ⟨hx, hb, hml, hown, hts⟩ (f_X11_set l G D cB cI cJ cZ cS cT H.size x0 A V ok t_2) hP hD hS hA hK hN hT hAB hG1 (cvB (n := 1) (inr58 _ (List.mem_of_getElem? (i := 21) rfl)) (inr58 _ (List.mem_of_getElem? (i := 22) rfl)) (inr58 _ (List.mem_of_getElem? (i := 23) rfl)) (inr1 _ (List.mem_of_getElem? (i := 2) rfl)) (inr59 _ (List.mem_of_getElem? (i := 0) rfl)) (by decide +kernel) hts rfl rfl ⟨Nat.le_of_ble_eq_true rfl, Nat.le_of_ble_eq_true rfl⟩) 0 11 rfl rfl rfl rfl hl.1 rfl (Nat.le_of_ble_eq_true rfl) ⟨hcc, hss⟩ dL_law_1432 (fun r_3 V_5 H locs h_4 hP hD hS => ?_)
  refine lv_pop hx hb dL_law_1435 rfl ?_
  refine lv_aload_n hx hb dL_law_1436 rfl (lv_at hl 2 rfl) ?_
  refine lv_aload_n hx hb dL_law_1437 rfl (lv_at hl 0 rfl) ?_
  refine lv_iload_n hx hb dL_law_1438 rfl (lv_at hl 3 rfl) ?_
  refine lv_iconst (v := 1) hx hb dL_law_1439 (by decide) ?_
  refine z_iadd (v := t_1) hx hb dL_law_1440 et_1 ?_
  refine va_sld hx hb hX hbl hbA hS (vin_nat (by omega) (by omega)) dL_law_1441 ?_
  rw [et_2]
  refine laBi (As := [.int t_2]) (rest := []) (wa := xL cB cI cJ cZ cS cT x0 A V_5) (wb := mL cB cI cJ cZ cS cT m0 B U) ⟨hx, hb, hml, hown, hts⟩ (f_X12_set l G D cB cI cJ cZ cS cT H.size m0 B U okm t_2) hP hD hS hA hK hN hT hAB hG1 (cvB (n := 1) (inr59 _ (List.mem_of_getElem? (i := 16) rfl)) (inr59 _ (List.mem_of_getElem? (i := 17) rfl)) (inr59 _ (List.mem_of_getElem? (i := 18) rfl)) (inr1 _ (List.mem_of_getElem? (i := 5) rfl)) (inr59 _ (List.mem_of_getElem? (i := 19) rfl)) (by decide +kernel) hts rfl rfl ⟨Nat.le_of_ble_eq_true rfl, Nat.le_of_ble_eq_true rfl⟩) 0 12 rfl rfl rfl rfl hl.1 rfl (Nat.le_of_ble_eq_true rfl) ⟨hcc, hss⟩ dL_law_1442 (fun r_7 U_9 H locs h_8 hP hD hS => ?_)
  refine lv_pop hx hb dL_law_1445 rfl ?_
  refine lv_goto (tgt := 2115) hx hb dL_law_1446 (by decide) ?_
  exact K V_5 U_9 H locs ls h_4 h_8 trivial hP hD hS (lv_sub hl [0, 1, 2, 3] rfl)

set_option maxHeartbeats 4000000 in
set_option maxRecDepth 100000 in
theorem law_49 {p : Program} {l : Launch} {e : Env} {s : State} {m : MethodId} {below : List Frame} {meth : Method} {c : Code} {G : Gho} {D : va_G} {cB cI cJ cZ cS cT : ClassId} {b L : Nat} {xs : Nat → Int32} {x0 m0 : Nat} {A B : Nat → Nat} {cells slots : Nat} (hL : L ≤ 3072) (C0 : lw_At p s m meth c b L xs) (hK : va_K D vwCl (tyL cB cI cJ cZ cS cT) s) (hN : kN s) (hT : kT G s s.heap) (hG : G.1 = s.heap.size) (hcc : cells ≤ 600000) (hss : slots ≤ 7302249) {H : Heap} {locs : List Loc} {ls : Array Slot} (V U : VX) (ok : xok V) (okm : mok U) (rel : True) (i3 : Int32) (hi : 0 ≤ i3.toInt ∧ i3.toInt + 6 ≤ (L : Int)) (hP : va_P D vwCl (xL cB cI cJ cZ cS cT x0 A V ++ mL cB cI cJ cZ cS cT m0 B U) H) (hD : va_D (fun q : Nat => s.heap.size ≤ q) (xL cB cI cJ cZ cS cT x0 A V ++ mL cB cI cJ cZ cS cT m0 B U)) (hS : va_S (fun q : Nat => s.heap.size ≤ q) s.heap H locs) (hl : lv_has ls 4 [(0, .ref b), (1, .ref x0), (2, .ref m0), (3, .int i3)]) (K : ∀ (V U : VX) (H : Heap) (locs : List Loc) (ls : Array Slot), xok V → mok U → True → va_P D vwCl (xL cB cI cJ cZ cS cT x0 A V ++ mL cB cI cJ cZ cS cT m0 B U) H → va_D (fun q : Nat => s.heap.size ≤ q) (xL cB cI cJ cZ cS cT x0 A V ++ mL cB cI cJ cZ cS cT m0 B U) → va_S (fun q : Nat => s.heap.size ≤ q) s.heap H locs → lv_has ls 4 [(0, .ref b), (1, .ref x0), (2, .ref m0), (3, .int i3)] → W p l e room_1 s m #[Value.ref b] below meth c H locs cells slots (lw_Z below #[Value.ref b] s) (F0 m 2115 ls [])) : W p l e room_1 s m #[Value.ref b] below meth c H locs cells slots (lw_Z below #[Value.ref b] s) (F0 m 1449 ls []) := by
  obtain ⟨hx, hb, hr, hml, hown, hts0, hX, hbl, hlocks, hgv⟩ := id C0
  have hts : ∀ w ∈ wsL_law, w.before #[Value.ref b] s = true := fun w h => hts0 w (wsL_law_in w h)
  have hA : ∀ q : Nat, s.heap.size ≤ q → (fun q : Nat => s.heap.size ≤ q) q := fun _ h => h
  have hAB : ∀ q : Nat, (fun q : Nat => s.heap.size ≤ q) q → G.1 ≤ q := fun q h => by rw [hG]; exact h
  have hG1 : G.1 ≤ s.heap.size := by rw [hG]; exact Nat.le_refl _
  have hbA : ¬ (fun q : Nat => s.heap.size ≤ q) b := Nat.not_le.mpr hbl
  refine lv_aload_n hx hb dL_law_1449 rfl (lv_at hl 1 rfl) ?_
  refine lv_aload_n hx hb dL_law_1450 rfl (lv_at hl 0 rfl) ?_
  refine lv_iload_n hx hb dL_law_1451 rfl (lv_at hl 3 rfl) ?_
  refine lv_iconst (v := 1) hx hb dL_law_1452 (by decide) ?_
  obtain ⟨t_1, et_1⟩ : ∃ v9 : Int32, i3 + 1 = v9 := ⟨_, rfl⟩
  refine z_iadd (v := t_1) hx hb dL_law_1453 et_1 ?_
  have b_i3 := i32b i3
  have ft_1 : t_1.toInt = i3.toInt + 1 := addT (a := i3.toInt) (b := 1) rfl (by decide) et_1 (by omega) (by omega)
  obtain ⟨t_2, et_2⟩ : ∃ v9 : Int32, xs (t_1 : Int32).toNatClampNeg = v9 := ⟨_, rfl⟩
  refine va_sld hx hb hX hbl hbA hS (vin_nat (by omega) (by omega)) dL_law_1454 ?_
  rw [et_2]
  refine laAri (As := [.int t_2]) (rest := []) (wa := xL cB cI cJ cZ cS cT x0 A V) (wb := mL cB cI cJ cZ cS cT m0 B U) ⟨hx, hb, hml, hown, hts⟩ (f_X11_parents l G D cB cI cJ cZ cS cT x0 A V ok t_2) hP hD hS hA hK hN hT hAB hG1 (cvB (n := 1) (inr60 _ (List.mem_of_getElem? (i := 0) rfl)) (inr60 _ (List.mem_of_getElem? (i := 1) rfl)) (inr60 _ (List.mem_of_getElem? (i := 2) rfl)) (inr1 _ (List.mem_of_getElem? (i := 2) rfl)) (inr60 _ (List.mem_of_getElem? (i := 3) rfl)) (by decide +kernel) hts rfl rfl ⟨Nat.le_of_ble_eq_true rfl, Nat.le_of_ble_eq_true rfl⟩) 0 11 rfl rfl rfl rfl hl.1 rfl (Nat.le_of_ble_eq_true rfl) ⟨hcc, hss⟩ dL_law_1455 (fun r_3 h_4 => ?_)
  refine lv_pop hx hb dL_law_1458 rfl ?_
  refine lv_aload_n hx hb dL_law_1459 rfl (lv_at hl 2 rfl) ?_
  refine lv_aload_n hx hb dL_law_1460 rfl (lv_at hl 0 rfl) ?_
  refine lv_iload_n hx hb dL_law_1461 rfl (lv_at hl 3 rfl) ?_
  refine lv_iconst (v := 1) hx hb dL_law_1462 (by decide) ?_
  refine z_iadd (v := t_1) hx hb dL_law_1463 et_1 ?_
  refine va_sld hx hb hX hbl hbA hS (vin_nat (by omega) (by omega)) dL_law_1464 ?_
  rw [et_2]
  refine laBi (As := [.int t_2]) (rest := []) (wa := xL cB cI cJ cZ cS cT x0 A V) (wb := mL cB cI cJ cZ cS cT m0 B U) ⟨hx, hb, hml, hown, hts⟩ (f_X12_parents l G D cB cI cJ cZ cS cT H.size m0 B U okm t_2) hP hD hS hA hK hN hT hAB hG1 (cvB (n := 1) (inr60 _ (List.mem_of_getElem? (i := 9) rfl)) (inr60 _ (List.mem_of_getElem? (i := 10) rfl)) (inr60 _ (List.mem_of_getElem? (i := 11) rfl)) (inr1 _ (List.mem_of_getElem? (i := 5) rfl)) (inr60 _ (List.mem_of_getElem? (i := 12) rfl)) (by decide +kernel) hts rfl rfl ⟨Nat.le_of_ble_eq_true rfl, Nat.le_of_ble_eq_true rfl⟩) 0 12 rfl rfl rfl rfl hl.1 rfl (Nat.le_of_ble_eq_true rfl) ⟨hcc, hss⟩ dL_law_1465 (fun r_5 U_7 H locs h_6 hP hD hS => ?_)
  refine lv_pop hx hb dL_law_1468 rfl ?_
  refine lv_goto (tgt := 2115) hx hb dL_law_1469 (by decide) ?_
  exact K V U_7 H locs ls ok h_6 trivial hP hD hS (lv_sub hl [0, 1, 2, 3] rfl)

set_option maxHeartbeats 4000000 in
set_option maxRecDepth 100000 in
theorem law_50 {p : Program} {l : Launch} {e : Env} {s : State} {m : MethodId} {below : List Frame} {meth : Method} {c : Code} {G : Gho} {D : va_G} {cB cI cJ cZ cS cT : ClassId} {b L : Nat} {xs : Nat → Int32} {x0 m0 : Nat} {A B : Nat → Nat} {cells slots : Nat} (hL : L ≤ 3072) (C0 : lw_At p s m meth c b L xs) (hK : va_K D vwCl (tyL cB cI cJ cZ cS cT) s) (hN : kN s) (hT : kT G s s.heap) (hG : G.1 = s.heap.size) (hcc : cells ≤ 600000) (hss : slots ≤ 7302249) {H : Heap} {locs : List Loc} {ls : Array Slot} (V U : VX) (ok : xok V) (okm : mok U) (rel : True) (i3 : Int32) (hi : 0 ≤ i3.toInt ∧ i3.toInt + 6 ≤ (L : Int)) (hP : va_P D vwCl (xL cB cI cJ cZ cS cT x0 A V ++ mL cB cI cJ cZ cS cT m0 B U) H) (hD : va_D (fun q : Nat => s.heap.size ≤ q) (xL cB cI cJ cZ cS cT x0 A V ++ mL cB cI cJ cZ cS cT m0 B U)) (hS : va_S (fun q : Nat => s.heap.size ≤ q) s.heap H locs) (hl : lv_has ls 4 [(0, .ref b), (1, .ref x0), (2, .ref m0), (3, .int i3)]) (K : ∀ (V U : VX) (H : Heap) (locs : List Loc) (ls : Array Slot), xok V → mok U → True → va_P D vwCl (xL cB cI cJ cZ cS cT x0 A V ++ mL cB cI cJ cZ cS cT m0 B U) H → va_D (fun q : Nat => s.heap.size ≤ q) (xL cB cI cJ cZ cS cT x0 A V ++ mL cB cI cJ cZ cS cT m0 B U) → va_S (fun q : Nat => s.heap.size ≤ q) s.heap H locs → lv_has ls 4 [(0, .ref b), (1, .ref x0), (2, .ref m0), (3, .int i3)] → W p l e room_1 s m #[Value.ref b] below meth c H locs cells slots (lw_Z below #[Value.ref b] s) (F0 m 2115 ls [])) : W p l e room_1 s m #[Value.ref b] below meth c H locs cells slots (lw_Z below #[Value.ref b] s) (F0 m 1472 ls []) := by
  obtain ⟨hx, hb, hr, hml, hown, hts0, hX, hbl, hlocks, hgv⟩ := id C0
  have hts : ∀ w ∈ wsL_law, w.before #[Value.ref b] s = true := fun w h => hts0 w (wsL_law_in w h)
  have hA : ∀ q : Nat, s.heap.size ≤ q → (fun q : Nat => s.heap.size ≤ q) q := fun _ h => h
  have hAB : ∀ q : Nat, (fun q : Nat => s.heap.size ≤ q) q → G.1 ≤ q := fun q h => by rw [hG]; exact h
  have hG1 : G.1 ≤ s.heap.size := by rw [hG]; exact Nat.le_refl _
  have hbA : ¬ (fun q : Nat => s.heap.size ≤ q) b := Nat.not_le.mpr hbl
  refine lv_aload_n hx hb dL_law_1472 rfl (lv_at hl 1 rfl) ?_
  refine lv_aload_n hx hb dL_law_1473 rfl (lv_at hl 0 rfl) ?_
  refine lv_iload_n hx hb dL_law_1474 rfl (lv_at hl 3 rfl) ?_
  refine lv_iconst (v := 1) hx hb dL_law_1475 (by decide) ?_
  obtain ⟨t_1, et_1⟩ : ∃ v9 : Int32, i3 + 1 = v9 := ⟨_, rfl⟩
  refine z_iadd (v := t_1) hx hb dL_law_1476 et_1 ?_
  have b_i3 := i32b i3
  have ft_1 : t_1.toInt = i3.toInt + 1 := addT (a := i3.toInt) (b := 1) rfl (by decide) et_1 (by omega) (by omega)
  obtain ⟨t_2, et_2⟩ : ∃ v9 : Int32, xs (t_1 : Int32).toNatClampNeg = v9 := ⟨_, rfl⟩
  refine va_sld hx hb hX hbl hbA hS (vin_nat (by omega) (by omega)) dL_law_1477 ?_
  rw [et_2]
  refine laAri (As := [.int t_2]) (rest := []) (wa := xL cB cI cJ cZ cS cT x0 A V) (wb := mL cB cI cJ cZ cS cT m0 B U) ⟨hx, hb, hml, hown, hts⟩ (f_X11_parent l G D cB cI cJ cZ cS cT x0 A V ok t_2) hP hD hS hA hK hN hT hAB hG1 (cvB (n := 1) (inr60 _ (List.mem_of_getElem? (i := 18) rfl)) (inr60 _ (List.mem_of_getElem? (i := 19) rfl)) (inr60 _ (List.mem_of_getElem? (i := 20) rfl)) (inr1 _ (List.mem_of_getElem? (i := 2) rfl)) (inr60 _ (List.mem_of_getElem? (i := 21) rfl)) (by decide +kernel) hts rfl rfl ⟨Nat.le_of_ble_eq_true rfl, Nat.le_of_ble_eq_true rfl⟩) 0 11 rfl rfl rfl rfl hl.1 rfl (Nat.le_of_ble_eq_true rfl) ⟨hcc, hss⟩ dL_law_1478 (fun r_3 h_4 => ?_)
  refine lv_pop hx hb dL_law_1481 rfl ?_
  refine lv_aload_n hx hb dL_law_1482 rfl (lv_at hl 2 rfl) ?_
  refine lv_aload_n hx hb dL_law_1483 rfl (lv_at hl 0 rfl) ?_
  refine lv_iload_n hx hb dL_law_1484 rfl (lv_at hl 3 rfl) ?_
  refine lv_iconst (v := 1) hx hb dL_law_1485 (by decide) ?_
  refine z_iadd (v := t_1) hx hb dL_law_1486 et_1 ?_
  refine va_sld hx hb hX hbl hbA hS (vin_nat (by omega) (by omega)) dL_law_1487 ?_
  rw [et_2]
  refine laBi (As := [.int t_2]) (rest := []) (wa := xL cB cI cJ cZ cS cT x0 A V) (wb := mL cB cI cJ cZ cS cT m0 B U) ⟨hx, hb, hml, hown, hts⟩ (f_X12_parent l G D cB cI cJ cZ cS cT H.size m0 B U okm t_2) hP hD hS hA hK hN hT hAB hG1 (cvB (n := 1) (inr60 _ (List.mem_of_getElem? (i := 22) rfl)) (inr60 _ (List.mem_of_getElem? (i := 23) rfl)) (inr61 _ (List.mem_of_getElem? (i := 0) rfl)) (inr1 _ (List.mem_of_getElem? (i := 5) rfl)) (inr61 _ (List.mem_of_getElem? (i := 1) rfl)) (by decide +kernel) hts rfl rfl ⟨Nat.le_of_ble_eq_true rfl, Nat.le_of_ble_eq_true rfl⟩) 0 12 rfl rfl rfl rfl hl.1 rfl (Nat.le_of_ble_eq_true rfl) ⟨hcc, hss⟩ dL_law_1488 (fun r_5 U_7 H locs h_6 hP hD hS => ?_)
  refine lv_pop hx hb dL_law_1491 rfl ?_
  refine lv_goto (tgt := 2115) hx hb dL_law_1492 (by decide) ?_
  exact K V U_7 H locs ls ok h_6 trivial hP hD hS (lv_sub hl [0, 1, 2, 3] rfl)

set_option maxHeartbeats 4000000 in
set_option maxRecDepth 100000 in
theorem law_51 {p : Program} {l : Launch} {e : Env} {s : State} {m : MethodId} {below : List Frame} {meth : Method} {c : Code} {G : Gho} {D : va_G} {cB cI cJ cZ cS cT : ClassId} {b L : Nat} {xs : Nat → Int32} {x0 m0 : Nat} {A B : Nat → Nat} {cells slots : Nat} (hL : L ≤ 3072) (C0 : lw_At p s m meth c b L xs) (hK : va_K D vwCl (tyL cB cI cJ cZ cS cT) s) (hN : kN s) (hT : kT G s s.heap) (hG : G.1 = s.heap.size) (hcc : cells ≤ 600000) (hss : slots ≤ 7302249) {H : Heap} {locs : List Loc} {ls : Array Slot} (V U : VX) (ok : xok V) (okm : mok U) (rel : True) (i3 : Int32) (hi : 0 ≤ i3.toInt ∧ i3.toInt + 6 ≤ (L : Int)) (hP : va_P D vwCl (xL cB cI cJ cZ cS cT x0 A V ++ mL cB cI cJ cZ cS cT m0 B U) H) (hD : va_D (fun q : Nat => s.heap.size ≤ q) (xL cB cI cJ cZ cS cT x0 A V ++ mL cB cI cJ cZ cS cT m0 B U)) (hS : va_S (fun q : Nat => s.heap.size ≤ q) s.heap H locs) (hl : lv_has ls 4 [(0, .ref b), (1, .ref x0), (2, .ref m0), (3, .int i3)]) (K : ∀ (V U : VX) (H : Heap) (locs : List Loc) (ls : Array Slot), xok V → mok U → True → va_P D vwCl (xL cB cI cJ cZ cS cT x0 A V ++ mL cB cI cJ cZ cS cT m0 B U) H → va_D (fun q : Nat => s.heap.size ≤ q) (xL cB cI cJ cZ cS cT x0 A V ++ mL cB cI cJ cZ cS cT m0 B U) → va_S (fun q : Nat => s.heap.size ≤ q) s.heap H locs → lv_has ls 4 [(0, .ref b), (1, .ref x0), (2, .ref m0), (3, .int i3)] → W p l e room_1 s m #[Value.ref b] below meth c H locs cells slots (lw_Z below #[Value.ref b] s) (F0 m 2115 ls [])) : W p l e room_1 s m #[Value.ref b] below meth c H locs cells slots (lw_Z below #[Value.ref b] s) (F0 m 1495 ls []) := by
  obtain ⟨hx, hb, hr, hml, hown, hts0, hX, hbl, hlocks, hgv⟩ := id C0
  have hts : ∀ w ∈ wsL_law, w.before #[Value.ref b] s = true := fun w h => hts0 w (wsL_law_in w h)
  have hA : ∀ q : Nat, s.heap.size ≤ q → (fun q : Nat => s.heap.size ≤ q) q := fun _ h => h
  have hAB : ∀ q : Nat, (fun q : Nat => s.heap.size ≤ q) q → G.1 ≤ q := fun q h => by rw [hG]; exact h
  have hG1 : G.1 ≤ s.heap.size := by rw [hG]; exact Nat.le_refl _
  have hbA : ¬ (fun q : Nat => s.heap.size ≤ q) b := Nat.not_le.mpr hbl
  refine lv_aload_n hx hb dL_law_1495 rfl (lv_at hl 1 rfl) ?_
  refine lv_aload_n hx hb dL_law_1496 rfl (lv_at hl 0 rfl) ?_
  refine lv_iload_n hx hb dL_law_1497 rfl (lv_at hl 3 rfl) ?_
  refine lv_iconst (v := 1) hx hb dL_law_1498 (by decide) ?_
  obtain ⟨t_1, et_1⟩ : ∃ v9 : Int32, i3 + 1 = v9 := ⟨_, rfl⟩
  refine z_iadd (v := t_1) hx hb dL_law_1499 et_1 ?_
  have b_i3 := i32b i3
  have ft_1 : t_1.toInt = i3.toInt + 1 := addT (a := i3.toInt) (b := 1) rfl (by decide) et_1 (by omega) (by omega)
  obtain ⟨t_2, et_2⟩ : ∃ v9 : Int32, xs (t_1 : Int32).toNatClampNeg = v9 := ⟨_, rfl⟩
  refine va_sld hx hb hX hbl hbA hS (vin_nat (by omega) (by omega)) dL_law_1500 ?_
  rw [et_2]
  refine lv_aload_n hx hb dL_law_1501 rfl (lv_at hl 0 rfl) ?_
  refine lv_iload_n hx hb dL_law_1502 rfl (lv_at hl 3 rfl) ?_
  refine lv_iconst (v := 2) hx hb dL_law_1503 (by decide) ?_
  obtain ⟨t_3, et_3⟩ : ∃ v9 : Int32, i3 + 2 = v9 := ⟨_, rfl⟩
  refine z_iadd (v := t_3) hx hb dL_law_1504 et_3 ?_
  have ft_3 : t_3.toInt = i3.toInt + 2 := addT (a := i3.toInt) (b := 2) rfl (by decide) et_3 (by omega) (by omega)
  obtain ⟨t_4, et_4⟩ : ∃ v9 : Int32, xs (t_3 : Int32).toNatClampNeg = v9 := ⟨_, rfl⟩
  refine va_sld hx hb hX hbl hbA hS (vin_nat (by omega) (by omega)) dL_law_1505 ?_
  rw [et_4]
  refine laAi (As := [.int t_2, .int t_4]) (rest := []) (wa := xL cB cI cJ cZ cS cT x0 A V) (wb := mL cB cI cJ cZ cS cT m0 B U) ⟨hx, hb, hml, hown, hts⟩ (f_X11_clock l G D cB cI cJ cZ cS cT H.size x0 A V ok t_2 t_4) hP hD hS hA hK hN hT hAB hG1 (cvB (n := 2) (inr61 _ (List.mem_of_getElem? (i := 2) rfl)) (inr61 _ (List.mem_of_getElem? (i := 3) rfl)) (inr61 _ (List.mem_of_getElem? (i := 4) rfl)) (inr1 _ (List.mem_of_getElem? (i := 2) rfl)) (inr61 _ (List.mem_of_getElem? (i := 5) rfl)) (by decide +kernel) hts rfl rfl ⟨Nat.le_of_ble_eq_true rfl, Nat.le_of_ble_eq_true rfl⟩) 0 11 rfl rfl rfl rfl hl.1 rfl (Nat.le_of_ble_eq_true rfl) ⟨hcc, hss⟩ dL_law_1506 (fun r_5 V_7 H locs h_6 hP hD hS => ?_)
  refine lv_pop hx hb dL_law_1509 rfl ?_
  refine lv_aload_n hx hb dL_law_1510 rfl (lv_at hl 2 rfl) ?_
  refine lv_aload_n hx hb dL_law_1511 rfl (lv_at hl 0 rfl) ?_
  refine lv_iload_n hx hb dL_law_1512 rfl (lv_at hl 3 rfl) ?_
  refine lv_iconst (v := 1) hx hb dL_law_1513 (by decide) ?_
  refine z_iadd (v := t_1) hx hb dL_law_1514 et_1 ?_
  refine va_sld hx hb hX hbl hbA hS (vin_nat (by omega) (by omega)) dL_law_1515 ?_
  rw [et_2]
  refine lv_aload_n hx hb dL_law_1516 rfl (lv_at hl 0 rfl) ?_
  refine lv_iload_n hx hb dL_law_1517 rfl (lv_at hl 3 rfl) ?_
  refine lv_iconst (v := 2) hx hb dL_law_1518 (by decide) ?_
  refine z_iadd (v := t_3) hx hb dL_law_1519 et_3 ?_
  refine va_sld hx hb hX hbl hbA hS (vin_nat (by omega) (by omega)) dL_law_1520 ?_
  rw [et_4]
  refine laBi (As := [.int t_2, .int t_4]) (rest := []) (wa := xL cB cI cJ cZ cS cT x0 A V_7) (wb := mL cB cI cJ cZ cS cT m0 B U) ⟨hx, hb, hml, hown, hts⟩ (f_X12_clock l G D cB cI cJ cZ cS cT H.size m0 B U okm t_2 t_4) hP hD hS hA hK hN hT hAB hG1 (cvB (n := 2) (inr61 _ (List.mem_of_getElem? (i := 14) rfl)) (inr61 _ (List.mem_of_getElem? (i := 15) rfl)) (inr61 _ (List.mem_of_getElem? (i := 16) rfl)) (inr1 _ (List.mem_of_getElem? (i := 5) rfl)) (inr61 _ (List.mem_of_getElem? (i := 17) rfl)) (by decide +kernel) hts rfl rfl ⟨Nat.le_of_ble_eq_true rfl, Nat.le_of_ble_eq_true rfl⟩) 0 12 rfl rfl rfl rfl hl.1 rfl (Nat.le_of_ble_eq_true rfl) ⟨hcc, hss⟩ dL_law_1521 (fun r_9 U_11 H locs h_10 hP hD hS => ?_)
  refine lv_pop hx hb dL_law_1524 rfl ?_
  refine lv_goto (tgt := 2115) hx hb dL_law_1525 (by decide) ?_
  exact K V_7 U_11 H locs ls h_6 h_10 trivial hP hD hS (lv_sub hl [0, 1, 2, 3] rfl)

set_option maxHeartbeats 4000000 in
set_option maxRecDepth 100000 in
theorem law_52 {p : Program} {l : Launch} {e : Env} {s : State} {m : MethodId} {below : List Frame} {meth : Method} {c : Code} {G : Gho} {D : va_G} {cB cI cJ cZ cS cT : ClassId} {b L : Nat} {xs : Nat → Int32} {x0 m0 : Nat} {A B : Nat → Nat} {cells slots : Nat} (hL : L ≤ 3072) (C0 : lw_At p s m meth c b L xs) (hK : va_K D vwCl (tyL cB cI cJ cZ cS cT) s) (hN : kN s) (hT : kT G s s.heap) (hG : G.1 = s.heap.size) (hcc : cells ≤ 600000) (hss : slots ≤ 7302249) {H : Heap} {locs : List Loc} {ls : Array Slot} (V U : VX) (ok : xok V) (okm : mok U) (rel : True) (i3 : Int32) (hi : 0 ≤ i3.toInt ∧ i3.toInt + 6 ≤ (L : Int)) (hP : va_P D vwCl (xL cB cI cJ cZ cS cT x0 A V ++ mL cB cI cJ cZ cS cT m0 B U) H) (hD : va_D (fun q : Nat => s.heap.size ≤ q) (xL cB cI cJ cZ cS cT x0 A V ++ mL cB cI cJ cZ cS cT m0 B U)) (hS : va_S (fun q : Nat => s.heap.size ≤ q) s.heap H locs) (hl : lv_has ls 4 [(0, .ref b), (1, .ref x0), (2, .ref m0), (3, .int i3)]) (K : ∀ (V U : VX) (H : Heap) (locs : List Loc) (ls : Array Slot), xok V → mok U → True → va_P D vwCl (xL cB cI cJ cZ cS cT x0 A V ++ mL cB cI cJ cZ cS cT m0 B U) H → va_D (fun q : Nat => s.heap.size ≤ q) (xL cB cI cJ cZ cS cT x0 A V ++ mL cB cI cJ cZ cS cT m0 B U) → va_S (fun q : Nat => s.heap.size ≤ q) s.heap H locs → lv_has ls 4 [(0, .ref b), (1, .ref x0), (2, .ref m0), (3, .int i3)] → W p l e room_1 s m #[Value.ref b] below meth c H locs cells slots (lw_Z below #[Value.ref b] s) (F0 m 2115 ls [])) : W p l e room_1 s m #[Value.ref b] below meth c H locs cells slots (lw_Z below #[Value.ref b] s) (F0 m 1528 ls []) := by
  obtain ⟨hx, hb, hr, hml, hown, hts0, hX, hbl, hlocks, hgv⟩ := id C0
  have hts : ∀ w ∈ wsL_law, w.before #[Value.ref b] s = true := fun w h => hts0 w (wsL_law_in w h)
  have hA : ∀ q : Nat, s.heap.size ≤ q → (fun q : Nat => s.heap.size ≤ q) q := fun _ h => h
  have hAB : ∀ q : Nat, (fun q : Nat => s.heap.size ≤ q) q → G.1 ≤ q := fun q h => by rw [hG]; exact h
  have hG1 : G.1 ≤ s.heap.size := by rw [hG]; exact Nat.le_refl _
  have hbA : ¬ (fun q : Nat => s.heap.size ≤ q) b := Nat.not_le.mpr hbl
  refine lv_aload_n hx hb dL_law_1528 rfl (lv_at hl 1 rfl) ?_
  refine laAi (As := []) (rest := []) (wa := xL cB cI cJ cZ cS cT x0 A V) (wb := mL cB cI cJ cZ cS cT m0 B U) ⟨hx, hb, hml, hown, hts⟩ (f_X11_cool l G D cB cI cJ cZ cS cT H.size x0 A V ok ) hP hD hS hA hK hN hT hAB hG1 (cvB (n := 0) (inr61 _ (List.mem_of_getElem? (i := 21) rfl)) (inr61 _ (List.mem_of_getElem? (i := 22) rfl)) (inr61 _ (List.mem_of_getElem? (i := 23) rfl)) (inr1 _ (List.mem_of_getElem? (i := 2) rfl)) (inr62 _ (List.mem_of_getElem? (i := 0) rfl)) (by decide +kernel) hts rfl rfl ⟨Nat.le_of_ble_eq_true rfl, Nat.le_of_ble_eq_true rfl⟩) 0 11 rfl rfl rfl rfl hl.1 rfl (Nat.le_of_ble_eq_true rfl) ⟨hcc, hss⟩ dL_law_1529 (fun r_1 V_3 H locs h_2 hP hD hS => ?_)
  refine lv_pop hx hb dL_law_1532 rfl ?_
  refine lv_aload_n hx hb dL_law_1533 rfl (lv_at hl 2 rfl) ?_
  refine laBi (As := []) (rest := []) (wa := xL cB cI cJ cZ cS cT x0 A V_3) (wb := mL cB cI cJ cZ cS cT m0 B U) ⟨hx, hb, hml, hown, hts⟩ (f_X12_cool l G D cB cI cJ cZ cS cT H.size m0 B U okm ) hP hD hS hA hK hN hT hAB hG1 (cvB (n := 0) (inr62 _ (List.mem_of_getElem? (i := 5) rfl)) (inr62 _ (List.mem_of_getElem? (i := 6) rfl)) (inr62 _ (List.mem_of_getElem? (i := 7) rfl)) (inr1 _ (List.mem_of_getElem? (i := 5) rfl)) (inr62 _ (List.mem_of_getElem? (i := 8) rfl)) (by decide +kernel) hts rfl rfl ⟨Nat.le_of_ble_eq_true rfl, Nat.le_of_ble_eq_true rfl⟩) 0 12 rfl rfl rfl rfl hl.1 rfl (Nat.le_of_ble_eq_true rfl) ⟨hcc, hss⟩ dL_law_1534 (fun r_5 U_7 H locs h_6 hP hD hS => ?_)
  refine lv_pop hx hb dL_law_1537 rfl ?_
  refine lv_goto (tgt := 2115) hx hb dL_law_1538 (by decide) ?_
  exact K V_3 U_7 H locs ls h_2 h_6 trivial hP hD hS (lv_sub hl [0, 1, 2, 3] rfl)

set_option maxHeartbeats 4000000 in
set_option maxRecDepth 100000 in
theorem law_53 {p : Program} {l : Launch} {e : Env} {s : State} {m : MethodId} {below : List Frame} {meth : Method} {c : Code} {G : Gho} {D : va_G} {cB cI cJ cZ cS cT : ClassId} {b L : Nat} {xs : Nat → Int32} {x0 m0 : Nat} {A B : Nat → Nat} {cells slots : Nat} (hL : L ≤ 3072) (C0 : lw_At p s m meth c b L xs) (hK : va_K D vwCl (tyL cB cI cJ cZ cS cT) s) (hN : kN s) (hT : kT G s s.heap) (hG : G.1 = s.heap.size) (hcc : cells ≤ 600000) (hss : slots ≤ 7302249) {H : Heap} {locs : List Loc} {ls : Array Slot} (V U : VX) (ok : xok V) (okm : mok U) (rel : True) (i3 : Int32) (hi : 0 ≤ i3.toInt ∧ i3.toInt + 6 ≤ (L : Int)) (hP : va_P D vwCl (xL cB cI cJ cZ cS cT x0 A V ++ mL cB cI cJ cZ cS cT m0 B U) H) (hD : va_D (fun q : Nat => s.heap.size ≤ q) (xL cB cI cJ cZ cS cT x0 A V ++ mL cB cI cJ cZ cS cT m0 B U)) (hS : va_S (fun q : Nat => s.heap.size ≤ q) s.heap H locs) (hl : lv_has ls 4 [(0, .ref b), (1, .ref x0), (2, .ref m0), (3, .int i3)]) (K : ∀ (V U : VX) (H : Heap) (locs : List Loc) (ls : Array Slot), xok V → mok U → True → va_P D vwCl (xL cB cI cJ cZ cS cT x0 A V ++ mL cB cI cJ cZ cS cT m0 B U) H → va_D (fun q : Nat => s.heap.size ≤ q) (xL cB cI cJ cZ cS cT x0 A V ++ mL cB cI cJ cZ cS cT m0 B U) → va_S (fun q : Nat => s.heap.size ≤ q) s.heap H locs → lv_has ls 4 [(0, .ref b), (1, .ref x0), (2, .ref m0), (3, .int i3)] → W p l e room_1 s m #[Value.ref b] below meth c H locs cells slots (lw_Z below #[Value.ref b] s) (F0 m 2115 ls [])) : W p l e room_1 s m #[Value.ref b] below meth c H locs cells slots (lw_Z below #[Value.ref b] s) (F0 m 1541 ls []) := by
  obtain ⟨hx, hb, hr, hml, hown, hts0, hX, hbl, hlocks, hgv⟩ := id C0
  have hts : ∀ w ∈ wsL_law, w.before #[Value.ref b] s = true := fun w h => hts0 w (wsL_law_in w h)
  have hA : ∀ q : Nat, s.heap.size ≤ q → (fun q : Nat => s.heap.size ≤ q) q := fun _ h => h
  have hAB : ∀ q : Nat, (fun q : Nat => s.heap.size ≤ q) q → G.1 ≤ q := fun q h => by rw [hG]; exact h
  have hG1 : G.1 ≤ s.heap.size := by rw [hG]; exact Nat.le_refl _
  have hbA : ¬ (fun q : Nat => s.heap.size ≤ q) b := Nat.not_le.mpr hbl
  refine lv_aload_n hx hb dL_law_1541 rfl (lv_at hl 1 rfl) ?_
  refine laAri (As := []) (rest := []) (wa := xL cB cI cJ cZ cS cT x0 A V) (wb := mL cB cI cJ cZ cS cT m0 B U) ⟨hx, hb, hml, hown, hts⟩ (f_X11_rests l G D cB cI cJ cZ cS cT x0 A V ok ) hP hD hS hA hK hN hT hAB hG1 (cvB (n := 0) (inr62 _ (List.mem_of_getElem? (i := 9) rfl)) (inr62 _ (List.mem_of_getElem? (i := 10) rfl)) (inr62 _ (List.mem_of_getElem? (i := 11) rfl)) (inr1 _ (List.mem_of_getElem? (i := 2) rfl)) (inr62 _ (List.mem_of_getElem? (i := 12) rfl)) (by decide +kernel) hts rfl rfl ⟨Nat.le_of_ble_eq_true rfl, Nat.le_of_ble_eq_true rfl⟩) 0 11 rfl rfl rfl rfl hl.1 rfl (Nat.le_of_ble_eq_true rfl) ⟨hcc, hss⟩ dL_law_1542 (fun r_1 h_2 => ?_)
  refine lv_pop hx hb dL_law_1545 rfl ?_
  refine lv_aload_n hx hb dL_law_1546 rfl (lv_at hl 2 rfl) ?_
  refine laBri (As := []) (rest := []) (wa := xL cB cI cJ cZ cS cT x0 A V) (wb := mL cB cI cJ cZ cS cT m0 B U) ⟨hx, hb, hml, hown, hts⟩ (f_X12_rests l G D cB cI cJ cZ cS cT m0 B U okm ) hP hD hS hA hK hN hT hAB hG1 (cvB (n := 0) (inr62 _ (List.mem_of_getElem? (i := 19) rfl)) (inr62 _ (List.mem_of_getElem? (i := 20) rfl)) (inr62 _ (List.mem_of_getElem? (i := 21) rfl)) (inr1 _ (List.mem_of_getElem? (i := 5) rfl)) (inr62 _ (List.mem_of_getElem? (i := 22) rfl)) (by decide +kernel) hts rfl rfl ⟨Nat.le_of_ble_eq_true rfl, Nat.le_of_ble_eq_true rfl⟩) 0 12 rfl rfl rfl rfl hl.1 rfl (Nat.le_of_ble_eq_true rfl) ⟨hcc, hss⟩ dL_law_1547 (fun r_3 h_4 => ?_)
  refine lv_pop hx hb dL_law_1550 rfl ?_
  refine lv_goto (tgt := 2115) hx hb dL_law_1551 (by decide) ?_
  exact K V U H locs ls ok okm trivial hP hD hS (lv_sub hl [0, 1, 2, 3] rfl)

set_option maxHeartbeats 4000000 in
set_option maxRecDepth 100000 in
theorem law_54 {p : Program} {l : Launch} {e : Env} {s : State} {m : MethodId} {below : List Frame} {meth : Method} {c : Code} {G : Gho} {D : va_G} {cB cI cJ cZ cS cT : ClassId} {b L : Nat} {xs : Nat → Int32} {x0 m0 : Nat} {A B : Nat → Nat} {cells slots : Nat} (hL : L ≤ 3072) (C0 : lw_At p s m meth c b L xs) (hK : va_K D vwCl (tyL cB cI cJ cZ cS cT) s) (hN : kN s) (hT : kT G s s.heap) (hG : G.1 = s.heap.size) (hcc : cells ≤ 600000) (hss : slots ≤ 7302249) {H : Heap} {locs : List Loc} {ls : Array Slot} (V U : VX) (ok : xok V) (okm : mok U) (rel : True) (i3 : Int32) (hi : 0 ≤ i3.toInt ∧ i3.toInt + 6 ≤ (L : Int)) (hP : va_P D vwCl (xL cB cI cJ cZ cS cT x0 A V ++ mL cB cI cJ cZ cS cT m0 B U) H) (hD : va_D (fun q : Nat => s.heap.size ≤ q) (xL cB cI cJ cZ cS cT x0 A V ++ mL cB cI cJ cZ cS cT m0 B U)) (hS : va_S (fun q : Nat => s.heap.size ≤ q) s.heap H locs) (hl : lv_has ls 4 [(0, .ref b), (1, .ref x0), (2, .ref m0), (3, .int i3)]) (K : ∀ (V U : VX) (H : Heap) (locs : List Loc) (ls : Array Slot), xok V → mok U → True → va_P D vwCl (xL cB cI cJ cZ cS cT x0 A V ++ mL cB cI cJ cZ cS cT m0 B U) H → va_D (fun q : Nat => s.heap.size ≤ q) (xL cB cI cJ cZ cS cT x0 A V ++ mL cB cI cJ cZ cS cT m0 B U) → va_S (fun q : Nat => s.heap.size ≤ q) s.heap H locs → lv_has ls 4 [(0, .ref b), (1, .ref x0), (2, .ref m0), (3, .int i3)] → W p l e room_1 s m #[Value.ref b] below meth c H locs cells slots (lw_Z below #[Value.ref b] s) (F0 m 2115 ls [])) : W p l e room_1 s m #[Value.ref b] below meth c H locs cells slots (lw_Z below #[Value.ref b] s) (F0 m 1554 ls []) := by
  obtain ⟨hx, hb, hr, hml, hown, hts0, hX, hbl, hlocks, hgv⟩ := id C0
  have hts : ∀ w ∈ wsL_law, w.before #[Value.ref b] s = true := fun w h => hts0 w (wsL_law_in w h)
  have hA : ∀ q : Nat, s.heap.size ≤ q → (fun q : Nat => s.heap.size ≤ q) q := fun _ h => h
  have hAB : ∀ q : Nat, (fun q : Nat => s.heap.size ≤ q) q → G.1 ≤ q := fun q h => by rw [hG]; exact h
  have hG1 : G.1 ≤ s.heap.size := by rw [hG]; exact Nat.le_refl _
  have hbA : ¬ (fun q : Nat => s.heap.size ≤ q) b := Nat.not_le.mpr hbl
  refine lv_aload_n hx hb dL_law_1554 rfl (lv_at hl 1 rfl) ?_
  refine lv_aload_n hx hb dL_law_1555 rfl (lv_at hl 0 rfl) ?_
  refine lv_iload_n hx hb dL_law_1556 rfl (lv_at hl 3 rfl) ?_
  refine lv_iconst (v := 1) hx hb dL_law_1557 (by decide) ?_
  obtain ⟨t_1, et_1⟩ : ∃ v9 : Int32, i3 + 1 = v9 := ⟨_, rfl⟩
  refine z_iadd (v := t_1) hx hb dL_law_1558 et_1 ?_
  have b_i3 := i32b i3
  have ft_1 : t_1.toInt = i3.toInt + 1 := addT (a := i3.toInt) (b := 1) rfl (by decide) et_1 (by omega) (by omega)
  obtain ⟨t_2, et_2⟩ : ∃ v9 : Int32, xs (t_1 : Int32).toNatClampNeg = v9 := ⟨_, rfl⟩
  refine va_sld hx hb hX hbl hbA hS (vin_nat (by omega) (by omega)) dL_law_1559 ?_
  rw [et_2]
  refine lv_aload_n hx hb dL_law_1560 rfl (lv_at hl 0 rfl) ?_
  refine lv_iload_n hx hb dL_law_1561 rfl (lv_at hl 3 rfl) ?_
  refine lv_iconst (v := 2) hx hb dL_law_1562 (by decide) ?_
  obtain ⟨t_3, et_3⟩ : ∃ v9 : Int32, i3 + 2 = v9 := ⟨_, rfl⟩
  refine z_iadd (v := t_3) hx hb dL_law_1563 et_3 ?_
  have ft_3 : t_3.toInt = i3.toInt + 2 := addT (a := i3.toInt) (b := 2) rfl (by decide) et_3 (by omega) (by omega)
  obtain ⟨t_4, et_4⟩ : ∃ v9 : Int32, xs (t_3 : Int32).toNatClampNeg = v9 := ⟨_, rfl⟩
  refine va_sld hx hb hX hbl hbA hS (vin_nat (by omega) (by omega)) dL_law_1564 ?_
  rw [et_4]
  refine laAri (As := [.int t_2, .int t_4]) (rest := []) (wa := xL cB cI cJ cZ cS cT x0 A V) (wb := mL cB cI cJ cZ cS cT m0 B U) ⟨hx, hb, hml, hown, hts⟩ (f_X11_sounds l G D cB cI cJ cZ cS cT x0 A V ok t_2 t_4) hP hD hS hA hK hN hT hAB hG1 (cvB (n := 2) (inr63 _ (List.mem_of_getElem? (i := 5) rfl)) (inr63 _ (List.mem_of_getElem? (i := 6) rfl)) (inr63 _ (List.mem_of_getElem? (i := 7) rfl)) (inr1 _ (List.mem_of_getElem? (i := 2) rfl)) (inr63 _ (List.mem_of_getElem? (i := 8) rfl)) (by decide +kernel) hts rfl rfl ⟨Nat.le_of_ble_eq_true rfl, Nat.le_of_ble_eq_true rfl⟩) 0 11 rfl rfl rfl rfl hl.1 rfl (Nat.le_of_ble_eq_true rfl) ⟨hcc, hss⟩ dL_law_1565 (fun r_5 h_6 => ?_)
  refine lv_pop hx hb dL_law_1568 rfl ?_
  refine lv_aload_n hx hb dL_law_1569 rfl (lv_at hl 2 rfl) ?_
  refine lv_aload_n hx hb dL_law_1570 rfl (lv_at hl 0 rfl) ?_
  refine lv_iload_n hx hb dL_law_1571 rfl (lv_at hl 3 rfl) ?_
  refine lv_iconst (v := 1) hx hb dL_law_1572 (by decide) ?_
  refine z_iadd (v := t_1) hx hb dL_law_1573 et_1 ?_
  refine va_sld hx hb hX hbl hbA hS (vin_nat (by omega) (by omega)) dL_law_1574 ?_
  rw [et_2]
  refine lv_aload_n hx hb dL_law_1575 rfl (lv_at hl 0 rfl) ?_
  refine lv_iload_n hx hb dL_law_1576 rfl (lv_at hl 3 rfl) ?_
  refine lv_iconst (v := 2) hx hb dL_law_1577 (by decide) ?_
  refine z_iadd (v := t_3) hx hb dL_law_1578 et_3 ?_
  refine va_sld hx hb hX hbl hbA hS (vin_nat (by omega) (by omega)) dL_law_1579 ?_
  rw [et_4]
  refine laBri (As := [.int t_2, .int t_4]) (rest := []) (wa := xL cB cI cJ cZ cS cT x0 A V) (wb := mL cB cI cJ cZ cS cT m0 B U) ⟨hx, hb, hml, hown, hts⟩ (f_X12_sounds l G D cB cI cJ cZ cS cT m0 B U okm t_2 t_4) hP hD hS hA hK hN hT hAB hG1 (cvB (n := 2) (inr63 _ (List.mem_of_getElem? (i := 9) rfl)) (inr63 _ (List.mem_of_getElem? (i := 10) rfl)) (inr63 _ (List.mem_of_getElem? (i := 11) rfl)) (inr1 _ (List.mem_of_getElem? (i := 5) rfl)) (inr63 _ (List.mem_of_getElem? (i := 12) rfl)) (by decide +kernel) hts rfl rfl ⟨Nat.le_of_ble_eq_true rfl, Nat.le_of_ble_eq_true rfl⟩) 0 12 rfl rfl rfl rfl hl.1 rfl (Nat.le_of_ble_eq_true rfl) ⟨hcc, hss⟩ dL_law_1580 (fun r_7 h_8 => ?_)
  refine lv_pop hx hb dL_law_1583 rfl ?_
  refine lv_goto (tgt := 2115) hx hb dL_law_1584 (by decide) ?_
  exact K V U H locs ls ok okm trivial hP hD hS (lv_sub hl [0, 1, 2, 3] rfl)

set_option maxHeartbeats 4000000 in
set_option maxRecDepth 100000 in
theorem law_55 {p : Program} {l : Launch} {e : Env} {s : State} {m : MethodId} {below : List Frame} {meth : Method} {c : Code} {G : Gho} {D : va_G} {cB cI cJ cZ cS cT : ClassId} {b L : Nat} {xs : Nat → Int32} {x0 m0 : Nat} {A B : Nat → Nat} {cells slots : Nat} (hL : L ≤ 3072) (C0 : lw_At p s m meth c b L xs) (hK : va_K D vwCl (tyL cB cI cJ cZ cS cT) s) (hN : kN s) (hT : kT G s s.heap) (hG : G.1 = s.heap.size) (hcc : cells ≤ 600000) (hss : slots ≤ 7302249) {H : Heap} {locs : List Loc} {ls : Array Slot} (V U : VX) (ok : xok V) (okm : mok U) (rel : True) (i3 : Int32) (hi : 0 ≤ i3.toInt ∧ i3.toInt + 6 ≤ (L : Int)) (hP : va_P D vwCl (xL cB cI cJ cZ cS cT x0 A V ++ mL cB cI cJ cZ cS cT m0 B U) H) (hD : va_D (fun q : Nat => s.heap.size ≤ q) (xL cB cI cJ cZ cS cT x0 A V ++ mL cB cI cJ cZ cS cT m0 B U)) (hS : va_S (fun q : Nat => s.heap.size ≤ q) s.heap H locs) (hl : lv_has ls 4 [(0, .ref b), (1, .ref x0), (2, .ref m0), (3, .int i3)]) (K : ∀ (V U : VX) (H : Heap) (locs : List Loc) (ls : Array Slot), xok V → mok U → True → va_P D vwCl (xL cB cI cJ cZ cS cT x0 A V ++ mL cB cI cJ cZ cS cT m0 B U) H → va_D (fun q : Nat => s.heap.size ≤ q) (xL cB cI cJ cZ cS cT x0 A V ++ mL cB cI cJ cZ cS cT m0 B U) → va_S (fun q : Nat => s.heap.size ≤ q) s.heap H locs → lv_has ls 4 [(0, .ref b), (1, .ref x0), (2, .ref m0), (3, .int i3)] → W p l e room_1 s m #[Value.ref b] below meth c H locs cells slots (lw_Z below #[Value.ref b] s) (F0 m 2115 ls [])) : W p l e room_1 s m #[Value.ref b] below meth c H locs cells slots (lw_Z below #[Value.ref b] s) (F0 m 1587 ls []) := by
  obtain ⟨hx, hb, hr, hml, hown, hts0, hX, hbl, hlocks, hgv⟩ := id C0
  have hts : ∀ w ∈ wsL_law, w.before #[Value.ref b] s = true := fun w h => hts0 w (wsL_law_in w h)
  have hA : ∀ q : Nat, s.heap.size ≤ q → (fun q : Nat => s.heap.size ≤ q) q := fun _ h => h
  have hAB : ∀ q : Nat, (fun q : Nat => s.heap.size ≤ q) q → G.1 ≤ q := fun q h => by rw [hG]; exact h
  have hG1 : G.1 ≤ s.heap.size := by rw [hG]; exact Nat.le_refl _
  have hbA : ¬ (fun q : Nat => s.heap.size ≤ q) b := Nat.not_le.mpr hbl
  refine lv_aload_n hx hb dL_law_1587 rfl (lv_at hl 1 rfl) ?_
  refine lv_aload_n hx hb dL_law_1588 rfl (lv_at hl 0 rfl) ?_
  refine lv_iload_n hx hb dL_law_1589 rfl (lv_at hl 3 rfl) ?_
  refine lv_iconst (v := 1) hx hb dL_law_1590 (by decide) ?_
  obtain ⟨t_1, et_1⟩ : ∃ v9 : Int32, i3 + 1 = v9 := ⟨_, rfl⟩
  refine z_iadd (v := t_1) hx hb dL_law_1591 et_1 ?_
  have b_i3 := i32b i3
  have ft_1 : t_1.toInt = i3.toInt + 1 := addT (a := i3.toInt) (b := 1) rfl (by decide) et_1 (by omega) (by omega)
  obtain ⟨t_2, et_2⟩ : ∃ v9 : Int32, xs (t_1 : Int32).toNatClampNeg = v9 := ⟨_, rfl⟩
  refine va_sld hx hb hX hbl hbA hS (vin_nat (by omega) (by omega)) dL_law_1592 ?_
  rw [et_2]
  refine laAri (As := [.int t_2]) (rest := []) (wa := xL cB cI cJ cZ cS cT x0 A V) (wb := mL cB cI cJ cZ cS cT m0 B U) ⟨hx, hb, hml, hown, hts⟩ (f_X11_best l G D cB cI cJ cZ cS cT x0 A V ok t_2) hP hD hS hA hK hN hT hAB hG1 (cvB (n := 1) (inr63 _ (List.mem_of_getElem? (i := 13) rfl)) (inr63 _ (List.mem_of_getElem? (i := 14) rfl)) (inr63 _ (List.mem_of_getElem? (i := 15) rfl)) (inr1 _ (List.mem_of_getElem? (i := 2) rfl)) (inr63 _ (List.mem_of_getElem? (i := 16) rfl)) (by decide +kernel) hts rfl rfl ⟨Nat.le_of_ble_eq_true rfl, Nat.le_of_ble_eq_true rfl⟩) 0 11 rfl rfl rfl rfl hl.1 rfl (Nat.le_of_ble_eq_true rfl) ⟨hcc, hss⟩ dL_law_1593 (fun r_3 h_4 => ?_)
  refine lv_pop hx hb dL_law_1596 rfl ?_
  refine lv_aload_n hx hb dL_law_1597 rfl (lv_at hl 2 rfl) ?_
  refine lv_aload_n hx hb dL_law_1598 rfl (lv_at hl 0 rfl) ?_
  refine lv_iload_n hx hb dL_law_1599 rfl (lv_at hl 3 rfl) ?_
  refine lv_iconst (v := 1) hx hb dL_law_1600 (by decide) ?_
  refine z_iadd (v := t_1) hx hb dL_law_1601 et_1 ?_
  refine va_sld hx hb hX hbl hbA hS (vin_nat (by omega) (by omega)) dL_law_1602 ?_
  rw [et_2]
  refine laBri (As := [.int t_2]) (rest := []) (wa := xL cB cI cJ cZ cS cT x0 A V) (wb := mL cB cI cJ cZ cS cT m0 B U) ⟨hx, hb, hml, hown, hts⟩ (f_X12_best l G D cB cI cJ cZ cS cT m0 B U okm t_2) hP hD hS hA hK hN hT hAB hG1 (cvB (n := 1) (inr63 _ (List.mem_of_getElem? (i := 17) rfl)) (inr63 _ (List.mem_of_getElem? (i := 18) rfl)) (inr63 _ (List.mem_of_getElem? (i := 19) rfl)) (inr1 _ (List.mem_of_getElem? (i := 5) rfl)) (inr63 _ (List.mem_of_getElem? (i := 20) rfl)) (by decide +kernel) hts rfl rfl ⟨Nat.le_of_ble_eq_true rfl, Nat.le_of_ble_eq_true rfl⟩) 0 12 rfl rfl rfl rfl hl.1 rfl (Nat.le_of_ble_eq_true rfl) ⟨hcc, hss⟩ dL_law_1603 (fun r_5 h_6 => ?_)
  refine lv_pop hx hb dL_law_1606 rfl ?_
  refine lv_goto (tgt := 2115) hx hb dL_law_1607 (by decide) ?_
  exact K V U H locs ls ok okm trivial hP hD hS (lv_sub hl [0, 1, 2, 3] rfl)

set_option maxHeartbeats 4000000 in
set_option maxRecDepth 100000 in
theorem law_56 {p : Program} {l : Launch} {e : Env} {s : State} {m : MethodId} {below : List Frame} {meth : Method} {c : Code} {G : Gho} {D : va_G} {cB cI cJ cZ cS cT : ClassId} {b L : Nat} {xs : Nat → Int32} {x0 m0 : Nat} {A B : Nat → Nat} {cells slots : Nat} (hL : L ≤ 3072) (C0 : lw_At p s m meth c b L xs) (hK : va_K D vwCl (tyL cB cI cJ cZ cS cT) s) (hN : kN s) (hT : kT G s s.heap) (hG : G.1 = s.heap.size) (hcc : cells ≤ 600000) (hss : slots ≤ 7302249) {H : Heap} {locs : List Loc} {ls : Array Slot} (V U : VX) (ok : xok V) (okm : mok U) (rel : True) (i3 : Int32) (hi : 0 ≤ i3.toInt ∧ i3.toInt + 6 ≤ (L : Int)) (hP : va_P D vwCl (xL cB cI cJ cZ cS cT x0 A V ++ mL cB cI cJ cZ cS cT m0 B U) H) (hD : va_D (fun q : Nat => s.heap.size ≤ q) (xL cB cI cJ cZ cS cT x0 A V ++ mL cB cI cJ cZ cS cT m0 B U)) (hS : va_S (fun q : Nat => s.heap.size ≤ q) s.heap H locs) (hl : lv_has ls 4 [(0, .ref b), (1, .ref x0), (2, .ref m0), (3, .int i3)]) (K : ∀ (V U : VX) (H : Heap) (locs : List Loc) (ls : Array Slot), xok V → mok U → True → va_P D vwCl (xL cB cI cJ cZ cS cT x0 A V ++ mL cB cI cJ cZ cS cT m0 B U) H → va_D (fun q : Nat => s.heap.size ≤ q) (xL cB cI cJ cZ cS cT x0 A V ++ mL cB cI cJ cZ cS cT m0 B U) → va_S (fun q : Nat => s.heap.size ≤ q) s.heap H locs → lv_has ls 4 [(0, .ref b), (1, .ref x0), (2, .ref m0), (3, .int i3)] → W p l e room_1 s m #[Value.ref b] below meth c H locs cells slots (lw_Z below #[Value.ref b] s) (F0 m 2115 ls [])) : W p l e room_1 s m #[Value.ref b] below meth c H locs cells slots (lw_Z below #[Value.ref b] s) (F0 m 1610 ls []) := by
  obtain ⟨hx, hb, hr, hml, hown, hts0, hX, hbl, hlocks, hgv⟩ := id C0
  have hts : ∀ w ∈ wsL_law, w.before #[Value.ref b] s = true := fun w h => hts0 w (wsL_law_in w h)
  have hA : ∀ q : Nat, s.heap.size ≤ q → (fun q : Nat => s.heap.size ≤ q) q := fun _ h => h
  have hAB : ∀ q : Nat, (fun q : Nat => s.heap.size ≤ q) q → G.1 ≤ q := fun q h => by rw [hG]; exact h
  have hG1 : G.1 ≤ s.heap.size := by rw [hG]; exact Nat.le_refl _
  have hbA : ¬ (fun q : Nat => s.heap.size ≤ q) b := Nat.not_le.mpr hbl
  refine lv_aload_n hx hb dL_law_1610 rfl (lv_at hl 1 rfl) ?_
  refine lv_aload_n hx hb dL_law_1611 rfl (lv_at hl 0 rfl) ?_
  refine lv_iload_n hx hb dL_law_1612 rfl (lv_at hl 3 rfl) ?_
  refine lv_iconst (v := 1) hx hb dL_law_1613 (by decide) ?_
  obtain ⟨t_1, et_1⟩ : ∃ v9 : Int32, i3 + 1 = v9 := ⟨_, rfl⟩
  refine z_iadd (v := t_1) hx hb dL_law_1614 et_1 ?_
  have b_i3 := i32b i3
  have ft_1 : t_1.toInt = i3.toInt + 1 := addT (a := i3.toInt) (b := 1) rfl (by decide) et_1 (by omega) (by omega)
  obtain ⟨t_2, et_2⟩ : ∃ v9 : Int32, xs (t_1 : Int32).toNatClampNeg = v9 := ⟨_, rfl⟩
  refine va_sld hx hb hX hbl hbA hS (vin_nat (by omega) (by omega)) dL_law_1615 ?_
  rw [et_2]
  refine lv_aload_n hx hb dL_law_1616 rfl (lv_at hl 0 rfl) ?_
  refine lv_iload_n hx hb dL_law_1617 rfl (lv_at hl 3 rfl) ?_
  refine lv_iconst (v := 2) hx hb dL_law_1618 (by decide) ?_
  obtain ⟨t_3, et_3⟩ : ∃ v9 : Int32, i3 + 2 = v9 := ⟨_, rfl⟩
  refine z_iadd (v := t_3) hx hb dL_law_1619 et_3 ?_
  have ft_3 : t_3.toInt = i3.toInt + 2 := addT (a := i3.toInt) (b := 2) rfl (by decide) et_3 (by omega) (by omega)
  obtain ⟨t_4, et_4⟩ : ∃ v9 : Int32, xs (t_3 : Int32).toNatClampNeg = v9 := ⟨_, rfl⟩
  refine va_sld hx hb hX hbl hbA hS (vin_nat (by omega) (by omega)) dL_law_1620 ?_
  rw [et_4]
  refine laArl (As := [.int t_2, .int t_4]) (rest := []) (wa := xL cB cI cJ cZ cS cT x0 A V) (wb := mL cB cI cJ cZ cS cT m0 B U) ⟨hx, hb, hml, hown, hts⟩ (f_X11_chance l G D cB cI cJ cZ cS cT x0 A V ok t_2 t_4) hP hD hS hA hK hN hT hAB hG1 (cvB (n := 2) (inr63 _ (List.mem_of_getElem? (i := 21) rfl)) (inr63 _ (List.mem_of_getElem? (i := 22) rfl)) (inr63 _ (List.mem_of_getElem? (i := 23) rfl)) (inr1 _ (List.mem_of_getElem? (i := 2) rfl)) (inr64 _ (List.mem_of_getElem? (i := 0) rfl)) (by decide +kernel) hts rfl rfl ⟨Nat.le_of_ble_eq_true rfl, Nat.le_of_ble_eq_true rfl⟩) 0 11 rfl rfl rfl rfl hl.1 rfl (Nat.le_of_ble_eq_true rfl) ⟨hcc, hss⟩ dL_law_1621 (fun r_5 h_6 => ?_)
  refine lv_pop2_2 hx hb dL_law_1624 rfl ?_
  refine lv_aload_n hx hb dL_law_1625 rfl (lv_at hl 2 rfl) ?_
  refine lv_aload_n hx hb dL_law_1626 rfl (lv_at hl 0 rfl) ?_
  refine lv_iload_n hx hb dL_law_1627 rfl (lv_at hl 3 rfl) ?_
  refine lv_iconst (v := 1) hx hb dL_law_1628 (by decide) ?_
  refine z_iadd (v := t_1) hx hb dL_law_1629 et_1 ?_
  refine va_sld hx hb hX hbl hbA hS (vin_nat (by omega) (by omega)) dL_law_1630 ?_
  rw [et_2]
  refine lv_aload_n hx hb dL_law_1631 rfl (lv_at hl 0 rfl) ?_
  refine lv_iload_n hx hb dL_law_1632 rfl (lv_at hl 3 rfl) ?_
  refine lv_iconst (v := 2) hx hb dL_law_1633 (by decide) ?_
  refine z_iadd (v := t_3) hx hb dL_law_1634 et_3 ?_
  refine va_sld hx hb hX hbl hbA hS (vin_nat (by omega) (by omega)) dL_law_1635 ?_
  rw [et_4]
  refine laBl (As := [.int t_2, .int t_4]) (rest := []) (wa := xL cB cI cJ cZ cS cT x0 A V) (wb := mL cB cI cJ cZ cS cT m0 B U) ⟨hx, hb, hml, hown, hts⟩ (f_X12_chance l G D cB cI cJ cZ cS cT H.size m0 B U okm t_2 t_4) hP hD hS hA hK hN hT hAB hG1 (cvB (n := 2) (inr64 _ (List.mem_of_getElem? (i := 18) rfl)) (inr64 _ (List.mem_of_getElem? (i := 19) rfl)) (inr64 _ (List.mem_of_getElem? (i := 20) rfl)) (inr1 _ (List.mem_of_getElem? (i := 5) rfl)) (inr64 _ (List.mem_of_getElem? (i := 21) rfl)) (by decide +kernel) hts rfl rfl ⟨Nat.le_of_ble_eq_true rfl, Nat.le_of_ble_eq_true rfl⟩) 0 12 rfl rfl rfl rfl hl.1 rfl (Nat.le_of_ble_eq_true rfl) ⟨hcc, hss⟩ dL_law_1636 (fun r_7 U_9 H locs h_8 hP hD hS => ?_)
  refine lv_pop2_2 hx hb dL_law_1639 rfl ?_
  refine lv_goto (tgt := 2115) hx hb dL_law_1640 (by decide) ?_
  exact K V U_9 H locs ls ok h_8 trivial hP hD hS (lv_sub hl [0, 1, 2, 3] rfl)

set_option maxHeartbeats 4000000 in
set_option maxRecDepth 100000 in
theorem law_57 {p : Program} {l : Launch} {e : Env} {s : State} {m : MethodId} {below : List Frame} {meth : Method} {c : Code} {G : Gho} {D : va_G} {cB cI cJ cZ cS cT : ClassId} {b L : Nat} {xs : Nat → Int32} {x0 m0 : Nat} {A B : Nat → Nat} {cells slots : Nat} (hL : L ≤ 3072) (C0 : lw_At p s m meth c b L xs) (hK : va_K D vwCl (tyL cB cI cJ cZ cS cT) s) (hN : kN s) (hT : kT G s s.heap) (hG : G.1 = s.heap.size) (hcc : cells ≤ 600000) (hss : slots ≤ 7302249) {H : Heap} {locs : List Loc} {ls : Array Slot} (V U : VX) (ok : xok V) (okm : mok U) (rel : True) (i3 : Int32) (hi : 0 ≤ i3.toInt ∧ i3.toInt + 6 ≤ (L : Int)) (hP : va_P D vwCl (xL cB cI cJ cZ cS cT x0 A V ++ mL cB cI cJ cZ cS cT m0 B U) H) (hD : va_D (fun q : Nat => s.heap.size ≤ q) (xL cB cI cJ cZ cS cT x0 A V ++ mL cB cI cJ cZ cS cT m0 B U)) (hS : va_S (fun q : Nat => s.heap.size ≤ q) s.heap H locs) (hl : lv_has ls 4 [(0, .ref b), (1, .ref x0), (2, .ref m0), (3, .int i3)]) (K : ∀ (V U : VX) (H : Heap) (locs : List Loc) (ls : Array Slot), xok V → mok U → True → va_P D vwCl (xL cB cI cJ cZ cS cT x0 A V ++ mL cB cI cJ cZ cS cT m0 B U) H → va_D (fun q : Nat => s.heap.size ≤ q) (xL cB cI cJ cZ cS cT x0 A V ++ mL cB cI cJ cZ cS cT m0 B U) → va_S (fun q : Nat => s.heap.size ≤ q) s.heap H locs → lv_has ls 4 [(0, .ref b), (1, .ref x0), (2, .ref m0), (3, .int i3)] → W p l e room_1 s m #[Value.ref b] below meth c H locs cells slots (lw_Z below #[Value.ref b] s) (F0 m 2115 ls [])) : W p l e room_1 s m #[Value.ref b] below meth c H locs cells slots (lw_Z below #[Value.ref b] s) (F0 m 1643 ls []) := by
  obtain ⟨hx, hb, hr, hml, hown, hts0, hX, hbl, hlocks, hgv⟩ := id C0
  have hts : ∀ w ∈ wsL_law, w.before #[Value.ref b] s = true := fun w h => hts0 w (wsL_law_in w h)
  have hA : ∀ q : Nat, s.heap.size ≤ q → (fun q : Nat => s.heap.size ≤ q) q := fun _ h => h
  have hAB : ∀ q : Nat, (fun q : Nat => s.heap.size ≤ q) q → G.1 ≤ q := fun q h => by rw [hG]; exact h
  have hG1 : G.1 ≤ s.heap.size := by rw [hG]; exact Nat.le_refl _
  have hbA : ¬ (fun q : Nat => s.heap.size ≤ q) b := Nat.not_le.mpr hbl
  refine lv_aload_n hx hb dL_law_1643 rfl (lv_at hl 1 rfl) ?_
  refine lv_aload_n hx hb dL_law_1644 rfl (lv_at hl 0 rfl) ?_
  refine lv_iload_n hx hb dL_law_1645 rfl (lv_at hl 3 rfl) ?_
  refine lv_iconst (v := 1) hx hb dL_law_1646 (by decide) ?_
  obtain ⟨t_1, et_1⟩ : ∃ v9 : Int32, i3 + 1 = v9 := ⟨_, rfl⟩
  refine z_iadd (v := t_1) hx hb dL_law_1647 et_1 ?_
  have b_i3 := i32b i3
  have ft_1 : t_1.toInt = i3.toInt + 1 := addT (a := i3.toInt) (b := 1) rfl (by decide) et_1 (by omega) (by omega)
  obtain ⟨t_2, et_2⟩ : ∃ v9 : Int32, xs (t_1 : Int32).toNatClampNeg = v9 := ⟨_, rfl⟩
  refine va_sld hx hb hX hbl hbA hS (vin_nat (by omega) (by omega)) dL_law_1648 ?_
  rw [et_2]
  refine laAri (As := [.int t_2]) (rest := []) (wa := xL cB cI cJ cZ cS cT x0 A V) (wb := mL cB cI cJ cZ cS cT m0 B U) ⟨hx, hb, hml, hown, hts⟩ (f_X11_sure l G D cB cI cJ cZ cS cT x0 A V ok t_2) hP hD hS hA hK hN hT hAB hG1 (cvB (n := 1) (inr65 _ (List.mem_of_getElem? (i := 10) rfl)) (inr65 _ (List.mem_of_getElem? (i := 11) rfl)) (inr65 _ (List.mem_of_getElem? (i := 12) rfl)) (inr1 _ (List.mem_of_getElem? (i := 2) rfl)) (inr65 _ (List.mem_of_getElem? (i := 13) rfl)) (by decide +kernel) hts rfl rfl ⟨Nat.le_of_ble_eq_true rfl, Nat.le_of_ble_eq_true rfl⟩) 0 11 rfl rfl rfl rfl hl.1 rfl (Nat.le_of_ble_eq_true rfl) ⟨hcc, hss⟩ dL_law_1649 (fun r_3 h_4 => ?_)
  refine lv_pop hx hb dL_law_1652 rfl ?_
  refine lv_aload_n hx hb dL_law_1653 rfl (lv_at hl 2 rfl) ?_
  refine lv_aload_n hx hb dL_law_1654 rfl (lv_at hl 0 rfl) ?_
  refine lv_iload_n hx hb dL_law_1655 rfl (lv_at hl 3 rfl) ?_
  refine lv_iconst (v := 1) hx hb dL_law_1656 (by decide) ?_
  refine z_iadd (v := t_1) hx hb dL_law_1657 et_1 ?_
  refine va_sld hx hb hX hbl hbA hS (vin_nat (by omega) (by omega)) dL_law_1658 ?_
  rw [et_2]
  refine laBi (As := [.int t_2]) (rest := []) (wa := xL cB cI cJ cZ cS cT x0 A V) (wb := mL cB cI cJ cZ cS cT m0 B U) ⟨hx, hb, hml, hown, hts⟩ (f_X12_sure l G D cB cI cJ cZ cS cT H.size m0 B U okm t_2) hP hD hS hA hK hN hT hAB hG1 (cvB (n := 1) (inr65 _ (List.mem_of_getElem? (i := 19) rfl)) (inr65 _ (List.mem_of_getElem? (i := 20) rfl)) (inr65 _ (List.mem_of_getElem? (i := 21) rfl)) (inr1 _ (List.mem_of_getElem? (i := 5) rfl)) (inr65 _ (List.mem_of_getElem? (i := 22) rfl)) (by decide +kernel) hts rfl rfl ⟨Nat.le_of_ble_eq_true rfl, Nat.le_of_ble_eq_true rfl⟩) 0 12 rfl rfl rfl rfl hl.1 rfl (Nat.le_of_ble_eq_true rfl) ⟨hcc, hss⟩ dL_law_1659 (fun r_5 U_7 H locs h_6 hP hD hS => ?_)
  refine lv_pop hx hb dL_law_1662 rfl ?_
  refine lv_goto (tgt := 2115) hx hb dL_law_1663 (by decide) ?_
  exact K V U_7 H locs ls ok h_6 trivial hP hD hS (lv_sub hl [0, 1, 2, 3] rfl)

set_option maxHeartbeats 4000000 in
set_option maxRecDepth 100000 in
theorem law_58 {p : Program} {l : Launch} {e : Env} {s : State} {m : MethodId} {below : List Frame} {meth : Method} {c : Code} {G : Gho} {D : va_G} {cB cI cJ cZ cS cT : ClassId} {b L : Nat} {xs : Nat → Int32} {x0 m0 : Nat} {A B : Nat → Nat} {cells slots : Nat} (hL : L ≤ 3072) (C0 : lw_At p s m meth c b L xs) (hK : va_K D vwCl (tyL cB cI cJ cZ cS cT) s) (hN : kN s) (hT : kT G s s.heap) (hG : G.1 = s.heap.size) (hcc : cells ≤ 600000) (hss : slots ≤ 7302249) {H : Heap} {locs : List Loc} {ls : Array Slot} (V U : VX) (ok : xok V) (okm : mok U) (rel : True) (i3 : Int32) (hi : 0 ≤ i3.toInt ∧ i3.toInt + 6 ≤ (L : Int)) (hP : va_P D vwCl (xL cB cI cJ cZ cS cT x0 A V ++ mL cB cI cJ cZ cS cT m0 B U) H) (hD : va_D (fun q : Nat => s.heap.size ≤ q) (xL cB cI cJ cZ cS cT x0 A V ++ mL cB cI cJ cZ cS cT m0 B U)) (hS : va_S (fun q : Nat => s.heap.size ≤ q) s.heap H locs) (hl : lv_has ls 4 [(0, .ref b), (1, .ref x0), (2, .ref m0), (3, .int i3)]) (K : ∀ (V U : VX) (H : Heap) (locs : List Loc) (ls : Array Slot), xok V → mok U → True → va_P D vwCl (xL cB cI cJ cZ cS cT x0 A V ++ mL cB cI cJ cZ cS cT m0 B U) H → va_D (fun q : Nat => s.heap.size ≤ q) (xL cB cI cJ cZ cS cT x0 A V ++ mL cB cI cJ cZ cS cT m0 B U) → va_S (fun q : Nat => s.heap.size ≤ q) s.heap H locs → lv_has ls 4 [(0, .ref b), (1, .ref x0), (2, .ref m0), (3, .int i3)] → W p l e room_1 s m #[Value.ref b] below meth c H locs cells slots (lw_Z below #[Value.ref b] s) (F0 m 2115 ls [])) : W p l e room_1 s m #[Value.ref b] below meth c H locs cells slots (lw_Z below #[Value.ref b] s) (F0 m 1666 ls []) := by
  obtain ⟨hx, hb, hr, hml, hown, hts0, hX, hbl, hlocks, hgv⟩ := id C0
  have hts : ∀ w ∈ wsL_law, w.before #[Value.ref b] s = true := fun w h => hts0 w (wsL_law_in w h)
  have hA : ∀ q : Nat, s.heap.size ≤ q → (fun q : Nat => s.heap.size ≤ q) q := fun _ h => h
  have hAB : ∀ q : Nat, (fun q : Nat => s.heap.size ≤ q) q → G.1 ≤ q := fun q h => by rw [hG]; exact h
  have hG1 : G.1 ≤ s.heap.size := by rw [hG]; exact Nat.le_refl _
  have hbA : ¬ (fun q : Nat => s.heap.size ≤ q) b := Nat.not_le.mpr hbl
  refine lv_aload_n hx hb dL_law_1666 rfl (lv_at hl 1 rfl) ?_
  refine lv_aload_n hx hb dL_law_1667 rfl (lv_at hl 0 rfl) ?_
  refine lv_iload_n hx hb dL_law_1668 rfl (lv_at hl 3 rfl) ?_
  refine lv_iconst (v := 1) hx hb dL_law_1669 (by decide) ?_
  obtain ⟨t_1, et_1⟩ : ∃ v9 : Int32, i3 + 1 = v9 := ⟨_, rfl⟩
  refine z_iadd (v := t_1) hx hb dL_law_1670 et_1 ?_
  have b_i3 := i32b i3
  have ft_1 : t_1.toInt = i3.toInt + 1 := addT (a := i3.toInt) (b := 1) rfl (by decide) et_1 (by omega) (by omega)
  obtain ⟨t_2, et_2⟩ : ∃ v9 : Int32, xs (t_1 : Int32).toNatClampNeg = v9 := ⟨_, rfl⟩
  refine va_sld hx hb hX hbl hbA hS (vin_nat (by omega) (by omega)) dL_law_1671 ?_
  rw [et_2]
  refine lv_aload_n hx hb dL_law_1672 rfl (lv_at hl 0 rfl) ?_
  refine lv_iload_n hx hb dL_law_1673 rfl (lv_at hl 3 rfl) ?_
  refine lv_iconst (v := 2) hx hb dL_law_1674 (by decide) ?_
  obtain ⟨t_3, et_3⟩ : ∃ v9 : Int32, i3 + 2 = v9 := ⟨_, rfl⟩
  refine z_iadd (v := t_3) hx hb dL_law_1675 et_3 ?_
  have ft_3 : t_3.toInt = i3.toInt + 2 := addT (a := i3.toInt) (b := 2) rfl (by decide) et_3 (by omega) (by omega)
  obtain ⟨t_4, et_4⟩ : ∃ v9 : Int32, xs (t_3 : Int32).toNatClampNeg = v9 := ⟨_, rfl⟩
  refine va_sld hx hb hX hbl hbA hS (vin_nat (by omega) (by omega)) dL_law_1676 ?_
  rw [et_4]
  refine laAi (As := [.int t_2, .int t_4]) (rest := []) (wa := xL cB cI cJ cZ cS cT x0 A V) (wb := mL cB cI cJ cZ cS cT m0 B U) ⟨hx, hb, hml, hown, hts⟩ (f_X11_speak l G D cB cI cJ cZ cS cT H.size x0 A V ok t_2 t_4) hP hD hS hA hK hN hT hAB hG1 (cvB (n := 2) (inr66 _ (List.mem_of_getElem? (i := 4) rfl)) (inr66 _ (List.mem_of_getElem? (i := 5) rfl)) (inr66 _ (List.mem_of_getElem? (i := 6) rfl)) (inr1 _ (List.mem_of_getElem? (i := 2) rfl)) (inr66 _ (List.mem_of_getElem? (i := 7) rfl)) (by decide +kernel) hts rfl rfl ⟨Nat.le_of_ble_eq_true rfl, Nat.le_of_ble_eq_true rfl⟩) 0 11 rfl rfl rfl rfl hl.1 rfl (Nat.le_of_ble_eq_true rfl) ⟨hcc, hss⟩ dL_law_1677 (fun r_5 V_7 H locs h_6 hP hD hS => ?_)
  refine lv_pop hx hb dL_law_1680 rfl ?_
  refine lv_aload_n hx hb dL_law_1681 rfl (lv_at hl 2 rfl) ?_
  refine lv_aload_n hx hb dL_law_1682 rfl (lv_at hl 0 rfl) ?_
  refine lv_iload_n hx hb dL_law_1683 rfl (lv_at hl 3 rfl) ?_
  refine lv_iconst (v := 1) hx hb dL_law_1684 (by decide) ?_
  refine z_iadd (v := t_1) hx hb dL_law_1685 et_1 ?_
  refine va_sld hx hb hX hbl hbA hS (vin_nat (by omega) (by omega)) dL_law_1686 ?_
  rw [et_2]
  refine lv_aload_n hx hb dL_law_1687 rfl (lv_at hl 0 rfl) ?_
  refine lv_iload_n hx hb dL_law_1688 rfl (lv_at hl 3 rfl) ?_
  refine lv_iconst (v := 2) hx hb dL_law_1689 (by decide) ?_
  refine z_iadd (v := t_3) hx hb dL_law_1690 et_3 ?_
  refine va_sld hx hb hX hbl hbA hS (vin_nat (by omega) (by omega)) dL_law_1691 ?_
  rw [et_4]
  refine laBi (As := [.int t_2, .int t_4]) (rest := []) (wa := xL cB cI cJ cZ cS cT x0 A V_7) (wb := mL cB cI cJ cZ cS cT m0 B U) ⟨hx, hb, hml, hown, hts⟩ (f_X12_speak l G D cB cI cJ cZ cS cT H.size m0 B U okm t_2 t_4) hP hD hS hA hK hN hT hAB hG1 (cvB (n := 2) (inr66 _ (List.mem_of_getElem? (i := 19) rfl)) (inr66 _ (List.mem_of_getElem? (i := 20) rfl)) (inr66 _ (List.mem_of_getElem? (i := 21) rfl)) (inr1 _ (List.mem_of_getElem? (i := 5) rfl)) (inr66 _ (List.mem_of_getElem? (i := 22) rfl)) (by decide +kernel) hts rfl rfl ⟨Nat.le_of_ble_eq_true rfl, Nat.le_of_ble_eq_true rfl⟩) 0 12 rfl rfl rfl rfl hl.1 rfl (Nat.le_of_ble_eq_true rfl) ⟨hcc, hss⟩ dL_law_1692 (fun r_9 U_11 H locs h_10 hP hD hS => ?_)
  refine lv_pop hx hb dL_law_1695 rfl ?_
  refine lv_goto (tgt := 2115) hx hb dL_law_1696 (by decide) ?_
  exact K V_7 U_11 H locs ls h_6 h_10 trivial hP hD hS (lv_sub hl [0, 1, 2, 3] rfl)

set_option maxHeartbeats 4000000 in
set_option maxRecDepth 100000 in
theorem law_59 {p : Program} {l : Launch} {e : Env} {s : State} {m : MethodId} {below : List Frame} {meth : Method} {c : Code} {G : Gho} {D : va_G} {cB cI cJ cZ cS cT : ClassId} {b L : Nat} {xs : Nat → Int32} {x0 m0 : Nat} {A B : Nat → Nat} {cells slots : Nat} (hL : L ≤ 3072) (C0 : lw_At p s m meth c b L xs) (hK : va_K D vwCl (tyL cB cI cJ cZ cS cT) s) (hN : kN s) (hT : kT G s s.heap) (hG : G.1 = s.heap.size) (hcc : cells ≤ 600000) (hss : slots ≤ 7302249) {H : Heap} {locs : List Loc} {ls : Array Slot} (V U : VX) (ok : xok V) (okm : mok U) (rel : True) (i3 : Int32) (hi : 0 ≤ i3.toInt ∧ i3.toInt + 6 ≤ (L : Int)) (hP : va_P D vwCl (xL cB cI cJ cZ cS cT x0 A V ++ mL cB cI cJ cZ cS cT m0 B U) H) (hD : va_D (fun q : Nat => s.heap.size ≤ q) (xL cB cI cJ cZ cS cT x0 A V ++ mL cB cI cJ cZ cS cT m0 B U)) (hS : va_S (fun q : Nat => s.heap.size ≤ q) s.heap H locs) (hl : lv_has ls 4 [(0, .ref b), (1, .ref x0), (2, .ref m0), (3, .int i3)]) (K : ∀ (V U : VX) (H : Heap) (locs : List Loc) (ls : Array Slot), xok V → mok U → True → va_P D vwCl (xL cB cI cJ cZ cS cT x0 A V ++ mL cB cI cJ cZ cS cT m0 B U) H → va_D (fun q : Nat => s.heap.size ≤ q) (xL cB cI cJ cZ cS cT x0 A V ++ mL cB cI cJ cZ cS cT m0 B U) → va_S (fun q : Nat => s.heap.size ≤ q) s.heap H locs → lv_has ls 4 [(0, .ref b), (1, .ref x0), (2, .ref m0), (3, .int i3)] → W p l e room_1 s m #[Value.ref b] below meth c H locs cells slots (lw_Z below #[Value.ref b] s) (F0 m 2115 ls [])) : W p l e room_1 s m #[Value.ref b] below meth c H locs cells slots (lw_Z below #[Value.ref b] s) (F0 m 1699 ls []) := by
  obtain ⟨hx, hb, hr, hml, hown, hts0, hX, hbl, hlocks, hgv⟩ := id C0
  have hts : ∀ w ∈ wsL_law, w.before #[Value.ref b] s = true := fun w h => hts0 w (wsL_law_in w h)
  have hA : ∀ q : Nat, s.heap.size ≤ q → (fun q : Nat => s.heap.size ≤ q) q := fun _ h => h
  have hAB : ∀ q : Nat, (fun q : Nat => s.heap.size ≤ q) q → G.1 ≤ q := fun q h => by rw [hG]; exact h
  have hG1 : G.1 ≤ s.heap.size := by rw [hG]; exact Nat.le_refl _
  have hbA : ¬ (fun q : Nat => s.heap.size ≤ q) b := Nat.not_le.mpr hbl
  refine lv_aload_n hx hb dL_law_1699 rfl (lv_at hl 1 rfl) ?_
  refine lv_aload_n hx hb dL_law_1700 rfl (lv_at hl 0 rfl) ?_
  refine lv_iload_n hx hb dL_law_1701 rfl (lv_at hl 3 rfl) ?_
  refine lv_iconst (v := 1) hx hb dL_law_1702 (by decide) ?_
  obtain ⟨t_1, et_1⟩ : ∃ v9 : Int32, i3 + 1 = v9 := ⟨_, rfl⟩
  refine z_iadd (v := t_1) hx hb dL_law_1703 et_1 ?_
  have b_i3 := i32b i3
  have ft_1 : t_1.toInt = i3.toInt + 1 := addT (a := i3.toInt) (b := 1) rfl (by decide) et_1 (by omega) (by omega)
  obtain ⟨t_2, et_2⟩ : ∃ v9 : Int32, xs (t_1 : Int32).toNatClampNeg = v9 := ⟨_, rfl⟩
  refine va_sld hx hb hX hbl hbA hS (vin_nat (by omega) (by omega)) dL_law_1704 ?_
  rw [et_2]
  refine laAri (As := [.int t_2]) (rest := []) (wa := xL cB cI cJ cZ cS cT x0 A V) (wb := mL cB cI cJ cZ cS cT m0 B U) ⟨hx, hb, hml, hown, hts⟩ (f_X11_spoken l G D cB cI cJ cZ cS cT x0 A V ok t_2) hP hD hS hA hK hN hT hAB hG1 (cvB (n := 1) (inr66 _ (List.mem_of_getElem? (i := 23) rfl)) (inr67 _ (List.mem_of_getElem? (i := 0) rfl)) (inr67 _ (List.mem_of_getElem? (i := 1) rfl)) (inr1 _ (List.mem_of_getElem? (i := 2) rfl)) (inr67 _ (List.mem_of_getElem? (i := 2) rfl)) (by decide +kernel) hts rfl rfl ⟨Nat.le_of_ble_eq_true rfl, Nat.le_of_ble_eq_true rfl⟩) 0 11 rfl rfl rfl rfl hl.1 rfl (Nat.le_of_ble_eq_true rfl) ⟨hcc, hss⟩ dL_law_1705 (fun r_3 h_4 => ?_)
  refine lv_pop hx hb dL_law_1708 rfl ?_
  refine lv_aload_n hx hb dL_law_1709 rfl (lv_at hl 2 rfl) ?_
  refine lv_aload_n hx hb dL_law_1710 rfl (lv_at hl 0 rfl) ?_
  refine lv_iload_n hx hb dL_law_1711 rfl (lv_at hl 3 rfl) ?_
  refine lv_iconst (v := 1) hx hb dL_law_1712 (by decide) ?_
  refine z_iadd (v := t_1) hx hb dL_law_1713 et_1 ?_
  refine va_sld hx hb hX hbl hbA hS (vin_nat (by omega) (by omega)) dL_law_1714 ?_
  rw [et_2]
  refine laBi (As := [.int t_2]) (rest := []) (wa := xL cB cI cJ cZ cS cT x0 A V) (wb := mL cB cI cJ cZ cS cT m0 B U) ⟨hx, hb, hml, hown, hts⟩ (f_X12_spoken l G D cB cI cJ cZ cS cT H.size m0 B U okm t_2) hP hD hS hA hK hN hT hAB hG1 (cvB (n := 1) (inr67 _ (List.mem_of_getElem? (i := 3) rfl)) (inr67 _ (List.mem_of_getElem? (i := 4) rfl)) (inr67 _ (List.mem_of_getElem? (i := 5) rfl)) (inr1 _ (List.mem_of_getElem? (i := 5) rfl)) (inr67 _ (List.mem_of_getElem? (i := 6) rfl)) (by decide +kernel) hts rfl rfl ⟨Nat.le_of_ble_eq_true rfl, Nat.le_of_ble_eq_true rfl⟩) 0 12 rfl rfl rfl rfl hl.1 rfl (Nat.le_of_ble_eq_true rfl) ⟨hcc, hss⟩ dL_law_1715 (fun r_5 U_7 H locs h_6 hP hD hS => ?_)
  refine lv_pop hx hb dL_law_1718 rfl ?_
  refine lv_goto (tgt := 2115) hx hb dL_law_1719 (by decide) ?_
  exact K V U_7 H locs ls ok h_6 trivial hP hD hS (lv_sub hl [0, 1, 2, 3] rfl)

set_option maxHeartbeats 4000000 in
set_option maxRecDepth 100000 in
theorem law_60 {p : Program} {l : Launch} {e : Env} {s : State} {m : MethodId} {below : List Frame} {meth : Method} {c : Code} {G : Gho} {D : va_G} {cB cI cJ cZ cS cT : ClassId} {b L : Nat} {xs : Nat → Int32} {x0 m0 : Nat} {A B : Nat → Nat} {cells slots : Nat} (hL : L ≤ 3072) (C0 : lw_At p s m meth c b L xs) (hK : va_K D vwCl (tyL cB cI cJ cZ cS cT) s) (hN : kN s) (hT : kT G s s.heap) (hG : G.1 = s.heap.size) (hcc : cells ≤ 600000) (hss : slots ≤ 7302249) {H : Heap} {locs : List Loc} {ls : Array Slot} (V U : VX) (ok : xok V) (okm : mok U) (rel : True) (i3 : Int32) (hi : 0 ≤ i3.toInt ∧ i3.toInt + 6 ≤ (L : Int)) (hP : va_P D vwCl (xL cB cI cJ cZ cS cT x0 A V ++ mL cB cI cJ cZ cS cT m0 B U) H) (hD : va_D (fun q : Nat => s.heap.size ≤ q) (xL cB cI cJ cZ cS cT x0 A V ++ mL cB cI cJ cZ cS cT m0 B U)) (hS : va_S (fun q : Nat => s.heap.size ≤ q) s.heap H locs) (hl : lv_has ls 4 [(0, .ref b), (1, .ref x0), (2, .ref m0), (3, .int i3)]) (K : ∀ (V U : VX) (H : Heap) (locs : List Loc) (ls : Array Slot), xok V → mok U → True → va_P D vwCl (xL cB cI cJ cZ cS cT x0 A V ++ mL cB cI cJ cZ cS cT m0 B U) H → va_D (fun q : Nat => s.heap.size ≤ q) (xL cB cI cJ cZ cS cT x0 A V ++ mL cB cI cJ cZ cS cT m0 B U) → va_S (fun q : Nat => s.heap.size ≤ q) s.heap H locs → lv_has ls 4 [(0, .ref b), (1, .ref x0), (2, .ref m0), (3, .int i3)] → W p l e room_1 s m #[Value.ref b] below meth c H locs cells slots (lw_Z below #[Value.ref b] s) (F0 m 2115 ls [])) : W p l e room_1 s m #[Value.ref b] below meth c H locs cells slots (lw_Z below #[Value.ref b] s) (F0 m 1722 ls []) := by
  obtain ⟨hx, hb, hr, hml, hown, hts0, hX, hbl, hlocks, hgv⟩ := id C0
  have hts : ∀ w ∈ wsL_law, w.before #[Value.ref b] s = true := fun w h => hts0 w (wsL_law_in w h)
  have hA : ∀ q : Nat, s.heap.size ≤ q → (fun q : Nat => s.heap.size ≤ q) q := fun _ h => h
  have hAB : ∀ q : Nat, (fun q : Nat => s.heap.size ≤ q) q → G.1 ≤ q := fun q h => by rw [hG]; exact h
  have hG1 : G.1 ≤ s.heap.size := by rw [hG]; exact Nat.le_refl _
  have hbA : ¬ (fun q : Nat => s.heap.size ≤ q) b := Nat.not_le.mpr hbl
  refine lv_aload_n hx hb dL_law_1722 rfl (lv_at hl 1 rfl) ?_
  refine laAi (As := []) (rest := []) (wa := xL cB cI cJ cZ cS cT x0 A V) (wb := mL cB cI cJ cZ cS cT m0 B U) ⟨hx, hb, hml, hown, hts⟩ (f_X11_undo l G D cB cI cJ cZ cS cT H.size x0 A V ok ) hP hD hS hA hK hN hT hAB hG1 (cvB (n := 0) (inr67 _ (List.mem_of_getElem? (i := 7) rfl)) (inr67 _ (List.mem_of_getElem? (i := 8) rfl)) (inr67 _ (List.mem_of_getElem? (i := 9) rfl)) (inr1 _ (List.mem_of_getElem? (i := 2) rfl)) (inr67 _ (List.mem_of_getElem? (i := 10) rfl)) (by decide +kernel) hts rfl rfl ⟨Nat.le_of_ble_eq_true rfl, Nat.le_of_ble_eq_true rfl⟩) 0 11 rfl rfl rfl rfl hl.1 rfl (Nat.le_of_ble_eq_true rfl) ⟨hcc, hss⟩ dL_law_1723 (fun r_1 V_3 H locs h_2 hP hD hS => ?_)
  refine lv_pop hx hb dL_law_1726 rfl ?_
  refine lv_aload_n hx hb dL_law_1727 rfl (lv_at hl 2 rfl) ?_
  refine laBi (As := []) (rest := []) (wa := xL cB cI cJ cZ cS cT x0 A V_3) (wb := mL cB cI cJ cZ cS cT m0 B U) ⟨hx, hb, hml, hown, hts⟩ (f_X12_undo l G D cB cI cJ cZ cS cT H.size m0 B U okm ) hP hD hS hA hK hN hT hAB hG1 (cvB (n := 0) (inr67 _ (List.mem_of_getElem? (i := 15) rfl)) (inr67 _ (List.mem_of_getElem? (i := 16) rfl)) (inr67 _ (List.mem_of_getElem? (i := 17) rfl)) (inr1 _ (List.mem_of_getElem? (i := 5) rfl)) (inr67 _ (List.mem_of_getElem? (i := 18) rfl)) (by decide +kernel) hts rfl rfl ⟨Nat.le_of_ble_eq_true rfl, Nat.le_of_ble_eq_true rfl⟩) 0 12 rfl rfl rfl rfl hl.1 rfl (Nat.le_of_ble_eq_true rfl) ⟨hcc, hss⟩ dL_law_1728 (fun r_5 U_7 H locs h_6 hP hD hS => ?_)
  refine lv_pop hx hb dL_law_1731 rfl ?_
  refine lv_goto (tgt := 2115) hx hb dL_law_1732 (by decide) ?_
  exact K V_3 U_7 H locs ls h_2 h_6 trivial hP hD hS (lv_sub hl [0, 1, 2, 3] rfl)

set_option maxHeartbeats 4000000 in
set_option maxRecDepth 100000 in
theorem law_61 {p : Program} {l : Launch} {e : Env} {s : State} {m : MethodId} {below : List Frame} {meth : Method} {c : Code} {G : Gho} {D : va_G} {cB cI cJ cZ cS cT : ClassId} {b L : Nat} {xs : Nat → Int32} {x0 m0 : Nat} {A B : Nat → Nat} {cells slots : Nat} (hL : L ≤ 3072) (C0 : lw_At p s m meth c b L xs) (hK : va_K D vwCl (tyL cB cI cJ cZ cS cT) s) (hN : kN s) (hT : kT G s s.heap) (hG : G.1 = s.heap.size) (hcc : cells ≤ 600000) (hss : slots ≤ 7302249) {H : Heap} {locs : List Loc} {ls : Array Slot} (V U : VX) (ok : xok V) (okm : mok U) (rel : True) (i3 : Int32) (hi : 0 ≤ i3.toInt ∧ i3.toInt + 6 ≤ (L : Int)) (hP : va_P D vwCl (xL cB cI cJ cZ cS cT x0 A V ++ mL cB cI cJ cZ cS cT m0 B U) H) (hD : va_D (fun q : Nat => s.heap.size ≤ q) (xL cB cI cJ cZ cS cT x0 A V ++ mL cB cI cJ cZ cS cT m0 B U)) (hS : va_S (fun q : Nat => s.heap.size ≤ q) s.heap H locs) (hl : lv_has ls 4 [(0, .ref b), (1, .ref x0), (2, .ref m0), (3, .int i3)]) (K : ∀ (V U : VX) (H : Heap) (locs : List Loc) (ls : Array Slot), xok V → mok U → True → va_P D vwCl (xL cB cI cJ cZ cS cT x0 A V ++ mL cB cI cJ cZ cS cT m0 B U) H → va_D (fun q : Nat => s.heap.size ≤ q) (xL cB cI cJ cZ cS cT x0 A V ++ mL cB cI cJ cZ cS cT m0 B U) → va_S (fun q : Nat => s.heap.size ≤ q) s.heap H locs → lv_has ls 4 [(0, .ref b), (1, .ref x0), (2, .ref m0), (3, .int i3)] → W p l e room_1 s m #[Value.ref b] below meth c H locs cells slots (lw_Z below #[Value.ref b] s) (F0 m 2115 ls [])) : W p l e room_1 s m #[Value.ref b] below meth c H locs cells slots (lw_Z below #[Value.ref b] s) (F0 m 1735 ls []) := by
  obtain ⟨hx, hb, hr, hml, hown, hts0, hX, hbl, hlocks, hgv⟩ := id C0
  have hts : ∀ w ∈ wsL_law, w.before #[Value.ref b] s = true := fun w h => hts0 w (wsL_law_in w h)
  have hA : ∀ q : Nat, s.heap.size ≤ q → (fun q : Nat => s.heap.size ≤ q) q := fun _ h => h
  have hAB : ∀ q : Nat, (fun q : Nat => s.heap.size ≤ q) q → G.1 ≤ q := fun q h => by rw [hG]; exact h
  have hG1 : G.1 ≤ s.heap.size := by rw [hG]; exact Nat.le_refl _
  have hbA : ¬ (fun q : Nat => s.heap.size ≤ q) b := Nat.not_le.mpr hbl
  refine lv_aload_n hx hb dL_law_1735 rfl (lv_at hl 1 rfl) ?_
  refine laAi (As := []) (rest := []) (wa := xL cB cI cJ cZ cS cT x0 A V) (wb := mL cB cI cJ cZ cS cT m0 B U) ⟨hx, hb, hml, hown, hts⟩ (f_X11_anew l G D cB cI cJ cZ cS cT H.size x0 A V ok ) hP hD hS hA hK hN hT hAB hG1 (cvB (n := 0) (inr67 _ (List.mem_of_getElem? (i := 19) rfl)) (inr67 _ (List.mem_of_getElem? (i := 20) rfl)) (inr67 _ (List.mem_of_getElem? (i := 21) rfl)) (inr1 _ (List.mem_of_getElem? (i := 2) rfl)) (inr67 _ (List.mem_of_getElem? (i := 22) rfl)) (by decide +kernel) hts rfl rfl ⟨Nat.le_of_ble_eq_true rfl, Nat.le_of_ble_eq_true rfl⟩) 0 11 rfl rfl rfl rfl hl.1 rfl (Nat.le_of_ble_eq_true rfl) ⟨hcc, hss⟩ dL_law_1736 (fun r_1 V_3 H locs h_2 hP hD hS => ?_)
  refine lv_pop hx hb dL_law_1739 rfl ?_
  refine lv_aload_n hx hb dL_law_1740 rfl (lv_at hl 2 rfl) ?_
  refine laBi (As := []) (rest := []) (wa := xL cB cI cJ cZ cS cT x0 A V_3) (wb := mL cB cI cJ cZ cS cT m0 B U) ⟨hx, hb, hml, hown, hts⟩ (f_X12_anew l G D cB cI cJ cZ cS cT H.size m0 B U okm ) hP hD hS hA hK hN hT hAB hG1 (cvB (n := 0) (inr67 _ (List.mem_of_getElem? (i := 23) rfl)) (inr68 _ (List.mem_of_getElem? (i := 0) rfl)) (inr68 _ (List.mem_of_getElem? (i := 1) rfl)) (inr1 _ (List.mem_of_getElem? (i := 5) rfl)) (inr68 _ (List.mem_of_getElem? (i := 2) rfl)) (by decide +kernel) hts rfl rfl ⟨Nat.le_of_ble_eq_true rfl, Nat.le_of_ble_eq_true rfl⟩) 0 12 rfl rfl rfl rfl hl.1 rfl (Nat.le_of_ble_eq_true rfl) ⟨hcc, hss⟩ dL_law_1741 (fun r_5 U_7 H locs h_6 hP hD hS => ?_)
  refine lv_pop hx hb dL_law_1744 rfl ?_
  refine lv_goto (tgt := 2115) hx hb dL_law_1745 (by decide) ?_
  exact K V_3 U_7 H locs ls h_2 h_6 trivial hP hD hS (lv_sub hl [0, 1, 2, 3] rfl)

set_option maxHeartbeats 4000000 in
set_option maxRecDepth 100000 in
theorem law_62 {p : Program} {l : Launch} {e : Env} {s : State} {m : MethodId} {below : List Frame} {meth : Method} {c : Code} {G : Gho} {D : va_G} {cB cI cJ cZ cS cT : ClassId} {b L : Nat} {xs : Nat → Int32} {x0 m0 : Nat} {A B : Nat → Nat} {cells slots : Nat} (hL : L ≤ 3072) (C0 : lw_At p s m meth c b L xs) (hK : va_K D vwCl (tyL cB cI cJ cZ cS cT) s) (hN : kN s) (hT : kT G s s.heap) (hG : G.1 = s.heap.size) (hcc : cells ≤ 600000) (hss : slots ≤ 7302249) {H : Heap} {locs : List Loc} {ls : Array Slot} (V U : VX) (ok : xok V) (okm : mok U) (rel : True) (i3 : Int32) (hi : 0 ≤ i3.toInt ∧ i3.toInt + 6 ≤ (L : Int)) (hP : va_P D vwCl (xL cB cI cJ cZ cS cT x0 A V ++ mL cB cI cJ cZ cS cT m0 B U) H) (hD : va_D (fun q : Nat => s.heap.size ≤ q) (xL cB cI cJ cZ cS cT x0 A V ++ mL cB cI cJ cZ cS cT m0 B U)) (hS : va_S (fun q : Nat => s.heap.size ≤ q) s.heap H locs) (hl : lv_has ls 4 [(0, .ref b), (1, .ref x0), (2, .ref m0), (3, .int i3)]) (K : ∀ (V U : VX) (H : Heap) (locs : List Loc) (ls : Array Slot), xok V → mok U → True → va_P D vwCl (xL cB cI cJ cZ cS cT x0 A V ++ mL cB cI cJ cZ cS cT m0 B U) H → va_D (fun q : Nat => s.heap.size ≤ q) (xL cB cI cJ cZ cS cT x0 A V ++ mL cB cI cJ cZ cS cT m0 B U) → va_S (fun q : Nat => s.heap.size ≤ q) s.heap H locs → lv_has ls 4 [(0, .ref b), (1, .ref x0), (2, .ref m0), (3, .int i3)] → W p l e room_1 s m #[Value.ref b] below meth c H locs cells slots (lw_Z below #[Value.ref b] s) (F0 m 2115 ls [])) : W p l e room_1 s m #[Value.ref b] below meth c H locs cells slots (lw_Z below #[Value.ref b] s) (F0 m 1748 ls []) := by
  obtain ⟨hx, hb, hr, hml, hown, hts0, hX, hbl, hlocks, hgv⟩ := id C0
  have hts : ∀ w ∈ wsL_law, w.before #[Value.ref b] s = true := fun w h => hts0 w (wsL_law_in w h)
  have hA : ∀ q : Nat, s.heap.size ≤ q → (fun q : Nat => s.heap.size ≤ q) q := fun _ h => h
  have hAB : ∀ q : Nat, (fun q : Nat => s.heap.size ≤ q) q → G.1 ≤ q := fun q h => by rw [hG]; exact h
  have hG1 : G.1 ≤ s.heap.size := by rw [hG]; exact Nat.le_refl _
  have hbA : ¬ (fun q : Nat => s.heap.size ≤ q) b := Nat.not_le.mpr hbl
  refine lv_aload_n hx hb dL_law_1748 rfl (lv_at hl 1 rfl) ?_
  refine lv_aload_n hx hb dL_law_1749 rfl (lv_at hl 0 rfl) ?_
  refine lv_iload_n hx hb dL_law_1750 rfl (lv_at hl 3 rfl) ?_
  refine lv_iconst (v := 1) hx hb dL_law_1751 (by decide) ?_
  obtain ⟨t_1, et_1⟩ : ∃ v9 : Int32, i3 + 1 = v9 := ⟨_, rfl⟩
  refine z_iadd (v := t_1) hx hb dL_law_1752 et_1 ?_
  have b_i3 := i32b i3
  have ft_1 : t_1.toInt = i3.toInt + 1 := addT (a := i3.toInt) (b := 1) rfl (by decide) et_1 (by omega) (by omega)
  obtain ⟨t_2, et_2⟩ : ∃ v9 : Int32, xs (t_1 : Int32).toNatClampNeg = v9 := ⟨_, rfl⟩
  refine va_sld hx hb hX hbl hbA hS (vin_nat (by omega) (by omega)) dL_law_1753 ?_
  rw [et_2]
  refine lv_aload_n hx hb dL_law_1754 rfl (lv_at hl 0 rfl) ?_
  refine lv_iload_n hx hb dL_law_1755 rfl (lv_at hl 3 rfl) ?_
  refine lv_iconst (v := 2) hx hb dL_law_1756 (by decide) ?_
  obtain ⟨t_3, et_3⟩ : ∃ v9 : Int32, i3 + 2 = v9 := ⟨_, rfl⟩
  refine z_iadd (v := t_3) hx hb dL_law_1757 et_3 ?_
  have ft_3 : t_3.toInt = i3.toInt + 2 := addT (a := i3.toInt) (b := 2) rfl (by decide) et_3 (by omega) (by omega)
  obtain ⟨t_4, et_4⟩ : ∃ v9 : Int32, xs (t_3 : Int32).toNatClampNeg = v9 := ⟨_, rfl⟩
  refine va_sld hx hb hX hbl hbA hS (vin_nat (by omega) (by omega)) dL_law_1758 ?_
  rw [et_4]
  refine lv_aload_n hx hb dL_law_1759 rfl (lv_at hl 0 rfl) ?_
  refine lv_iload_n hx hb dL_law_1760 rfl (lv_at hl 3 rfl) ?_
  refine lv_iconst (v := 3) hx hb dL_law_1761 (by decide) ?_
  obtain ⟨t_5, et_5⟩ : ∃ v9 : Int32, i3 + 3 = v9 := ⟨_, rfl⟩
  refine z_iadd (v := t_5) hx hb dL_law_1762 et_5 ?_
  have ft_5 : t_5.toInt = i3.toInt + 3 := addT (a := i3.toInt) (b := 3) rfl (by decide) et_5 (by omega) (by omega)
  obtain ⟨t_6, et_6⟩ : ∃ v9 : Int32, xs (t_5 : Int32).toNatClampNeg = v9 := ⟨_, rfl⟩
  refine va_sld hx hb hX hbl hbA hS (vin_nat (by omega) (by omega)) dL_law_1763 ?_
  rw [et_6]
  refine laAi (As := [.int t_2, .int t_4, .int t_6]) (rest := []) (wa := xL cB cI cJ cZ cS cT x0 A V) (wb := mL cB cI cJ cZ cS cT m0 B U) ⟨hx, hb, hml, hown, hts⟩ (f_X11_drawn l G D cB cI cJ cZ cS cT H.size x0 A V ok t_2 t_4 t_6) hP hD hS hA hK hN hT hAB hG1 (cvB (n := 3) (inr68 _ (List.mem_of_getElem? (i := 3) rfl)) (inr68 _ (List.mem_of_getElem? (i := 4) rfl)) (inr68 _ (List.mem_of_getElem? (i := 5) rfl)) (inr1 _ (List.mem_of_getElem? (i := 2) rfl)) (inr68 _ (List.mem_of_getElem? (i := 6) rfl)) (by decide +kernel) hts rfl rfl ⟨Nat.le_of_ble_eq_true rfl, Nat.le_of_ble_eq_true rfl⟩) 0 11 rfl rfl rfl rfl hl.1 rfl (Nat.le_of_ble_eq_true rfl) ⟨hcc, hss⟩ dL_law_1764 (fun r_7 V_9 H locs h_8 hP hD hS => ?_)
  refine lv_pop hx hb dL_law_1767 rfl ?_
  refine lv_aload_n hx hb dL_law_1768 rfl (lv_at hl 2 rfl) ?_
  refine lv_aload_n hx hb dL_law_1769 rfl (lv_at hl 0 rfl) ?_
  refine lv_iload_n hx hb dL_law_1770 rfl (lv_at hl 3 rfl) ?_
  refine lv_iconst (v := 1) hx hb dL_law_1771 (by decide) ?_
  refine z_iadd (v := t_1) hx hb dL_law_1772 et_1 ?_
  refine va_sld hx hb hX hbl hbA hS (vin_nat (by omega) (by omega)) dL_law_1773 ?_
  rw [et_2]
  refine lv_aload_n hx hb dL_law_1774 rfl (lv_at hl 0 rfl) ?_
  refine lv_iload_n hx hb dL_law_1775 rfl (lv_at hl 3 rfl) ?_
  refine lv_iconst (v := 2) hx hb dL_law_1776 (by decide) ?_
  refine z_iadd (v := t_3) hx hb dL_law_1777 et_3 ?_
  refine va_sld hx hb hX hbl hbA hS (vin_nat (by omega) (by omega)) dL_law_1778 ?_
  rw [et_4]
  refine lv_aload_n hx hb dL_law_1779 rfl (lv_at hl 0 rfl) ?_
  refine lv_iload_n hx hb dL_law_1780 rfl (lv_at hl 3 rfl) ?_
  refine lv_iconst (v := 3) hx hb dL_law_1781 (by decide) ?_
  refine z_iadd (v := t_5) hx hb dL_law_1782 et_5 ?_
  refine va_sld hx hb hX hbl hbA hS (vin_nat (by omega) (by omega)) dL_law_1783 ?_
  rw [et_6]
  refine laBi (As := [.int t_2, .int t_4, .int t_6]) (rest := []) (wa := xL cB cI cJ cZ cS cT x0 A V_9) (wb := mL cB cI cJ cZ cS cT m0 B U) ⟨hx, hb, hml, hown, hts⟩ (f_X12_drawn l G D cB cI cJ cZ cS cT H.size m0 B U okm t_2 t_4 t_6) hP hD hS hA hK hN hT hAB hG1 (cvB (n := 3) (inr69 _ (List.mem_of_getElem? (i := 22) rfl)) (inr69 _ (List.mem_of_getElem? (i := 23) rfl)) (inr70 _ (List.mem_of_getElem? (i := 0) rfl)) (inr1 _ (List.mem_of_getElem? (i := 5) rfl)) (inr70 _ (List.mem_of_getElem? (i := 1) rfl)) (by decide +kernel) hts rfl rfl ⟨Nat.le_of_ble_eq_true rfl, Nat.le_of_ble_eq_true rfl⟩) 0 12 rfl rfl rfl rfl hl.1 rfl (Nat.le_of_ble_eq_true rfl) ⟨hcc, hss⟩ dL_law_1784 (fun r_11 U_13 H locs h_12 hP hD hS => ?_)
  refine lv_pop hx hb dL_law_1787 rfl ?_
  refine lv_goto (tgt := 2115) hx hb dL_law_1788 (by decide) ?_
  exact K V_9 U_13 H locs ls h_8 h_12 trivial hP hD hS (lv_sub hl [0, 1, 2, 3] rfl)

set_option maxHeartbeats 4000000 in
set_option maxRecDepth 100000 in
theorem law_63 {p : Program} {l : Launch} {e : Env} {s : State} {m : MethodId} {below : List Frame} {meth : Method} {c : Code} {G : Gho} {D : va_G} {cB cI cJ cZ cS cT : ClassId} {b L : Nat} {xs : Nat → Int32} {x0 m0 : Nat} {A B : Nat → Nat} {cells slots : Nat} (hL : L ≤ 3072) (C0 : lw_At p s m meth c b L xs) (hK : va_K D vwCl (tyL cB cI cJ cZ cS cT) s) (hN : kN s) (hT : kT G s s.heap) (hG : G.1 = s.heap.size) (hcc : cells ≤ 600000) (hss : slots ≤ 7302249) {H : Heap} {locs : List Loc} {ls : Array Slot} (V U : VX) (ok : xok V) (okm : mok U) (rel : True) (i3 : Int32) (hi : 0 ≤ i3.toInt ∧ i3.toInt + 6 ≤ (L : Int)) (hP : va_P D vwCl (xL cB cI cJ cZ cS cT x0 A V ++ mL cB cI cJ cZ cS cT m0 B U) H) (hD : va_D (fun q : Nat => s.heap.size ≤ q) (xL cB cI cJ cZ cS cT x0 A V ++ mL cB cI cJ cZ cS cT m0 B U)) (hS : va_S (fun q : Nat => s.heap.size ≤ q) s.heap H locs) (hl : lv_has ls 4 [(0, .ref b), (1, .ref x0), (2, .ref m0), (3, .int i3)]) (K : ∀ (V U : VX) (H : Heap) (locs : List Loc) (ls : Array Slot), xok V → mok U → True → va_P D vwCl (xL cB cI cJ cZ cS cT x0 A V ++ mL cB cI cJ cZ cS cT m0 B U) H → va_D (fun q : Nat => s.heap.size ≤ q) (xL cB cI cJ cZ cS cT x0 A V ++ mL cB cI cJ cZ cS cT m0 B U) → va_S (fun q : Nat => s.heap.size ≤ q) s.heap H locs → lv_has ls 4 [(0, .ref b), (1, .ref x0), (2, .ref m0), (3, .int i3)] → W p l e room_1 s m #[Value.ref b] below meth c H locs cells slots (lw_Z below #[Value.ref b] s) (F0 m 2115 ls [])) : W p l e room_1 s m #[Value.ref b] below meth c H locs cells slots (lw_Z below #[Value.ref b] s) (F0 m 1791 ls []) := by
  obtain ⟨hx, hb, hr, hml, hown, hts0, hX, hbl, hlocks, hgv⟩ := id C0
  have hts : ∀ w ∈ wsL_law, w.before #[Value.ref b] s = true := fun w h => hts0 w (wsL_law_in w h)
  have hA : ∀ q : Nat, s.heap.size ≤ q → (fun q : Nat => s.heap.size ≤ q) q := fun _ h => h
  have hAB : ∀ q : Nat, (fun q : Nat => s.heap.size ≤ q) q → G.1 ≤ q := fun q h => by rw [hG]; exact h
  have hG1 : G.1 ≤ s.heap.size := by rw [hG]; exact Nat.le_refl _
  have hbA : ¬ (fun q : Nat => s.heap.size ≤ q) b := Nat.not_le.mpr hbl
  refine lv_aload_n hx hb dL_law_1791 rfl (lv_at hl 1 rfl) ?_
  refine lv_aload_n hx hb dL_law_1792 rfl (lv_at hl 0 rfl) ?_
  refine lv_iload_n hx hb dL_law_1793 rfl (lv_at hl 3 rfl) ?_
  refine lv_iconst (v := 1) hx hb dL_law_1794 (by decide) ?_
  obtain ⟨t_1, et_1⟩ : ∃ v9 : Int32, i3 + 1 = v9 := ⟨_, rfl⟩
  refine z_iadd (v := t_1) hx hb dL_law_1795 et_1 ?_
  have b_i3 := i32b i3
  have ft_1 : t_1.toInt = i3.toInt + 1 := addT (a := i3.toInt) (b := 1) rfl (by decide) et_1 (by omega) (by omega)
  obtain ⟨t_2, et_2⟩ : ∃ v9 : Int32, xs (t_1 : Int32).toNatClampNeg = v9 := ⟨_, rfl⟩
  refine va_sld hx hb hX hbl hbA hS (vin_nat (by omega) (by omega)) dL_law_1796 ?_
  rw [et_2]
  refine lv_aload_n hx hb dL_law_1797 rfl (lv_at hl 0 rfl) ?_
  refine lv_iload_n hx hb dL_law_1798 rfl (lv_at hl 3 rfl) ?_
  refine lv_iconst (v := 2) hx hb dL_law_1799 (by decide) ?_
  obtain ⟨t_3, et_3⟩ : ∃ v9 : Int32, i3 + 2 = v9 := ⟨_, rfl⟩
  refine z_iadd (v := t_3) hx hb dL_law_1800 et_3 ?_
  have ft_3 : t_3.toInt = i3.toInt + 2 := addT (a := i3.toInt) (b := 2) rfl (by decide) et_3 (by omega) (by omega)
  obtain ⟨t_4, et_4⟩ : ∃ v9 : Int32, xs (t_3 : Int32).toNatClampNeg = v9 := ⟨_, rfl⟩
  refine va_sld hx hb hX hbl hbA hS (vin_nat (by omega) (by omega)) dL_law_1801 ?_
  rw [et_4]
  refine lv_aload_n hx hb dL_law_1802 rfl (lv_at hl 0 rfl) ?_
  refine lv_iload_n hx hb dL_law_1803 rfl (lv_at hl 3 rfl) ?_
  refine lv_iconst (v := 3) hx hb dL_law_1804 (by decide) ?_
  obtain ⟨t_5, et_5⟩ : ∃ v9 : Int32, i3 + 3 = v9 := ⟨_, rfl⟩
  refine z_iadd (v := t_5) hx hb dL_law_1805 et_5 ?_
  have ft_5 : t_5.toInt = i3.toInt + 3 := addT (a := i3.toInt) (b := 3) rfl (by decide) et_5 (by omega) (by omega)
  obtain ⟨t_6, et_6⟩ : ∃ v9 : Int32, xs (t_5 : Int32).toNatClampNeg = v9 := ⟨_, rfl⟩
  refine va_sld hx hb hX hbl hbA hS (vin_nat (by omega) (by omega)) dL_law_1806 ?_
  rw [et_6]
  refine lv_aload_n hx hb dL_law_1807 rfl (lv_at hl 0 rfl) ?_
  refine lv_iload_n hx hb dL_law_1808 rfl (lv_at hl 3 rfl) ?_
  refine lv_iconst (v := 4) hx hb dL_law_1809 (by decide) ?_
  obtain ⟨t_7, et_7⟩ : ∃ v9 : Int32, i3 + 4 = v9 := ⟨_, rfl⟩
  refine z_iadd (v := t_7) hx hb dL_law_1810 et_7 ?_
  have ft_7 : t_7.toInt = i3.toInt + 4 := addT (a := i3.toInt) (b := 4) rfl (by decide) et_7 (by omega) (by omega)
  obtain ⟨t_8, et_8⟩ : ∃ v9 : Int32, xs (t_7 : Int32).toNatClampNeg = v9 := ⟨_, rfl⟩
  refine va_sld hx hb hX hbl hbA hS (vin_nat (by omega) (by omega)) dL_law_1811 ?_
  rw [et_8]
  refine laAi (As := [.int t_2, .int t_4, .int t_6, .int t_8]) (rest := []) (wa := xL cB cI cJ cZ cS cT x0 A V) (wb := mL cB cI cJ cZ cS cT m0 B U) ⟨hx, hb, hml, hown, hts⟩ (f_X11_luck l G D cB cI cJ cZ cS cT H.size x0 A V ok t_2 t_4 t_6 t_8) hP hD hS hA hK hN hT hAB hG1 (cvB (n := 4) (inr70 _ (List.mem_of_getElem? (i := 10) rfl)) (inr70 _ (List.mem_of_getElem? (i := 11) rfl)) (inr70 _ (List.mem_of_getElem? (i := 12) rfl)) (inr1 _ (List.mem_of_getElem? (i := 2) rfl)) (inr70 _ (List.mem_of_getElem? (i := 13) rfl)) (by decide +kernel) hts rfl rfl ⟨Nat.le_of_ble_eq_true rfl, Nat.le_of_ble_eq_true rfl⟩) 0 11 rfl rfl rfl rfl hl.1 rfl (Nat.le_of_ble_eq_true rfl) ⟨hcc, hss⟩ dL_law_1812 (fun r_9 V_11 H locs h_10 hP hD hS => ?_)
  refine lv_pop hx hb dL_law_1815 rfl ?_
  refine lv_aload_n hx hb dL_law_1816 rfl (lv_at hl 2 rfl) ?_
  refine lv_aload_n hx hb dL_law_1817 rfl (lv_at hl 0 rfl) ?_
  refine lv_iload_n hx hb dL_law_1818 rfl (lv_at hl 3 rfl) ?_
  refine lv_iconst (v := 1) hx hb dL_law_1819 (by decide) ?_
  refine z_iadd (v := t_1) hx hb dL_law_1820 et_1 ?_
  refine va_sld hx hb hX hbl hbA hS (vin_nat (by omega) (by omega)) dL_law_1821 ?_
  rw [et_2]
  refine lv_aload_n hx hb dL_law_1822 rfl (lv_at hl 0 rfl) ?_
  refine lv_iload_n hx hb dL_law_1823 rfl (lv_at hl 3 rfl) ?_
  refine lv_iconst (v := 2) hx hb dL_law_1824 (by decide) ?_
  refine z_iadd (v := t_3) hx hb dL_law_1825 et_3 ?_
  refine va_sld hx hb hX hbl hbA hS (vin_nat (by omega) (by omega)) dL_law_1826 ?_
  rw [et_4]
  refine lv_aload_n hx hb dL_law_1827 rfl (lv_at hl 0 rfl) ?_
  refine lv_iload_n hx hb dL_law_1828 rfl (lv_at hl 3 rfl) ?_
  refine lv_iconst (v := 3) hx hb dL_law_1829 (by decide) ?_
  refine z_iadd (v := t_5) hx hb dL_law_1830 et_5 ?_
  refine va_sld hx hb hX hbl hbA hS (vin_nat (by omega) (by omega)) dL_law_1831 ?_
  rw [et_6]
  refine lv_aload_n hx hb dL_law_1832 rfl (lv_at hl 0 rfl) ?_
  refine lv_iload_n hx hb dL_law_1833 rfl (lv_at hl 3 rfl) ?_
  refine lv_iconst (v := 4) hx hb dL_law_1834 (by decide) ?_
  refine z_iadd (v := t_7) hx hb dL_law_1835 et_7 ?_
  refine va_sld hx hb hX hbl hbA hS (vin_nat (by omega) (by omega)) dL_law_1836 ?_
  rw [et_8]
  refine laBi (As := [.int t_2, .int t_4, .int t_6, .int t_8]) (rest := []) (wa := xL cB cI cJ cZ cS cT x0 A V_11) (wb := mL cB cI cJ cZ cS cT m0 B U) ⟨hx, hb, hml, hown, hts⟩ (f_X12_luck l G D cB cI cJ cZ cS cT H.size m0 B U okm t_2 t_4 t_6 t_8) hP hD hS hA hK hN hT hAB hG1 (cvB (n := 4) (inr70 _ (List.mem_of_getElem? (i := 15) rfl)) (inr70 _ (List.mem_of_getElem? (i := 16) rfl)) (inr70 _ (List.mem_of_getElem? (i := 17) rfl)) (inr1 _ (List.mem_of_getElem? (i := 5) rfl)) (inr70 _ (List.mem_of_getElem? (i := 18) rfl)) (by decide +kernel) hts rfl rfl ⟨Nat.le_of_ble_eq_true rfl, Nat.le_of_ble_eq_true rfl⟩) 0 12 rfl rfl rfl rfl hl.1 rfl (Nat.le_of_ble_eq_true rfl) ⟨hcc, hss⟩ dL_law_1837 (fun r_13 U_15 H locs h_14 hP hD hS => ?_)
  refine lv_pop hx hb dL_law_1840 rfl ?_
  refine lv_goto (tgt := 2115) hx hb dL_law_1841 (by decide) ?_
  exact K V_11 U_15 H locs ls h_10 h_14 trivial hP hD hS (lv_sub hl [0, 1, 2, 3] rfl)

set_option maxHeartbeats 4000000 in
set_option maxRecDepth 100000 in
theorem law_64 {p : Program} {l : Launch} {e : Env} {s : State} {m : MethodId} {below : List Frame} {meth : Method} {c : Code} {G : Gho} {D : va_G} {cB cI cJ cZ cS cT : ClassId} {b L : Nat} {xs : Nat → Int32} {x0 m0 : Nat} {A B : Nat → Nat} {cells slots : Nat} (hL : L ≤ 3072) (C0 : lw_At p s m meth c b L xs) (hK : va_K D vwCl (tyL cB cI cJ cZ cS cT) s) (hN : kN s) (hT : kT G s s.heap) (hG : G.1 = s.heap.size) (hcc : cells ≤ 600000) (hss : slots ≤ 7302249) {H : Heap} {locs : List Loc} {ls : Array Slot} (V U : VX) (ok : xok V) (okm : mok U) (rel : True) (i3 : Int32) (hi : 0 ≤ i3.toInt ∧ i3.toInt + 6 ≤ (L : Int)) (hP : va_P D vwCl (xL cB cI cJ cZ cS cT x0 A V ++ mL cB cI cJ cZ cS cT m0 B U) H) (hD : va_D (fun q : Nat => s.heap.size ≤ q) (xL cB cI cJ cZ cS cT x0 A V ++ mL cB cI cJ cZ cS cT m0 B U)) (hS : va_S (fun q : Nat => s.heap.size ≤ q) s.heap H locs) (hl : lv_has ls 4 [(0, .ref b), (1, .ref x0), (2, .ref m0), (3, .int i3)]) (K : ∀ (V U : VX) (H : Heap) (locs : List Loc) (ls : Array Slot), xok V → mok U → True → va_P D vwCl (xL cB cI cJ cZ cS cT x0 A V ++ mL cB cI cJ cZ cS cT m0 B U) H → va_D (fun q : Nat => s.heap.size ≤ q) (xL cB cI cJ cZ cS cT x0 A V ++ mL cB cI cJ cZ cS cT m0 B U) → va_S (fun q : Nat => s.heap.size ≤ q) s.heap H locs → lv_has ls 4 [(0, .ref b), (1, .ref x0), (2, .ref m0), (3, .int i3)] → W p l e room_1 s m #[Value.ref b] below meth c H locs cells slots (lw_Z below #[Value.ref b] s) (F0 m 2115 ls [])) : W p l e room_1 s m #[Value.ref b] below meth c H locs cells slots (lw_Z below #[Value.ref b] s) (F0 m 1844 ls []) := by
  obtain ⟨hx, hb, hr, hml, hown, hts0, hX, hbl, hlocks, hgv⟩ := id C0
  have hts : ∀ w ∈ wsL_law, w.before #[Value.ref b] s = true := fun w h => hts0 w (wsL_law_in w h)
  have hA : ∀ q : Nat, s.heap.size ≤ q → (fun q : Nat => s.heap.size ≤ q) q := fun _ h => h
  have hAB : ∀ q : Nat, (fun q : Nat => s.heap.size ≤ q) q → G.1 ≤ q := fun q h => by rw [hG]; exact h
  have hG1 : G.1 ≤ s.heap.size := by rw [hG]; exact Nat.le_refl _
  have hbA : ¬ (fun q : Nat => s.heap.size ≤ q) b := Nat.not_le.mpr hbl
  refine lv_aload_n hx hb dL_law_1844 rfl (lv_at hl 1 rfl) ?_
  refine lv_aload_n hx hb dL_law_1845 rfl (lv_at hl 0 rfl) ?_
  refine lv_iload_n hx hb dL_law_1846 rfl (lv_at hl 3 rfl) ?_
  refine lv_iconst (v := 1) hx hb dL_law_1847 (by decide) ?_
  obtain ⟨t_1, et_1⟩ : ∃ v9 : Int32, i3 + 1 = v9 := ⟨_, rfl⟩
  refine z_iadd (v := t_1) hx hb dL_law_1848 et_1 ?_
  have b_i3 := i32b i3
  have ft_1 : t_1.toInt = i3.toInt + 1 := addT (a := i3.toInt) (b := 1) rfl (by decide) et_1 (by omega) (by omega)
  obtain ⟨t_2, et_2⟩ : ∃ v9 : Int32, xs (t_1 : Int32).toNatClampNeg = v9 := ⟨_, rfl⟩
  refine va_sld hx hb hX hbl hbA hS (vin_nat (by omega) (by omega)) dL_law_1849 ?_
  rw [et_2]
  refine laAi (As := [.int t_2]) (rest := []) (wa := xL cB cI cJ cZ cS cT x0 A V) (wb := mL cB cI cJ cZ cS cT m0 B U) ⟨hx, hb, hml, hown, hts⟩ (f_X11_tune l G D cB cI cJ cZ cS cT H.size x0 A V ok t_2) hP hD hS hA hK hN hT hAB hG1 (cvB (n := 1) (inr70 _ (List.mem_of_getElem? (i := 20) rfl)) (inr70 _ (List.mem_of_getElem? (i := 21) rfl)) (inr70 _ (List.mem_of_getElem? (i := 22) rfl)) (inr1 _ (List.mem_of_getElem? (i := 2) rfl)) (inr70 _ (List.mem_of_getElem? (i := 23) rfl)) (by decide +kernel) hts rfl rfl ⟨Nat.le_of_ble_eq_true rfl, Nat.le_of_ble_eq_true rfl⟩) 0 11 rfl rfl rfl rfl hl.1 rfl (Nat.le_of_ble_eq_true rfl) ⟨hcc, hss⟩ dL_law_1850 (fun r_3 V_5 H locs h_4 hP hD hS => ?_)
  refine lv_pop hx hb dL_law_1853 rfl ?_
  refine lv_aload_n hx hb dL_law_1854 rfl (lv_at hl 2 rfl) ?_
  refine lv_aload_n hx hb dL_law_1855 rfl (lv_at hl 0 rfl) ?_
  refine lv_iload_n hx hb dL_law_1856 rfl (lv_at hl 3 rfl) ?_
  refine lv_iconst (v := 1) hx hb dL_law_1857 (by decide) ?_
  refine z_iadd (v := t_1) hx hb dL_law_1858 et_1 ?_
  refine va_sld hx hb hX hbl hbA hS (vin_nat (by omega) (by omega)) dL_law_1859 ?_
  rw [et_2]
  refine laBi (As := [.int t_2]) (rest := []) (wa := xL cB cI cJ cZ cS cT x0 A V_5) (wb := mL cB cI cJ cZ cS cT m0 B U) ⟨hx, hb, hml, hown, hts⟩ (f_X12_tune l G D cB cI cJ cZ cS cT H.size m0 B U okm t_2) hP hD hS hA hK hN hT hAB hG1 (cvB (n := 1) (inr71 _ (List.mem_of_getElem? (i := 4) rfl)) (inr71 _ (List.mem_of_getElem? (i := 5) rfl)) (inr71 _ (List.mem_of_getElem? (i := 6) rfl)) (inr1 _ (List.mem_of_getElem? (i := 5) rfl)) (inr71 _ (List.mem_of_getElem? (i := 7) rfl)) (by decide +kernel) hts rfl rfl ⟨Nat.le_of_ble_eq_true rfl, Nat.le_of_ble_eq_true rfl⟩) 0 12 rfl rfl rfl rfl hl.1 rfl (Nat.le_of_ble_eq_true rfl) ⟨hcc, hss⟩ dL_law_1860 (fun r_7 U_9 H locs h_8 hP hD hS => ?_)
  refine lv_pop hx hb dL_law_1863 rfl ?_
  refine lv_goto (tgt := 2115) hx hb dL_law_1864 (by decide) ?_
  exact K V_5 U_9 H locs ls h_4 h_8 trivial hP hD hS (lv_sub hl [0, 1, 2, 3] rfl)

set_option maxHeartbeats 4000000 in
set_option maxRecDepth 100000 in
theorem law_65 {p : Program} {l : Launch} {e : Env} {s : State} {m : MethodId} {below : List Frame} {meth : Method} {c : Code} {G : Gho} {D : va_G} {cB cI cJ cZ cS cT : ClassId} {b L : Nat} {xs : Nat → Int32} {x0 m0 : Nat} {A B : Nat → Nat} {cells slots : Nat} (hL : L ≤ 3072) (C0 : lw_At p s m meth c b L xs) (hK : va_K D vwCl (tyL cB cI cJ cZ cS cT) s) (hN : kN s) (hT : kT G s s.heap) (hG : G.1 = s.heap.size) (hcc : cells ≤ 600000) (hss : slots ≤ 7302249) {H : Heap} {locs : List Loc} {ls : Array Slot} (V U : VX) (ok : xok V) (okm : mok U) (rel : True) (i3 : Int32) (hi : 0 ≤ i3.toInt ∧ i3.toInt + 6 ≤ (L : Int)) (hP : va_P D vwCl (xL cB cI cJ cZ cS cT x0 A V ++ mL cB cI cJ cZ cS cT m0 B U) H) (hD : va_D (fun q : Nat => s.heap.size ≤ q) (xL cB cI cJ cZ cS cT x0 A V ++ mL cB cI cJ cZ cS cT m0 B U)) (hS : va_S (fun q : Nat => s.heap.size ≤ q) s.heap H locs) (hl : lv_has ls 4 [(0, .ref b), (1, .ref x0), (2, .ref m0), (3, .int i3)]) (K : ∀ (V U : VX) (H : Heap) (locs : List Loc) (ls : Array Slot), xok V → mok U → True → va_P D vwCl (xL cB cI cJ cZ cS cT x0 A V ++ mL cB cI cJ cZ cS cT m0 B U) H → va_D (fun q : Nat => s.heap.size ≤ q) (xL cB cI cJ cZ cS cT x0 A V ++ mL cB cI cJ cZ cS cT m0 B U) → va_S (fun q : Nat => s.heap.size ≤ q) s.heap H locs → lv_has ls 4 [(0, .ref b), (1, .ref x0), (2, .ref m0), (3, .int i3)] → W p l e room_1 s m #[Value.ref b] below meth c H locs cells slots (lw_Z below #[Value.ref b] s) (F0 m 2115 ls [])) : W p l e room_1 s m #[Value.ref b] below meth c H locs cells slots (lw_Z below #[Value.ref b] s) (F0 m 1867 ls []) := by
  obtain ⟨hx, hb, hr, hml, hown, hts0, hX, hbl, hlocks, hgv⟩ := id C0
  have hts : ∀ w ∈ wsL_law, w.before #[Value.ref b] s = true := fun w h => hts0 w (wsL_law_in w h)
  have hA : ∀ q : Nat, s.heap.size ≤ q → (fun q : Nat => s.heap.size ≤ q) q := fun _ h => h
  have hAB : ∀ q : Nat, (fun q : Nat => s.heap.size ≤ q) q → G.1 ≤ q := fun q h => by rw [hG]; exact h
  have hG1 : G.1 ≤ s.heap.size := by rw [hG]; exact Nat.le_refl _
  have hbA : ¬ (fun q : Nat => s.heap.size ≤ q) b := Nat.not_le.mpr hbl
  refine lv_aload_n hx hb dL_law_1867 rfl (lv_at hl 1 rfl) ?_
  refine lv_aload_n hx hb dL_law_1868 rfl (lv_at hl 0 rfl) ?_
  refine lv_iload_n hx hb dL_law_1869 rfl (lv_at hl 3 rfl) ?_
  refine lv_iconst (v := 1) hx hb dL_law_1870 (by decide) ?_
  obtain ⟨t_1, et_1⟩ : ∃ v9 : Int32, i3 + 1 = v9 := ⟨_, rfl⟩
  refine z_iadd (v := t_1) hx hb dL_law_1871 et_1 ?_
  have b_i3 := i32b i3
  have ft_1 : t_1.toInt = i3.toInt + 1 := addT (a := i3.toInt) (b := 1) rfl (by decide) et_1 (by omega) (by omega)
  obtain ⟨t_2, et_2⟩ : ∃ v9 : Int32, xs (t_1 : Int32).toNatClampNeg = v9 := ⟨_, rfl⟩
  refine va_sld hx hb hX hbl hbA hS (vin_nat (by omega) (by omega)) dL_law_1872 ?_
  rw [et_2]
  refine laAri (As := [.int t_2]) (rest := []) (wa := xL cB cI cJ cZ cS cT x0 A V) (wb := mL cB cI cJ cZ cS cT m0 B U) ⟨hx, hb, hml, hown, hts⟩ (f_X11_count l G D cB cI cJ cZ cS cT x0 A V ok t_2) hP hD hS hA hK hN hT hAB hG1 (cvB (n := 1) (inr71 _ (List.mem_of_getElem? (i := 8) rfl)) (inr71 _ (List.mem_of_getElem? (i := 9) rfl)) (inr71 _ (List.mem_of_getElem? (i := 10) rfl)) (inr1 _ (List.mem_of_getElem? (i := 2) rfl)) (inr71 _ (List.mem_of_getElem? (i := 11) rfl)) (by decide +kernel) hts rfl rfl ⟨Nat.le_of_ble_eq_true rfl, Nat.le_of_ble_eq_true rfl⟩) 0 11 rfl rfl rfl rfl hl.1 rfl (Nat.le_of_ble_eq_true rfl) ⟨hcc, hss⟩ dL_law_1873 (fun r_3 h_4 => ?_)
  refine lv_pop hx hb dL_law_1876 rfl ?_
  refine lv_aload_n hx hb dL_law_1877 rfl (lv_at hl 2 rfl) ?_
  refine lv_aload_n hx hb dL_law_1878 rfl (lv_at hl 0 rfl) ?_
  refine lv_iload_n hx hb dL_law_1879 rfl (lv_at hl 3 rfl) ?_
  refine lv_iconst (v := 1) hx hb dL_law_1880 (by decide) ?_
  refine z_iadd (v := t_1) hx hb dL_law_1881 et_1 ?_
  refine va_sld hx hb hX hbl hbA hS (vin_nat (by omega) (by omega)) dL_law_1882 ?_
  rw [et_2]
  refine laBri (As := [.int t_2]) (rest := []) (wa := xL cB cI cJ cZ cS cT x0 A V) (wb := mL cB cI cJ cZ cS cT m0 B U) ⟨hx, hb, hml, hown, hts⟩ (f_X12_count l G D cB cI cJ cZ cS cT m0 B U okm t_2) hP hD hS hA hK hN hT hAB hG1 (cvB (n := 1) (inr72 _ (List.mem_of_getElem? (i := 4) rfl)) (inr72 _ (List.mem_of_getElem? (i := 5) rfl)) (inr72 _ (List.mem_of_getElem? (i := 6) rfl)) (inr1 _ (List.mem_of_getElem? (i := 5) rfl)) (inr72 _ (List.mem_of_getElem? (i := 7) rfl)) (by decide +kernel) hts rfl rfl ⟨Nat.le_of_ble_eq_true rfl, Nat.le_of_ble_eq_true rfl⟩) 0 12 rfl rfl rfl rfl hl.1 rfl (Nat.le_of_ble_eq_true rfl) ⟨hcc, hss⟩ dL_law_1883 (fun r_5 h_6 => ?_)
  refine lv_pop hx hb dL_law_1886 rfl ?_
  refine lv_goto (tgt := 2115) hx hb dL_law_1887 (by decide) ?_
  exact K V U H locs ls ok okm trivial hP hD hS (lv_sub hl [0, 1, 2, 3] rfl)

set_option maxHeartbeats 4000000 in
set_option maxRecDepth 100000 in
theorem law_66 {p : Program} {l : Launch} {e : Env} {s : State} {m : MethodId} {below : List Frame} {meth : Method} {c : Code} {G : Gho} {D : va_G} {cB cI cJ cZ cS cT : ClassId} {b L : Nat} {xs : Nat → Int32} {x0 m0 : Nat} {A B : Nat → Nat} {cells slots : Nat} (hL : L ≤ 3072) (C0 : lw_At p s m meth c b L xs) (hK : va_K D vwCl (tyL cB cI cJ cZ cS cT) s) (hN : kN s) (hT : kT G s s.heap) (hG : G.1 = s.heap.size) (hcc : cells ≤ 600000) (hss : slots ≤ 7302249) {H : Heap} {locs : List Loc} {ls : Array Slot} (V U : VX) (ok : xok V) (okm : mok U) (rel : True) (i3 : Int32) (hi : 0 ≤ i3.toInt ∧ i3.toInt + 6 ≤ (L : Int)) (hP : va_P D vwCl (xL cB cI cJ cZ cS cT x0 A V ++ mL cB cI cJ cZ cS cT m0 B U) H) (hD : va_D (fun q : Nat => s.heap.size ≤ q) (xL cB cI cJ cZ cS cT x0 A V ++ mL cB cI cJ cZ cS cT m0 B U)) (hS : va_S (fun q : Nat => s.heap.size ≤ q) s.heap H locs) (hl : lv_has ls 4 [(0, .ref b), (1, .ref x0), (2, .ref m0), (3, .int i3)]) (K : ∀ (V U : VX) (H : Heap) (locs : List Loc) (ls : Array Slot), xok V → mok U → True → va_P D vwCl (xL cB cI cJ cZ cS cT x0 A V ++ mL cB cI cJ cZ cS cT m0 B U) H → va_D (fun q : Nat => s.heap.size ≤ q) (xL cB cI cJ cZ cS cT x0 A V ++ mL cB cI cJ cZ cS cT m0 B U) → va_S (fun q : Nat => s.heap.size ≤ q) s.heap H locs → lv_has ls 4 [(0, .ref b), (1, .ref x0), (2, .ref m0), (3, .int i3)] → W p l e room_1 s m #[Value.ref b] below meth c H locs cells slots (lw_Z below #[Value.ref b] s) (F0 m 2115 ls [])) : W p l e room_1 s m #[Value.ref b] below meth c H locs cells slots (lw_Z below #[Value.ref b] s) (F0 m 1890 ls []) := by
  obtain ⟨hx, hb, hr, hml, hown, hts0, hX, hbl, hlocks, hgv⟩ := id C0
  have hts : ∀ w ∈ wsL_law, w.before #[Value.ref b] s = true := fun w h => hts0 w (wsL_law_in w h)
  have hA : ∀ q : Nat, s.heap.size ≤ q → (fun q : Nat => s.heap.size ≤ q) q := fun _ h => h
  have hAB : ∀ q : Nat, (fun q : Nat => s.heap.size ≤ q) q → G.1 ≤ q := fun q h => by rw [hG]; exact h
  have hG1 : G.1 ≤ s.heap.size := by rw [hG]; exact Nat.le_refl _
  have hbA : ¬ (fun q : Nat => s.heap.size ≤ q) b := Nat.not_le.mpr hbl
  refine lv_aload_n hx hb dL_law_1890 rfl (lv_at hl 1 rfl) ?_
  refine lv_aload_n hx hb dL_law_1891 rfl (lv_at hl 0 rfl) ?_
  refine lv_iload_n hx hb dL_law_1892 rfl (lv_at hl 3 rfl) ?_
  refine lv_iconst (v := 1) hx hb dL_law_1893 (by decide) ?_
  obtain ⟨t_1, et_1⟩ : ∃ v9 : Int32, i3 + 1 = v9 := ⟨_, rfl⟩
  refine z_iadd (v := t_1) hx hb dL_law_1894 et_1 ?_
  have b_i3 := i32b i3
  have ft_1 : t_1.toInt = i3.toInt + 1 := addT (a := i3.toInt) (b := 1) rfl (by decide) et_1 (by omega) (by omega)
  obtain ⟨t_2, et_2⟩ : ∃ v9 : Int32, xs (t_1 : Int32).toNatClampNeg = v9 := ⟨_, rfl⟩
  refine va_sld hx hb hX hbl hbA hS (vin_nat (by omega) (by omega)) dL_law_1895 ?_
  rw [et_2]
  refine laAi (As := [.int t_2]) (rest := []) (wa := xL cB cI cJ cZ cS cT x0 A V) (wb := mL cB cI cJ cZ cS cT m0 B U) ⟨hx, hb, hml, hown, hts⟩ (f_X11_image l G D cB cI cJ cZ cS cT H.size x0 A V ok t_2) hP hD hS hA hK hN hT hAB hG1 (cvB (n := 1) (inr72 _ (List.mem_of_getElem? (i := 9) rfl)) (inr72 _ (List.mem_of_getElem? (i := 10) rfl)) (inr72 _ (List.mem_of_getElem? (i := 11) rfl)) (inr1 _ (List.mem_of_getElem? (i := 2) rfl)) (inr72 _ (List.mem_of_getElem? (i := 12) rfl)) (by decide +kernel) hts rfl rfl ⟨Nat.le_of_ble_eq_true rfl, Nat.le_of_ble_eq_true rfl⟩) 0 11 rfl rfl rfl rfl hl.1 rfl (Nat.le_of_ble_eq_true rfl) ⟨hcc, hss⟩ dL_law_1896 (fun r_3 V_5 H locs h_4 hP hD hS => ?_)
  refine lv_pop hx hb dL_law_1899 rfl ?_
  refine lv_aload_n hx hb dL_law_1900 rfl (lv_at hl 2 rfl) ?_
  refine lv_aload_n hx hb dL_law_1901 rfl (lv_at hl 0 rfl) ?_
  refine lv_iload_n hx hb dL_law_1902 rfl (lv_at hl 3 rfl) ?_
  refine lv_iconst (v := 1) hx hb dL_law_1903 (by decide) ?_
  refine z_iadd (v := t_1) hx hb dL_law_1904 et_1 ?_
  refine va_sld hx hb hX hbl hbA hS (vin_nat (by omega) (by omega)) dL_law_1905 ?_
  rw [et_2]
  refine laBi (As := [.int t_2]) (rest := []) (wa := xL cB cI cJ cZ cS cT x0 A V_5) (wb := mL cB cI cJ cZ cS cT m0 B U) ⟨hx, hb, hml, hown, hts⟩ (f_X12_image l G D cB cI cJ cZ cS cT H.size m0 B U okm t_2) hP hD hS hA hK hN hT hAB hG1 (cvB (n := 1) (inr72 _ (List.mem_of_getElem? (i := 13) rfl)) (inr72 _ (List.mem_of_getElem? (i := 14) rfl)) (inr72 _ (List.mem_of_getElem? (i := 15) rfl)) (inr1 _ (List.mem_of_getElem? (i := 5) rfl)) (inr72 _ (List.mem_of_getElem? (i := 16) rfl)) (by decide +kernel) hts rfl rfl ⟨Nat.le_of_ble_eq_true rfl, Nat.le_of_ble_eq_true rfl⟩) 0 12 rfl rfl rfl rfl hl.1 rfl (Nat.le_of_ble_eq_true rfl) ⟨hcc, hss⟩ dL_law_1906 (fun r_7 U_9 H locs h_8 hP hD hS => ?_)
  refine lv_pop hx hb dL_law_1909 rfl ?_
  refine lv_goto (tgt := 2115) hx hb dL_law_1910 (by decide) ?_
  exact K V_5 U_9 H locs ls h_4.1 h_8.1 trivial hP hD hS (lv_sub hl [0, 1, 2, 3] rfl)

set_option maxHeartbeats 4000000 in
set_option maxRecDepth 100000 in
theorem law_67 {p : Program} {l : Launch} {e : Env} {s : State} {m : MethodId} {below : List Frame} {meth : Method} {c : Code} {G : Gho} {D : va_G} {cB cI cJ cZ cS cT : ClassId} {b L : Nat} {xs : Nat → Int32} {x0 m0 : Nat} {A B : Nat → Nat} {cells slots : Nat} (hL : L ≤ 3072) (C0 : lw_At p s m meth c b L xs) (hK : va_K D vwCl (tyL cB cI cJ cZ cS cT) s) (hN : kN s) (hT : kT G s s.heap) (hG : G.1 = s.heap.size) (hcc : cells ≤ 600000) (hss : slots ≤ 7302249) {H : Heap} {locs : List Loc} {ls : Array Slot} (V U : VX) (ok : xok V) (okm : mok U) (rel : True) (i3 : Int32) (hi : 0 ≤ i3.toInt ∧ i3.toInt + 6 ≤ (L : Int)) (hP : va_P D vwCl (xL cB cI cJ cZ cS cT x0 A V ++ mL cB cI cJ cZ cS cT m0 B U) H) (hD : va_D (fun q : Nat => s.heap.size ≤ q) (xL cB cI cJ cZ cS cT x0 A V ++ mL cB cI cJ cZ cS cT m0 B U)) (hS : va_S (fun q : Nat => s.heap.size ≤ q) s.heap H locs) (hl : lv_has ls 4 [(0, .ref b), (1, .ref x0), (2, .ref m0), (3, .int i3)]) (K : ∀ (V U : VX) (H : Heap) (locs : List Loc) (ls : Array Slot), xok V → mok U → True → va_P D vwCl (xL cB cI cJ cZ cS cT x0 A V ++ mL cB cI cJ cZ cS cT m0 B U) H → va_D (fun q : Nat => s.heap.size ≤ q) (xL cB cI cJ cZ cS cT x0 A V ++ mL cB cI cJ cZ cS cT m0 B U) → va_S (fun q : Nat => s.heap.size ≤ q) s.heap H locs → lv_has ls 4 [(0, .ref b), (1, .ref x0), (2, .ref m0), (3, .int i3)] → W p l e room_1 s m #[Value.ref b] below meth c H locs cells slots (lw_Z below #[Value.ref b] s) (F0 m 2115 ls [])) : W p l e room_1 s m #[Value.ref b] below meth c H locs cells slots (lw_Z below #[Value.ref b] s) (F0 m 1913 ls []) := by
  obtain ⟨hx, hb, hr, hml, hown, hts0, hX, hbl, hlocks, hgv⟩ := id C0
  have hts : ∀ w ∈ wsL_law, w.before #[Value.ref b] s = true := fun w h => hts0 w (wsL_law_in w h)
  have hA : ∀ q : Nat, s.heap.size ≤ q → (fun q : Nat => s.heap.size ≤ q) q := fun _ h => h
  have hAB : ∀ q : Nat, (fun q : Nat => s.heap.size ≤ q) q → G.1 ≤ q := fun q h => by rw [hG]; exact h
  have hG1 : G.1 ≤ s.heap.size := by rw [hG]; exact Nat.le_refl _
  have hbA : ¬ (fun q : Nat => s.heap.size ≤ q) b := Nat.not_le.mpr hbl
  refine lv_aload_n hx hb dL_law_1913 rfl (lv_at hl 1 rfl) ?_
  refine lv_aload_n hx hb dL_law_1914 rfl (lv_at hl 0 rfl) ?_
  refine lv_iload_n hx hb dL_law_1915 rfl (lv_at hl 3 rfl) ?_
  refine lv_iconst (v := 1) hx hb dL_law_1916 (by decide) ?_
  obtain ⟨t_1, et_1⟩ : ∃ v9 : Int32, i3 + 1 = v9 := ⟨_, rfl⟩
  refine z_iadd (v := t_1) hx hb dL_law_1917 et_1 ?_
  have b_i3 := i32b i3
  have ft_1 : t_1.toInt = i3.toInt + 1 := addT (a := i3.toInt) (b := 1) rfl (by decide) et_1 (by omega) (by omega)
  obtain ⟨t_2, et_2⟩ : ∃ v9 : Int32, xs (t_1 : Int32).toNatClampNeg = v9 := ⟨_, rfl⟩
  refine va_sld hx hb hX hbl hbA hS (vin_nat (by omega) (by omega)) dL_law_1918 ?_
  rw [et_2]
  refine laAi (As := [.int t_2]) (rest := []) (wa := xL cB cI cJ cZ cS cT x0 A V) (wb := mL cB cI cJ cZ cS cT m0 B U) ⟨hx, hb, hml, hown, hts⟩ (f_X11_back l G D cB cI cJ cZ cS cT H.size x0 A V ok t_2) hP hD hS hA hK hN hT hAB hG1 (cvB (n := 1) (inr72 _ (List.mem_of_getElem? (i := 17) rfl)) (inr72 _ (List.mem_of_getElem? (i := 18) rfl)) (inr72 _ (List.mem_of_getElem? (i := 19) rfl)) (inr1 _ (List.mem_of_getElem? (i := 2) rfl)) (inr72 _ (List.mem_of_getElem? (i := 20) rfl)) (by decide +kernel) hts rfl rfl ⟨Nat.le_of_ble_eq_true rfl, Nat.le_of_ble_eq_true rfl⟩) 0 11 rfl rfl rfl rfl hl.1 rfl (Nat.le_of_ble_eq_true rfl) ⟨hcc, hss⟩ dL_law_1919 (fun r_3 V_5 H locs h_4 hP hD hS => ?_)
  refine lv_pop hx hb dL_law_1922 rfl ?_
  refine lv_aload_n hx hb dL_law_1923 rfl (lv_at hl 2 rfl) ?_
  refine lv_aload_n hx hb dL_law_1924 rfl (lv_at hl 0 rfl) ?_
  refine lv_iload_n hx hb dL_law_1925 rfl (lv_at hl 3 rfl) ?_
  refine lv_iconst (v := 1) hx hb dL_law_1926 (by decide) ?_
  refine z_iadd (v := t_1) hx hb dL_law_1927 et_1 ?_
  refine va_sld hx hb hX hbl hbA hS (vin_nat (by omega) (by omega)) dL_law_1928 ?_
  rw [et_2]
  refine laBi (As := [.int t_2]) (rest := []) (wa := xL cB cI cJ cZ cS cT x0 A V_5) (wb := mL cB cI cJ cZ cS cT m0 B U) ⟨hx, hb, hml, hown, hts⟩ (f_X12_back l G D cB cI cJ cZ cS cT H.size m0 B U okm t_2) hP hD hS hA hK hN hT hAB hG1 (cvB (n := 1) (inr72 _ (List.mem_of_getElem? (i := 21) rfl)) (inr72 _ (List.mem_of_getElem? (i := 22) rfl)) (inr72 _ (List.mem_of_getElem? (i := 23) rfl)) (inr1 _ (List.mem_of_getElem? (i := 5) rfl)) (inr73 _ (List.mem_of_getElem? (i := 0) rfl)) (by decide +kernel) hts rfl rfl ⟨Nat.le_of_ble_eq_true rfl, Nat.le_of_ble_eq_true rfl⟩) 0 12 rfl rfl rfl rfl hl.1 rfl (Nat.le_of_ble_eq_true rfl) ⟨hcc, hss⟩ dL_law_1929 (fun r_7 U_9 H locs h_8 hP hD hS => ?_)
  refine lv_pop hx hb dL_law_1932 rfl ?_
  refine lv_goto (tgt := 2115) hx hb dL_law_1933 (by decide) ?_
  exact K V_5 U_9 H locs ls h_4.1 h_8.1 trivial hP hD hS (lv_sub hl [0, 1, 2, 3] rfl)

set_option maxHeartbeats 4000000 in
set_option maxRecDepth 100000 in
theorem law_68 {p : Program} {l : Launch} {e : Env} {s : State} {m : MethodId} {below : List Frame} {meth : Method} {c : Code} {G : Gho} {D : va_G} {cB cI cJ cZ cS cT : ClassId} {b L : Nat} {xs : Nat → Int32} {x0 m0 : Nat} {A B : Nat → Nat} {cells slots : Nat} (hL : L ≤ 3072) (C0 : lw_At p s m meth c b L xs) (hK : va_K D vwCl (tyL cB cI cJ cZ cS cT) s) (hN : kN s) (hT : kT G s s.heap) (hG : G.1 = s.heap.size) (hcc : cells ≤ 600000) (hss : slots ≤ 7302249) {H : Heap} {locs : List Loc} {ls : Array Slot} (V U : VX) (ok : xok V) (okm : mok U) (rel : True) (i3 : Int32) (hi : 0 ≤ i3.toInt ∧ i3.toInt + 6 ≤ (L : Int)) (hP : va_P D vwCl (xL cB cI cJ cZ cS cT x0 A V ++ mL cB cI cJ cZ cS cT m0 B U) H) (hD : va_D (fun q : Nat => s.heap.size ≤ q) (xL cB cI cJ cZ cS cT x0 A V ++ mL cB cI cJ cZ cS cT m0 B U)) (hS : va_S (fun q : Nat => s.heap.size ≤ q) s.heap H locs) (hl : lv_has ls 4 [(0, .ref b), (1, .ref x0), (2, .ref m0), (3, .int i3)]) (K : ∀ (V U : VX) (H : Heap) (locs : List Loc) (ls : Array Slot), xok V → mok U → True → va_P D vwCl (xL cB cI cJ cZ cS cT x0 A V ++ mL cB cI cJ cZ cS cT m0 B U) H → va_D (fun q : Nat => s.heap.size ≤ q) (xL cB cI cJ cZ cS cT x0 A V ++ mL cB cI cJ cZ cS cT m0 B U) → va_S (fun q : Nat => s.heap.size ≤ q) s.heap H locs → lv_has ls 4 [(0, .ref b), (1, .ref x0), (2, .ref m0), (3, .int i3)] → W p l e room_1 s m #[Value.ref b] below meth c H locs cells slots (lw_Z below #[Value.ref b] s) (F0 m 2115 ls [])) : W p l e room_1 s m #[Value.ref b] below meth c H locs cells slots (lw_Z below #[Value.ref b] s) (F0 m 1936 ls []) := by
  obtain ⟨hx, hb, hr, hml, hown, hts0, hX, hbl, hlocks, hgv⟩ := id C0
  have hts : ∀ w ∈ wsL_law, w.before #[Value.ref b] s = true := fun w h => hts0 w (wsL_law_in w h)
  have hA : ∀ q : Nat, s.heap.size ≤ q → (fun q : Nat => s.heap.size ≤ q) q := fun _ h => h
  have hAB : ∀ q : Nat, (fun q : Nat => s.heap.size ≤ q) q → G.1 ≤ q := fun q h => by rw [hG]; exact h
  have hG1 : G.1 ≤ s.heap.size := by rw [hG]; exact Nat.le_refl _
  have hbA : ¬ (fun q : Nat => s.heap.size ≤ q) b := Nat.not_le.mpr hbl
  refine lv_aload_n hx hb dL_law_1936 rfl (lv_at hl 1 rfl) ?_
  refine lv_aload_n hx hb dL_law_1937 rfl (lv_at hl 0 rfl) ?_
  refine lv_iload_n hx hb dL_law_1938 rfl (lv_at hl 3 rfl) ?_
  refine lv_iconst (v := 1) hx hb dL_law_1939 (by decide) ?_
  obtain ⟨t_1, et_1⟩ : ∃ v9 : Int32, i3 + 1 = v9 := ⟨_, rfl⟩
  refine z_iadd (v := t_1) hx hb dL_law_1940 et_1 ?_
  have b_i3 := i32b i3
  have ft_1 : t_1.toInt = i3.toInt + 1 := addT (a := i3.toInt) (b := 1) rfl (by decide) et_1 (by omega) (by omega)
  obtain ⟨t_2, et_2⟩ : ∃ v9 : Int32, xs (t_1 : Int32).toNatClampNeg = v9 := ⟨_, rfl⟩
  refine va_sld hx hb hX hbl hbA hS (vin_nat (by omega) (by omega)) dL_law_1941 ?_
  rw [et_2]
  refine lv_aload_n hx hb dL_law_1942 rfl (lv_at hl 0 rfl) ?_
  refine lv_iload_n hx hb dL_law_1943 rfl (lv_at hl 3 rfl) ?_
  refine lv_iconst (v := 2) hx hb dL_law_1944 (by decide) ?_
  obtain ⟨t_3, et_3⟩ : ∃ v9 : Int32, i3 + 2 = v9 := ⟨_, rfl⟩
  refine z_iadd (v := t_3) hx hb dL_law_1945 et_3 ?_
  have ft_3 : t_3.toInt = i3.toInt + 2 := addT (a := i3.toInt) (b := 2) rfl (by decide) et_3 (by omega) (by omega)
  obtain ⟨t_4, et_4⟩ : ∃ v9 : Int32, xs (t_3 : Int32).toNatClampNeg = v9 := ⟨_, rfl⟩
  refine va_sld hx hb hX hbl hbA hS (vin_nat (by omega) (by omega)) dL_law_1946 ?_
  rw [et_4]
  refine lv_aload_n hx hb dL_law_1947 rfl (lv_at hl 0 rfl) ?_
  refine lv_iload_n hx hb dL_law_1948 rfl (lv_at hl 3 rfl) ?_
  refine lv_iconst (v := 3) hx hb dL_law_1949 (by decide) ?_
  obtain ⟨t_5, et_5⟩ : ∃ v9 : Int32, i3 + 3 = v9 := ⟨_, rfl⟩
  refine z_iadd (v := t_5) hx hb dL_law_1950 et_5 ?_
  have ft_5 : t_5.toInt = i3.toInt + 3 := addT (a := i3.toInt) (b := 3) rfl (by decide) et_5 (by omega) (by omega)
  obtain ⟨t_6, et_6⟩ : ∃ v9 : Int32, xs (t_5 : Int32).toNatClampNeg = v9 := ⟨_, rfl⟩
  refine va_sld hx hb hX hbl hbA hS (vin_nat (by omega) (by omega)) dL_law_1951 ?_
  rw [et_6]
  refine laAi (As := [.int t_2, .int t_4, .int t_6]) (rest := []) (wa := xL cB cI cJ cZ cS cT x0 A V) (wb := mL cB cI cJ cZ cS cT m0 B U) ⟨hx, hb, hml, hown, hts⟩ (f_X11_row l G D cB cI cJ cZ cS cT H.size x0 A V ok t_2 t_4 t_6) hP hD hS hA hK hN hT hAB hG1 (cvB (n := 3) (inr73 _ (List.mem_of_getElem? (i := 1) rfl)) (inr73 _ (List.mem_of_getElem? (i := 2) rfl)) (inr73 _ (List.mem_of_getElem? (i := 3) rfl)) (inr1 _ (List.mem_of_getElem? (i := 2) rfl)) (inr73 _ (List.mem_of_getElem? (i := 4) rfl)) (by decide +kernel) hts rfl rfl ⟨Nat.le_of_ble_eq_true rfl, Nat.le_of_ble_eq_true rfl⟩) 0 11 rfl rfl rfl rfl hl.1 rfl (Nat.le_of_ble_eq_true rfl) ⟨hcc, hss⟩ dL_law_1952 (fun r_7 V_9 H locs h_8 hP hD hS => ?_)
  refine lv_aload_n hx hb dL_law_1955 rfl (lv_at hl 2 rfl) ?_
  refine lv_aload_n hx hb dL_law_1956 rfl (lv_at hl 0 rfl) ?_
  refine lv_iload_n hx hb dL_law_1957 rfl (lv_at hl 3 rfl) ?_
  refine lv_iconst (v := 1) hx hb dL_law_1958 (by decide) ?_
  refine z_iadd (v := t_1) hx hb dL_law_1959 et_1 ?_
  refine va_sld hx hb hX hbl hbA hS (vin_nat (by omega) (by omega)) dL_law_1960 ?_
  rw [et_2]
  refine lv_aload_n hx hb dL_law_1961 rfl (lv_at hl 0 rfl) ?_
  refine lv_iload_n hx hb dL_law_1962 rfl (lv_at hl 3 rfl) ?_
  refine lv_iconst (v := 2) hx hb dL_law_1963 (by decide) ?_
  refine z_iadd (v := t_3) hx hb dL_law_1964 et_3 ?_
  refine va_sld hx hb hX hbl hbA hS (vin_nat (by omega) (by omega)) dL_law_1965 ?_
  rw [et_4]
  refine lv_aload_n hx hb dL_law_1966 rfl (lv_at hl 0 rfl) ?_
  refine lv_iload_n hx hb dL_law_1967 rfl (lv_at hl 3 rfl) ?_
  refine lv_iconst (v := 3) hx hb dL_law_1968 (by decide) ?_
  refine z_iadd (v := t_5) hx hb dL_law_1969 et_5 ?_
  refine va_sld hx hb hX hbl hbA hS (vin_nat (by omega) (by omega)) dL_law_1970 ?_
  rw [et_6]
  refine laBi (As := [.int t_2, .int t_4, .int t_6]) (rest := [.int r_7]) (wa := xL cB cI cJ cZ cS cT x0 A V_9) (wb := mL cB cI cJ cZ cS cT m0 B U) ⟨hx, hb, hml, hown, hts⟩ (f_X12_row l G D cB cI cJ cZ cS cT H.size m0 B U okm t_2 t_4 t_6) hP hD hS hA hK hN hT hAB hG1 (cvB (n := 3) (inr73 _ (List.mem_of_getElem? (i := 15) rfl)) (inr73 _ (List.mem_of_getElem? (i := 16) rfl)) (inr73 _ (List.mem_of_getElem? (i := 17) rfl)) (inr1 _ (List.mem_of_getElem? (i := 5) rfl)) (inr73 _ (List.mem_of_getElem? (i := 18) rfl)) (by decide +kernel) hts rfl rfl ⟨Nat.le_of_ble_eq_true rfl, Nat.le_of_ble_eq_true rfl⟩) 0 12 rfl rfl rfl rfl hl.1 rfl (Nat.le_of_ble_eq_true rfl) ⟨hcc, hss⟩ dL_law_1971 (fun r_11 U_13 H locs h_12 hP hD hS => ?_)
  refine lv_icmp_eq (tgt := 2115) hx hb dL_law_1974 (by decide) (fun _ => ?_) (fun c0 => absurd (h_8.2.trans h_12.2.symm) c0)
  exact K V_9 U_13 H locs ls h_8.1 h_12.1 trivial hP hD hS (lv_sub hl [0, 1, 2, 3] rfl)

set_option maxHeartbeats 4000000 in
set_option maxRecDepth 100000 in
theorem law_69 {p : Program} {l : Launch} {e : Env} {s : State} {m : MethodId} {below : List Frame} {meth : Method} {c : Code} {G : Gho} {D : va_G} {cB cI cJ cZ cS cT : ClassId} {b L : Nat} {xs : Nat → Int32} {x0 m0 : Nat} {A B : Nat → Nat} {cells slots : Nat} (hL : L ≤ 3072) (C0 : lw_At p s m meth c b L xs) (hK : va_K D vwCl (tyL cB cI cJ cZ cS cT) s) (hN : kN s) (hT : kT G s s.heap) (hG : G.1 = s.heap.size) (hcc : cells ≤ 600000) (hss : slots ≤ 7302249) {H : Heap} {locs : List Loc} {ls : Array Slot} (V U : VX) (ok : xok V) (okm : mok U) (rel : True) (i3 : Int32) (hi : 0 ≤ i3.toInt ∧ i3.toInt + 6 ≤ (L : Int)) (hP : va_P D vwCl (xL cB cI cJ cZ cS cT x0 A V ++ mL cB cI cJ cZ cS cT m0 B U) H) (hD : va_D (fun q : Nat => s.heap.size ≤ q) (xL cB cI cJ cZ cS cT x0 A V ++ mL cB cI cJ cZ cS cT m0 B U)) (hS : va_S (fun q : Nat => s.heap.size ≤ q) s.heap H locs) (hl : lv_has ls 4 [(0, .ref b), (1, .ref x0), (2, .ref m0), (3, .int i3)]) (K : ∀ (V U : VX) (H : Heap) (locs : List Loc) (ls : Array Slot), xok V → mok U → True → va_P D vwCl (xL cB cI cJ cZ cS cT x0 A V ++ mL cB cI cJ cZ cS cT m0 B U) H → va_D (fun q : Nat => s.heap.size ≤ q) (xL cB cI cJ cZ cS cT x0 A V ++ mL cB cI cJ cZ cS cT m0 B U) → va_S (fun q : Nat => s.heap.size ≤ q) s.heap H locs → lv_has ls 4 [(0, .ref b), (1, .ref x0), (2, .ref m0), (3, .int i3)] → W p l e room_1 s m #[Value.ref b] below meth c H locs cells slots (lw_Z below #[Value.ref b] s) (F0 m 2115 ls [])) : W p l e room_1 s m #[Value.ref b] below meth c H locs cells slots (lw_Z below #[Value.ref b] s) (F0 m 1979 ls []) := by
  obtain ⟨hx, hb, hr, hml, hown, hts0, hX, hbl, hlocks, hgv⟩ := id C0
  have hts : ∀ w ∈ wsL_law, w.before #[Value.ref b] s = true := fun w h => hts0 w (wsL_law_in w h)
  have hA : ∀ q : Nat, s.heap.size ≤ q → (fun q : Nat => s.heap.size ≤ q) q := fun _ h => h
  have hAB : ∀ q : Nat, (fun q : Nat => s.heap.size ≤ q) q → G.1 ≤ q := fun q h => by rw [hG]; exact h
  have hG1 : G.1 ≤ s.heap.size := by rw [hG]; exact Nat.le_refl _
  have hbA : ¬ (fun q : Nat => s.heap.size ≤ q) b := Nat.not_le.mpr hbl
  refine lv_aload_n hx hb dL_law_1979 rfl (lv_at hl 1 rfl) ?_
  refine lv_aload_n hx hb dL_law_1980 rfl (lv_at hl 0 rfl) ?_
  refine lv_iload_n hx hb dL_law_1981 rfl (lv_at hl 3 rfl) ?_
  refine lv_iconst (v := 1) hx hb dL_law_1982 (by decide) ?_
  obtain ⟨t_1, et_1⟩ : ∃ v9 : Int32, i3 + 1 = v9 := ⟨_, rfl⟩
  refine z_iadd (v := t_1) hx hb dL_law_1983 et_1 ?_
  have b_i3 := i32b i3
  have ft_1 : t_1.toInt = i3.toInt + 1 := addT (a := i3.toInt) (b := 1) rfl (by decide) et_1 (by omega) (by omega)
  obtain ⟨t_2, et_2⟩ : ∃ v9 : Int32, xs (t_1 : Int32).toNatClampNeg = v9 := ⟨_, rfl⟩
  refine va_sld hx hb hX hbl hbA hS (vin_nat (by omega) (by omega)) dL_law_1984 ?_
  rw [et_2]
  refine lv_aload_n hx hb dL_law_1985 rfl (lv_at hl 0 rfl) ?_
  refine lv_iload_n hx hb dL_law_1986 rfl (lv_at hl 3 rfl) ?_
  refine lv_iconst (v := 2) hx hb dL_law_1987 (by decide) ?_
  obtain ⟨t_3, et_3⟩ : ∃ v9 : Int32, i3 + 2 = v9 := ⟨_, rfl⟩
  refine z_iadd (v := t_3) hx hb dL_law_1988 et_3 ?_
  have ft_3 : t_3.toInt = i3.toInt + 2 := addT (a := i3.toInt) (b := 2) rfl (by decide) et_3 (by omega) (by omega)
  obtain ⟨t_4, et_4⟩ : ∃ v9 : Int32, xs (t_3 : Int32).toNatClampNeg = v9 := ⟨_, rfl⟩
  refine va_sld hx hb hX hbl hbA hS (vin_nat (by omega) (by omega)) dL_law_1989 ?_
  rw [et_4]
  refine lv_aload_n hx hb dL_law_1990 rfl (lv_at hl 0 rfl) ?_
  refine lv_iload_n hx hb dL_law_1991 rfl (lv_at hl 3 rfl) ?_
  refine lv_iconst (v := 3) hx hb dL_law_1992 (by decide) ?_
  obtain ⟨t_5, et_5⟩ : ∃ v9 : Int32, i3 + 3 = v9 := ⟨_, rfl⟩
  refine z_iadd (v := t_5) hx hb dL_law_1993 et_5 ?_
  have ft_5 : t_5.toInt = i3.toInt + 3 := addT (a := i3.toInt) (b := 3) rfl (by decide) et_5 (by omega) (by omega)
  obtain ⟨t_6, et_6⟩ : ∃ v9 : Int32, xs (t_5 : Int32).toNatClampNeg = v9 := ⟨_, rfl⟩
  refine va_sld hx hb hX hbl hbA hS (vin_nat (by omega) (by omega)) dL_law_1994 ?_
  rw [et_6]
  have b_t_6 := i32b t_6
  obtain ⟨t_7, et_7⟩ : ∃ v9 : Int64, (t_6 : Int32).toInt64 = v9 := ⟨_, rfl⟩
  refine lv_i2l (v := t_7) hx hb dL_law_1995 et_7 ?_
  have ft_7 : t_7.toInt = t_6.toInt := by rw [← et_7]; exact Int32.toInt_toInt64 _
  refine lv_bipush (v := 32) hx hb dL_law_1996 (by decide) ?_
  obtain ⟨t_8, et_8⟩ : ∃ v9 : Int64, t_7 <<< ((32 : Int32).toInt64 &&& 63) = v9 := ⟨_, rfl⟩
  refine lv_lshl (v := t_8) hx hb dL_law_1998 et_8 ?_
  refine lv_aload_n hx hb dL_law_1999 rfl (lv_at hl 0 rfl) ?_
  refine lv_iload_n hx hb dL_law_2000 rfl (lv_at hl 3 rfl) ?_
  refine lv_iconst (v := 4) hx hb dL_law_2001 (by decide) ?_
  obtain ⟨t_9, et_9⟩ : ∃ v9 : Int32, i3 + 4 = v9 := ⟨_, rfl⟩
  refine z_iadd (v := t_9) hx hb dL_law_2002 et_9 ?_
  have ft_9 : t_9.toInt = i3.toInt + 4 := addT (a := i3.toInt) (b := 4) rfl (by decide) et_9 (by omega) (by omega)
  obtain ⟨t_10, et_10⟩ : ∃ v9 : Int32, xs (t_9 : Int32).toNatClampNeg = v9 := ⟨_, rfl⟩
  refine va_sld hx hb hX hbl hbA hS (vin_nat (by omega) (by omega)) dL_law_2003 ?_
  rw [et_10]
  have b_t_10 := i32b t_10
  obtain ⟨t_11, et_11⟩ : ∃ v9 : Int64, (t_10 : Int32).toInt64 = v9 := ⟨_, rfl⟩
  refine lv_i2l (v := t_11) hx hb dL_law_2004 et_11 ?_
  have ft_11 : t_11.toInt = t_10.toInt := by rw [← et_11]; exact Int32.toInt_toInt64 _
  refine lv_ldc2 hx hb hown (hts _ (inr1 _ (List.mem_of_getElem? (i := 6) rfl))) dL_law_2005 ?_
  obtain ⟨t_12, et_12⟩ : ∃ v9 : Int64, t_11 &&& 4294967295 = v9 := ⟨_, rfl⟩
  refine z_land (v := t_12) hx hb dL_law_2008 et_12 ?_
  obtain ⟨t_13, et_13⟩ : ∃ v9 : Int64, t_8 ||| t_12 = v9 := ⟨_, rfl⟩
  refine z_lor (v := t_13) hx hb dL_law_2009 et_13 ?_
  refine laAi (As := [.int t_2, .int t_4, .long t_13]) (rest := []) (wa := xL cB cI cJ cZ cS cT x0 A V) (wb := mL cB cI cJ cZ cS cT m0 B U) ⟨hx, hb, hml, hown, hts⟩ (f_X11_write l G D cB cI cJ cZ cS cT H.size x0 A V ok t_2 t_4 t_13) hP hD hS hA hK hN hT hAB hG1 (cvB (n := 3) (inr73 _ (List.mem_of_getElem? (i := 19) rfl)) (inr73 _ (List.mem_of_getElem? (i := 20) rfl)) (inr73 _ (List.mem_of_getElem? (i := 21) rfl)) (inr1 _ (List.mem_of_getElem? (i := 2) rfl)) (inr73 _ (List.mem_of_getElem? (i := 22) rfl)) (by decide +kernel) hts rfl rfl ⟨Nat.le_of_ble_eq_true rfl, Nat.le_of_ble_eq_true rfl⟩) 0 11 rfl rfl rfl rfl hl.1 rfl (Nat.le_of_ble_eq_true rfl) ⟨hcc, hss⟩ dL_law_2010 (fun r_14 V_16 H locs h_15 hP hD hS => ?_)
  refine lv_pop hx hb dL_law_2013 rfl ?_
  refine lv_aload_n hx hb dL_law_2014 rfl (lv_at hl 2 rfl) ?_
  refine lv_aload_n hx hb dL_law_2015 rfl (lv_at hl 0 rfl) ?_
  refine lv_iload_n hx hb dL_law_2016 rfl (lv_at hl 3 rfl) ?_
  refine lv_iconst (v := 1) hx hb dL_law_2017 (by decide) ?_
  refine z_iadd (v := t_1) hx hb dL_law_2018 et_1 ?_
  refine va_sld hx hb hX hbl hbA hS (vin_nat (by omega) (by omega)) dL_law_2019 ?_
  rw [et_2]
  refine lv_aload_n hx hb dL_law_2020 rfl (lv_at hl 0 rfl) ?_
  refine lv_iload_n hx hb dL_law_2021 rfl (lv_at hl 3 rfl) ?_
  refine lv_iconst (v := 2) hx hb dL_law_2022 (by decide) ?_
  refine z_iadd (v := t_3) hx hb dL_law_2023 et_3 ?_
  refine va_sld hx hb hX hbl hbA hS (vin_nat (by omega) (by omega)) dL_law_2024 ?_
  rw [et_4]
  refine lv_aload_n hx hb dL_law_2025 rfl (lv_at hl 0 rfl) ?_
  refine lv_iload_n hx hb dL_law_2026 rfl (lv_at hl 3 rfl) ?_
  refine lv_iconst (v := 3) hx hb dL_law_2027 (by decide) ?_
  refine z_iadd (v := t_5) hx hb dL_law_2028 et_5 ?_
  refine va_sld hx hb hX hbl hbA hS (vin_nat (by omega) (by omega)) dL_law_2029 ?_
  rw [et_6]
  refine lv_i2l (v := t_7) hx hb dL_law_2030 et_7 ?_
  have ft_7 : t_7.toInt = t_6.toInt := by rw [← et_7]; exact Int32.toInt_toInt64 _
  refine lv_bipush (v := 32) hx hb dL_law_2031 (by decide) ?_
  refine lv_lshl (v := t_8) hx hb dL_law_2033 et_8 ?_
  refine lv_aload_n hx hb dL_law_2034 rfl (lv_at hl 0 rfl) ?_
  refine lv_iload_n hx hb dL_law_2035 rfl (lv_at hl 3 rfl) ?_
  refine lv_iconst (v := 4) hx hb dL_law_2036 (by decide) ?_
  refine z_iadd (v := t_9) hx hb dL_law_2037 et_9 ?_
  refine va_sld hx hb hX hbl hbA hS (vin_nat (by omega) (by omega)) dL_law_2038 ?_
  rw [et_10]
  refine lv_i2l (v := t_11) hx hb dL_law_2039 et_11 ?_
  have ft_11 : t_11.toInt = t_10.toInt := by rw [← et_11]; exact Int32.toInt_toInt64 _
  refine lv_ldc2 hx hb hown (hts _ (inr1 _ (List.mem_of_getElem? (i := 6) rfl))) dL_law_2040 ?_
  refine z_land (v := t_12) hx hb dL_law_2043 et_12 ?_
  refine z_lor (v := t_13) hx hb dL_law_2044 et_13 ?_
  refine laBi (As := [.int t_2, .int t_4, .long t_13]) (rest := []) (wa := xL cB cI cJ cZ cS cT x0 A V_16) (wb := mL cB cI cJ cZ cS cT m0 B U) ⟨hx, hb, hml, hown, hts⟩ (f_X12_write l G D cB cI cJ cZ cS cT H.size m0 B U okm t_2 t_4 t_13) hP hD hS hA hK hN hT hAB hG1 (cvB (n := 3) (inr74 _ (List.mem_of_getElem? (i := 7) rfl)) (inr74 _ (List.mem_of_getElem? (i := 8) rfl)) (inr74 _ (List.mem_of_getElem? (i := 9) rfl)) (inr1 _ (List.mem_of_getElem? (i := 5) rfl)) (inr74 _ (List.mem_of_getElem? (i := 10) rfl)) (by decide +kernel) hts rfl rfl ⟨Nat.le_of_ble_eq_true rfl, Nat.le_of_ble_eq_true rfl⟩) 0 12 rfl rfl rfl rfl hl.1 rfl (Nat.le_of_ble_eq_true rfl) ⟨hcc, hss⟩ dL_law_2045 (fun r_18 U_20 H locs h_19 hP hD hS => ?_)
  refine lv_pop hx hb dL_law_2048 rfl ?_
  refine lv_goto (tgt := 2115) hx hb dL_law_2049 (by decide) ?_
  exact K V_16 U_20 H locs ls h_15.1 h_19.1 trivial hP hD hS (lv_sub hl [0, 1, 2, 3] rfl)

set_option maxHeartbeats 4000000 in
set_option maxRecDepth 100000 in
theorem law_70 {p : Program} {l : Launch} {e : Env} {s : State} {m : MethodId} {below : List Frame} {meth : Method} {c : Code} {G : Gho} {D : va_G} {cB cI cJ cZ cS cT : ClassId} {b L : Nat} {xs : Nat → Int32} {x0 m0 : Nat} {A B : Nat → Nat} {cells slots : Nat} (hL : L ≤ 3072) (C0 : lw_At p s m meth c b L xs) (hK : va_K D vwCl (tyL cB cI cJ cZ cS cT) s) (hN : kN s) (hT : kT G s s.heap) (hG : G.1 = s.heap.size) (hcc : cells ≤ 600000) (hss : slots ≤ 7302249) {H : Heap} {locs : List Loc} {ls : Array Slot} (V U : VX) (ok : xok V) (okm : mok U) (rel : True) (i3 : Int32) (hi : 0 ≤ i3.toInt ∧ i3.toInt + 6 ≤ (L : Int)) (hP : va_P D vwCl (xL cB cI cJ cZ cS cT x0 A V ++ mL cB cI cJ cZ cS cT m0 B U) H) (hD : va_D (fun q : Nat => s.heap.size ≤ q) (xL cB cI cJ cZ cS cT x0 A V ++ mL cB cI cJ cZ cS cT m0 B U)) (hS : va_S (fun q : Nat => s.heap.size ≤ q) s.heap H locs) (hl : lv_has ls 4 [(0, .ref b), (1, .ref x0), (2, .ref m0), (3, .int i3)]) (K : ∀ (V U : VX) (H : Heap) (locs : List Loc) (ls : Array Slot), xok V → mok U → True → va_P D vwCl (xL cB cI cJ cZ cS cT x0 A V ++ mL cB cI cJ cZ cS cT m0 B U) H → va_D (fun q : Nat => s.heap.size ≤ q) (xL cB cI cJ cZ cS cT x0 A V ++ mL cB cI cJ cZ cS cT m0 B U) → va_S (fun q : Nat => s.heap.size ≤ q) s.heap H locs → lv_has ls 4 [(0, .ref b), (1, .ref x0), (2, .ref m0), (3, .int i3)] → W p l e room_1 s m #[Value.ref b] below meth c H locs cells slots (lw_Z below #[Value.ref b] s) (F0 m 2115 ls [])) : W p l e room_1 s m #[Value.ref b] below meth c H locs cells slots (lw_Z below #[Value.ref b] s) (F0 m 2052 ls []) := by
  obtain ⟨hx, hb, hr, hml, hown, hts0, hX, hbl, hlocks, hgv⟩ := id C0
  have hts : ∀ w ∈ wsL_law, w.before #[Value.ref b] s = true := fun w h => hts0 w (wsL_law_in w h)
  have hA : ∀ q : Nat, s.heap.size ≤ q → (fun q : Nat => s.heap.size ≤ q) q := fun _ h => h
  have hAB : ∀ q : Nat, (fun q : Nat => s.heap.size ≤ q) q → G.1 ≤ q := fun q h => by rw [hG]; exact h
  have hG1 : G.1 ≤ s.heap.size := by rw [hG]; exact Nat.le_refl _
  have hbA : ¬ (fun q : Nat => s.heap.size ≤ q) b := Nat.not_le.mpr hbl
  refine lv_aload_n hx hb dL_law_2052 rfl (lv_at hl 1 rfl) ?_
  refine lv_aload_n hx hb dL_law_2053 rfl (lv_at hl 0 rfl) ?_
  refine lv_iload_n hx hb dL_law_2054 rfl (lv_at hl 3 rfl) ?_
  refine lv_iconst (v := 1) hx hb dL_law_2055 (by decide) ?_
  obtain ⟨t_1, et_1⟩ : ∃ v9 : Int32, i3 + 1 = v9 := ⟨_, rfl⟩
  refine z_iadd (v := t_1) hx hb dL_law_2056 et_1 ?_
  have b_i3 := i32b i3
  have ft_1 : t_1.toInt = i3.toInt + 1 := addT (a := i3.toInt) (b := 1) rfl (by decide) et_1 (by omega) (by omega)
  obtain ⟨t_2, et_2⟩ : ∃ v9 : Int32, xs (t_1 : Int32).toNatClampNeg = v9 := ⟨_, rfl⟩
  refine va_sld hx hb hX hbl hbA hS (vin_nat (by omega) (by omega)) dL_law_2057 ?_
  rw [et_2]
  refine lv_aload_n hx hb dL_law_2058 rfl (lv_at hl 0 rfl) ?_
  refine lv_iload_n hx hb dL_law_2059 rfl (lv_at hl 3 rfl) ?_
  refine lv_iconst (v := 2) hx hb dL_law_2060 (by decide) ?_
  obtain ⟨t_3, et_3⟩ : ∃ v9 : Int32, i3 + 2 = v9 := ⟨_, rfl⟩
  refine z_iadd (v := t_3) hx hb dL_law_2061 et_3 ?_
  have ft_3 : t_3.toInt = i3.toInt + 2 := addT (a := i3.toInt) (b := 2) rfl (by decide) et_3 (by omega) (by omega)
  obtain ⟨t_4, et_4⟩ : ∃ v9 : Int32, xs (t_3 : Int32).toNatClampNeg = v9 := ⟨_, rfl⟩
  refine va_sld hx hb hX hbl hbA hS (vin_nat (by omega) (by omega)) dL_law_2062 ?_
  rw [et_4]
  refine lv_aload_n hx hb dL_law_2063 rfl (lv_at hl 0 rfl) ?_
  refine lv_iload_n hx hb dL_law_2064 rfl (lv_at hl 3 rfl) ?_
  refine lv_iconst (v := 3) hx hb dL_law_2065 (by decide) ?_
  obtain ⟨t_5, et_5⟩ : ∃ v9 : Int32, i3 + 3 = v9 := ⟨_, rfl⟩
  refine z_iadd (v := t_5) hx hb dL_law_2066 et_5 ?_
  have ft_5 : t_5.toInt = i3.toInt + 3 := addT (a := i3.toInt) (b := 3) rfl (by decide) et_5 (by omega) (by omega)
  obtain ⟨t_6, et_6⟩ : ∃ v9 : Int32, xs (t_5 : Int32).toNatClampNeg = v9 := ⟨_, rfl⟩
  refine va_sld hx hb hX hbl hbA hS (vin_nat (by omega) (by omega)) dL_law_2067 ?_
  rw [et_6]
  refine lv_aload_n hx hb dL_law_2068 rfl (lv_at hl 0 rfl) ?_
  refine lv_iload_n hx hb dL_law_2069 rfl (lv_at hl 3 rfl) ?_
  refine lv_iconst (v := 4) hx hb dL_law_2070 (by decide) ?_
  obtain ⟨t_7, et_7⟩ : ∃ v9 : Int32, i3 + 4 = v9 := ⟨_, rfl⟩
  refine z_iadd (v := t_7) hx hb dL_law_2071 et_7 ?_
  have ft_7 : t_7.toInt = i3.toInt + 4 := addT (a := i3.toInt) (b := 4) rfl (by decide) et_7 (by omega) (by omega)
  obtain ⟨t_8, et_8⟩ : ∃ v9 : Int32, xs (t_7 : Int32).toNatClampNeg = v9 := ⟨_, rfl⟩
  refine va_sld hx hb hX hbl hbA hS (vin_nat (by omega) (by omega)) dL_law_2072 ?_
  rw [et_8]
  refine lv_aload_n hx hb dL_law_2073 rfl (lv_at hl 0 rfl) ?_
  refine lv_iload_n hx hb dL_law_2074 rfl (lv_at hl 3 rfl) ?_
  refine lv_iconst (v := 5) hx hb dL_law_2075 (by decide) ?_
  obtain ⟨t_9, et_9⟩ : ∃ v9 : Int32, i3 + 5 = v9 := ⟨_, rfl⟩
  refine z_iadd (v := t_9) hx hb dL_law_2076 et_9 ?_
  have ft_9 : t_9.toInt = i3.toInt + 5 := addT (a := i3.toInt) (b := 5) rfl (by decide) et_9 (by omega) (by omega)
  obtain ⟨t_10, et_10⟩ : ∃ v9 : Int32, xs (t_9 : Int32).toNatClampNeg = v9 := ⟨_, rfl⟩
  refine va_sld hx hb hX hbl hbA hS (vin_nat (by omega) (by omega)) dL_law_2077 ?_
  rw [et_10]
  refine laAi (As := [.int t_2, .int t_4, .int t_6, .int t_8, .int t_10]) (rest := []) (wa := xL cB cI cJ cZ cS cT x0 A V) (wb := mL cB cI cJ cZ cS cT m0 B U) ⟨hx, hb, hml, hown, hts⟩ (f_X11_paste l G D cB cI cJ cZ cS cT H.size x0 A V ok t_2 t_4 t_6 t_8 t_10) hP hD hS hA hK hN hT hAB hG1 (cvB (n := 5) (inr74 _ (List.mem_of_getElem? (i := 14) rfl)) (inr74 _ (List.mem_of_getElem? (i := 15) rfl)) (inr74 _ (List.mem_of_getElem? (i := 16) rfl)) (inr1 _ (List.mem_of_getElem? (i := 2) rfl)) (inr74 _ (List.mem_of_getElem? (i := 17) rfl)) (by decide +kernel) hts rfl rfl ⟨Nat.le_of_ble_eq_true rfl, Nat.le_of_ble_eq_true rfl⟩) 0 11 rfl rfl rfl rfl hl.1 rfl (Nat.le_of_ble_eq_true rfl) ⟨hcc, hss⟩ dL_law_2078 (fun r_11 V_13 H locs h_12 hP hD hS => ?_)
  refine lv_pop hx hb dL_law_2081 rfl ?_
  refine lv_aload_n hx hb dL_law_2082 rfl (lv_at hl 2 rfl) ?_
  refine lv_aload_n hx hb dL_law_2083 rfl (lv_at hl 0 rfl) ?_
  refine lv_iload_n hx hb dL_law_2084 rfl (lv_at hl 3 rfl) ?_
  refine lv_iconst (v := 1) hx hb dL_law_2085 (by decide) ?_
  refine z_iadd (v := t_1) hx hb dL_law_2086 et_1 ?_
  refine va_sld hx hb hX hbl hbA hS (vin_nat (by omega) (by omega)) dL_law_2087 ?_
  rw [et_2]
  refine lv_aload_n hx hb dL_law_2088 rfl (lv_at hl 0 rfl) ?_
  refine lv_iload_n hx hb dL_law_2089 rfl (lv_at hl 3 rfl) ?_
  refine lv_iconst (v := 2) hx hb dL_law_2090 (by decide) ?_
  refine z_iadd (v := t_3) hx hb dL_law_2091 et_3 ?_
  refine va_sld hx hb hX hbl hbA hS (vin_nat (by omega) (by omega)) dL_law_2092 ?_
  rw [et_4]
  refine lv_aload_n hx hb dL_law_2093 rfl (lv_at hl 0 rfl) ?_
  refine lv_iload_n hx hb dL_law_2094 rfl (lv_at hl 3 rfl) ?_
  refine lv_iconst (v := 3) hx hb dL_law_2095 (by decide) ?_
  refine z_iadd (v := t_5) hx hb dL_law_2096 et_5 ?_
  refine va_sld hx hb hX hbl hbA hS (vin_nat (by omega) (by omega)) dL_law_2097 ?_
  rw [et_6]
  refine lv_aload_n hx hb dL_law_2098 rfl (lv_at hl 0 rfl) ?_
  refine lv_iload_n hx hb dL_law_2099 rfl (lv_at hl 3 rfl) ?_
  refine lv_iconst (v := 4) hx hb dL_law_2100 (by decide) ?_
  refine z_iadd (v := t_7) hx hb dL_law_2101 et_7 ?_
  refine va_sld hx hb hX hbl hbA hS (vin_nat (by omega) (by omega)) dL_law_2102 ?_
  rw [et_8]
  refine lv_aload_n hx hb dL_law_2103 rfl (lv_at hl 0 rfl) ?_
  refine lv_iload_n hx hb dL_law_2104 rfl (lv_at hl 3 rfl) ?_
  refine lv_iconst (v := 5) hx hb dL_law_2105 (by decide) ?_
  refine z_iadd (v := t_9) hx hb dL_law_2106 et_9 ?_
  refine va_sld hx hb hX hbl hbA hS (vin_nat (by omega) (by omega)) dL_law_2107 ?_
  rw [et_10]
  refine laBi (As := [.int t_2, .int t_4, .int t_6, .int t_8, .int t_10]) (rest := []) (wa := xL cB cI cJ cZ cS cT x0 A V_13) (wb := mL cB cI cJ cZ cS cT m0 B U) ⟨hx, hb, hml, hown, hts⟩ (f_X12_paste l G D cB cI cJ cZ cS cT H.size m0 B U okm t_2 t_4 t_6 t_8 t_10) hP hD hS hA hK hN hT hAB hG1 (cvB (n := 5) (inr75 _ (List.mem_of_getElem? (i := 8) rfl)) (inr75 _ (List.mem_of_getElem? (i := 9) rfl)) (inr75 _ (List.mem_of_getElem? (i := 10) rfl)) (inr1 _ (List.mem_of_getElem? (i := 5) rfl)) (inr75 _ (List.mem_of_getElem? (i := 11) rfl)) (by decide +kernel) hts rfl rfl ⟨Nat.le_of_ble_eq_true rfl, Nat.le_of_ble_eq_true rfl⟩) 0 12 rfl rfl rfl rfl hl.1 rfl (Nat.le_of_ble_eq_true rfl) ⟨hcc, hss⟩ dL_law_2108 (fun r_15 U_17 H locs h_16 hP hD hS => ?_)
  refine lv_pop hx hb dL_law_2111 rfl ?_
  refine lv_goto (tgt := 2115) hx hb dL_law_2112 (by decide) ?_
  exact K V_13 U_17 H locs ls h_12.1 h_16.1 trivial hP hD hS (lv_sub hl [0, 1, 2, 3] rfl)

set_option maxHeartbeats 4000000 in
set_option maxRecDepth 100000 in
theorem law_end {p : Program} {l : Launch} {e : Env} {s : State} {m : MethodId} {below : List Frame} {meth : Method} {c : Code} {G : Gho} {D : va_G} {cB cI cJ cZ cS cT : ClassId} {b L : Nat} {xs : Nat → Int32} {x0 m0 : Nat} {A B : Nat → Nat} {cells slots : Nat} (hL : L ≤ 3072) (C0 : lw_At p s m meth c b L xs) (hK : va_K D vwCl (tyL cB cI cJ cZ cS cT) s) (hN : kN s) (hT : kT G s s.heap) (hG : G.1 = s.heap.size) (hcc : cells ≤ 600000) (hss : slots ≤ 7302249) {H : Heap} {locs : List Loc} {ls : Array Slot} (hS : va_S (fun q : Nat => s.heap.size ≤ q) s.heap H locs) : W p l e room_1 s m #[Value.ref b] below meth c H locs cells slots (lw_Z below #[Value.ref b] s) (F0 m 2121 ls []) := by
  obtain ⟨hx, hb, hr, hml, hown, hts0, hX, hbl, hlocks, hgv⟩ := id C0
  have hts : ∀ w ∈ wsL_law, w.before #[Value.ref b] s = true := fun w h => hts0 w (wsL_law_in w h)
  have hA : ∀ q : Nat, s.heap.size ≤ q → (fun q : Nat => s.heap.size ≤ q) q := fun _ h => h
  have hAB : ∀ q : Nat, (fun q : Nat => s.heap.size ≤ q) q → G.1 ≤ q := fun q h => by rw [hG]; exact h
  have hG1 : G.1 ≤ s.heap.size := by rw [hG]; exact Nat.le_refl _
  have hbA : ¬ (fun q : Nat => s.heap.size ≤ q) b := Nat.not_le.mpr hbl
  refine lv_iconst (v := 1) hx hb dL_law_2121 (by decide) ?_
  refine va_forget (fun q hq => hS.2.2 q hq) ?_
  refine W.widen (k := 600000) (n := 7302249) hcc hss ?_
  exact lw_ret hx hb hr hlocks dL_law_2122

set_option maxHeartbeats 4000000 in
set_option maxRecDepth 100000 in
theorem law_nx {p : Program} {l : Launch} {e : Env} {s : State} {m : MethodId} {below : List Frame} {meth : Method} {c : Code} {G : Gho} {D : va_G} {cB cI cJ cZ cS cT : ClassId} {b L : Nat} {xs : Nat → Int32} {x0 m0 : Nat} {A B : Nat → Nat} {cells slots : Nat} (hL : L ≤ 3072) (C0 : lw_At p s m meth c b L xs) (hK : va_K D vwCl (tyL cB cI cJ cZ cS cT) s) (hN : kN s) (hT : kT G s s.heap) (hG : G.1 = s.heap.size) (hcc : cells ≤ 600000) (hss : slots ≤ 7302249) {N : Nat} (i3 : Int32) (hi : 0 ≤ i3.toInt ∧ i3.toInt + 6 ≤ (L : Int)) (hN9 : ((L : Int) - i3.toInt).toNat < N + 1) (ih : ∀ (i3 : Int32) (V U : VX) (H : Heap) (locs : List Loc) (ls : Array Slot), 0 ≤ i3.toInt ∧ i3.toInt ≤ 3078 → ((L : Int) - i3.toInt).toNat < N → xok V → mok U → True → va_P D vwCl (xL cB cI cJ cZ cS cT x0 A V ++ mL cB cI cJ cZ cS cT m0 B U) H → va_D (fun q : Nat => s.heap.size ≤ q) (xL cB cI cJ cZ cS cT x0 A V ++ mL cB cI cJ cZ cS cT m0 B U) → va_S (fun q : Nat => s.heap.size ≤ q) s.heap H locs → lv_has ls 4 [(0, .ref b), (1, .ref x0), (2, .ref m0), (3, .int i3)] → W p l e room_1 s m #[Value.ref b] below meth c H locs cells slots (lw_Z below #[Value.ref b] s) (F0 m 18 ls [])) : ∀ (V U : VX) (H : Heap) (locs : List Loc) (ls : Array Slot), xok V → mok U → True → va_P D vwCl (xL cB cI cJ cZ cS cT x0 A V ++ mL cB cI cJ cZ cS cT m0 B U) H → va_D (fun q : Nat => s.heap.size ≤ q) (xL cB cI cJ cZ cS cT x0 A V ++ mL cB cI cJ cZ cS cT m0 B U) → va_S (fun q : Nat => s.heap.size ≤ q) s.heap H locs → lv_has ls 4 [(0, .ref b), (1, .ref x0), (2, .ref m0), (3, .int i3)] → W p l e room_1 s m #[Value.ref b] below meth c H locs cells slots (lw_Z below #[Value.ref b] s) (F0 m 2115 ls []) := by
  intro V U H locs ls ok okm rel hP hD hS hl
  obtain ⟨hx, hb, hr, hml, hown, hts0, hX, hbl, hlocks, hgv⟩ := id C0
  have hts : ∀ w ∈ wsL_law, w.before #[Value.ref b] s = true := fun w h => hts0 w (wsL_law_in w h)
  have hA : ∀ q : Nat, s.heap.size ≤ q → (fun q : Nat => s.heap.size ≤ q) q := fun _ h => h
  have hAB : ∀ q : Nat, (fun q : Nat => s.heap.size ≤ q) q → G.1 ≤ q := fun q h => by rw [hG]; exact h
  have hG1 : G.1 ≤ s.heap.size := by rw [hG]; exact Nat.le_refl _
  have hbA : ¬ (fun q : Nat => s.heap.size ≤ q) b := Nat.not_le.mpr hbl
  obtain ⟨t_1, et_1⟩ : ∃ v9 : Int32, i3 + 6 = v9 := ⟨_, rfl⟩
  have b_i3 := i32b i3
  have ft_1 : t_1.toInt = i3.toInt + 6 := addT (a := i3.toInt) (b := 6) rfl (by decide) et_1 (by omega) (by omega)
  refine lv_iinc (v := t_1) (lv' := [(3, .int t_1), (0, .ref b), (1, .ref x0), (2, .ref m0)]) hx hb dL_law_2115 hl (k := 3) rfl (by rw [← et_1]; rfl) (by decide) rfl (fun ls hl => ?_)
  refine lv_goto (tgt := 18) hx hb dL_law_2118 (by decide) ?_
  exact ih t_1 V U H locs ls (by omega) (by omega) ok okm rel hP hD hS (lv_sub hl [1, 2, 3, 0] rfl)

set_option maxHeartbeats 4000000 in
set_option maxRecDepth 100000 in
theorem law_loop {p : Program} {l : Launch} {e : Env} {s : State} {m : MethodId} {below : List Frame} {meth : Method} {c : Code} {G : Gho} {D : va_G} {cB cI cJ cZ cS cT : ClassId} {b L : Nat} {xs : Nat → Int32} {x0 m0 : Nat} {A B : Nat → Nat} {cells slots : Nat} (hL : L ≤ 3072) (C0 : lw_At p s m meth c b L xs) (hK : va_K D vwCl (tyL cB cI cJ cZ cS cT) s) (hN : kN s) (hT : kT G s s.heap) (hG : G.1 = s.heap.size) (hcc : cells ≤ 600000) (hss : slots ≤ 7302249) : ∀ (N : Nat) (i3 : Int32) (V U : VX) (H : Heap) (locs : List Loc) (ls : Array Slot), 0 ≤ i3.toInt ∧ i3.toInt ≤ 3078 → ((L : Int) - i3.toInt).toNat < N → xok V → mok U → True → va_P D vwCl (xL cB cI cJ cZ cS cT x0 A V ++ mL cB cI cJ cZ cS cT m0 B U) H → va_D (fun q : Nat => s.heap.size ≤ q) (xL cB cI cJ cZ cS cT x0 A V ++ mL cB cI cJ cZ cS cT m0 B U) → va_S (fun q : Nat => s.heap.size ≤ q) s.heap H locs → lv_has ls 4 [(0, .ref b), (1, .ref x0), (2, .ref m0), (3, .int i3)] → W p l e room_1 s m #[Value.ref b] below meth c H locs cells slots (lw_Z below #[Value.ref b] s) (F0 m 18 ls []) := by
  intro N
  induction N with
  | zero =>
    intro i3 V U H locs ls hi hM
    omega
  | succ N ih =>
    intro i3 V U H locs ls hi hM ok okm rel hP hD hS hl
    obtain ⟨hx, hb, hr, hml, hown, hts0, hX, hbl, hlocks, hgv⟩ := id C0
    have hts : ∀ w ∈ wsL_law, w.before #[Value.ref b] s = true := fun w h => hts0 w (wsL_law_in w h)
    have hA : ∀ q : Nat, s.heap.size ≤ q → (fun q : Nat => s.heap.size ≤ q) q := fun _ h => h
    have hAB : ∀ q : Nat, (fun q : Nat => s.heap.size ≤ q) q → G.1 ≤ q := fun q h => by rw [hG]; exact h
    have hG1 : G.1 ≤ s.heap.size := by rw [hG]; exact Nat.le_refl _
    have hbA : ¬ (fun q : Nat => s.heap.size ≤ q) b := Nat.not_le.mpr hbl
    refine lv_iload_n hx hb dL_law_18 rfl (lv_at hl 3 rfl) ?_
    refine lv_aload_n hx hb dL_law_19 rfl (lv_at hl 0 rfl) ?_
    refine va_slen hx hb hX hbl hbA hS dL_law_20 ?_
    obtain ⟨n9, en9⟩ : ∃ v9 : Int32, Int32.ofNat L = v9 := ⟨_, rfl⟩
    rw [en9]
    have fn9 : n9.toInt = (L : Int) := by rw [← en9]; exact nI_toInt (by omega)
    refine lv_bipush (v := 6) hx hb dL_law_21 (by decide) ?_
    obtain ⟨t_1, et_1⟩ : ∃ v9 : Int32, n9 - 6 = v9 := ⟨_, rfl⟩
    refine z_isub (v := t_1) hx hb dL_law_23 et_1 ?_
    have b_n9 := i32b n9
    have ft_1 : t_1.toInt = n9.toInt - 6 := subT (a := n9.toInt) (b := 6) rfl (by decide) et_1 (by omega) (by omega)
    refine lv_icmp_gt (tgt := 2121) hx hb dL_law_24 (by decide) (fun _ => ?_) (fun c0 => ?_)
    · exact law_end (x0 := x0) (m0 := m0) (A := A) (B := B) hL C0 hK hN hT hG hcc hss hS
    have c0 : i3.toInt ≤ t_1.toInt := ci_gt_f c0
    have hi2 : 0 ≤ i3.toInt ∧ i3.toInt + 6 ≤ (L : Int) := by omega
    refine lv_aload_n hx hb dL_law_27 rfl (lv_at hl 0 rfl) ?_
    refine lv_iload_n hx hb dL_law_28 rfl (lv_at hl 3 rfl) ?_
    obtain ⟨t_2, et_2⟩ : ∃ v9 : Int32, xs (i3 : Int32).toNatClampNeg = v9 := ⟨_, rfl⟩
    refine va_sld hx hb hX hbl hbA hS (vin_nat (by omega) (by omega)) dL_law_29 ?_
    rw [et_2]
    refine lv_bipush (v := 127) hx hb dL_law_30 (by decide) ?_
    obtain ⟨t_3, et_3⟩ : ∃ v9 : Int32, t_2 &&& 127 = v9 := ⟨_, rfl⟩
    refine z_iand (v := t_3) hx hb dL_law_32 et_3 ?_
    obtain ⟨j9, hj9, ej9⟩ : ∃ j : Nat, j < 128 ∧ t_3 = nI j := by rw [← et_3]; exact pk_andE _ 7 (by decide)
    have fj9 : t_3.toInt = (j9 : Int) := by rw [ej9]; exact nI_toInt (by omega)
    have K := law_nx hL C0 hK hN hT hG hcc hss i3 hi2 hM ih
    by_cases hj71 : j9 < 71
    · by_cases h0 : j9 = 0
      · refine lv_tableIn (off := 299) (tgt := 332) hx hb dL_law_33 (by omega) (by omega) (by rw [fj9, h0]; decide) (by decide) ?_
        exact law_0 hL C0 hK hN hT hG hcc hss V U ok okm rel i3 hi2 hP hD hS hl K
      by_cases h1 : j9 = 1
      · refine lv_tableIn (off := 362) (tgt := 395) hx hb dL_law_33 (by omega) (by omega) (by rw [fj9, h1]; decide) (by decide) ?_
        exact law_1 hL C0 hK hN hT hG hcc hss V U ok okm rel i3 hi2 hP hD hS hl K
      by_cases h2 : j9 = 2
      · refine lv_tableIn (off := 385) (tgt := 418) hx hb dL_law_33 (by omega) (by omega) (by rw [fj9, h2]; decide) (by decide) ?_
        exact law_2 hL C0 hK hN hT hG hcc hss V U ok okm rel i3 hi2 hP hD hS hl K
      by_cases h3 : j9 = 3
      · refine lv_tableIn (off := 398) (tgt := 431) hx hb dL_law_33 (by omega) (by omega) (by rw [fj9, h3]; decide) (by decide) ?_
        exact law_3 hL C0 hK hN hT hG hcc hss V U ok okm rel i3 hi2 hP hD hS hl K
      by_cases h4 : j9 = 4
      · refine lv_tableIn (off := 421) (tgt := 454) hx hb dL_law_33 (by omega) (by omega) (by rw [fj9, h4]; decide) (by decide) ?_
        exact law_4 hL C0 hK hN hT hG hcc hss V U ok okm rel i3 hi2 hP hD hS hl K
      by_cases h5 : j9 = 5
      · refine lv_tableIn (off := 444) (tgt := 477) hx hb dL_law_33 (by omega) (by omega) (by rw [fj9, h5]; decide) (by decide) ?_
        exact law_5 hL C0 hK hN hT hG hcc hss V U ok okm rel i3 hi2 hP hD hS hl K
      by_cases h6 : j9 = 6
      · refine lv_tableIn (off := 467) (tgt := 500) hx hb dL_law_33 (by omega) (by omega) (by rw [fj9, h6]; decide) (by decide) ?_
        exact law_6 hL C0 hK hN hT hG hcc hss V U ok okm rel i3 hi2 hP hD hS hl K
      by_cases h7 : j9 = 7
      · refine lv_tableIn (off := 490) (tgt := 523) hx hb dL_law_33 (by omega) (by omega) (by rw [fj9, h7]; decide) (by decide) ?_
        exact law_7 hL C0 hK hN hT hG hcc hss V U ok okm rel i3 hi2 hP hD hS hl K
      by_cases h8 : j9 = 8
      · refine lv_tableIn (off := 513) (tgt := 546) hx hb dL_law_33 (by omega) (by omega) (by rw [fj9, h8]; decide) (by decide) ?_
        exact law_8 hL C0 hK hN hT hG hcc hss V U ok okm rel i3 hi2 hP hD hS hl K
      by_cases h9 : j9 = 9
      · refine lv_tableIn (off := 536) (tgt := 569) hx hb dL_law_33 (by omega) (by omega) (by rw [fj9, h9]; decide) (by decide) ?_
        exact law_9 hL C0 hK hN hT hG hcc hss V U ok okm rel i3 hi2 hP hD hS hl K
      by_cases h10 : j9 = 10
      · refine lv_tableIn (off := 559) (tgt := 592) hx hb dL_law_33 (by omega) (by omega) (by rw [fj9, h10]; decide) (by decide) ?_
        exact law_10 hL C0 hK hN hT hG hcc hss V U ok okm rel i3 hi2 hP hD hS hl K
      by_cases h11 : j9 = 11
      · refine lv_tableIn (off := 582) (tgt := 615) hx hb dL_law_33 (by omega) (by omega) (by rw [fj9, h11]; decide) (by decide) ?_
        exact law_11 hL C0 hK hN hT hG hcc hss V U ok okm rel i3 hi2 hP hD hS hl K
      by_cases h12 : j9 = 12
      · refine lv_tableIn (off := 595) (tgt := 628) hx hb dL_law_33 (by omega) (by omega) (by rw [fj9, h12]; decide) (by decide) ?_
        exact law_12 hL C0 hK hN hT hG hcc hss V U ok okm rel i3 hi2 hP hD hS hl K
      by_cases h13 : j9 = 13
      · refine lv_tableIn (off := 618) (tgt := 651) hx hb dL_law_33 (by omega) (by omega) (by rw [fj9, h13]; decide) (by decide) ?_
        exact law_13 hL C0 hK hN hT hG hcc hss V U ok okm rel i3 hi2 hP hD hS hl K
      by_cases h14 : j9 = 14
      · refine lv_tableIn (off := 651) (tgt := 684) hx hb dL_law_33 (by omega) (by omega) (by rw [fj9, h14]; decide) (by decide) ?_
        exact law_14 hL C0 hK hN hT hG hcc hss V U ok okm rel i3 hi2 hP hD hS hl K
      by_cases h15 : j9 = 15
      · refine lv_tableIn (off := 674) (tgt := 707) hx hb dL_law_33 (by omega) (by omega) (by rw [fj9, h15]; decide) (by decide) ?_
        exact law_15 hL C0 hK hN hT hG hcc hss V U ok okm rel i3 hi2 hP hD hS hl K
      by_cases h16 : j9 = 16
      · refine lv_tableIn (off := 687) (tgt := 720) hx hb dL_law_33 (by omega) (by omega) (by rw [fj9, h16]; decide) (by decide) ?_
        exact law_16 hL C0 hK hN hT hG hcc hss V U ok okm rel i3 hi2 hP hD hS hl K
      by_cases h17 : j9 = 17
      · refine lv_tableIn (off := 700) (tgt := 733) hx hb dL_law_33 (by omega) (by omega) (by rw [fj9, h17]; decide) (by decide) ?_
        exact law_17 hL C0 hK hN hT hG hcc hss V U ok okm rel i3 hi2 hP hD hS hl K
      by_cases h18 : j9 = 18
      · refine lv_tableIn (off := 713) (tgt := 746) hx hb dL_law_33 (by omega) (by omega) (by rw [fj9, h18]; decide) (by decide) ?_
        exact law_18 hL C0 hK hN hT hG hcc hss V U ok okm rel i3 hi2 hP hD hS hl K
      by_cases h19 : j9 = 19
      · refine lv_tableIn (off := 736) (tgt := 769) hx hb dL_law_33 (by omega) (by omega) (by rw [fj9, h19]; decide) (by decide) ?_
        exact law_19 hL C0 hK hN hT hG hcc hss V U ok okm rel i3 hi2 hP hD hS hl K
      by_cases h20 : j9 = 20
      · refine lv_tableIn (off := 749) (tgt := 782) hx hb dL_law_33 (by omega) (by omega) (by rw [fj9, h20]; decide) (by decide) ?_
        exact law_20 hL C0 hK hN hT hG hcc hss V U ok okm rel i3 hi2 hP hD hS hl K
      by_cases h21 : j9 = 21
      · refine lv_tableIn (off := 762) (tgt := 795) hx hb dL_law_33 (by omega) (by omega) (by rw [fj9, h21]; decide) (by decide) ?_
        exact law_21 hL C0 hK hN hT hG hcc hss V U ok okm rel i3 hi2 hP hD hS hl K
      by_cases h22 : j9 = 22
      · refine lv_tableIn (off := 785) (tgt := 818) hx hb dL_law_33 (by omega) (by omega) (by rw [fj9, h22]; decide) (by decide) ?_
        exact law_22 hL C0 hK hN hT hG hcc hss V U ok okm rel i3 hi2 hP hD hS hl K
      by_cases h23 : j9 = 23
      · refine lv_tableIn (off := 808) (tgt := 841) hx hb dL_law_33 (by omega) (by omega) (by rw [fj9, h23]; decide) (by decide) ?_
        exact law_23 hL C0 hK hN hT hG hcc hss V U ok okm rel i3 hi2 hP hD hS hl K
      by_cases h24 : j9 = 24
      · refine lv_tableIn (off := 841) (tgt := 874) hx hb dL_law_33 (by omega) (by omega) (by rw [fj9, h24]; decide) (by decide) ?_
        exact law_24 hL C0 hK hN hT hG hcc hss V U ok okm rel i3 hi2 hP hD hS hl K
      by_cases h25 : j9 = 25
      · refine lv_tableIn (off := 874) (tgt := 907) hx hb dL_law_33 (by omega) (by omega) (by rw [fj9, h25]; decide) (by decide) ?_
        exact law_25 hL C0 hK hN hT hG hcc hss V U ok okm rel i3 hi2 hP hD hS hl K
      by_cases h26 : j9 = 26
      · refine lv_tableIn (off := 897) (tgt := 930) hx hb dL_law_33 (by omega) (by omega) (by rw [fj9, h26]; decide) (by decide) ?_
        exact law_26 hL C0 hK hN hT hG hcc hss V U ok okm rel i3 hi2 hP hD hS hl K
      by_cases h27 : j9 = 27
      · refine lv_tableIn (off := 910) (tgt := 943) hx hb dL_law_33 (by omega) (by omega) (by rw [fj9, h27]; decide) (by decide) ?_
        exact law_27 hL C0 hK hN hT hG hcc hss V U ok okm rel i3 hi2 hP hD hS hl K
      by_cases h28 : j9 = 28
      · refine lv_tableIn (off := 923) (tgt := 956) hx hb dL_law_33 (by omega) (by omega) (by rw [fj9, h28]; decide) (by decide) ?_
        exact law_28 hL C0 hK hN hT hG hcc hss V U ok okm rel i3 hi2 hP hD hS hl K
      by_cases h29 : j9 = 29
      · refine lv_tableIn (off := 936) (tgt := 969) hx hb dL_law_33 (by omega) (by omega) (by rw [fj9, h29]; decide) (by decide) ?_
        exact law_29 hL C0 hK hN hT hG hcc hss V U ok okm rel i3 hi2 hP hD hS hl K
      by_cases h30 : j9 = 30
      · refine lv_tableIn (off := 959) (tgt := 992) hx hb dL_law_33 (by omega) (by omega) (by rw [fj9, h30]; decide) (by decide) ?_
        exact law_30 hL C0 hK hN hT hG hcc hss V U ok okm rel i3 hi2 hP hD hS hl K
      by_cases h31 : j9 = 31
      · refine lv_tableIn (off := 982) (tgt := 1015) hx hb dL_law_33 (by omega) (by omega) (by rw [fj9, h31]; decide) (by decide) ?_
        exact law_31 hL C0 hK hN hT hG hcc hss V U ok okm rel i3 hi2 hP hD hS hl K
      by_cases h32 : j9 = 32
      · refine lv_tableIn (off := 995) (tgt := 1028) hx hb dL_law_33 (by omega) (by omega) (by rw [fj9, h32]; decide) (by decide) ?_
        exact law_32 hL C0 hK hN hT hG hcc hss V U ok okm rel i3 hi2 hP hD hS hl K
      by_cases h33 : j9 = 33
      · refine lv_tableIn (off := 1008) (tgt := 1041) hx hb dL_law_33 (by omega) (by omega) (by rw [fj9, h33]; decide) (by decide) ?_
        exact law_33 hL C0 hK hN hT hG hcc hss V U ok okm rel i3 hi2 hP hD hS hl K
      by_cases h34 : j9 = 34
      · refine lv_tableIn (off := 1021) (tgt := 1054) hx hb dL_law_33 (by omega) (by omega) (by rw [fj9, h34]; decide) (by decide) ?_
        exact law_34 hL C0 hK hN hT hG hcc hss V U ok okm rel i3 hi2 hP hD hS hl K
      by_cases h35 : j9 = 35
      · refine lv_tableIn (off := 1034) (tgt := 1067) hx hb dL_law_33 (by omega) (by omega) (by rw [fj9, h35]; decide) (by decide) ?_
        exact law_35 hL C0 hK hN hT hG hcc hss V U ok okm rel i3 hi2 hP hD hS hl K
      by_cases h36 : j9 = 36
      · refine lv_tableIn (off := 1057) (tgt := 1090) hx hb dL_law_33 (by omega) (by omega) (by rw [fj9, h36]; decide) (by decide) ?_
        exact law_36 hL C0 hK hN hT hG hcc hss V U ok okm rel i3 hi2 hP hD hS hl K
      by_cases h37 : j9 = 37
      · refine lv_tableIn (off := 1090) (tgt := 1123) hx hb dL_law_33 (by omega) (by omega) (by rw [fj9, h37]; decide) (by decide) ?_
        exact law_37 hL C0 hK hN hT hG hcc hss V U ok okm rel i3 hi2 hP hD hS hl K
      by_cases h38 : j9 = 38
      · refine lv_tableIn (off := 1133) (tgt := 1166) hx hb dL_law_33 (by omega) (by omega) (by rw [fj9, h38]; decide) (by decide) ?_
        exact law_38 hL C0 hK hN hT hG hcc hss V U ok okm rel i3 hi2 hP hD hS hl K
      by_cases h39 : j9 = 39
      · refine lv_tableIn (off := 1166) (tgt := 1199) hx hb dL_law_33 (by omega) (by omega) (by rw [fj9, h39]; decide) (by decide) ?_
        exact law_39 hL C0 hK hN hT hG hcc hss V U ok okm rel i3 hi2 hP hD hS hl K
      by_cases h40 : j9 = 40
      · refine lv_tableIn (off := 1199) (tgt := 1232) hx hb dL_law_33 (by omega) (by omega) (by rw [fj9, h40]; decide) (by decide) ?_
        exact law_40 hL C0 hK hN hT hG hcc hss V U ok okm rel i3 hi2 hP hD hS hl K
      by_cases h41 : j9 = 41
      · refine lv_tableIn (off := 1232) (tgt := 1265) hx hb dL_law_33 (by omega) (by omega) (by rw [fj9, h41]; decide) (by decide) ?_
        exact law_41 hL C0 hK hN hT hG hcc hss V U ok okm rel i3 hi2 hP hD hS hl K
      by_cases h42 : j9 = 42
      · refine lv_tableIn (off := 1255) (tgt := 1288) hx hb dL_law_33 (by omega) (by omega) (by rw [fj9, h42]; decide) (by decide) ?_
        exact law_42 hL C0 hK hN hT hG hcc hss V U ok okm rel i3 hi2 hP hD hS hl K
      by_cases h43 : j9 = 43
      · refine lv_tableIn (off := 1278) (tgt := 1311) hx hb dL_law_33 (by omega) (by omega) (by rw [fj9, h43]; decide) (by decide) ?_
        exact law_43 hL C0 hK hN hT hG hcc hss V U ok okm rel i3 hi2 hP hD hS hl K
      by_cases h44 : j9 = 44
      · refine lv_tableIn (off := 1301) (tgt := 1334) hx hb dL_law_33 (by omega) (by omega) (by rw [fj9, h44]; decide) (by decide) ?_
        exact law_44 hL C0 hK hN hT hG hcc hss V U ok okm rel i3 hi2 hP hD hS hl K
      by_cases h45 : j9 = 45
      · refine lv_tableIn (off := 1324) (tgt := 1357) hx hb dL_law_33 (by omega) (by omega) (by rw [fj9, h45]; decide) (by decide) ?_
        exact law_45 hL C0 hK hN hT hG hcc hss V U ok okm rel i3 hi2 hP hD hS hl K
      by_cases h46 : j9 = 46
      · refine lv_tableIn (off := 1347) (tgt := 1380) hx hb dL_law_33 (by omega) (by omega) (by rw [fj9, h46]; decide) (by decide) ?_
        exact law_46 hL C0 hK hN hT hG hcc hss V U ok okm rel i3 hi2 hP hD hS hl K
      by_cases h47 : j9 = 47
      · refine lv_tableIn (off := 1370) (tgt := 1403) hx hb dL_law_33 (by omega) (by omega) (by rw [fj9, h47]; decide) (by decide) ?_
        exact law_47 hL C0 hK hN hT hG hcc hss V U ok okm rel i3 hi2 hP hD hS hl K
      by_cases h48 : j9 = 48
      · refine lv_tableIn (off := 1393) (tgt := 1426) hx hb dL_law_33 (by omega) (by omega) (by rw [fj9, h48]; decide) (by decide) ?_
        exact law_48 hL C0 hK hN hT hG hcc hss V U ok okm rel i3 hi2 hP hD hS hl K
      by_cases h49 : j9 = 49
      · refine lv_tableIn (off := 1416) (tgt := 1449) hx hb dL_law_33 (by omega) (by omega) (by rw [fj9, h49]; decide) (by decide) ?_
        exact law_49 hL C0 hK hN hT hG hcc hss V U ok okm rel i3 hi2 hP hD hS hl K
      by_cases h50 : j9 = 50
      · refine lv_tableIn (off := 1439) (tgt := 1472) hx hb dL_law_33 (by omega) (by omega) (by rw [fj9, h50]; decide) (by decide) ?_
        exact law_50 hL C0 hK hN hT hG hcc hss V U ok okm rel i3 hi2 hP hD hS hl K
      by_cases h51 : j9 = 51
      · refine lv_tableIn (off := 1462) (tgt := 1495) hx hb dL_law_33 (by omega) (by omega) (by rw [fj9, h51]; decide) (by decide) ?_
        exact law_51 hL C0 hK hN hT hG hcc hss V U ok okm rel i3 hi2 hP hD hS hl K
      by_cases h52 : j9 = 52
      · refine lv_tableIn (off := 1495) (tgt := 1528) hx hb dL_law_33 (by omega) (by omega) (by rw [fj9, h52]; decide) (by decide) ?_
        exact law_52 hL C0 hK hN hT hG hcc hss V U ok okm rel i3 hi2 hP hD hS hl K
      by_cases h53 : j9 = 53
      · refine lv_tableIn (off := 1508) (tgt := 1541) hx hb dL_law_33 (by omega) (by omega) (by rw [fj9, h53]; decide) (by decide) ?_
        exact law_53 hL C0 hK hN hT hG hcc hss V U ok okm rel i3 hi2 hP hD hS hl K
      by_cases h54 : j9 = 54
      · refine lv_tableIn (off := 1521) (tgt := 1554) hx hb dL_law_33 (by omega) (by omega) (by rw [fj9, h54]; decide) (by decide) ?_
        exact law_54 hL C0 hK hN hT hG hcc hss V U ok okm rel i3 hi2 hP hD hS hl K
      by_cases h55 : j9 = 55
      · refine lv_tableIn (off := 1554) (tgt := 1587) hx hb dL_law_33 (by omega) (by omega) (by rw [fj9, h55]; decide) (by decide) ?_
        exact law_55 hL C0 hK hN hT hG hcc hss V U ok okm rel i3 hi2 hP hD hS hl K
      by_cases h56 : j9 = 56
      · refine lv_tableIn (off := 1577) (tgt := 1610) hx hb dL_law_33 (by omega) (by omega) (by rw [fj9, h56]; decide) (by decide) ?_
        exact law_56 hL C0 hK hN hT hG hcc hss V U ok okm rel i3 hi2 hP hD hS hl K
      by_cases h57 : j9 = 57
      · refine lv_tableIn (off := 1610) (tgt := 1643) hx hb dL_law_33 (by omega) (by omega) (by rw [fj9, h57]; decide) (by decide) ?_
        exact law_57 hL C0 hK hN hT hG hcc hss V U ok okm rel i3 hi2 hP hD hS hl K
      by_cases h58 : j9 = 58
      · refine lv_tableIn (off := 1633) (tgt := 1666) hx hb dL_law_33 (by omega) (by omega) (by rw [fj9, h58]; decide) (by decide) ?_
        exact law_58 hL C0 hK hN hT hG hcc hss V U ok okm rel i3 hi2 hP hD hS hl K
      by_cases h59 : j9 = 59
      · refine lv_tableIn (off := 1666) (tgt := 1699) hx hb dL_law_33 (by omega) (by omega) (by rw [fj9, h59]; decide) (by decide) ?_
        exact law_59 hL C0 hK hN hT hG hcc hss V U ok okm rel i3 hi2 hP hD hS hl K
      by_cases h60 : j9 = 60
      · refine lv_tableIn (off := 1689) (tgt := 1722) hx hb dL_law_33 (by omega) (by omega) (by rw [fj9, h60]; decide) (by decide) ?_
        exact law_60 hL C0 hK hN hT hG hcc hss V U ok okm rel i3 hi2 hP hD hS hl K
      by_cases h61 : j9 = 61
      · refine lv_tableIn (off := 1702) (tgt := 1735) hx hb dL_law_33 (by omega) (by omega) (by rw [fj9, h61]; decide) (by decide) ?_
        exact law_61 hL C0 hK hN hT hG hcc hss V U ok okm rel i3 hi2 hP hD hS hl K
      by_cases h62 : j9 = 62
      · refine lv_tableIn (off := 1715) (tgt := 1748) hx hb dL_law_33 (by omega) (by omega) (by rw [fj9, h62]; decide) (by decide) ?_
        exact law_62 hL C0 hK hN hT hG hcc hss V U ok okm rel i3 hi2 hP hD hS hl K
      by_cases h63 : j9 = 63
      · refine lv_tableIn (off := 1758) (tgt := 1791) hx hb dL_law_33 (by omega) (by omega) (by rw [fj9, h63]; decide) (by decide) ?_
        exact law_63 hL C0 hK hN hT hG hcc hss V U ok okm rel i3 hi2 hP hD hS hl K
      by_cases h64 : j9 = 64
      · refine lv_tableIn (off := 1811) (tgt := 1844) hx hb dL_law_33 (by omega) (by omega) (by rw [fj9, h64]; decide) (by decide) ?_
        exact law_64 hL C0 hK hN hT hG hcc hss V U ok okm rel i3 hi2 hP hD hS hl K
      by_cases h65 : j9 = 65
      · refine lv_tableIn (off := 1834) (tgt := 1867) hx hb dL_law_33 (by omega) (by omega) (by rw [fj9, h65]; decide) (by decide) ?_
        exact law_65 hL C0 hK hN hT hG hcc hss V U ok okm rel i3 hi2 hP hD hS hl K
      by_cases h66 : j9 = 66
      · refine lv_tableIn (off := 1857) (tgt := 1890) hx hb dL_law_33 (by omega) (by omega) (by rw [fj9, h66]; decide) (by decide) ?_
        exact law_66 hL C0 hK hN hT hG hcc hss V U ok okm rel i3 hi2 hP hD hS hl K
      by_cases h67 : j9 = 67
      · refine lv_tableIn (off := 1880) (tgt := 1913) hx hb dL_law_33 (by omega) (by omega) (by rw [fj9, h67]; decide) (by decide) ?_
        exact law_67 hL C0 hK hN hT hG hcc hss V U ok okm rel i3 hi2 hP hD hS hl K
      by_cases h68 : j9 = 68
      · refine lv_tableIn (off := 1903) (tgt := 1936) hx hb dL_law_33 (by omega) (by omega) (by rw [fj9, h68]; decide) (by decide) ?_
        exact law_68 hL C0 hK hN hT hG hcc hss V U ok okm rel i3 hi2 hP hD hS hl K
      by_cases h69 : j9 = 69
      · refine lv_tableIn (off := 1946) (tgt := 1979) hx hb dL_law_33 (by omega) (by omega) (by rw [fj9, h69]; decide) (by decide) ?_
        exact law_69 hL C0 hK hN hT hG hcc hss V U ok okm rel i3 hi2 hP hD hS hl K
      by_cases h70 : j9 = 70
      · refine lv_tableIn (off := 2019) (tgt := 2052) hx hb dL_law_33 (by omega) (by omega) (by rw [fj9, h70]; decide) (by decide) ?_
        exact law_70 hL C0 hK hN hT hG hcc hss V U ok okm rel i3 hi2 hP hD hS hl K
      exfalso
      omega
    · refine lv_tableOut (tgt := 2115) hx hb dL_law_33 (Or.inr (by omega)) (by decide) ?_
      exact K V U H locs ls ok okm rel hP hD hS hl
