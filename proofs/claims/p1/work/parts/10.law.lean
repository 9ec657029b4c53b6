/-! THE CLAIM OUT OF ONE WALK OF THE LAW'S BODY. Your part is whole_start (and what it stands on); all else here is the same for every law, but numbers. -/
abbrev R_law : String := RL
def lw_P (b : Addr) (xs : List Int32) (args : Array Value) (s : State) : Prop := args = #[.ref b] ∧ s.IntsAt b xs ∧ xs.length ≤ 6 ∧ (Jvm.Cond.and given_1 narrow_1).before args s = true
def lw_Q (_ : Array Value) (s : State) (o : Outcome) (t : State) : Prop := o = .returned (some (.int 1)) ∧ Framed s o t [] 600000 7302250
def lw_Z (below : List Frame) (a : Array Value) (s : State) : State → Prop := fun t => ∃ o, t.status = .running ∧ Ended t below o ∧ lw_Q a s o t
/-- the law's own end, with 1 on the stack, nothing written that was there before, its room as the claim has it -/
theorem lw_ret {p : Program} {l : Launch} {e : Env} {s : State} {m : MethodId} {below : List Frame} {meth : Method} {c : Code} {b : Nat} (hx : p.tables.exec = Jvm.exec) (hb : c.code = code) (hr : meth.sig.returnType = ret) (hlocks : meth.locks = false) {pc : Nat} {H : Heap} {ls : Array Slot} (hdg : decode code pc = .ok (.ireturn, 1)) : W p l e room_1 s m #[Value.ref b] below meth c H [] 600000 7302250 (lw_Z below #[Value.ref b] s) (F0 m pc ls [.int 1]) := by
  intro T hT X
  obtain ⟨fs, hret, hrun, hended, hW, hframe⟩ := X.leave (v := some (.int 1)) (hlocks := hlocks) (fun h => by rw [hr] at h; cases h)
  have hmeth' : T.vm.method? m = some meth := X.method'
  refine ⟨T.setFrames fs, ?_, .returned (some (.int 1)), hrun, hended, rfl, ⟨_, rfl⟩, hW, hframe⟩
  jvm_step X.here [X.here.top, hx, hb, hdg, hmeth', hr, ret, narrow_b1]
  (try refine ⟨rfl, ?_⟩); (try refine ⟨rfl, ?_⟩)
  first | (intro acts; rw [hret _ acts rfl rfl rfl]) | rw [hret _ _ rfl rfl rfl]
  exact Steps.refl _
/-- what holds at the law's entry: the machine, the code, the tables' words (any of lw_tbl by 'hts w (by decide +kernel)'), the script of L ints xs at the cell b, what the Statement gives of the start (any of its parts by flat_of_before) -/
def lw_At (p : Program) (s : State) (m : MethodId) (meth : Method) (c : Code) (b L : Nat) (xs : Nat → Int32) : Prop :=
  p.tables.exec = Jvm.exec ∧ c.code = code ∧ meth.sig.returnType = ret ∧ c.maxLocals = 4 ∧ s.vm.findClass R_law = some m.cls ∧ (∀ w ∈ lw_tbl, w.before #[Value.ref b] s = true) ∧ va_X b L xs s s.heap ∧ b < s.heap.size ∧ meth.locks = false ∧ (Jvm.Cond.and given_1 narrow_1).before #[Value.ref b] s = true
theorem dL_law_1001 : decode cL_law 1001 = .ok (.aload_n 2, 1) := by decide +kernel
theorem dL_law_1002 : decode cL_law 1002 = .ok (.aload_n 0, 1) := by decide +kernel
theorem dL_law_1003 : decode cL_law 1003 = .ok (.iload_n 3, 1) := by decide +kernel
theorem dL_law_1004 : decode cL_law 1004 = .ok (.iconst 1, 1) := by decide +kernel
theorem dL_law_1005 : decode cL_law 1005 = .ok (.iadd, 1) := by decide +kernel
theorem dL_law_1006 : decode cL_law 1006 = .ok (.iaload, 1) := by decide +kernel
theorem dL_law_1007 : decode cL_law 1007 = .ok (.invokevirtual 140, 3) := by decide +kernel
theorem dL_law_1010 : decode cL_law 1010 = .ok (.if_icmp .eq 1106, 3) := by decide +kernel
theorem dL_law_1015 : decode cL_law 1015 = .ok (.aload_n 1, 1) := by decide +kernel
theorem dL_law_1016 : decode cL_law 1016 = .ok (.invokevirtual 141, 3) := by decide +kernel
theorem dL_law_1019 : decode cL_law 1019 = .ok (.aload_n 2, 1) := by decide +kernel
theorem dL_law_1020 : decode cL_law 1020 = .ok (.invokevirtual 144, 3) := by decide +kernel
theorem dL_law_1023 : decode cL_law 1023 = .ok (.if_icmp .eq 1093, 3) := by decide +kernel
theorem dL_law_1028 : decode cL_law 1028 = .ok (.aload_n 1, 1) := by decide +kernel
theorem dL_law_1029 : decode cL_law 1029 = .ok (.invokevirtual 145, 3) := by decide +kernel
theorem dL_law_1032 : decode cL_law 1032 = .ok (.aload_n 2, 1) := by decide +kernel
theorem dL_law_1033 : decode cL_law 1033 = .ok (.invokevirtual 148, 3) := by decide +kernel
theorem dL_law_1036 : decode cL_law 1036 = .ok (.if_icmp .eq 1080, 3) := by decide +kernel
theorem dL_law_1041 : decode cL_law 1041 = .ok (.aload_n 1, 1) := by decide +kernel
theorem dL_law_1042 : decode cL_law 1042 = .ok (.invokevirtual 149, 3) := by decide +kernel
theorem dL_law_1045 : decode cL_law 1045 = .ok (.aload_n 2, 1) := by decide +kernel
theorem dL_law_1046 : decode cL_law 1046 = .ok (.invokevirtual 152, 3) := by decide +kernel
theorem dL_law_1049 : decode cL_law 1049 = .ok (.if_icmp .eq 1067, 3) := by decide +kernel
theorem dL_law_1054 : decode cL_law 1054 = .ok (.aload_n 1, 1) := by decide +kernel
theorem dL_law_1055 : decode cL_law 1055 = .ok (.invokevirtual 153, 3) := by decide +kernel
theorem dL_law_1058 : decode cL_law 1058 = .ok (.aload_n 2, 1) := by decide +kernel
theorem dL_law_1059 : decode cL_law 1059 = .ok (.invokevirtual 156, 3) := by decide +kernel
theorem dL_law_1062 : decode cL_law 1062 = .ok (.if_icmp .eq 1054, 3) := by decide +kernel
theorem dL_law_1067 : decode cL_law 1067 = .ok (.aload_n 1, 1) := by decide +kernel
theorem dL_law_1068 : decode cL_law 1068 = .ok (.aload_n 0, 1) := by decide +kernel
theorem dL_law_1069 : decode cL_law 1069 = .ok (.iload_n 3, 1) := by decide +kernel
theorem dL_law_1070 : decode cL_law 1070 = .ok (.iconst 1, 1) := by decide +kernel
theorem dL_law_1071 : decode cL_law 1071 = .ok (.iadd, 1) := by decide +kernel
theorem dL_law_1072 : decode cL_law 1072 = .ok (.iaload, 1) := by decide +kernel
theorem dL_law_1073 : decode cL_law 1073 = .ok (.invokevirtual 157, 3) := by decide +kernel
theorem dL_law_1076 : decode cL_law 1076 = .ok (.aload_n 2, 1) := by decide +kernel
theorem dL_law_1077 : decode cL_law 1077 = .ok (.aload_n 0, 1) := by decide +kernel
theorem dL_law_1078 : decode cL_law 1078 = .ok (.iload_n 3, 1) := by decide +kernel
theorem dL_law_1079 : decode cL_law 1079 = .ok (.iconst 1, 1) := by decide +kernel
theorem dL_law_1080 : decode cL_law 1080 = .ok (.iadd, 1) := by decide +kernel
theorem dL_law_1081 : decode cL_law 1081 = .ok (.iaload, 1) := by decide +kernel
theorem dL_law_1082 : decode cL_law 1082 = .ok (.invokevirtual 160, 3) := by decide +kernel
theorem dL_law_1085 : decode cL_law 1085 = .ok (.if_icmp .eq 1031, 3) := by decide +kernel
theorem dL_law_1090 : decode cL_law 1090 = .ok (.aload_n 1, 1) := by decide +kernel
theorem dL_law_1091 : decode cL_law 1091 = .ok (.aload_n 0, 1) := by decide +kernel
theorem dL_law_1092 : decode cL_law 1092 = .ok (.iload_n 3, 1) := by decide +kernel
theorem dL_law_1093 : decode cL_law 1093 = .ok (.iconst 1, 1) := by decide +kernel
theorem dL_law_1094 : decode cL_law 1094 = .ok (.iadd, 1) := by decide +kernel
theorem dL_law_1095 : decode cL_law 1095 = .ok (.iaload, 1) := by decide +kernel
theorem dL_law_1096 : decode cL_law 1096 = .ok (.aload_n 0, 1) := by decide +kernel
theorem dL_law_1097 : decode cL_law 1097 = .ok (.iload_n 3, 1) := by decide +kernel
theorem dL_law_1098 : decode cL_law 1098 = .ok (.iconst 2, 1) := by decide +kernel
theorem dL_law_1099 : decode cL_law 1099 = .ok (.iadd, 1) := by decide +kernel
theorem dL_law_1100 : decode cL_law 1100 = .ok (.iaload, 1) := by decide +kernel
theorem dL_law_1101 : decode cL_law 1101 = .ok (.invokevirtual 161, 3) := by decide +kernel
theorem dL_law_1104 : decode cL_law 1104 = .ok (.aload_n 2, 1) := by decide +kernel
theorem dL_law_1105 : decode cL_law 1105 = .ok (.aload_n 0, 1) := by decide +kernel
theorem dL_law_1106 : decode cL_law 1106 = .ok (.iload_n 3, 1) := by decide +kernel
theorem dL_law_1107 : decode cL_law 1107 = .ok (.iconst 1, 1) := by decide +kernel
theorem dL_law_1108 : decode cL_law 1108 = .ok (.iadd, 1) := by decide +kernel
theorem dL_law_1109 : decode cL_law 1109 = .ok (.iaload, 1) := by decide +kernel
theorem dL_law_1110 : decode cL_law 1110 = .ok (.aload_n 0, 1) := by decide +kernel
theorem dL_law_1111 : decode cL_law 1111 = .ok (.iload_n 3, 1) := by decide +kernel
theorem dL_law_1112 : decode cL_law 1112 = .ok (.iconst 2, 1) := by decide +kernel
theorem dL_law_1113 : decode cL_law 1113 = .ok (.iadd, 1) := by decide +kernel
theorem dL_law_1114 : decode cL_law 1114 = .ok (.iaload, 1) := by decide +kernel
theorem dL_law_1115 : decode cL_law 1115 = .ok (.invokevirtual 164, 3) := by decide +kernel
theorem dL_law_1118 : decode cL_law 1118 = .ok (.if_icmp .eq 998, 3) := by decide +kernel
theorem dL_law_1123 : decode cL_law 1123 = .ok (.aload_n 1, 1) := by decide +kernel
theorem dL_law_1124 : decode cL_law 1124 = .ok (.aload_n 0, 1) := by decide +kernel
theorem dL_law_1125 : decode cL_law 1125 = .ok (.iload_n 3, 1) := by decide +kernel
theorem dL_law_1126 : decode cL_law 1126 = .ok (.iconst 1, 1) := by decide +kernel
theorem dL_law_1127 : decode cL_law 1127 = .ok (.iadd, 1) := by decide +kernel
theorem dL_law_1128 : decode cL_law 1128 = .ok (.iaload, 1) := by decide +kernel
theorem dL_law_1129 : decode cL_law 1129 = .ok (.aload_n 0, 1) := by decide +kernel
theorem dL_law_1130 : decode cL_law 1130 = .ok (.iload_n 3, 1) := by decide +kernel
theorem dL_law_1131 : decode cL_law 1131 = .ok (.iconst 2, 1) := by decide +kernel
theorem dL_law_1132 : decode cL_law 1132 = .ok (.iadd, 1) := by decide +kernel
theorem dL_law_1133 : decode cL_law 1133 = .ok (.iaload, 1) := by decide +kernel
theorem dL_law_1134 : decode cL_law 1134 = .ok (.aload_n 0, 1) := by decide +kernel
theorem dL_law_1135 : decode cL_law 1135 = .ok (.iload_n 3, 1) := by decide +kernel
theorem dL_law_1136 : decode cL_law 1136 = .ok (.iconst 3, 1) := by decide +kernel
theorem dL_law_1137 : decode cL_law 1137 = .ok (.iadd, 1) := by decide +kernel
theorem dL_law_1138 : decode cL_law 1138 = .ok (.iaload, 1) := by decide +kernel
theorem dL_law_1139 : decode cL_law 1139 = .ok (.invokevirtual 165, 3) := by decide +kernel
theorem dL_law_1142 : decode cL_law 1142 = .ok (.aload_n 2, 1) := by decide +kernel
theorem dL_law_1143 : decode cL_law 1143 = .ok (.aload_n 0, 1) := by decide +kernel
theorem dL_law_1144 : decode cL_law 1144 = .ok (.iload_n 3, 1) := by decide +kernel
theorem dL_law_1145 : decode cL_law 1145 = .ok (.iconst 1, 1) := by decide +kernel
theorem dL_law_1146 : decode cL_law 1146 = .ok (.iadd, 1) := by decide +kernel
theorem dL_law_1147 : decode cL_law 1147 = .ok (.iaload, 1) := by decide +kernel
theorem dL_law_1148 : decode cL_law 1148 = .ok (.aload_n 0, 1) := by decide +kernel
theorem dL_law_1149 : decode cL_law 1149 = .ok (.iload_n 3, 1) := by decide +kernel
theorem dL_law_1150 : decode cL_law 1150 = .ok (.iconst 2, 1) := by decide +kernel
theorem dL_law_1151 : decode cL_law 1151 = .ok (.iadd, 1) := by decide +kernel
theorem dL_law_1152 : decode cL_law 1152 = .ok (.iaload, 1) := by decide +kernel
theorem dL_law_1153 : decode cL_law 1153 = .ok (.aload_n 0, 1) := by decide +kernel
theorem dL_law_1154 : decode cL_law 1154 = .ok (.iload_n 3, 1) := by decide +kernel
theorem dL_law_1155 : decode cL_law 1155 = .ok (.iconst 3, 1) := by decide +kernel
theorem dL_law_1156 : decode cL_law 1156 = .ok (.iadd, 1) := by decide +kernel
theorem dL_law_1157 : decode cL_law 1157 = .ok (.iaload, 1) := by decide +kernel
theorem dL_law_1158 : decode cL_law 1158 = .ok (.invokevirtual 169, 3) := by decide +kernel
theorem dL_law_1161 : decode cL_law 1161 = .ok (.if_icmp .eq 955, 3) := by decide +kernel
theorem dL_law_1166 : decode cL_law 1166 = .ok (.aload_n 1, 1) := by decide +kernel
theorem dL_law_1167 : decode cL_law 1167 = .ok (.aload_n 0, 1) := by decide +kernel
theorem dL_law_1168 : decode cL_law 1168 = .ok (.iload_n 3, 1) := by decide +kernel
theorem dL_law_1169 : decode cL_law 1169 = .ok (.iconst 1, 1) := by decide +kernel
theorem dL_law_1170 : decode cL_law 1170 = .ok (.iadd, 1) := by decide +kernel
theorem dL_law_1171 : decode cL_law 1171 = .ok (.iaload, 1) := by decide +kernel
theorem dL_law_1172 : decode cL_law 1172 = .ok (.aload_n 0, 1) := by decide +kernel
theorem dL_law_1173 : decode cL_law 1173 = .ok (.iload_n 3, 1) := by decide +kernel
theorem dL_law_1174 : decode cL_law 1174 = .ok (.iconst 2, 1) := by decide +kernel
theorem dL_law_1175 : decode cL_law 1175 = .ok (.iadd, 1) := by decide +kernel
theorem dL_law_1176 : decode cL_law 1176 = .ok (.iaload, 1) := by decide +kernel
theorem dL_law_1177 : decode cL_law 1177 = .ok (.invokevirtual 170, 3) := by decide +kernel
theorem dL_law_1180 : decode cL_law 1180 = .ok (.aload_n 2, 1) := by decide +kernel
theorem dL_law_1181 : decode cL_law 1181 = .ok (.aload_n 0, 1) := by decide +kernel
theorem dL_law_1182 : decode cL_law 1182 = .ok (.iload_n 3, 1) := by decide +kernel
theorem dL_law_1183 : decode cL_law 1183 = .ok (.iconst 1, 1) := by decide +kernel
theorem dL_law_1184 : decode cL_law 1184 = .ok (.iadd, 1) := by decide +kernel
theorem dL_law_1185 : decode cL_law 1185 = .ok (.iaload, 1) := by decide +kernel
theorem dL_law_1186 : decode cL_law 1186 = .ok (.aload_n 0, 1) := by decide +kernel
theorem dL_law_1187 : decode cL_law 1187 = .ok (.iload_n 3, 1) := by decide +kernel
theorem dL_law_1188 : decode cL_law 1188 = .ok (.iconst 2, 1) := by decide +kernel
theorem dL_law_1189 : decode cL_law 1189 = .ok (.iadd, 1) := by decide +kernel
theorem dL_law_1190 : decode cL_law 1190 = .ok (.iaload, 1) := by decide +kernel
theorem dL_law_1191 : decode cL_law 1191 = .ok (.invokevirtual 173, 3) := by decide +kernel
theorem dL_law_1194 : decode cL_law 1194 = .ok (.if_icmp .eq 922, 3) := by decide +kernel
theorem dL_law_1199 : decode cL_law 1199 = .ok (.aload_n 1, 1) := by decide +kernel
theorem dL_law_1200 : decode cL_law 1200 = .ok (.aload_n 0, 1) := by decide +kernel
theorem dL_law_1201 : decode cL_law 1201 = .ok (.iload_n 3, 1) := by decide +kernel
theorem dL_law_1202 : decode cL_law 1202 = .ok (.iconst 1, 1) := by decide +kernel
theorem dL_law_1203 : decode cL_law 1203 = .ok (.iadd, 1) := by decide +kernel
theorem dL_law_1204 : decode cL_law 1204 = .ok (.iaload, 1) := by decide +kernel
theorem dL_law_1205 : decode cL_law 1205 = .ok (.aload_n 0, 1) := by decide +kernel
theorem dL_law_1206 : decode cL_law 1206 = .ok (.iload_n 3, 1) := by decide +kernel
theorem dL_law_1207 : decode cL_law 1207 = .ok (.iconst 2, 1) := by decide +kernel
theorem dL_law_1208 : decode cL_law 1208 = .ok (.iadd, 1) := by decide +kernel
theorem dL_law_1209 : decode cL_law 1209 = .ok (.iaload, 1) := by decide +kernel
theorem dL_law_1210 : decode cL_law 1210 = .ok (.invokevirtual 174, 3) := by decide +kernel
theorem dL_law_1213 : decode cL_law 1213 = .ok (.aload_n 2, 1) := by decide +kernel
theorem dL_law_1214 : decode cL_law 1214 = .ok (.aload_n 0, 1) := by decide +kernel
theorem dL_law_1215 : decode cL_law 1215 = .ok (.iload_n 3, 1) := by decide +kernel
theorem dL_law_1216 : decode cL_law 1216 = .ok (.iconst 1, 1) := by decide +kernel
theorem dL_law_1217 : decode cL_law 1217 = .ok (.iadd, 1) := by decide +kernel
theorem dL_law_1218 : decode cL_law 1218 = .ok (.iaload, 1) := by decide +kernel
theorem dL_law_1219 : decode cL_law 1219 = .ok (.aload_n 0, 1) := by decide +kernel
theorem dL_law_1220 : decode cL_law 1220 = .ok (.iload_n 3, 1) := by decide +kernel
theorem dL_law_1221 : decode cL_law 1221 = .ok (.iconst 2, 1) := by decide +kernel
theorem dL_law_1222 : decode cL_law 1222 = .ok (.iadd, 1) := by decide +kernel
theorem dL_law_1223 : decode cL_law 1223 = .ok (.iaload, 1) := by decide +kernel
theorem dL_law_1224 : decode cL_law 1224 = .ok (.invokevirtual 177, 3) := by decide +kernel
theorem dL_law_1227 : decode cL_law 1227 = .ok (.if_icmp .eq 889, 3) := by decide +kernel
theorem dL_law_1232 : decode cL_law 1232 = .ok (.aload_n 1, 1) := by decide +kernel
theorem dL_law_1233 : decode cL_law 1233 = .ok (.aload_n 0, 1) := by decide +kernel
theorem dL_law_1234 : decode cL_law 1234 = .ok (.iload_n 3, 1) := by decide +kernel
theorem dL_law_1235 : decode cL_law 1235 = .ok (.iconst 1, 1) := by decide +kernel
theorem dL_law_1236 : decode cL_law 1236 = .ok (.iadd, 1) := by decide +kernel
theorem dL_law_1237 : decode cL_law 1237 = .ok (.iaload, 1) := by decide +kernel
theorem dL_law_1238 : decode cL_law 1238 = .ok (.aload_n 0, 1) := by decide +kernel
theorem dL_law_1239 : decode cL_law 1239 = .ok (.iload_n 3, 1) := by decide +kernel
theorem dL_law_1240 : decode cL_law 1240 = .ok (.iconst 2, 1) := by decide +kernel
theorem dL_law_1241 : decode cL_law 1241 = .ok (.iadd, 1) := by decide +kernel
theorem dL_law_1242 : decode cL_law 1242 = .ok (.iaload, 1) := by decide +kernel
theorem dL_law_1243 : decode cL_law 1243 = .ok (.invokevirtual 178, 3) := by decide +kernel
theorem dL_law_1246 : decode cL_law 1246 = .ok (.aload_n 2, 1) := by decide +kernel
theorem dL_law_1247 : decode cL_law 1247 = .ok (.aload_n 0, 1) := by decide +kernel
theorem dL_law_1248 : decode cL_law 1248 = .ok (.iload_n 3, 1) := by decide +kernel
theorem dL_law_1249 : decode cL_law 1249 = .ok (.iconst 1, 1) := by decide +kernel
theorem dL_law_1250 : decode cL_law 1250 = .ok (.iadd, 1) := by decide +kernel
theorem dL_law_1251 : decode cL_law 1251 = .ok (.iaload, 1) := by decide +kernel
theorem dL_law_1252 : decode cL_law 1252 = .ok (.aload_n 0, 1) := by decide +kernel
theorem dL_law_1253 : decode cL_law 1253 = .ok (.iload_n 3, 1) := by decide +kernel
theorem dL_law_1254 : decode cL_law 1254 = .ok (.iconst 2, 1) := by decide +kernel
theorem dL_law_1255 : decode cL_law 1255 = .ok (.iadd, 1) := by decide +kernel
theorem dL_law_1256 : decode cL_law 1256 = .ok (.iaload, 1) := by decide +kernel
theorem dL_law_1257 : decode cL_law 1257 = .ok (.invokevirtual 181, 3) := by decide +kernel
theorem dL_law_1260 : decode cL_law 1260 = .ok (.if_icmp .eq 856, 3) := by decide +kernel
theorem dL_law_1265 : decode cL_law 1265 = .ok (.aload_n 1, 1) := by decide +kernel
theorem dL_law_1266 : decode cL_law 1266 = .ok (.aload_n 0, 1) := by decide +kernel
theorem dL_law_1267 : decode cL_law 1267 = .ok (.iload_n 3, 1) := by decide +kernel
theorem dL_law_1268 : decode cL_law 1268 = .ok (.iconst 1, 1) := by decide +kernel
theorem dL_law_1269 : decode cL_law 1269 = .ok (.iadd, 1) := by decide +kernel
theorem dL_law_1270 : decode cL_law 1270 = .ok (.iaload, 1) := by decide +kernel
theorem dL_law_1271 : decode cL_law 1271 = .ok (.invokevirtual 182, 3) := by decide +kernel
theorem dL_law_1274 : decode cL_law 1274 = .ok (.aload_n 2, 1) := by decide +kernel
theorem dL_law_1275 : decode cL_law 1275 = .ok (.aload_n 0, 1) := by decide +kernel
theorem dL_law_1276 : decode cL_law 1276 = .ok (.iload_n 3, 1) := by decide +kernel
theorem dL_law_1277 : decode cL_law 1277 = .ok (.iconst 1, 1) := by decide +kernel
theorem dL_law_1278 : decode cL_law 1278 = .ok (.iadd, 1) := by decide +kernel
theorem dL_law_1279 : decode cL_law 1279 = .ok (.iaload, 1) := by decide +kernel
theorem dL_law_1280 : decode cL_law 1280 = .ok (.invokevirtual 185, 3) := by decide +kernel
theorem dL_law_1283 : decode cL_law 1283 = .ok (.if_icmp .eq 833, 3) := by decide +kernel
theorem dL_law_1288 : decode cL_law 1288 = .ok (.aload_n 1, 1) := by decide +kernel
theorem dL_law_1289 : decode cL_law 1289 = .ok (.aload_n 0, 1) := by decide +kernel
theorem dL_law_1290 : decode cL_law 1290 = .ok (.iload_n 3, 1) := by decide +kernel
theorem dL_law_1291 : decode cL_law 1291 = .ok (.iconst 1, 1) := by decide +kernel
theorem dL_law_1292 : decode cL_law 1292 = .ok (.iadd, 1) := by decide +kernel
theorem dL_law_1293 : decode cL_law 1293 = .ok (.iaload, 1) := by decide +kernel
theorem dL_law_1294 : decode cL_law 1294 = .ok (.invokevirtual 186, 3) := by decide +kernel
theorem dL_law_1297 : decode cL_law 1297 = .ok (.aload_n 2, 1) := by decide +kernel
theorem dL_law_1298 : decode cL_law 1298 = .ok (.aload_n 0, 1) := by decide +kernel
theorem dL_law_1299 : decode cL_law 1299 = .ok (.iload_n 3, 1) := by decide +kernel
theorem dL_law_1300 : decode cL_law 1300 = .ok (.iconst 1, 1) := by decide +kernel
theorem dL_law_1301 : decode cL_law 1301 = .ok (.iadd, 1) := by decide +kernel
theorem dL_law_1302 : decode cL_law 1302 = .ok (.iaload, 1) := by decide +kernel
theorem dL_law_1303 : decode cL_law 1303 = .ok (.invokevirtual 189, 3) := by decide +kernel
theorem dL_law_1306 : decode cL_law 1306 = .ok (.if_icmp .eq 810, 3) := by decide +kernel
theorem dL_law_1311 : decode cL_law 1311 = .ok (.aload_n 1, 1) := by decide +kernel
theorem dL_law_1312 : decode cL_law 1312 = .ok (.aload_n 0, 1) := by decide +kernel
theorem dL_law_1313 : decode cL_law 1313 = .ok (.iload_n 3, 1) := by decide +kernel
theorem dL_law_1314 : decode cL_law 1314 = .ok (.iconst 1, 1) := by decide +kernel
theorem dL_law_1315 : decode cL_law 1315 = .ok (.iadd, 1) := by decide +kernel
theorem dL_law_1316 : decode cL_law 1316 = .ok (.iaload, 1) := by decide +kernel
theorem dL_law_1317 : decode cL_law 1317 = .ok (.invokevirtual 190, 3) := by decide +kernel
theorem dL_law_1320 : decode cL_law 1320 = .ok (.aload_n 2, 1) := by decide +kernel
theorem dL_law_1321 : decode cL_law 1321 = .ok (.aload_n 0, 1) := by decide +kernel
theorem dL_law_1322 : decode cL_law 1322 = .ok (.iload_n 3, 1) := by decide +kernel
theorem dL_law_1323 : decode cL_law 1323 = .ok (.iconst 1, 1) := by decide +kernel
theorem dL_law_1324 : decode cL_law 1324 = .ok (.iadd, 1) := by decide +kernel
theorem dL_law_1325 : decode cL_law 1325 = .ok (.iaload, 1) := by decide +kernel
theorem dL_law_1326 : decode cL_law 1326 = .ok (.invokevirtual 193, 3) := by decide +kernel
theorem dL_law_1329 : decode cL_law 1329 = .ok (.if_icmp .eq 787, 3) := by decide +kernel
theorem dL_law_1334 : decode cL_law 1334 = .ok (.aload_n 1, 1) := by decide +kernel
theorem dL_law_1335 : decode cL_law 1335 = .ok (.aload_n 0, 1) := by decide +kernel
theorem dL_law_1336 : decode cL_law 1336 = .ok (.iload_n 3, 1) := by decide +kernel
theorem dL_law_1337 : decode cL_law 1337 = .ok (.iconst 1, 1) := by decide +kernel
theorem dL_law_1338 : decode cL_law 1338 = .ok (.iadd, 1) := by decide +kernel
theorem dL_law_1339 : decode cL_law 1339 = .ok (.iaload, 1) := by decide +kernel
theorem dL_law_1340 : decode cL_law 1340 = .ok (.invokevirtual 194, 3) := by decide +kernel
theorem dL_law_1343 : decode cL_law 1343 = .ok (.aload_n 2, 1) := by decide +kernel
theorem dL_law_1344 : decode cL_law 1344 = .ok (.aload_n 0, 1) := by decide +kernel
theorem dL_law_1345 : decode cL_law 1345 = .ok (.iload_n 3, 1) := by decide +kernel
theorem dL_law_1346 : decode cL_law 1346 = .ok (.iconst 1, 1) := by decide +kernel
theorem dL_law_1347 : decode cL_law 1347 = .ok (.iadd, 1) := by decide +kernel
theorem dL_law_1348 : decode cL_law 1348 = .ok (.iaload, 1) := by decide +kernel
theorem dL_law_1349 : decode cL_law 1349 = .ok (.invokevirtual 197, 3) := by decide +kernel
theorem dL_law_1352 : decode cL_law 1352 = .ok (.if_icmp .eq 764, 3) := by decide +kernel
theorem dL_law_1357 : decode cL_law 1357 = .ok (.aload_n 1, 1) := by decide +kernel
theorem dL_law_1358 : decode cL_law 1358 = .ok (.aload_n 0, 1) := by decide +kernel
theorem dL_law_1359 : decode cL_law 1359 = .ok (.iload_n 3, 1) := by decide +kernel
theorem dL_law_1360 : decode cL_law 1360 = .ok (.iconst 1, 1) := by decide +kernel
theorem dL_law_1361 : decode cL_law 1361 = .ok (.iadd, 1) := by decide +kernel
theorem dL_law_1362 : decode cL_law 1362 = .ok (.iaload, 1) := by decide +kernel
theorem dL_law_1363 : decode cL_law 1363 = .ok (.invokevirtual 198, 3) := by decide +kernel
theorem dL_law_1366 : decode cL_law 1366 = .ok (.aload_n 2, 1) := by decide +kernel
theorem dL_law_1367 : decode cL_law 1367 = .ok (.aload_n 0, 1) := by decide +kernel
theorem dL_law_1368 : decode cL_law 1368 = .ok (.iload_n 3, 1) := by decide +kernel
theorem dL_law_1369 : decode cL_law 1369 = .ok (.iconst 1, 1) := by decide +kernel
theorem dL_law_1370 : decode cL_law 1370 = .ok (.iadd, 1) := by decide +kernel
theorem dL_law_1371 : decode cL_law 1371 = .ok (.iaload, 1) := by decide +kernel
theorem dL_law_1372 : decode cL_law 1372 = .ok (.invokevirtual 201, 3) := by decide +kernel
theorem dL_law_1375 : decode cL_law 1375 = .ok (.if_icmp .eq 741, 3) := by decide +kernel
theorem dL_law_1380 : decode cL_law 1380 = .ok (.aload_n 1, 1) := by decide +kernel
theorem dL_law_1381 : decode cL_law 1381 = .ok (.aload_n 0, 1) := by decide +kernel
theorem dL_law_1382 : decode cL_law 1382 = .ok (.iload_n 3, 1) := by decide +kernel
theorem dL_law_1383 : decode cL_law 1383 = .ok (.iconst 1, 1) := by decide +kernel
theorem dL_law_1384 : decode cL_law 1384 = .ok (.iadd, 1) := by decide +kernel
theorem dL_law_1385 : decode cL_law 1385 = .ok (.iaload, 1) := by decide +kernel
theorem dL_law_1386 : decode cL_law 1386 = .ok (.invokevirtual 202, 3) := by decide +kernel
theorem dL_law_1389 : decode cL_law 1389 = .ok (.aload_n 2, 1) := by decide +kernel
theorem dL_law_1390 : decode cL_law 1390 = .ok (.aload_n 0, 1) := by decide +kernel
theorem dL_law_1391 : decode cL_law 1391 = .ok (.iload_n 3, 1) := by decide +kernel
theorem dL_law_1392 : decode cL_law 1392 = .ok (.iconst 1, 1) := by decide +kernel
theorem dL_law_1393 : decode cL_law 1393 = .ok (.iadd, 1) := by decide +kernel
theorem dL_law_1394 : decode cL_law 1394 = .ok (.iaload, 1) := by decide +kernel
theorem dL_law_1395 : decode cL_law 1395 = .ok (.invokevirtual 205, 3) := by decide +kernel
theorem dL_law_1398 : decode cL_law 1398 = .ok (.if_icmp .eq 718, 3) := by decide +kernel
theorem dL_law_1403 : decode cL_law 1403 = .ok (.aload_n 1, 1) := by decide +kernel
theorem dL_law_1404 : decode cL_law 1404 = .ok (.aload_n 0, 1) := by decide +kernel
theorem dL_law_1405 : decode cL_law 1405 = .ok (.iload_n 3, 1) := by decide +kernel
theorem dL_law_1406 : decode cL_law 1406 = .ok (.iconst 1, 1) := by decide +kernel
theorem dL_law_1407 : decode cL_law 1407 = .ok (.iadd, 1) := by decide +kernel
theorem dL_law_1408 : decode cL_law 1408 = .ok (.iaload, 1) := by decide +kernel
theorem dL_law_1409 : decode cL_law 1409 = .ok (.invokevirtual 206, 3) := by decide +kernel
theorem dL_law_1412 : decode cL_law 1412 = .ok (.aload_n 2, 1) := by decide +kernel
theorem dL_law_1413 : decode cL_law 1413 = .ok (.aload_n 0, 1) := by decide +kernel
theorem dL_law_1414 : decode cL_law 1414 = .ok (.iload_n 3, 1) := by decide +kernel
theorem dL_law_1415 : decode cL_law 1415 = .ok (.iconst 1, 1) := by decide +kernel
theorem dL_law_1416 : decode cL_law 1416 = .ok (.iadd, 1) := by decide +kernel
theorem dL_law_1417 : decode cL_law 1417 = .ok (.iaload, 1) := by decide +kernel
theorem dL_law_1418 : decode cL_law 1418 = .ok (.invokevirtual 209, 3) := by decide +kernel
theorem dL_law_1421 : decode cL_law 1421 = .ok (.if_icmp .eq 695, 3) := by decide +kernel
theorem dL_law_1426 : decode cL_law 1426 = .ok (.aload_n 1, 1) := by decide +kernel
theorem dL_law_1427 : decode cL_law 1427 = .ok (.aload_n 0, 1) := by decide +kernel
theorem dL_law_1428 : decode cL_law 1428 = .ok (.iload_n 3, 1) := by decide +kernel
theorem dL_law_1429 : decode cL_law 1429 = .ok (.iconst 1, 1) := by decide +kernel
theorem dL_law_1430 : decode cL_law 1430 = .ok (.iadd, 1) := by decide +kernel
theorem dL_law_1431 : decode cL_law 1431 = .ok (.iaload, 1) := by decide +kernel
theorem dL_law_1432 : decode cL_law 1432 = .ok (.invokevirtual 210, 3) := by decide +kernel
theorem dL_law_1435 : decode cL_law 1435 = .ok (.aload_n 2, 1) := by decide +kernel
theorem dL_law_1436 : decode cL_law 1436 = .ok (.aload_n 0, 1) := by decide +kernel
theorem dL_law_1437 : decode cL_law 1437 = .ok (.iload_n 3, 1) := by decide +kernel
theorem dL_law_1438 : decode cL_law 1438 = .ok (.iconst 1, 1) := by decide +kernel
theorem dL_law_1439 : decode cL_law 1439 = .ok (.iadd, 1) := by decide +kernel
theorem dL_law_1440 : decode cL_law 1440 = .ok (.iaload, 1) := by decide +kernel
theorem dL_law_1441 : decode cL_law 1441 = .ok (.invokevirtual 213, 3) := by decide +kernel
theorem dL_law_1444 : decode cL_law 1444 = .ok (.if_icmp .eq 672, 3) := by decide +kernel
theorem dL_law_1449 : decode cL_law 1449 = .ok (.aload_n 1, 1) := by decide +kernel
theorem dL_law_1450 : decode cL_law 1450 = .ok (.aload_n 0, 1) := by decide +kernel
theorem dL_law_1451 : decode cL_law 1451 = .ok (.iload_n 3, 1) := by decide +kernel
theorem dL_law_1452 : decode cL_law 1452 = .ok (.iconst 1, 1) := by decide +kernel
theorem dL_law_1453 : decode cL_law 1453 = .ok (.iadd, 1) := by decide +kernel
theorem dL_law_1454 : decode cL_law 1454 = .ok (.iaload, 1) := by decide +kernel
theorem dL_law_1455 : decode cL_law 1455 = .ok (.invokevirtual 214, 3) := by decide +kernel
theorem dL_law_1458 : decode cL_law 1458 = .ok (.aload_n 2, 1) := by decide +kernel
theorem dL_law_1459 : decode cL_law 1459 = .ok (.aload_n 0, 1) := by decide +kernel
theorem dL_law_1460 : decode cL_law 1460 = .ok (.iload_n 3, 1) := by decide +kernel
theorem dL_law_1461 : decode cL_law 1461 = .ok (.iconst 1, 1) := by decide +kernel
theorem dL_law_1462 : decode cL_law 1462 = .ok (.iadd, 1) := by decide +kernel
theorem dL_law_1463 : decode cL_law 1463 = .ok (.iaload, 1) := by decide +kernel
theorem dL_law_1464 : decode cL_law 1464 = .ok (.invokevirtual 217, 3) := by decide +kernel
theorem dL_law_1467 : decode cL_law 1467 = .ok (.if_icmp .eq 649, 3) := by decide +kernel
theorem dL_law_1472 : decode cL_law 1472 = .ok (.aload_n 1, 1) := by decide +kernel
theorem dL_law_1473 : decode cL_law 1473 = .ok (.aload_n 0, 1) := by decide +kernel
theorem dL_law_1474 : decode cL_law 1474 = .ok (.iload_n 3, 1) := by decide +kernel
theorem dL_law_1475 : decode cL_law 1475 = .ok (.iconst 1, 1) := by decide +kernel
theorem dL_law_1476 : decode cL_law 1476 = .ok (.iadd, 1) := by decide +kernel
theorem dL_law_1477 : decode cL_law 1477 = .ok (.iaload, 1) := by decide +kernel
theorem dL_law_1478 : decode cL_law 1478 = .ok (.invokevirtual 218, 3) := by decide +kernel
theorem dL_law_1481 : decode cL_law 1481 = .ok (.aload_n 2, 1) := by decide +kernel
theorem dL_law_1482 : decode cL_law 1482 = .ok (.aload_n 0, 1) := by decide +kernel
theorem dL_law_1483 : decode cL_law 1483 = .ok (.iload_n 3, 1) := by decide +kernel
theorem dL_law_1484 : decode cL_law 1484 = .ok (.iconst 1, 1) := by decide +kernel
theorem dL_law_1485 : decode cL_law 1485 = .ok (.iadd, 1) := by decide +kernel
theorem dL_law_1486 : decode cL_law 1486 = .ok (.iaload, 1) := by decide +kernel
theorem dL_law_1487 : decode cL_law 1487 = .ok (.invokevirtual 221, 3) := by decide +kernel
theorem dL_law_1490 : decode cL_law 1490 = .ok (.if_icmp .eq 626, 3) := by decide +kernel
theorem dL_law_1495 : decode cL_law 1495 = .ok (.aload_n 1, 1) := by decide +kernel
theorem dL_law_1496 : decode cL_law 1496 = .ok (.aload_n 0, 1) := by decide +kernel
theorem dL_law_1497 : decode cL_law 1497 = .ok (.iload_n 3, 1) := by decide +kernel
theorem dL_law_1498 : decode cL_law 1498 = .ok (.iconst 1, 1) := by decide +kernel
theorem dL_law_1499 : decode cL_law 1499 = .ok (.iadd, 1) := by decide +kernel
theorem dL_law_1500 : decode cL_law 1500 = .ok (.iaload, 1) := by decide +kernel
theorem dL_law_1501 : decode cL_law 1501 = .ok (.aload_n 0, 1) := by decide +kernel
theorem dL_law_1502 : decode cL_law 1502 = .ok (.iload_n 3, 1) := by decide +kernel
theorem dL_law_1503 : decode cL_law 1503 = .ok (.iconst 2, 1) := by decide +kernel
theorem dL_law_1504 : decode cL_law 1504 = .ok (.iadd, 1) := by decide +kernel
theorem dL_law_1505 : decode cL_law 1505 = .ok (.iaload, 1) := by decide +kernel
theorem dL_law_1506 : decode cL_law 1506 = .ok (.invokevirtual 222, 3) := by decide +kernel
theorem dL_law_1509 : decode cL_law 1509 = .ok (.aload_n 2, 1) := by decide +kernel
theorem dL_law_1510 : decode cL_law 1510 = .ok (.aload_n 0, 1) := by decide +kernel
theorem dL_law_1511 : decode cL_law 1511 = .ok (.iload_n 3, 1) := by decide +kernel
theorem dL_law_1512 : decode cL_law 1512 = .ok (.iconst 1, 1) := by decide +kernel
theorem dL_law_1513 : decode cL_law 1513 = .ok (.iadd, 1) := by decide +kernel
theorem dL_law_1514 : decode cL_law 1514 = .ok (.iaload, 1) := by decide +kernel
theorem dL_law_1515 : decode cL_law 1515 = .ok (.aload_n 0, 1) := by decide +kernel
theorem dL_law_1516 : decode cL_law 1516 = .ok (.iload_n 3, 1) := by decide +kernel
theorem dL_law_1517 : decode cL_law 1517 = .ok (.iconst 2, 1) := by decide +kernel
theorem dL_law_1518 : decode cL_law 1518 = .ok (.iadd, 1) := by decide +kernel
theorem dL_law_1519 : decode cL_law 1519 = .ok (.iaload, 1) := by decide +kernel
theorem dL_law_1520 : decode cL_law 1520 = .ok (.invokevirtual 225, 3) := by decide +kernel
theorem dL_law_1523 : decode cL_law 1523 = .ok (.if_icmp .eq 593, 3) := by decide +kernel
theorem dL_law_1528 : decode cL_law 1528 = .ok (.aload_n 1, 1) := by decide +kernel
theorem dL_law_1529 : decode cL_law 1529 = .ok (.invokevirtual 226, 3) := by decide +kernel
theorem dL_law_1532 : decode cL_law 1532 = .ok (.aload_n 2, 1) := by decide +kernel
theorem dL_law_1533 : decode cL_law 1533 = .ok (.invokevirtual 229, 3) := by decide +kernel
theorem dL_law_1536 : decode cL_law 1536 = .ok (.if_icmp .eq 580, 3) := by decide +kernel
theorem dL_law_1541 : decode cL_law 1541 = .ok (.aload_n 1, 1) := by decide +kernel
theorem dL_law_1542 : decode cL_law 1542 = .ok (.invokevirtual 230, 3) := by decide +kernel
theorem dL_law_1545 : decode cL_law 1545 = .ok (.aload_n 2, 1) := by decide +kernel
theorem dL_law_1546 : decode cL_law 1546 = .ok (.invokevirtual 233, 3) := by decide +kernel
theorem dL_law_1549 : decode cL_law 1549 = .ok (.if_icmp .eq 567, 3) := by decide +kernel
theorem dL_law_1554 : decode cL_law 1554 = .ok (.aload_n 1, 1) := by decide +kernel
theorem dL_law_1555 : decode cL_law 1555 = .ok (.aload_n 0, 1) := by decide +kernel
theorem dL_law_1556 : decode cL_law 1556 = .ok (.iload_n 3, 1) := by decide +kernel
theorem dL_law_1557 : decode cL_law 1557 = .ok (.iconst 1, 1) := by decide +kernel
theorem dL_law_1558 : decode cL_law 1558 = .ok (.iadd, 1) := by decide +kernel
theorem dL_law_1559 : decode cL_law 1559 = .ok (.iaload, 1) := by decide +kernel
theorem dL_law_1560 : decode cL_law 1560 = .ok (.aload_n 0, 1) := by decide +kernel
theorem dL_law_1561 : decode cL_law 1561 = .ok (.iload_n 3, 1) := by decide +kernel
theorem dL_law_1562 : decode cL_law 1562 = .ok (.iconst 2, 1) := by decide +kernel
theorem dL_law_1563 : decode cL_law 1563 = .ok (.iadd, 1) := by decide +kernel
theorem dL_law_1564 : decode cL_law 1564 = .ok (.iaload, 1) := by decide +kernel
theorem dL_law_1565 : decode cL_law 1565 = .ok (.invokevirtual 234, 3) := by decide +kernel
theorem dL_law_1568 : decode cL_law 1568 = .ok (.aload_n 2, 1) := by decide +kernel
theorem dL_law_1569 : decode cL_law 1569 = .ok (.aload_n 0, 1) := by decide +kernel
theorem dL_law_1570 : decode cL_law 1570 = .ok (.iload_n 3, 1) := by decide +kernel
theorem dL_law_1571 : decode cL_law 1571 = .ok (.iconst 1, 1) := by decide +kernel
theorem dL_law_1572 : decode cL_law 1572 = .ok (.iadd, 1) := by decide +kernel
theorem dL_law_1573 : decode cL_law 1573 = .ok (.iaload, 1) := by decide +kernel
theorem dL_law_1574 : decode cL_law 1574 = .ok (.aload_n 0, 1) := by decide +kernel
theorem dL_law_1575 : decode cL_law 1575 = .ok (.iload_n 3, 1) := by decide +kernel
theorem dL_law_1576 : decode cL_law 1576 = .ok (.iconst 2, 1) := by decide +kernel
theorem dL_law_1577 : decode cL_law 1577 = .ok (.iadd, 1) := by decide +kernel
theorem dL_law_1578 : decode cL_law 1578 = .ok (.iaload, 1) := by decide +kernel
theorem dL_law_1579 : decode cL_law 1579 = .ok (.invokevirtual 237, 3) := by decide +kernel
theorem dL_law_1582 : decode cL_law 1582 = .ok (.if_icmp .eq 534, 3) := by decide +kernel
theorem dL_law_1587 : decode cL_law 1587 = .ok (.aload_n 1, 1) := by decide +kernel
theorem dL_law_1588 : decode cL_law 1588 = .ok (.aload_n 0, 1) := by decide +kernel
theorem dL_law_1589 : decode cL_law 1589 = .ok (.iload_n 3, 1) := by decide +kernel
theorem dL_law_1590 : decode cL_law 1590 = .ok (.iconst 1, 1) := by decide +kernel
theorem dL_law_1591 : decode cL_law 1591 = .ok (.iadd, 1) := by decide +kernel
theorem dL_law_1592 : decode cL_law 1592 = .ok (.iaload, 1) := by decide +kernel
theorem dL_law_1593 : decode cL_law 1593 = .ok (.invokevirtual 238, 3) := by decide +kernel
theorem dL_law_1596 : decode cL_law 1596 = .ok (.aload_n 2, 1) := by decide +kernel
theorem dL_law_1597 : decode cL_law 1597 = .ok (.aload_n 0, 1) := by decide +kernel
theorem dL_law_1598 : decode cL_law 1598 = .ok (.iload_n 3, 1) := by decide +kernel
theorem dL_law_1599 : decode cL_law 1599 = .ok (.iconst 1, 1) := by decide +kernel
theorem dL_law_1600 : decode cL_law 1600 = .ok (.iadd, 1) := by decide +kernel
theorem dL_law_1601 : decode cL_law 1601 = .ok (.iaload, 1) := by decide +kernel
theorem dL_law_1602 : decode cL_law 1602 = .ok (.invokevirtual 241, 3) := by decide +kernel
theorem dL_law_1605 : decode cL_law 1605 = .ok (.if_icmp .eq 511, 3) := by decide +kernel
theorem dL_law_1610 : decode cL_law 1610 = .ok (.aload_n 1, 1) := by decide +kernel
theorem dL_law_1611 : decode cL_law 1611 = .ok (.aload_n 0, 1) := by decide +kernel
theorem dL_law_1612 : decode cL_law 1612 = .ok (.iload_n 3, 1) := by decide +kernel
theorem dL_law_1613 : decode cL_law 1613 = .ok (.iconst 1, 1) := by decide +kernel
theorem dL_law_1614 : decode cL_law 1614 = .ok (.iadd, 1) := by decide +kernel
theorem dL_law_1615 : decode cL_law 1615 = .ok (.iaload, 1) := by decide +kernel
theorem dL_law_1616 : decode cL_law 1616 = .ok (.aload_n 0, 1) := by decide +kernel
theorem dL_law_1617 : decode cL_law 1617 = .ok (.iload_n 3, 1) := by decide +kernel
theorem dL_law_1618 : decode cL_law 1618 = .ok (.iconst 2, 1) := by decide +kernel
theorem dL_law_1619 : decode cL_law 1619 = .ok (.iadd, 1) := by decide +kernel
theorem dL_law_1620 : decode cL_law 1620 = .ok (.iaload, 1) := by decide +kernel
theorem dL_law_1621 : decode cL_law 1621 = .ok (.invokevirtual 242, 3) := by decide +kernel
theorem dL_law_1624 : decode cL_law 1624 = .ok (.aload_n 2, 1) := by decide +kernel
theorem dL_law_1625 : decode cL_law 1625 = .ok (.aload_n 0, 1) := by decide +kernel
theorem dL_law_1626 : decode cL_law 1626 = .ok (.iload_n 3, 1) := by decide +kernel
theorem dL_law_1627 : decode cL_law 1627 = .ok (.iconst 1, 1) := by decide +kernel
theorem dL_law_1628 : decode cL_law 1628 = .ok (.iadd, 1) := by decide +kernel
theorem dL_law_1629 : decode cL_law 1629 = .ok (.iaload, 1) := by decide +kernel
theorem dL_law_1630 : decode cL_law 1630 = .ok (.aload_n 0, 1) := by decide +kernel
theorem dL_law_1631 : decode cL_law 1631 = .ok (.iload_n 3, 1) := by decide +kernel
theorem dL_law_1632 : decode cL_law 1632 = .ok (.iconst 2, 1) := by decide +kernel
theorem dL_law_1633 : decode cL_law 1633 = .ok (.iadd, 1) := by decide +kernel
theorem dL_law_1634 : decode cL_law 1634 = .ok (.iaload, 1) := by decide +kernel
theorem dL_law_1635 : decode cL_law 1635 = .ok (.invokevirtual 246, 3) := by decide +kernel
theorem dL_law_1638 : decode cL_law 1638 = .ok (.lcmp, 1) := by decide +kernel
theorem dL_law_1639 : decode cL_law 1639 = .ok (.ifCond .eq 477, 3) := by decide +kernel
theorem dL_law_1644 : decode cL_law 1644 = .ok (.aload_n 1, 1) := by decide +kernel
theorem dL_law_1645 : decode cL_law 1645 = .ok (.aload_n 0, 1) := by decide +kernel
theorem dL_law_1646 : decode cL_law 1646 = .ok (.iload_n 3, 1) := by decide +kernel
theorem dL_law_1647 : decode cL_law 1647 = .ok (.iconst 1, 1) := by decide +kernel
theorem dL_law_1648 : decode cL_law 1648 = .ok (.iadd, 1) := by decide +kernel
theorem dL_law_1649 : decode cL_law 1649 = .ok (.iaload, 1) := by decide +kernel
theorem dL_law_1650 : decode cL_law 1650 = .ok (.invokevirtual 247, 3) := by decide +kernel
theorem dL_law_1653 : decode cL_law 1653 = .ok (.aload_n 2, 1) := by decide +kernel
theorem dL_law_1654 : decode cL_law 1654 = .ok (.aload_n 0, 1) := by decide +kernel
theorem dL_law_1655 : decode cL_law 1655 = .ok (.iload_n 3, 1) := by decide +kernel
theorem dL_law_1656 : decode cL_law 1656 = .ok (.iconst 1, 1) := by decide +kernel
theorem dL_law_1657 : decode cL_law 1657 = .ok (.iadd, 1) := by decide +kernel
theorem dL_law_1658 : decode cL_law 1658 = .ok (.iaload, 1) := by decide +kernel
theorem dL_law_1659 : decode cL_law 1659 = .ok (.invokevirtual 250, 3) := by decide +kernel
theorem dL_law_1662 : decode cL_law 1662 = .ok (.if_icmp .eq 454, 3) := by decide +kernel
theorem dL_law_1667 : decode cL_law 1667 = .ok (.aload_n 1, 1) := by decide +kernel
theorem dL_law_1668 : decode cL_law 1668 = .ok (.aload_n 0, 1) := by decide +kernel
theorem dL_law_1669 : decode cL_law 1669 = .ok (.iload_n 3, 1) := by decide +kernel
theorem dL_law_1670 : decode cL_law 1670 = .ok (.iconst 1, 1) := by decide +kernel
theorem dL_law_1671 : decode cL_law 1671 = .ok (.iadd, 1) := by decide +kernel
theorem dL_law_1672 : decode cL_law 1672 = .ok (.iaload, 1) := by decide +kernel
theorem dL_law_1673 : decode cL_law 1673 = .ok (.aload_n 0, 1) := by decide +kernel
theorem dL_law_1674 : decode cL_law 1674 = .ok (.iload_n 3, 1) := by decide +kernel
theorem dL_law_1675 : decode cL_law 1675 = .ok (.iconst 2, 1) := by decide +kernel
theorem dL_law_1676 : decode cL_law 1676 = .ok (.iadd, 1) := by decide +kernel
theorem dL_law_1677 : decode cL_law 1677 = .ok (.iaload, 1) := by decide +kernel
theorem dL_law_1678 : decode cL_law 1678 = .ok (.invokevirtual 251, 3) := by decide +kernel
theorem dL_law_1681 : decode cL_law 1681 = .ok (.aload_n 2, 1) := by decide +kernel
theorem dL_law_1682 : decode cL_law 1682 = .ok (.aload_n 0, 1) := by decide +kernel
theorem dL_law_1683 : decode cL_law 1683 = .ok (.iload_n 3, 1) := by decide +kernel
theorem dL_law_1684 : decode cL_law 1684 = .ok (.iconst 1, 1) := by decide +kernel
theorem dL_law_1685 : decode cL_law 1685 = .ok (.iadd, 1) := by decide +kernel
theorem dL_law_1686 : decode cL_law 1686 = .ok (.iaload, 1) := by decide +kernel
theorem dL_law_1687 : decode cL_law 1687 = .ok (.aload_n 0, 1) := by decide +kernel
theorem dL_law_1688 : decode cL_law 1688 = .ok (.iload_n 3, 1) := by decide +kernel
theorem dL_law_1689 : decode cL_law 1689 = .ok (.iconst 2, 1) := by decide +kernel
theorem dL_law_1690 : decode cL_law 1690 = .ok (.iadd, 1) := by decide +kernel
theorem dL_law_1691 : decode cL_law 1691 = .ok (.iaload, 1) := by decide +kernel
theorem dL_law_1692 : decode cL_law 1692 = .ok (.invokevirtual 254, 3) := by decide +kernel
theorem dL_law_1695 : decode cL_law 1695 = .ok (.if_icmp .eq 421, 3) := by decide +kernel
theorem dL_law_1700 : decode cL_law 1700 = .ok (.aload_n 1, 1) := by decide +kernel
theorem dL_law_1701 : decode cL_law 1701 = .ok (.aload_n 0, 1) := by decide +kernel
theorem dL_law_1702 : decode cL_law 1702 = .ok (.iload_n 3, 1) := by decide +kernel
theorem dL_law_1703 : decode cL_law 1703 = .ok (.iconst 1, 1) := by decide +kernel
theorem dL_law_1704 : decode cL_law 1704 = .ok (.iadd, 1) := by decide +kernel
theorem dL_law_1705 : decode cL_law 1705 = .ok (.iaload, 1) := by decide +kernel
theorem dL_law_1706 : decode cL_law 1706 = .ok (.invokevirtual 255, 3) := by decide +kernel
theorem dL_law_1709 : decode cL_law 1709 = .ok (.aload_n 2, 1) := by decide +kernel
theorem dL_law_1710 : decode cL_law 1710 = .ok (.aload_n 0, 1) := by decide +kernel
theorem dL_law_1711 : decode cL_law 1711 = .ok (.iload_n 3, 1) := by decide +kernel
theorem dL_law_1712 : decode cL_law 1712 = .ok (.iconst 1, 1) := by decide +kernel
theorem dL_law_1713 : decode cL_law 1713 = .ok (.iadd, 1) := by decide +kernel
theorem dL_law_1714 : decode cL_law 1714 = .ok (.iaload, 1) := by decide +kernel
theorem dL_law_1715 : decode cL_law 1715 = .ok (.invokevirtual 258, 3) := by decide +kernel
theorem dL_law_1718 : decode cL_law 1718 = .ok (.if_icmp .eq 398, 3) := by decide +kernel
theorem dL_law_1723 : decode cL_law 1723 = .ok (.aload_n 1, 1) := by decide +kernel
theorem dL_law_1724 : decode cL_law 1724 = .ok (.invokevirtual 259, 3) := by decide +kernel
theorem dL_law_1727 : decode cL_law 1727 = .ok (.aload_n 2, 1) := by decide +kernel
theorem dL_law_1728 : decode cL_law 1728 = .ok (.invokevirtual 262, 3) := by decide +kernel
theorem dL_law_1731 : decode cL_law 1731 = .ok (.if_icmp .eq 385, 3) := by decide +kernel
theorem dL_law_1736 : decode cL_law 1736 = .ok (.aload_n 1, 1) := by decide +kernel
theorem dL_law_1737 : decode cL_law 1737 = .ok (.invokevirtual 263, 3) := by decide +kernel
theorem dL_law_1740 : decode cL_law 1740 = .ok (.aload_n 2, 1) := by decide +kernel
theorem dL_law_1741 : decode cL_law 1741 = .ok (.invokevirtual 266, 3) := by decide +kernel
theorem dL_law_1744 : decode cL_law 1744 = .ok (.if_icmp .eq 372, 3) := by decide +kernel
theorem dL_law_1749 : decode cL_law 1749 = .ok (.aload_n 1, 1) := by decide +kernel
theorem dL_law_1750 : decode cL_law 1750 = .ok (.aload_n 0, 1) := by decide +kernel
theorem dL_law_1751 : decode cL_law 1751 = .ok (.iload_n 3, 1) := by decide +kernel
theorem dL_law_1752 : decode cL_law 1752 = .ok (.iconst 1, 1) := by decide +kernel
theorem dL_law_1753 : decode cL_law 1753 = .ok (.iadd, 1) := by decide +kernel
theorem dL_law_1754 : decode cL_law 1754 = .ok (.iaload, 1) := by decide +kernel
theorem dL_law_1755 : decode cL_law 1755 = .ok (.aload_n 0, 1) := by decide +kernel
theorem dL_law_1756 : decode cL_law 1756 = .ok (.iload_n 3, 1) := by decide +kernel
theorem dL_law_1757 : decode cL_law 1757 = .ok (.iconst 2, 1) := by decide +kernel
theorem dL_law_1758 : decode cL_law 1758 = .ok (.iadd, 1) := by decide +kernel
theorem dL_law_1759 : decode cL_law 1759 = .ok (.iaload, 1) := by decide +kernel
theorem dL_law_1760 : decode cL_law 1760 = .ok (.aload_n 0, 1) := by decide +kernel
theorem dL_law_1761 : decode cL_law 1761 = .ok (.iload_n 3, 1) := by decide +kernel
theorem dL_law_1762 : decode cL_law 1762 = .ok (.iconst 3, 1) := by decide +kernel
theorem dL_law_1763 : decode cL_law 1763 = .ok (.iadd, 1) := by decide +kernel
theorem dL_law_1764 : decode cL_law 1764 = .ok (.iaload, 1) := by decide +kernel
theorem dL_law_1765 : decode cL_law 1765 = .ok (.invokevirtual 267, 3) := by decide +kernel
theorem dL_law_1768 : decode cL_law 1768 = .ok (.aload_n 2, 1) := by decide +kernel
theorem dL_law_1769 : decode cL_law 1769 = .ok (.aload_n 0, 1) := by decide +kernel
theorem dL_law_1770 : decode cL_law 1770 = .ok (.iload_n 3, 1) := by decide +kernel
theorem dL_law_1771 : decode cL_law 1771 = .ok (.iconst 1, 1) := by decide +kernel
theorem dL_law_1772 : decode cL_law 1772 = .ok (.iadd, 1) := by decide +kernel
theorem dL_law_1773 : decode cL_law 1773 = .ok (.iaload, 1) := by decide +kernel
theorem dL_law_1774 : decode cL_law 1774 = .ok (.aload_n 0, 1) := by decide +kernel
theorem dL_law_1775 : decode cL_law 1775 = .ok (.iload_n 3, 1) := by decide +kernel
theorem dL_law_1776 : decode cL_law 1776 = .ok (.iconst 2, 1) := by decide +kernel
theorem dL_law_1777 : decode cL_law 1777 = .ok (.iadd, 1) := by decide +kernel
theorem dL_law_1778 : decode cL_law 1778 = .ok (.iaload, 1) := by decide +kernel
theorem dL_law_1779 : decode cL_law 1779 = .ok (.aload_n 0, 1) := by decide +kernel
theorem dL_law_1780 : decode cL_law 1780 = .ok (.iload_n 3, 1) := by decide +kernel
theorem dL_law_1781 : decode cL_law 1781 = .ok (.iconst 3, 1) := by decide +kernel
theorem dL_law_1782 : decode cL_law 1782 = .ok (.iadd, 1) := by decide +kernel
theorem dL_law_1783 : decode cL_law 1783 = .ok (.iaload, 1) := by decide +kernel
theorem dL_law_1784 : decode cL_law 1784 = .ok (.invokevirtual 270, 3) := by decide +kernel
theorem dL_law_1787 : decode cL_law 1787 = .ok (.if_icmp .eq 329, 3) := by decide +kernel
theorem dL_law_1792 : decode cL_law 1792 = .ok (.aload_n 1, 1) := by decide +kernel
theorem dL_law_1793 : decode cL_law 1793 = .ok (.aload_n 0, 1) := by decide +kernel
theorem dL_law_1794 : decode cL_law 1794 = .ok (.iload_n 3, 1) := by decide +kernel
theorem dL_law_1795 : decode cL_law 1795 = .ok (.iconst 1, 1) := by decide +kernel
theorem dL_law_1796 : decode cL_law 1796 = .ok (.iadd, 1) := by decide +kernel
theorem dL_law_1797 : decode cL_law 1797 = .ok (.iaload, 1) := by decide +kernel
theorem dL_law_1798 : decode cL_law 1798 = .ok (.aload_n 0, 1) := by decide +kernel
theorem dL_law_1799 : decode cL_law 1799 = .ok (.iload_n 3, 1) := by decide +kernel
theorem dL_law_18 : decode cL_law 18 = .ok (.iload_n 3, 1) := by decide +kernel
theorem dL_law_1800 : decode cL_law 1800 = .ok (.iconst 2, 1) := by decide +kernel
theorem dL_law_1801 : decode cL_law 1801 = .ok (.iadd, 1) := by decide +kernel
theorem dL_law_1802 : decode cL_law 1802 = .ok (.iaload, 1) := by decide +kernel
theorem dL_law_1803 : decode cL_law 1803 = .ok (.aload_n 0, 1) := by decide +kernel
theorem dL_law_1804 : decode cL_law 1804 = .ok (.iload_n 3, 1) := by decide +kernel
theorem dL_law_1805 : decode cL_law 1805 = .ok (.iconst 3, 1) := by decide +kernel
theorem dL_law_1806 : decode cL_law 1806 = .ok (.iadd, 1) := by decide +kernel
theorem dL_law_1807 : decode cL_law 1807 = .ok (.iaload, 1) := by decide +kernel
theorem dL_law_1808 : decode cL_law 1808 = .ok (.aload_n 0, 1) := by decide +kernel
theorem dL_law_1809 : decode cL_law 1809 = .ok (.iload_n 3, 1) := by decide +kernel
theorem dL_law_1810 : decode cL_law 1810 = .ok (.iconst 4, 1) := by decide +kernel
theorem dL_law_1811 : decode cL_law 1811 = .ok (.iadd, 1) := by decide +kernel
theorem dL_law_1812 : decode cL_law 1812 = .ok (.iaload, 1) := by decide +kernel
theorem dL_law_1813 : decode cL_law 1813 = .ok (.invokevirtual 271, 3) := by decide +kernel
theorem dL_law_1816 : decode cL_law 1816 = .ok (.aload_n 2, 1) := by decide +kernel
theorem dL_law_1817 : decode cL_law 1817 = .ok (.aload_n 0, 1) := by decide +kernel
theorem dL_law_1818 : decode cL_law 1818 = .ok (.iload_n 3, 1) := by decide +kernel
theorem dL_law_1819 : decode cL_law 1819 = .ok (.iconst 1, 1) := by decide +kernel
theorem dL_law_1820 : decode cL_law 1820 = .ok (.iadd, 1) := by decide +kernel
theorem dL_law_1821 : decode cL_law 1821 = .ok (.iaload, 1) := by decide +kernel
theorem dL_law_1822 : decode cL_law 1822 = .ok (.aload_n 0, 1) := by decide +kernel
theorem dL_law_1823 : decode cL_law 1823 = .ok (.iload_n 3, 1) := by decide +kernel
theorem dL_law_1824 : decode cL_law 1824 = .ok (.iconst 2, 1) := by decide +kernel
theorem dL_law_1825 : decode cL_law 1825 = .ok (.iadd, 1) := by decide +kernel
theorem dL_law_1826 : decode cL_law 1826 = .ok (.iaload, 1) := by decide +kernel
theorem dL_law_1827 : decode cL_law 1827 = .ok (.aload_n 0, 1) := by decide +kernel
theorem dL_law_1828 : decode cL_law 1828 = .ok (.iload_n 3, 1) := by decide +kernel
theorem dL_law_1829 : decode cL_law 1829 = .ok (.iconst 3, 1) := by decide +kernel
theorem dL_law_1830 : decode cL_law 1830 = .ok (.iadd, 1) := by decide +kernel
theorem dL_law_1831 : decode cL_law 1831 = .ok (.iaload, 1) := by decide +kernel
theorem dL_law_1832 : decode cL_law 1832 = .ok (.aload_n 0, 1) := by decide +kernel
theorem dL_law_1833 : decode cL_law 1833 = .ok (.iload_n 3, 1) := by decide +kernel
theorem dL_law_1834 : decode cL_law 1834 = .ok (.iconst 4, 1) := by decide +kernel
theorem dL_law_1835 : decode cL_law 1835 = .ok (.iadd, 1) := by decide +kernel
theorem dL_law_1836 : decode cL_law 1836 = .ok (.iaload, 1) := by decide +kernel
theorem dL_law_1837 : decode cL_law 1837 = .ok (.invokevirtual 275, 3) := by decide +kernel
theorem dL_law_1840 : decode cL_law 1840 = .ok (.if_icmp .eq 276, 3) := by decide +kernel
theorem dL_law_1845 : decode cL_law 1845 = .ok (.aload_n 1, 1) := by decide +kernel
theorem dL_law_1846 : decode cL_law 1846 = .ok (.aload_n 0, 1) := by decide +kernel
theorem dL_law_1847 : decode cL_law 1847 = .ok (.iload_n 3, 1) := by decide +kernel
theorem dL_law_1848 : decode cL_law 1848 = .ok (.iconst 1, 1) := by decide +kernel
theorem dL_law_1849 : decode cL_law 1849 = .ok (.iadd, 1) := by decide +kernel
theorem dL_law_1850 : decode cL_law 1850 = .ok (.iaload, 1) := by decide +kernel
theorem dL_law_1851 : decode cL_law 1851 = .ok (.invokevirtual 276, 3) := by decide +kernel
theorem dL_law_1854 : decode cL_law 1854 = .ok (.aload_n 2, 1) := by decide +kernel
theorem dL_law_1855 : decode cL_law 1855 = .ok (.aload_n 0, 1) := by decide +kernel
theorem dL_law_1856 : decode cL_law 1856 = .ok (.iload_n 3, 1) := by decide +kernel
theorem dL_law_1857 : decode cL_law 1857 = .ok (.iconst 1, 1) := by decide +kernel
theorem dL_law_1858 : decode cL_law 1858 = .ok (.iadd, 1) := by decide +kernel
theorem dL_law_1859 : decode cL_law 1859 = .ok (.iaload, 1) := by decide +kernel
theorem dL_law_1860 : decode cL_law 1860 = .ok (.invokevirtual 279, 3) := by decide +kernel
theorem dL_law_1863 : decode cL_law 1863 = .ok (.if_icmp .eq 253, 3) := by decide +kernel
theorem dL_law_1868 : decode cL_law 1868 = .ok (.aload_n 1, 1) := by decide +kernel
theorem dL_law_1869 : decode cL_law 1869 = .ok (.aload_n 0, 1) := by decide +kernel
theorem dL_law_1870 : decode cL_law 1870 = .ok (.iload_n 3, 1) := by decide +kernel
theorem dL_law_1871 : decode cL_law 1871 = .ok (.iconst 1, 1) := by decide +kernel
theorem dL_law_1872 : decode cL_law 1872 = .ok (.iadd, 1) := by decide +kernel
theorem dL_law_1873 : decode cL_law 1873 = .ok (.iaload, 1) := by decide +kernel
theorem dL_law_1874 : decode cL_law 1874 = .ok (.invokevirtual 280, 3) := by decide +kernel
theorem dL_law_1877 : decode cL_law 1877 = .ok (.aload_n 2, 1) := by decide +kernel
theorem dL_law_1878 : decode cL_law 1878 = .ok (.aload_n 0, 1) := by decide +kernel
theorem dL_law_1879 : decode cL_law 1879 = .ok (.iload_n 3, 1) := by decide +kernel
theorem dL_law_1880 : decode cL_law 1880 = .ok (.iconst 1, 1) := by decide +kernel
theorem dL_law_1881 : decode cL_law 1881 = .ok (.iadd, 1) := by decide +kernel
theorem dL_law_1882 : decode cL_law 1882 = .ok (.iaload, 1) := by decide +kernel
theorem dL_law_1883 : decode cL_law 1883 = .ok (.invokevirtual 283, 3) := by decide +kernel
theorem dL_law_1886 : decode cL_law 1886 = .ok (.if_icmp .eq 230, 3) := by decide +kernel
theorem dL_law_1891 : decode cL_law 1891 = .ok (.aload_n 1, 1) := by decide +kernel
theorem dL_law_1892 : decode cL_law 1892 = .ok (.aload_n 0, 1) := by decide +kernel
theorem dL_law_1893 : decode cL_law 1893 = .ok (.iload_n 3, 1) := by decide +kernel
theorem dL_law_1894 : decode cL_law 1894 = .ok (.iconst 1, 1) := by decide +kernel
theorem dL_law_1895 : decode cL_law 1895 = .ok (.iadd, 1) := by decide +kernel
theorem dL_law_1896 : decode cL_law 1896 = .ok (.iaload, 1) := by decide +kernel
theorem dL_law_1897 : decode cL_law 1897 = .ok (.invokevirtual 284, 3) := by decide +kernel
theorem dL_law_19 : decode cL_law 19 = .ok (.aload_n 0, 1) := by decide +kernel
theorem dL_law_1900 : decode cL_law 1900 = .ok (.aload_n 2, 1) := by decide +kernel
theorem dL_law_1901 : decode cL_law 1901 = .ok (.aload_n 0, 1) := by decide +kernel
theorem dL_law_1902 : decode cL_law 1902 = .ok (.iload_n 3, 1) := by decide +kernel
theorem dL_law_1903 : decode cL_law 1903 = .ok (.iconst 1, 1) := by decide +kernel
theorem dL_law_1904 : decode cL_law 1904 = .ok (.iadd, 1) := by decide +kernel
theorem dL_law_1905 : decode cL_law 1905 = .ok (.iaload, 1) := by decide +kernel
theorem dL_law_1906 : decode cL_law 1906 = .ok (.invokevirtual 287, 3) := by decide +kernel
theorem dL_law_1909 : decode cL_law 1909 = .ok (.if_icmp .eq 207, 3) := by decide +kernel
theorem dL_law_1914 : decode cL_law 1914 = .ok (.aload_n 1, 1) := by decide +kernel
theorem dL_law_1915 : decode cL_law 1915 = .ok (.aload_n 0, 1) := by decide +kernel
theorem dL_law_1916 : decode cL_law 1916 = .ok (.iload_n 3, 1) := by decide +kernel
theorem dL_law_1917 : decode cL_law 1917 = .ok (.iconst 1, 1) := by decide +kernel
theorem dL_law_1918 : decode cL_law 1918 = .ok (.iadd, 1) := by decide +kernel
theorem dL_law_1919 : decode cL_law 1919 = .ok (.iaload, 1) := by decide +kernel
theorem dL_law_1920 : decode cL_law 1920 = .ok (.invokevirtual 288, 3) := by decide +kernel
theorem dL_law_1923 : decode cL_law 1923 = .ok (.aload_n 2, 1) := by decide +kernel
theorem dL_law_1924 : decode cL_law 1924 = .ok (.aload_n 0, 1) := by decide +kernel
theorem dL_law_1925 : decode cL_law 1925 = .ok (.iload_n 3, 1) := by decide +kernel
theorem dL_law_1926 : decode cL_law 1926 = .ok (.iconst 1, 1) := by decide +kernel
theorem dL_law_1927 : decode cL_law 1927 = .ok (.iadd, 1) := by decide +kernel
theorem dL_law_1928 : decode cL_law 1928 = .ok (.iaload, 1) := by decide +kernel
theorem dL_law_1929 : decode cL_law 1929 = .ok (.invokevirtual 291, 3) := by decide +kernel
theorem dL_law_1932 : decode cL_law 1932 = .ok (.if_icmp .eq 184, 3) := by decide +kernel
theorem dL_law_1937 : decode cL_law 1937 = .ok (.aload_n 1, 1) := by decide +kernel
theorem dL_law_1938 : decode cL_law 1938 = .ok (.aload_n 0, 1) := by decide +kernel
theorem dL_law_1939 : decode cL_law 1939 = .ok (.iload_n 3, 1) := by decide +kernel
theorem dL_law_1940 : decode cL_law 1940 = .ok (.iconst 1, 1) := by decide +kernel
theorem dL_law_1941 : decode cL_law 1941 = .ok (.iadd, 1) := by decide +kernel
theorem dL_law_1942 : decode cL_law 1942 = .ok (.iaload, 1) := by decide +kernel
theorem dL_law_1943 : decode cL_law 1943 = .ok (.aload_n 0, 1) := by decide +kernel
theorem dL_law_1944 : decode cL_law 1944 = .ok (.iload_n 3, 1) := by decide +kernel
theorem dL_law_1945 : decode cL_law 1945 = .ok (.iconst 2, 1) := by decide +kernel
theorem dL_law_1946 : decode cL_law 1946 = .ok (.iadd, 1) := by decide +kernel
theorem dL_law_1947 : decode cL_law 1947 = .ok (.iaload, 1) := by decide +kernel
theorem dL_law_1948 : decode cL_law 1948 = .ok (.aload_n 0, 1) := by decide +kernel
theorem dL_law_1949 : decode cL_law 1949 = .ok (.iload_n 3, 1) := by decide +kernel
theorem dL_law_1950 : decode cL_law 1950 = .ok (.iconst 3, 1) := by decide +kernel
theorem dL_law_1951 : decode cL_law 1951 = .ok (.iadd, 1) := by decide +kernel
theorem dL_law_1952 : decode cL_law 1952 = .ok (.iaload, 1) := by decide +kernel
theorem dL_law_1953 : decode cL_law 1953 = .ok (.invokevirtual 292, 3) := by decide +kernel
theorem dL_law_1956 : decode cL_law 1956 = .ok (.aload_n 2, 1) := by decide +kernel
theorem dL_law_1957 : decode cL_law 1957 = .ok (.aload_n 0, 1) := by decide +kernel
theorem dL_law_1958 : decode cL_law 1958 = .ok (.iload_n 3, 1) := by decide +kernel
theorem dL_law_1959 : decode cL_law 1959 = .ok (.iconst 1, 1) := by decide +kernel
theorem dL_law_1960 : decode cL_law 1960 = .ok (.iadd, 1) := by decide +kernel
theorem dL_law_1961 : decode cL_law 1961 = .ok (.iaload, 1) := by decide +kernel
theorem dL_law_1962 : decode cL_law 1962 = .ok (.aload_n 0, 1) := by decide +kernel
theorem dL_law_1963 : decode cL_law 1963 = .ok (.iload_n 3, 1) := by decide +kernel
theorem dL_law_1964 : decode cL_law 1964 = .ok (.iconst 2, 1) := by decide +kernel
theorem dL_law_1965 : decode cL_law 1965 = .ok (.iadd, 1) := by decide +kernel
theorem dL_law_1966 : decode cL_law 1966 = .ok (.iaload, 1) := by decide +kernel
theorem dL_law_1967 : decode cL_law 1967 = .ok (.aload_n 0, 1) := by decide +kernel
theorem dL_law_1968 : decode cL_law 1968 = .ok (.iload_n 3, 1) := by decide +kernel
theorem dL_law_1969 : decode cL_law 1969 = .ok (.iconst 3, 1) := by decide +kernel
theorem dL_law_1970 : decode cL_law 1970 = .ok (.iadd, 1) := by decide +kernel
theorem dL_law_1971 : decode cL_law 1971 = .ok (.iaload, 1) := by decide +kernel
theorem dL_law_1972 : decode cL_law 1972 = .ok (.invokevirtual 295, 3) := by decide +kernel
theorem dL_law_1975 : decode cL_law 1975 = .ok (.if_icmp .eq 141, 3) := by decide +kernel
theorem dL_law_1980 : decode cL_law 1980 = .ok (.aload_n 1, 1) := by decide +kernel
theorem dL_law_1981 : decode cL_law 1981 = .ok (.aload_n 0, 1) := by decide +kernel
theorem dL_law_1982 : decode cL_law 1982 = .ok (.iload_n 3, 1) := by decide +kernel
theorem dL_law_1983 : decode cL_law 1983 = .ok (.iconst 1, 1) := by decide +kernel
theorem dL_law_1984 : decode cL_law 1984 = .ok (.iadd, 1) := by decide +kernel
theorem dL_law_1985 : decode cL_law 1985 = .ok (.iaload, 1) := by decide +kernel
theorem dL_law_1986 : decode cL_law 1986 = .ok (.aload_n 0, 1) := by decide +kernel
theorem dL_law_1987 : decode cL_law 1987 = .ok (.iload_n 3, 1) := by decide +kernel
theorem dL_law_1988 : decode cL_law 1988 = .ok (.iconst 2, 1) := by decide +kernel
theorem dL_law_1989 : decode cL_law 1989 = .ok (.iadd, 1) := by decide +kernel
theorem dL_law_1990 : decode cL_law 1990 = .ok (.iaload, 1) := by decide +kernel
theorem dL_law_1991 : decode cL_law 1991 = .ok (.aload_n 0, 1) := by decide +kernel
theorem dL_law_1992 : decode cL_law 1992 = .ok (.iload_n 3, 1) := by decide +kernel
theorem dL_law_1993 : decode cL_law 1993 = .ok (.iconst 3, 1) := by decide +kernel
theorem dL_law_1994 : decode cL_law 1994 = .ok (.iadd, 1) := by decide +kernel
theorem dL_law_1995 : decode cL_law 1995 = .ok (.iaload, 1) := by decide +kernel
theorem dL_law_1996 : decode cL_law 1996 = .ok (.i2l, 1) := by decide +kernel
theorem dL_law_1997 : decode cL_law 1997 = .ok (.bipush 32, 2) := by decide +kernel
theorem dL_law_1999 : decode cL_law 1999 = .ok (.lshl, 1) := by decide +kernel
theorem dL_law_20 : decode cL_law 20 = .ok (.arraylength, 1) := by decide +kernel
theorem dL_law_2000 : decode cL_law 2000 = .ok (.aload_n 0, 1) := by decide +kernel
theorem dL_law_2001 : decode cL_law 2001 = .ok (.iload_n 3, 1) := by decide +kernel
theorem dL_law_2002 : decode cL_law 2002 = .ok (.iconst 4, 1) := by decide +kernel
theorem dL_law_2003 : decode cL_law 2003 = .ok (.iadd, 1) := by decide +kernel
theorem dL_law_2004 : decode cL_law 2004 = .ok (.iaload, 1) := by decide +kernel
theorem dL_law_2005 : decode cL_law 2005 = .ok (.i2l, 1) := by decide +kernel
theorem dL_law_2006 : decode cL_law 2006 = .ok (.ldc2_w 296, 3) := by decide +kernel
theorem dL_law_2009 : decode cL_law 2009 = .ok (.land, 1) := by decide +kernel
theorem dL_law_2010 : decode cL_law 2010 = .ok (.lor, 1) := by decide +kernel
theorem dL_law_2011 : decode cL_law 2011 = .ok (.invokevirtual 298, 3) := by decide +kernel
theorem dL_law_2014 : decode cL_law 2014 = .ok (.aload_n 2, 1) := by decide +kernel
theorem dL_law_2015 : decode cL_law 2015 = .ok (.aload_n 0, 1) := by decide +kernel
theorem dL_law_2016 : decode cL_law 2016 = .ok (.iload_n 3, 1) := by decide +kernel
theorem dL_law_2017 : decode cL_law 2017 = .ok (.iconst 1, 1) := by decide +kernel
theorem dL_law_2018 : decode cL_law 2018 = .ok (.iadd, 1) := by decide +kernel
theorem dL_law_2019 : decode cL_law 2019 = .ok (.iaload, 1) := by decide +kernel
theorem dL_law_2020 : decode cL_law 2020 = .ok (.aload_n 0, 1) := by decide +kernel
theorem dL_law_2021 : decode cL_law 2021 = .ok (.iload_n 3, 1) := by decide +kernel
theorem dL_law_2022 : decode cL_law 2022 = .ok (.iconst 2, 1) := by decide +kernel
theorem dL_law_2023 : decode cL_law 2023 = .ok (.iadd, 1) := by decide +kernel
theorem dL_law_2024 : decode cL_law 2024 = .ok (.iaload, 1) := by decide +kernel
theorem dL_law_2025 : decode cL_law 2025 = .ok (.aload_n 0, 1) := by decide +kernel
theorem dL_law_2026 : decode cL_law 2026 = .ok (.iload_n 3, 1) := by decide +kernel
theorem dL_law_2027 : decode cL_law 2027 = .ok (.iconst 3, 1) := by decide +kernel
theorem dL_law_2028 : decode cL_law 2028 = .ok (.iadd, 1) := by decide +kernel
theorem dL_law_2029 : decode cL_law 2029 = .ok (.iaload, 1) := by decide +kernel
theorem dL_law_2030 : decode cL_law 2030 = .ok (.i2l, 1) := by decide +kernel
theorem dL_law_2031 : decode cL_law 2031 = .ok (.bipush 32, 2) := by decide +kernel
theorem dL_law_2033 : decode cL_law 2033 = .ok (.lshl, 1) := by decide +kernel
theorem dL_law_2034 : decode cL_law 2034 = .ok (.aload_n 0, 1) := by decide +kernel
theorem dL_law_2035 : decode cL_law 2035 = .ok (.iload_n 3, 1) := by decide +kernel
theorem dL_law_2036 : decode cL_law 2036 = .ok (.iconst 4, 1) := by decide +kernel
theorem dL_law_2037 : decode cL_law 2037 = .ok (.iadd, 1) := by decide +kernel
theorem dL_law_2038 : decode cL_law 2038 = .ok (.iaload, 1) := by decide +kernel
theorem dL_law_2039 : decode cL_law 2039 = .ok (.i2l, 1) := by decide +kernel
theorem dL_law_2040 : decode cL_law 2040 = .ok (.ldc2_w 296, 3) := by decide +kernel
theorem dL_law_2043 : decode cL_law 2043 = .ok (.land, 1) := by decide +kernel
theorem dL_law_2044 : decode cL_law 2044 = .ok (.lor, 1) := by decide +kernel
theorem dL_law_2045 : decode cL_law 2045 = .ok (.invokevirtual 302, 3) := by decide +kernel
theorem dL_law_2048 : decode cL_law 2048 = .ok (.if_icmp .eq 68, 3) := by decide +kernel
theorem dL_law_2053 : decode cL_law 2053 = .ok (.aload_n 1, 1) := by decide +kernel
theorem dL_law_2054 : decode cL_law 2054 = .ok (.aload_n 0, 1) := by decide +kernel
theorem dL_law_2055 : decode cL_law 2055 = .ok (.iload_n 3, 1) := by decide +kernel
theorem dL_law_2056 : decode cL_law 2056 = .ok (.iconst 1, 1) := by decide +kernel
theorem dL_law_2057 : decode cL_law 2057 = .ok (.iadd, 1) := by decide +kernel
theorem dL_law_2058 : decode cL_law 2058 = .ok (.iaload, 1) := by decide +kernel
theorem dL_law_2059 : decode cL_law 2059 = .ok (.aload_n 0, 1) := by decide +kernel
theorem dL_law_2060 : decode cL_law 2060 = .ok (.iload_n 3, 1) := by decide +kernel
theorem dL_law_2061 : decode cL_law 2061 = .ok (.iconst 2, 1) := by decide +kernel
theorem dL_law_2062 : decode cL_law 2062 = .ok (.iadd, 1) := by decide +kernel
theorem dL_law_2063 : decode cL_law 2063 = .ok (.iaload, 1) := by decide +kernel
theorem dL_law_2064 : decode cL_law 2064 = .ok (.aload_n 0, 1) := by decide +kernel
theorem dL_law_2065 : decode cL_law 2065 = .ok (.iload_n 3, 1) := by decide +kernel
theorem dL_law_2066 : decode cL_law 2066 = .ok (.iconst 3, 1) := by decide +kernel
theorem dL_law_2067 : decode cL_law 2067 = .ok (.iadd, 1) := by decide +kernel
theorem dL_law_2068 : decode cL_law 2068 = .ok (.iaload, 1) := by decide +kernel
theorem dL_law_2069 : decode cL_law 2069 = .ok (.aload_n 0, 1) := by decide +kernel
theorem dL_law_2070 : decode cL_law 2070 = .ok (.iload_n 3, 1) := by decide +kernel
theorem dL_law_2071 : decode cL_law 2071 = .ok (.iconst 4, 1) := by decide +kernel
theorem dL_law_2072 : decode cL_law 2072 = .ok (.iadd, 1) := by decide +kernel
theorem dL_law_2073 : decode cL_law 2073 = .ok (.iaload, 1) := by decide +kernel
theorem dL_law_2074 : decode cL_law 2074 = .ok (.aload_n 0, 1) := by decide +kernel
theorem dL_law_2075 : decode cL_law 2075 = .ok (.iload_n 3, 1) := by decide +kernel
theorem dL_law_2076 : decode cL_law 2076 = .ok (.iconst 5, 1) := by decide +kernel
theorem dL_law_2077 : decode cL_law 2077 = .ok (.iadd, 1) := by decide +kernel
theorem dL_law_2078 : decode cL_law 2078 = .ok (.iaload, 1) := by decide +kernel
theorem dL_law_2079 : decode cL_law 2079 = .ok (.invokevirtual 303, 3) := by decide +kernel
theorem dL_law_2082 : decode cL_law 2082 = .ok (.aload_n 2, 1) := by decide +kernel
theorem dL_law_2083 : decode cL_law 2083 = .ok (.aload_n 0, 1) := by decide +kernel
theorem dL_law_2084 : decode cL_law 2084 = .ok (.iload_n 3, 1) := by decide +kernel
theorem dL_law_2085 : decode cL_law 2085 = .ok (.iconst 1, 1) := by decide +kernel
theorem dL_law_2086 : decode cL_law 2086 = .ok (.iadd, 1) := by decide +kernel
theorem dL_law_2087 : decode cL_law 2087 = .ok (.iaload, 1) := by decide +kernel
theorem dL_law_2088 : decode cL_law 2088 = .ok (.aload_n 0, 1) := by decide +kernel
theorem dL_law_2089 : decode cL_law 2089 = .ok (.iload_n 3, 1) := by decide +kernel
theorem dL_law_2090 : decode cL_law 2090 = .ok (.iconst 2, 1) := by decide +kernel
theorem dL_law_2091 : decode cL_law 2091 = .ok (.iadd, 1) := by decide +kernel
theorem dL_law_2092 : decode cL_law 2092 = .ok (.iaload, 1) := by decide +kernel
theorem dL_law_2093 : decode cL_law 2093 = .ok (.aload_n 0, 1) := by decide +kernel
theorem dL_law_2094 : decode cL_law 2094 = .ok (.iload_n 3, 1) := by decide +kernel
theorem dL_law_2095 : decode cL_law 2095 = .ok (.iconst 3, 1) := by decide +kernel
theorem dL_law_2096 : decode cL_law 2096 = .ok (.iadd, 1) := by decide +kernel
theorem dL_law_2097 : decode cL_law 2097 = .ok (.iaload, 1) := by decide +kernel
theorem dL_law_2098 : decode cL_law 2098 = .ok (.aload_n 0, 1) := by decide +kernel
theorem dL_law_2099 : decode cL_law 2099 = .ok (.iload_n 3, 1) := by decide +kernel
theorem dL_law_21 : decode cL_law 21 = .ok (.bipush 6, 2) := by decide +kernel
theorem dL_law_2100 : decode cL_law 2100 = .ok (.iconst 4, 1) := by decide +kernel
theorem dL_law_2101 : decode cL_law 2101 = .ok (.iadd, 1) := by decide +kernel
theorem dL_law_2102 : decode cL_law 2102 = .ok (.iaload, 1) := by decide +kernel
theorem dL_law_2103 : decode cL_law 2103 = .ok (.aload_n 0, 1) := by decide +kernel
theorem dL_law_2104 : decode cL_law 2104 = .ok (.iload_n 3, 1) := by decide +kernel
theorem dL_law_2105 : decode cL_law 2105 = .ok (.iconst 5, 1) := by decide +kernel
theorem dL_law_2106 : decode cL_law 2106 = .ok (.iadd, 1) := by decide +kernel
theorem dL_law_2107 : decode cL_law 2107 = .ok (.iaload, 1) := by decide +kernel
theorem dL_law_2108 : decode cL_law 2108 = .ok (.invokevirtual 306, 3) := by decide +kernel
theorem dL_law_2111 : decode cL_law 2111 = .ok (.if_icmp .eq 5, 3) := by decide +kernel
theorem dL_law_2116 : decode cL_law 2116 = .ok (.iinc 3 6, 3) := by decide +kernel
theorem dL_law_2119 : decode cL_law 2119 = .ok (.goto (-2101), 3) := by decide +kernel
theorem dL_law_2122 : decode cL_law 2122 = .ok (.iconst 1, 1) := by decide +kernel
theorem dL_law_2123 : decode cL_law 2123 = .ok (.ireturn, 1) := by decide +kernel
theorem dL_law_23 : decode cL_law 23 = .ok (.isub, 1) := by decide +kernel
theorem dL_law_24 : decode cL_law 24 = .ok (.if_icmp .gt 2098, 3) := by decide +kernel
theorem dL_law_332 : decode cL_law 332 = .ok (.aload_n 1, 1) := by decide +kernel
theorem dL_law_333 : decode cL_law 333 = .ok (.aload_n 0, 1) := by decide +kernel
theorem dL_law_334 : decode cL_law 334 = .ok (.iload_n 3, 1) := by decide +kernel
theorem dL_law_335 : decode cL_law 335 = .ok (.iconst 1, 1) := by decide +kernel
theorem dL_law_336 : decode cL_law 336 = .ok (.iadd, 1) := by decide +kernel
theorem dL_law_337 : decode cL_law 337 = .ok (.iaload, 1) := by decide +kernel
theorem dL_law_338 : decode cL_law 338 = .ok (.aload_n 0, 1) := by decide +kernel
theorem dL_law_339 : decode cL_law 339 = .ok (.iload_n 3, 1) := by decide +kernel
theorem dL_law_340 : decode cL_law 340 = .ok (.iconst 2, 1) := by decide +kernel
theorem dL_law_341 : decode cL_law 341 = .ok (.iadd, 1) := by decide +kernel
theorem dL_law_342 : decode cL_law 342 = .ok (.iaload, 1) := by decide +kernel
theorem dL_law_343 : decode cL_law 343 = .ok (.aload_n 0, 1) := by decide +kernel
theorem dL_law_344 : decode cL_law 344 = .ok (.iload_n 3, 1) := by decide +kernel
theorem dL_law_345 : decode cL_law 345 = .ok (.iconst 3, 1) := by decide +kernel
theorem dL_law_346 : decode cL_law 346 = .ok (.iadd, 1) := by decide +kernel
theorem dL_law_347 : decode cL_law 347 = .ok (.iaload, 1) := by decide +kernel
theorem dL_law_348 : decode cL_law 348 = .ok (.aload_n 0, 1) := by decide +kernel
theorem dL_law_349 : decode cL_law 349 = .ok (.iload_n 3, 1) := by decide +kernel
theorem dL_law_350 : decode cL_law 350 = .ok (.iconst 4, 1) := by decide +kernel
theorem dL_law_351 : decode cL_law 351 = .ok (.iadd, 1) := by decide +kernel
theorem dL_law_352 : decode cL_law 352 = .ok (.iaload, 1) := by decide +kernel
theorem dL_law_353 : decode cL_law 353 = .ok (.aload_n 0, 1) := by decide +kernel
theorem dL_law_354 : decode cL_law 354 = .ok (.iload_n 3, 1) := by decide +kernel
theorem dL_law_355 : decode cL_law 355 = .ok (.iconst 5, 1) := by decide +kernel
theorem dL_law_356 : decode cL_law 356 = .ok (.iadd, 1) := by decide +kernel
theorem dL_law_357 : decode cL_law 357 = .ok (.iaload, 1) := by decide +kernel
theorem dL_law_358 : decode cL_law 358 = .ok (.invokevirtual 13, 3) := by decide +kernel
theorem dL_law_361 : decode cL_law 361 = .ok (.aload_n 2, 1) := by decide +kernel
theorem dL_law_362 : decode cL_law 362 = .ok (.aload_n 0, 1) := by decide +kernel
theorem dL_law_363 : decode cL_law 363 = .ok (.iload_n 3, 1) := by decide +kernel
theorem dL_law_364 : decode cL_law 364 = .ok (.iconst 1, 1) := by decide +kernel
theorem dL_law_365 : decode cL_law 365 = .ok (.iadd, 1) := by decide +kernel
theorem dL_law_366 : decode cL_law 366 = .ok (.iaload, 1) := by decide +kernel
theorem dL_law_367 : decode cL_law 367 = .ok (.aload_n 0, 1) := by decide +kernel
theorem dL_law_368 : decode cL_law 368 = .ok (.iload_n 3, 1) := by decide +kernel
theorem dL_law_369 : decode cL_law 369 = .ok (.iconst 2, 1) := by decide +kernel
theorem dL_law_370 : decode cL_law 370 = .ok (.iadd, 1) := by decide +kernel
theorem dL_law_371 : decode cL_law 371 = .ok (.iaload, 1) := by decide +kernel
theorem dL_law_372 : decode cL_law 372 = .ok (.aload_n 0, 1) := by decide +kernel
theorem dL_law_373 : decode cL_law 373 = .ok (.iload_n 3, 1) := by decide +kernel
theorem dL_law_374 : decode cL_law 374 = .ok (.iconst 3, 1) := by decide +kernel
theorem dL_law_375 : decode cL_law 375 = .ok (.iadd, 1) := by decide +kernel
theorem dL_law_376 : decode cL_law 376 = .ok (.iaload, 1) := by decide +kernel
theorem dL_law_377 : decode cL_law 377 = .ok (.aload_n 0, 1) := by decide +kernel
theorem dL_law_378 : decode cL_law 378 = .ok (.iload_n 3, 1) := by decide +kernel
theorem dL_law_379 : decode cL_law 379 = .ok (.iconst 4, 1) := by decide +kernel
theorem dL_law_380 : decode cL_law 380 = .ok (.iadd, 1) := by decide +kernel
theorem dL_law_381 : decode cL_law 381 = .ok (.iaload, 1) := by decide +kernel
theorem dL_law_382 : decode cL_law 382 = .ok (.aload_n 0, 1) := by decide +kernel
theorem dL_law_383 : decode cL_law 383 = .ok (.iload_n 3, 1) := by decide +kernel
theorem dL_law_384 : decode cL_law 384 = .ok (.iconst 5, 1) := by decide +kernel
theorem dL_law_385 : decode cL_law 385 = .ok (.iadd, 1) := by decide +kernel
theorem dL_law_386 : decode cL_law 386 = .ok (.iaload, 1) := by decide +kernel
theorem dL_law_387 : decode cL_law 387 = .ok (.invokevirtual 17, 3) := by decide +kernel
theorem dL_law_390 : decode cL_law 390 = .ok (.if_icmp .eq 1726, 3) := by decide +kernel
theorem dL_law_395 : decode cL_law 395 = .ok (.aload_n 1, 1) := by decide +kernel
theorem dL_law_396 : decode cL_law 396 = .ok (.aload_n 0, 1) := by decide +kernel
theorem dL_law_397 : decode cL_law 397 = .ok (.iload_n 3, 1) := by decide +kernel
theorem dL_law_398 : decode cL_law 398 = .ok (.iconst 1, 1) := by decide +kernel
theorem dL_law_399 : decode cL_law 399 = .ok (.iadd, 1) := by decide +kernel
theorem dL_law_400 : decode cL_law 400 = .ok (.iaload, 1) := by decide +kernel
theorem dL_law_401 : decode cL_law 401 = .ok (.invokevirtual 18, 3) := by decide +kernel
theorem dL_law_404 : decode cL_law 404 = .ok (.aload_n 2, 1) := by decide +kernel
theorem dL_law_405 : decode cL_law 405 = .ok (.aload_n 0, 1) := by decide +kernel
theorem dL_law_406 : decode cL_law 406 = .ok (.iload_n 3, 1) := by decide +kernel
theorem dL_law_407 : decode cL_law 407 = .ok (.iconst 1, 1) := by decide +kernel
theorem dL_law_408 : decode cL_law 408 = .ok (.iadd, 1) := by decide +kernel
theorem dL_law_409 : decode cL_law 409 = .ok (.iaload, 1) := by decide +kernel
theorem dL_law_410 : decode cL_law 410 = .ok (.invokevirtual 22, 3) := by decide +kernel
theorem dL_law_413 : decode cL_law 413 = .ok (.if_icmp .eq 1703, 3) := by decide +kernel
theorem dL_law_418 : decode cL_law 418 = .ok (.aload_n 1, 1) := by decide +kernel
theorem dL_law_419 : decode cL_law 419 = .ok (.invokevirtual 23, 3) := by decide +kernel
theorem dL_law_422 : decode cL_law 422 = .ok (.aload_n 2, 1) := by decide +kernel
theorem dL_law_423 : decode cL_law 423 = .ok (.invokevirtual 27, 3) := by decide +kernel
theorem dL_law_426 : decode cL_law 426 = .ok (.if_icmp .eq 1690, 3) := by decide +kernel
theorem dL_law_431 : decode cL_law 431 = .ok (.aload_n 1, 1) := by decide +kernel
theorem dL_law_432 : decode cL_law 432 = .ok (.aload_n 0, 1) := by decide +kernel
theorem dL_law_433 : decode cL_law 433 = .ok (.iload_n 3, 1) := by decide +kernel
theorem dL_law_434 : decode cL_law 434 = .ok (.iconst 1, 1) := by decide +kernel
theorem dL_law_435 : decode cL_law 435 = .ok (.iadd, 1) := by decide +kernel
theorem dL_law_436 : decode cL_law 436 = .ok (.iaload, 1) := by decide +kernel
theorem dL_law_437 : decode cL_law 437 = .ok (.invokevirtual 28, 3) := by decide +kernel
theorem dL_law_440 : decode cL_law 440 = .ok (.aload_n 2, 1) := by decide +kernel
theorem dL_law_441 : decode cL_law 441 = .ok (.aload_n 0, 1) := by decide +kernel
theorem dL_law_442 : decode cL_law 442 = .ok (.iload_n 3, 1) := by decide +kernel
theorem dL_law_443 : decode cL_law 443 = .ok (.iconst 1, 1) := by decide +kernel
theorem dL_law_444 : decode cL_law 444 = .ok (.iadd, 1) := by decide +kernel
theorem dL_law_445 : decode cL_law 445 = .ok (.iaload, 1) := by decide +kernel
theorem dL_law_446 : decode cL_law 446 = .ok (.invokevirtual 31, 3) := by decide +kernel
theorem dL_law_449 : decode cL_law 449 = .ok (.if_icmp .eq 1667, 3) := by decide +kernel
theorem dL_law_454 : decode cL_law 454 = .ok (.aload_n 1, 1) := by decide +kernel
theorem dL_law_455 : decode cL_law 455 = .ok (.aload_n 0, 1) := by decide +kernel
theorem dL_law_456 : decode cL_law 456 = .ok (.iload_n 3, 1) := by decide +kernel
theorem dL_law_457 : decode cL_law 457 = .ok (.iconst 1, 1) := by decide +kernel
theorem dL_law_458 : decode cL_law 458 = .ok (.iadd, 1) := by decide +kernel
theorem dL_law_459 : decode cL_law 459 = .ok (.iaload, 1) := by decide +kernel
theorem dL_law_460 : decode cL_law 460 = .ok (.invokevirtual 32, 3) := by decide +kernel
theorem dL_law_463 : decode cL_law 463 = .ok (.aload_n 2, 1) := by decide +kernel
theorem dL_law_464 : decode cL_law 464 = .ok (.aload_n 0, 1) := by decide +kernel
theorem dL_law_465 : decode cL_law 465 = .ok (.iload_n 3, 1) := by decide +kernel
theorem dL_law_466 : decode cL_law 466 = .ok (.iconst 1, 1) := by decide +kernel
theorem dL_law_467 : decode cL_law 467 = .ok (.iadd, 1) := by decide +kernel
theorem dL_law_468 : decode cL_law 468 = .ok (.iaload, 1) := by decide +kernel
theorem dL_law_469 : decode cL_law 469 = .ok (.invokevirtual 35, 3) := by decide +kernel
theorem dL_law_472 : decode cL_law 472 = .ok (.if_icmp .eq 1644, 3) := by decide +kernel
theorem dL_law_477 : decode cL_law 477 = .ok (.aload_n 1, 1) := by decide +kernel
theorem dL_law_478 : decode cL_law 478 = .ok (.aload_n 0, 1) := by decide +kernel
theorem dL_law_479 : decode cL_law 479 = .ok (.iload_n 3, 1) := by decide +kernel
theorem dL_law_480 : decode cL_law 480 = .ok (.iconst 1, 1) := by decide +kernel
theorem dL_law_481 : decode cL_law 481 = .ok (.iadd, 1) := by decide +kernel
theorem dL_law_482 : decode cL_law 482 = .ok (.iaload, 1) := by decide +kernel
theorem dL_law_483 : decode cL_law 483 = .ok (.invokevirtual 36, 3) := by decide +kernel
theorem dL_law_486 : decode cL_law 486 = .ok (.aload_n 2, 1) := by decide +kernel
theorem dL_law_487 : decode cL_law 487 = .ok (.aload_n 0, 1) := by decide +kernel
theorem dL_law_488 : decode cL_law 488 = .ok (.iload_n 3, 1) := by decide +kernel
theorem dL_law_489 : decode cL_law 489 = .ok (.iconst 1, 1) := by decide +kernel
theorem dL_law_490 : decode cL_law 490 = .ok (.iadd, 1) := by decide +kernel
theorem dL_law_491 : decode cL_law 491 = .ok (.iaload, 1) := by decide +kernel
theorem dL_law_492 : decode cL_law 492 = .ok (.invokevirtual 39, 3) := by decide +kernel
theorem dL_law_495 : decode cL_law 495 = .ok (.if_icmp .eq 1621, 3) := by decide +kernel
theorem dL_law_500 : decode cL_law 500 = .ok (.aload_n 1, 1) := by decide +kernel
theorem dL_law_501 : decode cL_law 501 = .ok (.aload_n 0, 1) := by decide +kernel
theorem dL_law_502 : decode cL_law 502 = .ok (.iload_n 3, 1) := by decide +kernel
theorem dL_law_503 : decode cL_law 503 = .ok (.iconst 1, 1) := by decide +kernel
theorem dL_law_504 : decode cL_law 504 = .ok (.iadd, 1) := by decide +kernel
theorem dL_law_505 : decode cL_law 505 = .ok (.iaload, 1) := by decide +kernel
theorem dL_law_506 : decode cL_law 506 = .ok (.invokevirtual 40, 3) := by decide +kernel
theorem dL_law_509 : decode cL_law 509 = .ok (.aload_n 2, 1) := by decide +kernel
theorem dL_law_510 : decode cL_law 510 = .ok (.aload_n 0, 1) := by decide +kernel
theorem dL_law_511 : decode cL_law 511 = .ok (.iload_n 3, 1) := by decide +kernel
theorem dL_law_512 : decode cL_law 512 = .ok (.iconst 1, 1) := by decide +kernel
theorem dL_law_513 : decode cL_law 513 = .ok (.iadd, 1) := by decide +kernel
theorem dL_law_514 : decode cL_law 514 = .ok (.iaload, 1) := by decide +kernel
theorem dL_law_515 : decode cL_law 515 = .ok (.invokevirtual 43, 3) := by decide +kernel
theorem dL_law_518 : decode cL_law 518 = .ok (.if_icmp .eq 1598, 3) := by decide +kernel
theorem dL_law_523 : decode cL_law 523 = .ok (.aload_n 1, 1) := by decide +kernel
theorem dL_law_524 : decode cL_law 524 = .ok (.aload_n 0, 1) := by decide +kernel
theorem dL_law_525 : decode cL_law 525 = .ok (.iload_n 3, 1) := by decide +kernel
theorem dL_law_526 : decode cL_law 526 = .ok (.iconst 1, 1) := by decide +kernel
theorem dL_law_527 : decode cL_law 527 = .ok (.iadd, 1) := by decide +kernel
theorem dL_law_528 : decode cL_law 528 = .ok (.iaload, 1) := by decide +kernel
theorem dL_law_529 : decode cL_law 529 = .ok (.invokevirtual 44, 3) := by decide +kernel
theorem dL_law_532 : decode cL_law 532 = .ok (.aload_n 2, 1) := by decide +kernel
theorem dL_law_533 : decode cL_law 533 = .ok (.aload_n 0, 1) := by decide +kernel
theorem dL_law_534 : decode cL_law 534 = .ok (.iload_n 3, 1) := by decide +kernel
theorem dL_law_535 : decode cL_law 535 = .ok (.iconst 1, 1) := by decide +kernel
theorem dL_law_536 : decode cL_law 536 = .ok (.iadd, 1) := by decide +kernel
theorem dL_law_537 : decode cL_law 537 = .ok (.iaload, 1) := by decide +kernel
theorem dL_law_538 : decode cL_law 538 = .ok (.invokevirtual 47, 3) := by decide +kernel
theorem dL_law_541 : decode cL_law 541 = .ok (.if_icmp .eq 1575, 3) := by decide +kernel
theorem dL_law_546 : decode cL_law 546 = .ok (.aload_n 1, 1) := by decide +kernel
theorem dL_law_547 : decode cL_law 547 = .ok (.aload_n 0, 1) := by decide +kernel
theorem dL_law_548 : decode cL_law 548 = .ok (.iload_n 3, 1) := by decide +kernel
theorem dL_law_549 : decode cL_law 549 = .ok (.iconst 1, 1) := by decide +kernel
theorem dL_law_550 : decode cL_law 550 = .ok (.iadd, 1) := by decide +kernel
theorem dL_law_551 : decode cL_law 551 = .ok (.iaload, 1) := by decide +kernel
theorem dL_law_552 : decode cL_law 552 = .ok (.invokevirtual 48, 3) := by decide +kernel
theorem dL_law_555 : decode cL_law 555 = .ok (.aload_n 2, 1) := by decide +kernel
theorem dL_law_556 : decode cL_law 556 = .ok (.aload_n 0, 1) := by decide +kernel
theorem dL_law_557 : decode cL_law 557 = .ok (.iload_n 3, 1) := by decide +kernel
theorem dL_law_558 : decode cL_law 558 = .ok (.iconst 1, 1) := by decide +kernel
theorem dL_law_559 : decode cL_law 559 = .ok (.iadd, 1) := by decide +kernel
theorem dL_law_560 : decode cL_law 560 = .ok (.iaload, 1) := by decide +kernel
theorem dL_law_561 : decode cL_law 561 = .ok (.invokevirtual 51, 3) := by decide +kernel
theorem dL_law_564 : decode cL_law 564 = .ok (.if_icmp .eq 1552, 3) := by decide +kernel
theorem dL_law_569 : decode cL_law 569 = .ok (.aload_n 1, 1) := by decide +kernel
theorem dL_law_570 : decode cL_law 570 = .ok (.aload_n 0, 1) := by decide +kernel
theorem dL_law_571 : decode cL_law 571 = .ok (.iload_n 3, 1) := by decide +kernel
theorem dL_law_572 : decode cL_law 572 = .ok (.iconst 1, 1) := by decide +kernel
theorem dL_law_573 : decode cL_law 573 = .ok (.iadd, 1) := by decide +kernel
theorem dL_law_574 : decode cL_law 574 = .ok (.iaload, 1) := by decide +kernel
theorem dL_law_575 : decode cL_law 575 = .ok (.invokevirtual 52, 3) := by decide +kernel
theorem dL_law_578 : decode cL_law 578 = .ok (.aload_n 2, 1) := by decide +kernel
theorem dL_law_579 : decode cL_law 579 = .ok (.aload_n 0, 1) := by decide +kernel
theorem dL_law_580 : decode cL_law 580 = .ok (.iload_n 3, 1) := by decide +kernel
theorem dL_law_581 : decode cL_law 581 = .ok (.iconst 1, 1) := by decide +kernel
theorem dL_law_582 : decode cL_law 582 = .ok (.iadd, 1) := by decide +kernel
theorem dL_law_583 : decode cL_law 583 = .ok (.iaload, 1) := by decide +kernel
theorem dL_law_584 : decode cL_law 584 = .ok (.invokevirtual 55, 3) := by decide +kernel
theorem dL_law_587 : decode cL_law 587 = .ok (.if_icmp .eq 1529, 3) := by decide +kernel
theorem dL_law_592 : decode cL_law 592 = .ok (.aload_n 1, 1) := by decide +kernel
theorem dL_law_593 : decode cL_law 593 = .ok (.aload_n 0, 1) := by decide +kernel
theorem dL_law_594 : decode cL_law 594 = .ok (.iload_n 3, 1) := by decide +kernel
theorem dL_law_595 : decode cL_law 595 = .ok (.iconst 1, 1) := by decide +kernel
theorem dL_law_596 : decode cL_law 596 = .ok (.iadd, 1) := by decide +kernel
theorem dL_law_597 : decode cL_law 597 = .ok (.iaload, 1) := by decide +kernel
theorem dL_law_598 : decode cL_law 598 = .ok (.invokevirtual 56, 3) := by decide +kernel
theorem dL_law_601 : decode cL_law 601 = .ok (.aload_n 2, 1) := by decide +kernel
theorem dL_law_602 : decode cL_law 602 = .ok (.aload_n 0, 1) := by decide +kernel
theorem dL_law_603 : decode cL_law 603 = .ok (.iload_n 3, 1) := by decide +kernel
theorem dL_law_604 : decode cL_law 604 = .ok (.iconst 1, 1) := by decide +kernel
theorem dL_law_605 : decode cL_law 605 = .ok (.iadd, 1) := by decide +kernel
theorem dL_law_606 : decode cL_law 606 = .ok (.iaload, 1) := by decide +kernel
theorem dL_law_607 : decode cL_law 607 = .ok (.invokevirtual 59, 3) := by decide +kernel
theorem dL_law_610 : decode cL_law 610 = .ok (.if_icmp .eq 1506, 3) := by decide +kernel
theorem dL_law_615 : decode cL_law 615 = .ok (.aload_n 1, 1) := by decide +kernel
theorem dL_law_616 : decode cL_law 616 = .ok (.invokevirtual 60, 3) := by decide +kernel
theorem dL_law_619 : decode cL_law 619 = .ok (.aload_n 2, 1) := by decide +kernel
theorem dL_law_620 : decode cL_law 620 = .ok (.invokevirtual 63, 3) := by decide +kernel
theorem dL_law_623 : decode cL_law 623 = .ok (.if_icmp .eq 1493, 3) := by decide +kernel
theorem dL_law_628 : decode cL_law 628 = .ok (.aload_n 1, 1) := by decide +kernel
theorem dL_law_629 : decode cL_law 629 = .ok (.aload_n 0, 1) := by decide +kernel
theorem dL_law_630 : decode cL_law 630 = .ok (.iload_n 3, 1) := by decide +kernel
theorem dL_law_631 : decode cL_law 631 = .ok (.iconst 1, 1) := by decide +kernel
theorem dL_law_632 : decode cL_law 632 = .ok (.iadd, 1) := by decide +kernel
theorem dL_law_633 : decode cL_law 633 = .ok (.iaload, 1) := by decide +kernel
theorem dL_law_634 : decode cL_law 634 = .ok (.invokevirtual 64, 3) := by decide +kernel
theorem dL_law_637 : decode cL_law 637 = .ok (.aload_n 2, 1) := by decide +kernel
theorem dL_law_638 : decode cL_law 638 = .ok (.aload_n 0, 1) := by decide +kernel
theorem dL_law_639 : decode cL_law 639 = .ok (.iload_n 3, 1) := by decide +kernel
theorem dL_law_640 : decode cL_law 640 = .ok (.iconst 1, 1) := by decide +kernel
theorem dL_law_641 : decode cL_law 641 = .ok (.iadd, 1) := by decide +kernel
theorem dL_law_642 : decode cL_law 642 = .ok (.iaload, 1) := by decide +kernel
theorem dL_law_643 : decode cL_law 643 = .ok (.invokevirtual 67, 3) := by decide +kernel
theorem dL_law_646 : decode cL_law 646 = .ok (.if_icmp .eq 1470, 3) := by decide +kernel
theorem dL_law_651 : decode cL_law 651 = .ok (.aload_n 1, 1) := by decide +kernel
theorem dL_law_652 : decode cL_law 652 = .ok (.aload_n 0, 1) := by decide +kernel
theorem dL_law_653 : decode cL_law 653 = .ok (.iload_n 3, 1) := by decide +kernel
theorem dL_law_654 : decode cL_law 654 = .ok (.iconst 1, 1) := by decide +kernel
theorem dL_law_655 : decode cL_law 655 = .ok (.iadd, 1) := by decide +kernel
theorem dL_law_656 : decode cL_law 656 = .ok (.iaload, 1) := by decide +kernel
theorem dL_law_657 : decode cL_law 657 = .ok (.aload_n 0, 1) := by decide +kernel
theorem dL_law_658 : decode cL_law 658 = .ok (.iload_n 3, 1) := by decide +kernel
theorem dL_law_659 : decode cL_law 659 = .ok (.iconst 2, 1) := by decide +kernel
theorem dL_law_660 : decode cL_law 660 = .ok (.iadd, 1) := by decide +kernel
theorem dL_law_661 : decode cL_law 661 = .ok (.iaload, 1) := by decide +kernel
theorem dL_law_662 : decode cL_law 662 = .ok (.invokevirtual 68, 3) := by decide +kernel
theorem dL_law_665 : decode cL_law 665 = .ok (.aload_n 2, 1) := by decide +kernel
theorem dL_law_666 : decode cL_law 666 = .ok (.aload_n 0, 1) := by decide +kernel
theorem dL_law_667 : decode cL_law 667 = .ok (.iload_n 3, 1) := by decide +kernel
theorem dL_law_668 : decode cL_law 668 = .ok (.iconst 1, 1) := by decide +kernel
theorem dL_law_669 : decode cL_law 669 = .ok (.iadd, 1) := by decide +kernel
theorem dL_law_670 : decode cL_law 670 = .ok (.iaload, 1) := by decide +kernel
theorem dL_law_671 : decode cL_law 671 = .ok (.aload_n 0, 1) := by decide +kernel
theorem dL_law_672 : decode cL_law 672 = .ok (.iload_n 3, 1) := by decide +kernel
theorem dL_law_673 : decode cL_law 673 = .ok (.iconst 2, 1) := by decide +kernel
theorem dL_law_674 : decode cL_law 674 = .ok (.iadd, 1) := by decide +kernel
theorem dL_law_675 : decode cL_law 675 = .ok (.iaload, 1) := by decide +kernel
theorem dL_law_676 : decode cL_law 676 = .ok (.invokevirtual 72, 3) := by decide +kernel
theorem dL_law_679 : decode cL_law 679 = .ok (.if_icmp .eq 1437, 3) := by decide +kernel
theorem dL_law_684 : decode cL_law 684 = .ok (.aload_n 1, 1) := by decide +kernel
theorem dL_law_685 : decode cL_law 685 = .ok (.aload_n 0, 1) := by decide +kernel
theorem dL_law_686 : decode cL_law 686 = .ok (.iload_n 3, 1) := by decide +kernel
theorem dL_law_687 : decode cL_law 687 = .ok (.iconst 1, 1) := by decide +kernel
theorem dL_law_688 : decode cL_law 688 = .ok (.iadd, 1) := by decide +kernel
theorem dL_law_689 : decode cL_law 689 = .ok (.iaload, 1) := by decide +kernel
theorem dL_law_690 : decode cL_law 690 = .ok (.invokevirtual 73, 3) := by decide +kernel
theorem dL_law_693 : decode cL_law 693 = .ok (.aload_n 2, 1) := by decide +kernel
theorem dL_law_694 : decode cL_law 694 = .ok (.aload_n 0, 1) := by decide +kernel
theorem dL_law_695 : decode cL_law 695 = .ok (.iload_n 3, 1) := by decide +kernel
theorem dL_law_696 : decode cL_law 696 = .ok (.iconst 1, 1) := by decide +kernel
theorem dL_law_697 : decode cL_law 697 = .ok (.iadd, 1) := by decide +kernel
theorem dL_law_698 : decode cL_law 698 = .ok (.iaload, 1) := by decide +kernel
theorem dL_law_699 : decode cL_law 699 = .ok (.invokevirtual 76, 3) := by decide +kernel
theorem dL_law_702 : decode cL_law 702 = .ok (.if_icmp .eq 1414, 3) := by decide +kernel
theorem dL_law_707 : decode cL_law 707 = .ok (.aload_n 1, 1) := by decide +kernel
theorem dL_law_708 : decode cL_law 708 = .ok (.invokevirtual 77, 3) := by decide +kernel
theorem dL_law_711 : decode cL_law 711 = .ok (.aload_n 2, 1) := by decide +kernel
theorem dL_law_712 : decode cL_law 712 = .ok (.invokevirtual 80, 3) := by decide +kernel
theorem dL_law_715 : decode cL_law 715 = .ok (.if_icmp .eq 1401, 3) := by decide +kernel
theorem dL_law_720 : decode cL_law 720 = .ok (.aload_n 1, 1) := by decide +kernel
theorem dL_law_721 : decode cL_law 721 = .ok (.invokevirtual 81, 3) := by decide +kernel
theorem dL_law_724 : decode cL_law 724 = .ok (.aload_n 2, 1) := by decide +kernel
theorem dL_law_725 : decode cL_law 725 = .ok (.invokevirtual 84, 3) := by decide +kernel
theorem dL_law_728 : decode cL_law 728 = .ok (.if_icmp .eq 1388, 3) := by decide +kernel
theorem dL_law_733 : decode cL_law 733 = .ok (.aload_n 1, 1) := by decide +kernel
theorem dL_law_734 : decode cL_law 734 = .ok (.invokevirtual 85, 3) := by decide +kernel
theorem dL_law_737 : decode cL_law 737 = .ok (.aload_n 2, 1) := by decide +kernel
theorem dL_law_738 : decode cL_law 738 = .ok (.invokevirtual 88, 3) := by decide +kernel
theorem dL_law_741 : decode cL_law 741 = .ok (.if_icmp .eq 1375, 3) := by decide +kernel
theorem dL_law_746 : decode cL_law 746 = .ok (.aload_n 1, 1) := by decide +kernel
theorem dL_law_747 : decode cL_law 747 = .ok (.aload_n 0, 1) := by decide +kernel
theorem dL_law_748 : decode cL_law 748 = .ok (.iload_n 3, 1) := by decide +kernel
theorem dL_law_749 : decode cL_law 749 = .ok (.iconst 1, 1) := by decide +kernel
theorem dL_law_750 : decode cL_law 750 = .ok (.iadd, 1) := by decide +kernel
theorem dL_law_751 : decode cL_law 751 = .ok (.iaload, 1) := by decide +kernel
theorem dL_law_752 : decode cL_law 752 = .ok (.invokevirtual 89, 3) := by decide +kernel
theorem dL_law_755 : decode cL_law 755 = .ok (.aload_n 2, 1) := by decide +kernel
theorem dL_law_756 : decode cL_law 756 = .ok (.aload_n 0, 1) := by decide +kernel
theorem dL_law_757 : decode cL_law 757 = .ok (.iload_n 3, 1) := by decide +kernel
theorem dL_law_758 : decode cL_law 758 = .ok (.iconst 1, 1) := by decide +kernel
theorem dL_law_759 : decode cL_law 759 = .ok (.iadd, 1) := by decide +kernel
theorem dL_law_760 : decode cL_law 760 = .ok (.iaload, 1) := by decide +kernel
theorem dL_law_761 : decode cL_law 761 = .ok (.invokevirtual 92, 3) := by decide +kernel
theorem dL_law_764 : decode cL_law 764 = .ok (.if_icmp .eq 1352, 3) := by decide +kernel
theorem dL_law_769 : decode cL_law 769 = .ok (.aload_n 1, 1) := by decide +kernel
theorem dL_law_770 : decode cL_law 770 = .ok (.invokevirtual 93, 3) := by decide +kernel
theorem dL_law_773 : decode cL_law 773 = .ok (.aload_n 2, 1) := by decide +kernel
theorem dL_law_774 : decode cL_law 774 = .ok (.invokevirtual 96, 3) := by decide +kernel
theorem dL_law_777 : decode cL_law 777 = .ok (.if_icmp .eq 1339, 3) := by decide +kernel
theorem dL_law_782 : decode cL_law 782 = .ok (.aload_n 1, 1) := by decide +kernel
theorem dL_law_783 : decode cL_law 783 = .ok (.invokevirtual 97, 3) := by decide +kernel
theorem dL_law_786 : decode cL_law 786 = .ok (.aload_n 2, 1) := by decide +kernel
theorem dL_law_787 : decode cL_law 787 = .ok (.invokevirtual 100, 3) := by decide +kernel
theorem dL_law_790 : decode cL_law 790 = .ok (.if_icmp .eq 1326, 3) := by decide +kernel
theorem dL_law_795 : decode cL_law 795 = .ok (.aload_n 1, 1) := by decide +kernel
theorem dL_law_796 : decode cL_law 796 = .ok (.aload_n 0, 1) := by decide +kernel
theorem dL_law_797 : decode cL_law 797 = .ok (.iload_n 3, 1) := by decide +kernel
theorem dL_law_798 : decode cL_law 798 = .ok (.iconst 1, 1) := by decide +kernel
theorem dL_law_799 : decode cL_law 799 = .ok (.iadd, 1) := by decide +kernel
theorem dL_law_800 : decode cL_law 800 = .ok (.iaload, 1) := by decide +kernel
theorem dL_law_801 : decode cL_law 801 = .ok (.invokevirtual 101, 3) := by decide +kernel
theorem dL_law_804 : decode cL_law 804 = .ok (.aload_n 2, 1) := by decide +kernel
theorem dL_law_805 : decode cL_law 805 = .ok (.aload_n 0, 1) := by decide +kernel
theorem dL_law_806 : decode cL_law 806 = .ok (.iload_n 3, 1) := by decide +kernel
theorem dL_law_807 : decode cL_law 807 = .ok (.iconst 1, 1) := by decide +kernel
theorem dL_law_808 : decode cL_law 808 = .ok (.iadd, 1) := by decide +kernel
theorem dL_law_809 : decode cL_law 809 = .ok (.iaload, 1) := by decide +kernel
theorem dL_law_810 : decode cL_law 810 = .ok (.invokevirtual 104, 3) := by decide +kernel
theorem dL_law_813 : decode cL_law 813 = .ok (.if_icmp .eq 1303, 3) := by decide +kernel
theorem dL_law_818 : decode cL_law 818 = .ok (.aload_n 1, 1) := by decide +kernel
theorem dL_law_819 : decode cL_law 819 = .ok (.aload_n 0, 1) := by decide +kernel
theorem dL_law_820 : decode cL_law 820 = .ok (.iload_n 3, 1) := by decide +kernel
theorem dL_law_821 : decode cL_law 821 = .ok (.iconst 1, 1) := by decide +kernel
theorem dL_law_822 : decode cL_law 822 = .ok (.iadd, 1) := by decide +kernel
theorem dL_law_823 : decode cL_law 823 = .ok (.iaload, 1) := by decide +kernel
theorem dL_law_824 : decode cL_law 824 = .ok (.invokevirtual 105, 3) := by decide +kernel
theorem dL_law_827 : decode cL_law 827 = .ok (.aload_n 2, 1) := by decide +kernel
theorem dL_law_828 : decode cL_law 828 = .ok (.aload_n 0, 1) := by decide +kernel
theorem dL_law_829 : decode cL_law 829 = .ok (.iload_n 3, 1) := by decide +kernel
theorem dL_law_830 : decode cL_law 830 = .ok (.iconst 1, 1) := by decide +kernel
theorem dL_law_831 : decode cL_law 831 = .ok (.iadd, 1) := by decide +kernel
theorem dL_law_832 : decode cL_law 832 = .ok (.iaload, 1) := by decide +kernel
theorem dL_law_833 : decode cL_law 833 = .ok (.invokevirtual 108, 3) := by decide +kernel
theorem dL_law_836 : decode cL_law 836 = .ok (.if_icmp .eq 1280, 3) := by decide +kernel
theorem dL_law_841 : decode cL_law 841 = .ok (.aload_n 1, 1) := by decide +kernel
theorem dL_law_842 : decode cL_law 842 = .ok (.aload_n 0, 1) := by decide +kernel
theorem dL_law_843 : decode cL_law 843 = .ok (.iload_n 3, 1) := by decide +kernel
theorem dL_law_844 : decode cL_law 844 = .ok (.iconst 1, 1) := by decide +kernel
theorem dL_law_845 : decode cL_law 845 = .ok (.iadd, 1) := by decide +kernel
theorem dL_law_846 : decode cL_law 846 = .ok (.iaload, 1) := by decide +kernel
theorem dL_law_847 : decode cL_law 847 = .ok (.aload_n 0, 1) := by decide +kernel
theorem dL_law_848 : decode cL_law 848 = .ok (.iload_n 3, 1) := by decide +kernel
theorem dL_law_849 : decode cL_law 849 = .ok (.iconst 2, 1) := by decide +kernel
theorem dL_law_850 : decode cL_law 850 = .ok (.iadd, 1) := by decide +kernel
theorem dL_law_851 : decode cL_law 851 = .ok (.iaload, 1) := by decide +kernel
theorem dL_law_852 : decode cL_law 852 = .ok (.invokevirtual 109, 3) := by decide +kernel
theorem dL_law_855 : decode cL_law 855 = .ok (.aload_n 2, 1) := by decide +kernel
theorem dL_law_856 : decode cL_law 856 = .ok (.aload_n 0, 1) := by decide +kernel
theorem dL_law_857 : decode cL_law 857 = .ok (.iload_n 3, 1) := by decide +kernel
theorem dL_law_858 : decode cL_law 858 = .ok (.iconst 1, 1) := by decide +kernel
theorem dL_law_859 : decode cL_law 859 = .ok (.iadd, 1) := by decide +kernel
theorem dL_law_860 : decode cL_law 860 = .ok (.iaload, 1) := by decide +kernel
theorem dL_law_861 : decode cL_law 861 = .ok (.aload_n 0, 1) := by decide +kernel
theorem dL_law_862 : decode cL_law 862 = .ok (.iload_n 3, 1) := by decide +kernel
theorem dL_law_863 : decode cL_law 863 = .ok (.iconst 2, 1) := by decide +kernel
theorem dL_law_864 : decode cL_law 864 = .ok (.iadd, 1) := by decide +kernel
theorem dL_law_865 : decode cL_law 865 = .ok (.iaload, 1) := by decide +kernel
theorem dL_law_866 : decode cL_law 866 = .ok (.invokevirtual 112, 3) := by decide +kernel
theorem dL_law_869 : decode cL_law 869 = .ok (.if_icmp .eq 1247, 3) := by decide +kernel
theorem dL_law_874 : decode cL_law 874 = .ok (.aload_n 1, 1) := by decide +kernel
theorem dL_law_875 : decode cL_law 875 = .ok (.aload_n 0, 1) := by decide +kernel
theorem dL_law_876 : decode cL_law 876 = .ok (.iload_n 3, 1) := by decide +kernel
theorem dL_law_877 : decode cL_law 877 = .ok (.iconst 1, 1) := by decide +kernel
theorem dL_law_878 : decode cL_law 878 = .ok (.iadd, 1) := by decide +kernel
theorem dL_law_879 : decode cL_law 879 = .ok (.iaload, 1) := by decide +kernel
theorem dL_law_880 : decode cL_law 880 = .ok (.aload_n 0, 1) := by decide +kernel
theorem dL_law_881 : decode cL_law 881 = .ok (.iload_n 3, 1) := by decide +kernel
theorem dL_law_882 : decode cL_law 882 = .ok (.iconst 2, 1) := by decide +kernel
theorem dL_law_883 : decode cL_law 883 = .ok (.iadd, 1) := by decide +kernel
theorem dL_law_884 : decode cL_law 884 = .ok (.iaload, 1) := by decide +kernel
theorem dL_law_885 : decode cL_law 885 = .ok (.invokevirtual 113, 3) := by decide +kernel
theorem dL_law_888 : decode cL_law 888 = .ok (.aload_n 2, 1) := by decide +kernel
theorem dL_law_889 : decode cL_law 889 = .ok (.aload_n 0, 1) := by decide +kernel
theorem dL_law_890 : decode cL_law 890 = .ok (.iload_n 3, 1) := by decide +kernel
theorem dL_law_891 : decode cL_law 891 = .ok (.iconst 1, 1) := by decide +kernel
theorem dL_law_892 : decode cL_law 892 = .ok (.iadd, 1) := by decide +kernel
theorem dL_law_893 : decode cL_law 893 = .ok (.iaload, 1) := by decide +kernel
theorem dL_law_894 : decode cL_law 894 = .ok (.aload_n 0, 1) := by decide +kernel
theorem dL_law_895 : decode cL_law 895 = .ok (.iload_n 3, 1) := by decide +kernel
theorem dL_law_896 : decode cL_law 896 = .ok (.iconst 2, 1) := by decide +kernel
theorem dL_law_897 : decode cL_law 897 = .ok (.iadd, 1) := by decide +kernel
theorem dL_law_898 : decode cL_law 898 = .ok (.iaload, 1) := by decide +kernel
theorem dL_law_899 : decode cL_law 899 = .ok (.invokevirtual 116, 3) := by decide +kernel
theorem dL_law_902 : decode cL_law 902 = .ok (.if_icmp .eq 1214, 3) := by decide +kernel
theorem dL_law_907 : decode cL_law 907 = .ok (.aload_n 1, 1) := by decide +kernel
theorem dL_law_908 : decode cL_law 908 = .ok (.aload_n 0, 1) := by decide +kernel
theorem dL_law_909 : decode cL_law 909 = .ok (.iload_n 3, 1) := by decide +kernel
theorem dL_law_910 : decode cL_law 910 = .ok (.iconst 1, 1) := by decide +kernel
theorem dL_law_911 : decode cL_law 911 = .ok (.iadd, 1) := by decide +kernel
theorem dL_law_912 : decode cL_law 912 = .ok (.iaload, 1) := by decide +kernel
theorem dL_law_913 : decode cL_law 913 = .ok (.invokevirtual 117, 3) := by decide +kernel
theorem dL_law_916 : decode cL_law 916 = .ok (.aload_n 2, 1) := by decide +kernel
theorem dL_law_917 : decode cL_law 917 = .ok (.aload_n 0, 1) := by decide +kernel
theorem dL_law_918 : decode cL_law 918 = .ok (.iload_n 3, 1) := by decide +kernel
theorem dL_law_919 : decode cL_law 919 = .ok (.iconst 1, 1) := by decide +kernel
theorem dL_law_920 : decode cL_law 920 = .ok (.iadd, 1) := by decide +kernel
theorem dL_law_921 : decode cL_law 921 = .ok (.iaload, 1) := by decide +kernel
theorem dL_law_922 : decode cL_law 922 = .ok (.invokevirtual 120, 3) := by decide +kernel
theorem dL_law_925 : decode cL_law 925 = .ok (.if_icmp .eq 1191, 3) := by decide +kernel
theorem dL_law_930 : decode cL_law 930 = .ok (.aload_n 1, 1) := by decide +kernel
theorem dL_law_931 : decode cL_law 931 = .ok (.invokevirtual 121, 3) := by decide +kernel
theorem dL_law_934 : decode cL_law 934 = .ok (.aload_n 2, 1) := by decide +kernel
theorem dL_law_935 : decode cL_law 935 = .ok (.invokevirtual 124, 3) := by decide +kernel
theorem dL_law_938 : decode cL_law 938 = .ok (.if_icmp .eq 1178, 3) := by decide +kernel
theorem dL_law_943 : decode cL_law 943 = .ok (.aload_n 1, 1) := by decide +kernel
theorem dL_law_944 : decode cL_law 944 = .ok (.invokevirtual 125, 3) := by decide +kernel
theorem dL_law_947 : decode cL_law 947 = .ok (.aload_n 2, 1) := by decide +kernel
theorem dL_law_948 : decode cL_law 948 = .ok (.invokevirtual 128, 3) := by decide +kernel
theorem dL_law_951 : decode cL_law 951 = .ok (.if_icmp .eq 1165, 3) := by decide +kernel
theorem dL_law_956 : decode cL_law 956 = .ok (.aload_n 1, 1) := by decide +kernel
theorem dL_law_957 : decode cL_law 957 = .ok (.invokevirtual 129, 3) := by decide +kernel
theorem dL_law_960 : decode cL_law 960 = .ok (.aload_n 2, 1) := by decide +kernel
theorem dL_law_961 : decode cL_law 961 = .ok (.invokevirtual 132, 3) := by decide +kernel
theorem dL_law_964 : decode cL_law 964 = .ok (.if_icmp .eq 1152, 3) := by decide +kernel
theorem dL_law_969 : decode cL_law 969 = .ok (.aload_n 1, 1) := by decide +kernel
theorem dL_law_970 : decode cL_law 970 = .ok (.aload_n 0, 1) := by decide +kernel
theorem dL_law_971 : decode cL_law 971 = .ok (.iload_n 3, 1) := by decide +kernel
theorem dL_law_972 : decode cL_law 972 = .ok (.iconst 1, 1) := by decide +kernel
theorem dL_law_973 : decode cL_law 973 = .ok (.iadd, 1) := by decide +kernel
theorem dL_law_974 : decode cL_law 974 = .ok (.iaload, 1) := by decide +kernel
theorem dL_law_975 : decode cL_law 975 = .ok (.invokevirtual 133, 3) := by decide +kernel
theorem dL_law_978 : decode cL_law 978 = .ok (.aload_n 2, 1) := by decide +kernel
theorem dL_law_979 : decode cL_law 979 = .ok (.aload_n 0, 1) := by decide +kernel
theorem dL_law_980 : decode cL_law 980 = .ok (.iload_n 3, 1) := by decide +kernel
theorem dL_law_981 : decode cL_law 981 = .ok (.iconst 1, 1) := by decide +kernel
theorem dL_law_982 : decode cL_law 982 = .ok (.iadd, 1) := by decide +kernel
theorem dL_law_983 : decode cL_law 983 = .ok (.iaload, 1) := by decide +kernel
theorem dL_law_984 : decode cL_law 984 = .ok (.invokevirtual 136, 3) := by decide +kernel
theorem dL_law_987 : decode cL_law 987 = .ok (.if_icmp .eq 1129, 3) := by decide +kernel
theorem dL_law_992 : decode cL_law 992 = .ok (.aload_n 1, 1) := by decide +kernel
theorem dL_law_993 : decode cL_law 993 = .ok (.aload_n 0, 1) := by decide +kernel
theorem dL_law_994 : decode cL_law 994 = .ok (.iload_n 3, 1) := by decide +kernel
theorem dL_law_995 : decode cL_law 995 = .ok (.iconst 1, 1) := by decide +kernel
theorem dL_law_996 : decode cL_law 996 = .ok (.iadd, 1) := by decide +kernel
theorem dL_law_997 : decode cL_law 997 = .ok (.iaload, 1) := by decide +kernel
theorem dL_law_998 : decode cL_law 998 = .ok (.invokevirtual 137, 3) := by decide +kernel
set_option maxHeartbeats 4000000 in
set_option maxRecDepth 100000 in
theorem law_end {p : Program} {l : Launch} {e : Env} {s : State} {m : MethodId} {below : List Frame} {meth : Method} {c : Code} {D : va_G} {cB cI cJ cZ cS cT : ClassId} {b : Nat} {xs : Nat → Int32} (C0 : lw_At p s m meth c b 6 xs) (hK : va_K D vwCl (tyL cB cI cJ cZ cS cT) s) (hN : kN s) {H : Heap} {locs : List Loc} {cells slots x0 m0 : Nat} (hcc : cells ≤ 600000) (hss : slots ≤ 7302250) (hS : va_S (fun q : Nat => s.heap.size ≤ q) s.heap H locs) {ls : Array Slot} (hl : lv_has ls 4 [(0, .ref b), (1, .ref x0), (2, .ref m0), (3, .int 0)]) : W p l e room_1 s m #[Value.ref b] below meth c H locs cells slots (lw_Z below #[Value.ref b] s) (F0 m 2116 ls []) := by
  obtain ⟨hx, hb, hr, hml, hown, hts0, hX, hbl, hlocks, hgv⟩ := id C0
  have hts : ∀ w ∈ wsL_law, w.before #[Value.ref b] s = true := fun w h => hts0 w (wsL_law_in w h)
  have hA : ∀ q : Nat, s.heap.size ≤ q → (fun q : Nat => s.heap.size ≤ q) q := fun _ h => h
  have hbA : ¬ (fun q : Nat => s.heap.size ≤ q) b := Nat.not_le.mpr hbl
  refine lv_iinc (v := 6) (lv' := [(3, .int 6), (0, .ref b), (1, .ref x0), (2, .ref m0)]) hx hb dL_law_2116 hl (k := 3) rfl (by decide) (by decide) rfl (fun ls hl => ?_)
  refine lv_goto (tgt := 18) hx hb dL_law_2119 (by decide) ?_
  refine lv_iload_n hx hb dL_law_18 rfl (lv_at hl 0 rfl) ?_
  refine lv_aload_n hx hb dL_law_19 rfl (lv_at hl 1 rfl) ?_
  refine va_slen hx hb hX hbl hbA hS dL_law_20 ?_
  refine W.eq (g2 := F0 m 21 ls [.int 6, .int 6]) rfl ?_
  refine lv_bipush (v := 6) hx hb dL_law_21 (by decide) ?_
  refine z_isub (v := 0) hx hb dL_law_23 (by decide) ?_
  refine lv_icmp_gt (tgt := 2122) hx hb dL_law_24 (by decide) (fun _ => ?_) (fun c0 => absurd c0 (by decide))
  refine lv_iconst (v := 1) hx hb dL_law_2122 (by decide) ?_
  refine va_forget (fun q hq => hS.2.2 q hq) ?_
  refine W.widen (k := 600000) (n := 7302250) hcc hss ?_
  exact lw_ret hx hb hr hlocks dL_law_2123

set_option maxHeartbeats 4000000 in
set_option maxRecDepth 100000 in
theorem law_0 {p : Program} {l : Launch} {e : Env} {s : State} {m : MethodId} {below : List Frame} {meth : Method} {c : Code} {D : va_G} {cB cI cJ cZ cS cT : ClassId} {b : Nat} {xs : Nat → Int32} (C0 : lw_At p s m meth c b 6 xs) (hK : va_K D vwCl (tyL cB cI cJ cZ cS cT) s) (hN : kN s) {H : Heap} {locs : List Loc} {x0 : Nat} {m0 : Nat} {r_tape : Nat} {r_reader : Nat} {r_now : Nat} {r_trial : Nat} {r_images : Nat} {r_kept : Nat} {r_slots : Nat} {r_night : Nat} {r_other : Nat} {r_circle : Nat} {r_words : Nat} {r_law : Nat} {r_place : Nat} {r_drawn : Nat} {t_by : Nat} {m_world : Nat} {m_images : Nat} {m_hasImage : Nat} {m_tape : Nat} {m_five : Nat} {m_fresh : Nat} {m_spokenAt : Nat} {m_heardAt : Nat} {m_lastAt : Nat} {m_answerAt : Nat} {m_heardNow : Nat} {m_seenAt : Nat} {m_fewest : Nat} {m_costNow : Nat} {m_costThen : Nat} {m_lawsOf : Nat} {m_heardBy : Nat} {m_placesOf : Nat} {m_sentIn : Nat} {m_lostBy : Nat} {m_many : Nat} {m_width : Nat} {m_numbers : Nat} {m_moving : Nat} (hP : va_P D vwCl [(x0, .inr (11, [.ref r_tape, .ref r_reader, .ref r_now, .ref r_trial, .ref r_images, .ref r_kept, .ref r_slots, .ref r_night, .ref r_other, .ref r_circle, .ref r_words, .ref r_law, .ref r_place, .ref r_drawn])), (r_tape, .inr (9, [.ref t_by, .int 0])), (t_by, .inl (cB, 500, .inl (fun _ => 0))), (m0, .inr (12, [.int 0, .ref m_world, .ref m_images, .ref m_hasImage, .ref m_tape, .int 0, .ref m_five, .int 0, .int 0, .int 0, .int 0, .int 0, .int 0, .int (-1), .ref m_fresh, .ref m_spokenAt, .ref m_heardAt, .ref m_lastAt, .ref m_answerAt, .int 0, .int 0, .int 0, .long 0, .int 0, .int 0, .ref m_heardNow, .ref m_seenAt, .int 0, .int 0, .int 0, .int 0, .int 0, .ref m_fewest, .ref m_costNow, .ref m_costThen, .ref m_lawsOf, .ref m_heardBy, .int 0, .int 0, .ref m_placesOf, .ref m_sentIn, .int 0, .int 0, .ref m_lostBy, .ref m_many, .ref m_width, .ref m_numbers, .ref m_moving])), (m_tape, .inl (cB, 500, .inl (fun _ => 0))), (m_five, .inl (cI, 5, .inl (fun _ => 0)))] H) (hD : va_D (fun q : Nat => s.heap.size ≤ q) [(x0, .inr (11, [.ref r_tape, .ref r_reader, .ref r_now, .ref r_trial, .ref r_images, .ref r_kept, .ref r_slots, .ref r_night, .ref r_other, .ref r_circle, .ref r_words, .ref r_law, .ref r_place, .ref r_drawn])), (r_tape, .inr (9, [.ref t_by, .int 0])), (t_by, .inl (cB, 500, .inl (fun _ => 0))), (m0, .inr (12, [.int 0, .ref m_world, .ref m_images, .ref m_hasImage, .ref m_tape, .int 0, .ref m_five, .int 0, .int 0, .int 0, .int 0, .int 0, .int 0, .int (-1), .ref m_fresh, .ref m_spokenAt, .ref m_heardAt, .ref m_lastAt, .ref m_answerAt, .int 0, .int 0, .int 0, .long 0, .int 0, .int 0, .ref m_heardNow, .ref m_seenAt, .int 0, .int 0, .int 0, .int 0, .int 0, .ref m_fewest, .ref m_costNow, .ref m_costThen, .ref m_lawsOf, .ref m_heardBy, .int 0, .int 0, .ref m_placesOf, .ref m_sentIn, .int 0, .int 0, .ref m_lostBy, .ref m_many, .ref m_width, .ref m_numbers, .ref m_moving])), (m_tape, .inl (cB, 500, .inl (fun _ => 0))), (m_five, .inl (cI, 5, .inl (fun _ => 0)))]) (hS : va_S (fun q : Nat => s.heap.size ≤ q) s.heap H locs) {ls : Array Slot} (hl : lv_has ls 4 [(0, .ref b), (1, .ref x0), (2, .ref m0), (3, .int 0)]) : W p l e room_1 s m #[Value.ref b] below meth c H locs 118 60870 (lw_Z below #[Value.ref b] s) (F0 m 332 ls []) := by
  obtain ⟨hx, hb, hr, hml, hown, hts0, hX, hbl, hlocks, hgv⟩ := id C0
  have hts : ∀ w ∈ wsL_law, w.before #[Value.ref b] s = true := fun w h => hts0 w (wsL_law_in w h)
  have hA : ∀ q : Nat, s.heap.size ≤ q → (fun q : Nat => s.heap.size ≤ q) q := fun _ h => h
  have hbA : ¬ (fun q : Nat => s.heap.size ≤ q) b := Nat.not_le.mpr hbl
  refine lv_aload_n hx hb dL_law_332 rfl (lv_at hl 1 rfl) ?_
  refine lv_aload_n hx hb dL_law_333 rfl (lv_at hl 0 rfl) ?_
  refine lv_iload_n hx hb dL_law_334 rfl (lv_at hl 3 rfl) ?_
  refine lv_iconst (v := 1) hx hb dL_law_335 (by decide) ?_
  refine z_iadd (v := 1) hx hb dL_law_336 (by decide) ?_
  refine va_sld hx hb hX hbl hbA hS (by unfold vp_in; decide) dL_law_337 ?_
  refine W.eq (g2 := F0 m 338 ls [.int (xs 1), .ref x0]) rfl ?_
  refine lv_aload_n hx hb dL_law_338 rfl (lv_at hl 0 rfl) ?_
  refine lv_iload_n hx hb dL_law_339 rfl (lv_at hl 3 rfl) ?_
  refine lv_iconst (v := 2) hx hb dL_law_340 (by decide) ?_
  refine z_iadd (v := 2) hx hb dL_law_341 (by decide) ?_
  refine va_sld hx hb hX hbl hbA hS (by unfold vp_in; decide) dL_law_342 ?_
  refine W.eq (g2 := F0 m 343 ls [.int (xs 2), .int (xs 1), .ref x0]) rfl ?_
  refine lv_aload_n hx hb dL_law_343 rfl (lv_at hl 0 rfl) ?_
  refine lv_iload_n hx hb dL_law_344 rfl (lv_at hl 3 rfl) ?_
  refine lv_iconst (v := 3) hx hb dL_law_345 (by decide) ?_
  refine z_iadd (v := 3) hx hb dL_law_346 (by decide) ?_
  refine va_sld hx hb hX hbl hbA hS (by unfold vp_in; decide) dL_law_347 ?_
  refine W.eq (g2 := F0 m 348 ls [.int (xs 3), .int (xs 2), .int (xs 1), .ref x0]) rfl ?_
  refine lv_aload_n hx hb dL_law_348 rfl (lv_at hl 0 rfl) ?_
  refine lv_iload_n hx hb dL_law_349 rfl (lv_at hl 3 rfl) ?_
  refine lv_iconst (v := 4) hx hb dL_law_350 (by decide) ?_
  refine z_iadd (v := 4) hx hb dL_law_351 (by decide) ?_
  refine va_sld hx hb hX hbl hbA hS (by unfold vp_in; decide) dL_law_352 ?_
  refine W.eq (g2 := F0 m 353 ls [.int (xs 4), .int (xs 3), .int (xs 2), .int (xs 1), .ref x0]) rfl ?_
  refine lv_aload_n hx hb dL_law_353 rfl (lv_at hl 0 rfl) ?_
  refine lv_iload_n hx hb dL_law_354 rfl (lv_at hl 3 rfl) ?_
  refine lv_iconst (v := 5) hx hb dL_law_355 (by decide) ?_
  refine z_iadd (v := 5) hx hb dL_law_356 (by decide) ?_
  refine va_sld hx hb hX hbl hbA hS (by unfold vp_in; decide) dL_law_357 ?_
  refine W.eq (g2 := F0 m 358 ls [.int (xs 5), .int (xs 4), .int (xs 3), .int (xs 2), .int (xs 1), .ref x0]) rfl ?_
  refine wrVi (As := [.int (xs 1), .int (xs 2), .int (xs 3), .int (xs 4), .int (xs 5)]) (rest := []) (wr := [(m0, .inr (12, [.int 0, .ref m_world, .ref m_images, .ref m_hasImage, .ref m_tape, .int 0, .ref m_five, .int 0, .int 0, .int 0, .int 0, .int 0, .int 0, .int (-1), .ref m_fresh, .ref m_spokenAt, .ref m_heardAt, .ref m_lastAt, .ref m_answerAt, .int 0, .int 0, .int 0, .long 0, .int 0, .int 0, .ref m_heardNow, .ref m_seenAt, .int 0, .int 0, .int 0, .int 0, .int 0, .ref m_fewest, .ref m_costNow, .ref m_costThen, .ref m_lawsOf, .ref m_heardBy, .int 0, .int 0, .ref m_placesOf, .ref m_sentIn, .int 0, .int 0, .ref m_lostBy, .ref m_many, .ref m_width, .ref m_numbers, .ref m_moving])), (m_tape, .inl (cB, 500, .inl (fun _ => 0))), (m_five, .inl (cI, 5, .inl (fun _ => 0)))]) ⟨hx, hb, hml, hown, hts⟩ (kx_feed l D cB cI cJ cZ cS cT H.size x0 r_tape r_reader r_now r_trial r_images r_kept r_slots r_night r_other r_circle r_words r_law r_place r_drawn t_by (fun _ => 0) (xs 1) (xs 2) (xs 3) (xs 4) (xs 5) ) hP hD hS hA hK hN [0, 1, 2] [3, 4, 5] rfl rfl (by decide) (by decide) (by decide) (cvB (n := 5) (inr7 _ (List.mem_of_getElem? (i := 18) rfl)) (inr7 _ (List.mem_of_getElem? (i := 19) rfl)) (inr7 _ (List.mem_of_getElem? (i := 20) rfl)) (inr1 _ (List.mem_of_getElem? (i := 2) rfl)) (inr7 _ (List.mem_of_getElem? (i := 21) rfl)) (by decide +kernel) hts rfl rfl ⟨Nat.le_of_ble_eq_true rfl, Nat.le_of_ble_eq_true rfl⟩) 0 11 rfl rfl rfl rfl hl.1 rfl (Nat.le_of_ble_eq_true rfl) ⟨Nat.le_of_ble_eq_true rfl, Nat.le_of_ble_eq_true rfl⟩ dL_law_358 (fun r_1 x9 H locs h_2 hP hD hS => ?_)
  have hP : va_P D vwCl [(m0, .inr (12, [.int 0, .ref m_world, .ref m_images, .ref m_hasImage, .ref m_tape, .int 0, .ref m_five, .int 0, .int 0, .int 0, .int 0, .int 0, .int 0, .int (-1), .ref m_fresh, .ref m_spokenAt, .ref m_heardAt, .ref m_lastAt, .ref m_answerAt, .int 0, .int 0, .int 0, .long 0, .int 0, .int 0, .ref m_heardNow, .ref m_seenAt, .int 0, .int 0, .int 0, .int 0, .int 0, .ref m_fewest, .ref m_costNow, .ref m_costThen, .ref m_lawsOf, .ref m_heardBy, .int 0, .int 0, .ref m_placesOf, .ref m_sentIn, .int 0, .int 0, .ref m_lostBy, .ref m_many, .ref m_width, .ref m_numbers, .ref m_moving])), (m_tape, .inl (cB, 500, .inl (fun _ => 0))), (m_five, .inl (cI, 5, .inl (fun _ => 0)))] H := hP
  have hD : va_D (fun q : Nat => s.heap.size ≤ q) [(m0, .inr (12, [.int 0, .ref m_world, .ref m_images, .ref m_hasImage, .ref m_tape, .int 0, .ref m_five, .int 0, .int 0, .int 0, .int 0, .int 0, .int 0, .int (-1), .ref m_fresh, .ref m_spokenAt, .ref m_heardAt, .ref m_lastAt, .ref m_answerAt, .int 0, .int 0, .int 0, .long 0, .int 0, .int 0, .ref m_heardNow, .ref m_seenAt, .int 0, .int 0, .int 0, .int 0, .int 0, .ref m_fewest, .ref m_costNow, .ref m_costThen, .ref m_lawsOf, .ref m_heardBy, .int 0, .int 0, .ref m_placesOf, .ref m_sentIn, .int 0, .int 0, .ref m_lostBy, .ref m_many, .ref m_width, .ref m_numbers, .ref m_moving])), (m_tape, .inl (cB, 500, .inl (fun _ => 0))), (m_five, .inl (cI, 5, .inl (fun _ => 0)))] := hD
  obtain rfl := h_2
  refine lv_aload_n hx hb dL_law_361 rfl (lv_at hl 2 rfl) ?_
  refine lv_aload_n hx hb dL_law_362 rfl (lv_at hl 0 rfl) ?_
  refine lv_iload_n hx hb dL_law_363 rfl (lv_at hl 3 rfl) ?_
  refine lv_iconst (v := 1) hx hb dL_law_364 (by decide) ?_
  refine z_iadd (v := 1) hx hb dL_law_365 (by decide) ?_
  refine va_sld hx hb hX hbl hbA hS (by unfold vp_in; decide) dL_law_366 ?_
  refine W.eq (g2 := F0 m 367 ls [.int (xs 1), .ref m0, .int 20]) rfl ?_
  refine lv_aload_n hx hb dL_law_367 rfl (lv_at hl 0 rfl) ?_
  refine lv_iload_n hx hb dL_law_368 rfl (lv_at hl 3 rfl) ?_
  refine lv_iconst (v := 2) hx hb dL_law_369 (by decide) ?_
  refine z_iadd (v := 2) hx hb dL_law_370 (by decide) ?_
  refine va_sld hx hb hX hbl hbA hS (by unfold vp_in; decide) dL_law_371 ?_
  refine W.eq (g2 := F0 m 372 ls [.int (xs 2), .int (xs 1), .ref m0, .int 20]) rfl ?_
  refine lv_aload_n hx hb dL_law_372 rfl (lv_at hl 0 rfl) ?_
  refine lv_iload_n hx hb dL_law_373 rfl (lv_at hl 3 rfl) ?_
  refine lv_iconst (v := 3) hx hb dL_law_374 (by decide) ?_
  refine z_iadd (v := 3) hx hb dL_law_375 (by decide) ?_
  refine va_sld hx hb hX hbl hbA hS (by unfold vp_in; decide) dL_law_376 ?_
  refine W.eq (g2 := F0 m 377 ls [.int (xs 3), .int (xs 2), .int (xs 1), .ref m0, .int 20]) rfl ?_
  refine lv_aload_n hx hb dL_law_377 rfl (lv_at hl 0 rfl) ?_
  refine lv_iload_n hx hb dL_law_378 rfl (lv_at hl 3 rfl) ?_
  refine lv_iconst (v := 4) hx hb dL_law_379 (by decide) ?_
  refine z_iadd (v := 4) hx hb dL_law_380 (by decide) ?_
  refine va_sld hx hb hX hbl hbA hS (by unfold vp_in; decide) dL_law_381 ?_
  refine W.eq (g2 := F0 m 382 ls [.int (xs 4), .int (xs 3), .int (xs 2), .int (xs 1), .ref m0, .int 20]) rfl ?_
  refine lv_aload_n hx hb dL_law_382 rfl (lv_at hl 0 rfl) ?_
  refine lv_iload_n hx hb dL_law_383 rfl (lv_at hl 3 rfl) ?_
  refine lv_iconst (v := 5) hx hb dL_law_384 (by decide) ?_
  refine z_iadd (v := 5) hx hb dL_law_385 (by decide) ?_
  refine va_sld hx hb hX hbl hbA hS (by unfold vp_in; decide) dL_law_386 ?_
  refine W.eq (g2 := F0 m 387 ls [.int (xs 5), .int (xs 4), .int (xs 3), .int (xs 2), .int (xs 1), .ref m0, .int 20]) rfl ?_
  refine wrVi (As := [.int (xs 1), .int (xs 2), .int (xs 3), .int (xs 4), .int (xs 5)]) (rest := [.int 20]) (wr := []) ⟨hx, hb, hml, hown, hts⟩ (km_feed l D cB cI cJ cZ cS cT H.size m0 m_world m_images m_hasImage m_tape m_five m_fresh m_spokenAt m_heardAt m_lastAt m_answerAt m_heardNow m_seenAt m_fewest m_costNow m_costThen m_lawsOf m_heardBy m_placesOf m_sentIn m_lostBy m_many m_width m_numbers m_moving (xs 1) (xs 2) (xs 3) (xs 4) (xs 5) ) hP hD hS hA hK hN [0, 1, 2] [] rfl rfl (by decide) (by decide) (by decide) (cvB (n := 5) (inr8 _ (List.mem_of_getElem? (i := 7) rfl)) (inr8 _ (List.mem_of_getElem? (i := 8) rfl)) (inr8 _ (List.mem_of_getElem? (i := 9) rfl)) (inr1 _ (List.mem_of_getElem? (i := 5) rfl)) (inr8 _ (List.mem_of_getElem? (i := 10) rfl)) (by decide +kernel) hts rfl rfl ⟨Nat.le_of_ble_eq_true rfl, Nat.le_of_ble_eq_true rfl⟩) 0 12 rfl rfl rfl rfl hl.1 rfl (Nat.le_of_ble_eq_true rfl) ⟨Nat.le_of_ble_eq_true rfl, Nat.le_of_ble_eq_true rfl⟩ dL_law_387 (fun r_3 x9 H locs h_4 hP hD hS => ?_)
  have hP : va_P D vwCl [] H := hP
  have hD : va_D (fun q : Nat => s.heap.size ≤ q) [] := hD
  obtain rfl := h_4
  refine lv_icmp_eq (tgt := 2116) hx hb dL_law_390 (by decide) (fun _ => ?_) (fun c0 => absurd c0 (by decide))
  exact law_end C0 hK hN (Nat.le_of_ble_eq_true rfl) (Nat.le_of_ble_eq_true rfl) hS (lv_sub hl [0, 1, 2, 3] rfl)

set_option maxHeartbeats 4000000 in
set_option maxRecDepth 100000 in
theorem law_1 {p : Program} {l : Launch} {e : Env} {s : State} {m : MethodId} {below : List Frame} {meth : Method} {c : Code} {D : va_G} {cB cI cJ cZ cS cT : ClassId} {b : Nat} {xs : Nat → Int32} (C0 : lw_At p s m meth c b 6 xs) (hK : va_K D vwCl (tyL cB cI cJ cZ cS cT) s) (hN : kN s) {H : Heap} {locs : List Loc} {x0 : Nat} {m0 : Nat} {r_tape : Nat} {r_reader : Nat} {r_now : Nat} {r_trial : Nat} {r_images : Nat} {r_kept : Nat} {r_slots : Nat} {r_night : Nat} {r_other : Nat} {r_circle : Nat} {r_words : Nat} {r_law : Nat} {r_place : Nat} {r_drawn : Nat} {t_by : Nat} {m_world : Nat} {m_images : Nat} {m_hasImage : Nat} {m_tape : Nat} {m_five : Nat} {m_fresh : Nat} {m_spokenAt : Nat} {m_heardAt : Nat} {m_lastAt : Nat} {m_answerAt : Nat} {m_heardNow : Nat} {m_seenAt : Nat} {m_fewest : Nat} {m_costNow : Nat} {m_costThen : Nat} {m_lawsOf : Nat} {m_heardBy : Nat} {m_placesOf : Nat} {m_sentIn : Nat} {m_lostBy : Nat} {m_many : Nat} {m_width : Nat} {m_numbers : Nat} {m_moving : Nat} (hP : va_P D vwCl [(x0, .inr (11, [.ref r_tape, .ref r_reader, .ref r_now, .ref r_trial, .ref r_images, .ref r_kept, .ref r_slots, .ref r_night, .ref r_other, .ref r_circle, .ref r_words, .ref r_law, .ref r_place, .ref r_drawn])), (r_tape, .inr (9, [.ref t_by, .int 0])), (m0, .inr (12, [.int 0, .ref m_world, .ref m_images, .ref m_hasImage, .ref m_tape, .int 0, .ref m_five, .int 0, .int 0, .int 0, .int 0, .int 0, .int 0, .int (-1), .ref m_fresh, .ref m_spokenAt, .ref m_heardAt, .ref m_lastAt, .ref m_answerAt, .int 0, .int 0, .int 0, .long 0, .int 0, .int 0, .ref m_heardNow, .ref m_seenAt, .int 0, .int 0, .int 0, .int 0, .int 0, .ref m_fewest, .ref m_costNow, .ref m_costThen, .ref m_lawsOf, .ref m_heardBy, .int 0, .int 0, .ref m_placesOf, .ref m_sentIn, .int 0, .int 0, .ref m_lostBy, .ref m_many, .ref m_width, .ref m_numbers, .ref m_moving]))] H) (hD : va_D (fun q : Nat => s.heap.size ≤ q) [(x0, .inr (11, [.ref r_tape, .ref r_reader, .ref r_now, .ref r_trial, .ref r_images, .ref r_kept, .ref r_slots, .ref r_night, .ref r_other, .ref r_circle, .ref r_words, .ref r_law, .ref r_place, .ref r_drawn])), (r_tape, .inr (9, [.ref t_by, .int 0])), (m0, .inr (12, [.int 0, .ref m_world, .ref m_images, .ref m_hasImage, .ref m_tape, .int 0, .ref m_five, .int 0, .int 0, .int 0, .int 0, .int 0, .int 0, .int (-1), .ref m_fresh, .ref m_spokenAt, .ref m_heardAt, .ref m_lastAt, .ref m_answerAt, .int 0, .int 0, .int 0, .long 0, .int 0, .int 0, .ref m_heardNow, .ref m_seenAt, .int 0, .int 0, .int 0, .int 0, .int 0, .ref m_fewest, .ref m_costNow, .ref m_costThen, .ref m_lawsOf, .ref m_heardBy, .int 0, .int 0, .ref m_placesOf, .ref m_sentIn, .int 0, .int 0, .ref m_lostBy, .ref m_many, .ref m_width, .ref m_numbers, .ref m_moving]))]) (hS : va_S (fun q : Nat => s.heap.size ≤ q) s.heap H locs) {ls : Array Slot} (hl : lv_has ls 4 [(0, .ref b), (1, .ref x0), (2, .ref m0), (3, .int 0)]) : W p l e room_1 s m #[Value.ref b] below meth c H locs 118 60870 (lw_Z below #[Value.ref b] s) (F0 m 395 ls []) := by
  obtain ⟨hx, hb, hr, hml, hown, hts0, hX, hbl, hlocks, hgv⟩ := id C0
  have hts : ∀ w ∈ wsL_law, w.before #[Value.ref b] s = true := fun w h => hts0 w (wsL_law_in w h)
  have hA : ∀ q : Nat, s.heap.size ≤ q → (fun q : Nat => s.heap.size ≤ q) q := fun _ h => h
  have hbA : ¬ (fun q : Nat => s.heap.size ≤ q) b := Nat.not_le.mpr hbl
  refine lv_aload_n hx hb dL_law_395 rfl (lv_at hl 1 rfl) ?_
  refine lv_aload_n hx hb dL_law_396 rfl (lv_at hl 0 rfl) ?_
  refine lv_iload_n hx hb dL_law_397 rfl (lv_at hl 3 rfl) ?_
  refine lv_iconst (v := 1) hx hb dL_law_398 (by decide) ?_
  refine z_iadd (v := 1) hx hb dL_law_399 (by decide) ?_
  refine va_sld hx hb hX hbl hbA hS (by unfold vp_in; decide) dL_law_400 ?_
  refine W.eq (g2 := F0 m 401 ls [.int (xs 1), .ref x0]) rfl ?_
  refine wrVi (As := [.int (xs 1)]) (rest := []) (wr := [(m0, .inr (12, [.int 0, .ref m_world, .ref m_images, .ref m_hasImage, .ref m_tape, .int 0, .ref m_five, .int 0, .int 0, .int 0, .int 0, .int 0, .int 0, .int (-1), .ref m_fresh, .ref m_spokenAt, .ref m_heardAt, .ref m_lastAt, .ref m_answerAt, .int 0, .int 0, .int 0, .long 0, .int 0, .int 0, .ref m_heardNow, .ref m_seenAt, .int 0, .int 0, .int 0, .int 0, .int 0, .ref m_fewest, .ref m_costNow, .ref m_costThen, .ref m_lawsOf, .ref m_heardBy, .int 0, .int 0, .ref m_placesOf, .ref m_sentIn, .int 0, .int 0, .ref m_lostBy, .ref m_many, .ref m_width, .ref m_numbers, .ref m_moving]))]) ⟨hx, hb, hml, hown, hts⟩ (kx_end l D cB cI cJ cZ cS cT H.size x0 r_tape r_reader r_now r_trial r_images r_kept r_slots r_night r_other r_circle r_words r_law r_place r_drawn t_by (xs 1) ) hP hD hS hA hK hN [0, 1] [2] rfl rfl (by decide) (by decide) (by decide) (cvB (n := 1) (inr8 _ (List.mem_of_getElem? (i := 12) rfl)) (inr8 _ (List.mem_of_getElem? (i := 13) rfl)) (inr8 _ (List.mem_of_getElem? (i := 14) rfl)) (inr1 _ (List.mem_of_getElem? (i := 2) rfl)) (inr8 _ (List.mem_of_getElem? (i := 15) rfl)) (by decide +kernel) hts rfl rfl ⟨Nat.le_of_ble_eq_true rfl, Nat.le_of_ble_eq_true rfl⟩) 0 11 rfl rfl rfl rfl hl.1 rfl (Nat.le_of_ble_eq_true rfl) ⟨Nat.le_of_ble_eq_true rfl, Nat.le_of_ble_eq_true rfl⟩ dL_law_401 (fun r_1 x9 H locs h_2 hP hD hS => ?_)
  have hP : va_P D vwCl [(m0, .inr (12, [.int 0, .ref m_world, .ref m_images, .ref m_hasImage, .ref m_tape, .int 0, .ref m_five, .int 0, .int 0, .int 0, .int 0, .int 0, .int 0, .int (-1), .ref m_fresh, .ref m_spokenAt, .ref m_heardAt, .ref m_lastAt, .ref m_answerAt, .int 0, .int 0, .int 0, .long 0, .int 0, .int 0, .ref m_heardNow, .ref m_seenAt, .int 0, .int 0, .int 0, .int 0, .int 0, .ref m_fewest, .ref m_costNow, .ref m_costThen, .ref m_lawsOf, .ref m_heardBy, .int 0, .int 0, .ref m_placesOf, .ref m_sentIn, .int 0, .int 0, .ref m_lostBy, .ref m_many, .ref m_width, .ref m_numbers, .ref m_moving]))] H := hP
  have hD : va_D (fun q : Nat => s.heap.size ≤ q) [(m0, .inr (12, [.int 0, .ref m_world, .ref m_images, .ref m_hasImage, .ref m_tape, .int 0, .ref m_five, .int 0, .int 0, .int 0, .int 0, .int 0, .int 0, .int (-1), .ref m_fresh, .ref m_spokenAt, .ref m_heardAt, .ref m_lastAt, .ref m_answerAt, .int 0, .int 0, .int 0, .long 0, .int 0, .int 0, .ref m_heardNow, .ref m_seenAt, .int 0, .int 0, .int 0, .int 0, .int 0, .ref m_fewest, .ref m_costNow, .ref m_costThen, .ref m_lawsOf, .ref m_heardBy, .int 0, .int 0, .ref m_placesOf, .ref m_sentIn, .int 0, .int 0, .ref m_lostBy, .ref m_many, .ref m_width, .ref m_numbers, .ref m_moving]))] := hD
  refine lv_aload_n hx hb dL_law_404 rfl (lv_at hl 2 rfl) ?_
  refine lv_aload_n hx hb dL_law_405 rfl (lv_at hl 0 rfl) ?_
  refine lv_iload_n hx hb dL_law_406 rfl (lv_at hl 3 rfl) ?_
  refine lv_iconst (v := 1) hx hb dL_law_407 (by decide) ?_
  refine z_iadd (v := 1) hx hb dL_law_408 (by decide) ?_
  refine va_sld hx hb hX hbl hbA hS (by unfold vp_in; decide) dL_law_409 ?_
  refine W.eq (g2 := F0 m 410 ls [.int (xs 1), .ref m0, .int r_1]) rfl ?_
  refine wrVi (As := [.int (xs 1)]) (rest := [.int r_1]) (wr := []) ⟨hx, hb, hml, hown, hts⟩ (km_end l D cB cI cJ cZ cS cT H.size m0 m_world m_images m_hasImage m_tape m_five m_fresh m_spokenAt m_heardAt m_lastAt m_answerAt m_heardNow m_seenAt m_fewest m_costNow m_costThen m_lawsOf m_heardBy m_placesOf m_sentIn m_lostBy m_many m_width m_numbers m_moving (xs 1) ) hP hD hS hA hK hN [0] [] rfl rfl (by decide) (by decide) (by decide) (cvB (n := 1) (inr8 _ (List.mem_of_getElem? (i := 23) rfl)) (inr9 _ (List.mem_of_getElem? (i := 0) rfl)) (inr9 _ (List.mem_of_getElem? (i := 1) rfl)) (inr1 _ (List.mem_of_getElem? (i := 5) rfl)) (inr9 _ (List.mem_of_getElem? (i := 2) rfl)) (by decide +kernel) hts rfl rfl ⟨Nat.le_of_ble_eq_true rfl, Nat.le_of_ble_eq_true rfl⟩) 0 12 rfl rfl rfl rfl hl.1 rfl (Nat.le_of_ble_eq_true rfl) ⟨Nat.le_of_ble_eq_true rfl, Nat.le_of_ble_eq_true rfl⟩ dL_law_410 (fun r_3 x9 H locs h_4 hP hD hS => ?_)
  have hP : va_P D vwCl [] H := hP
  have hD : va_D (fun q : Nat => s.heap.size ≤ q) [] := hD
  refine lv_icmp_eq (tgt := 2116) hx hb dL_law_413 (by decide) (fun _ => ?_) (fun c0 => absurd (h_2.trans h_4.symm) c0)
  exact law_end C0 hK hN (Nat.le_of_ble_eq_true rfl) (Nat.le_of_ble_eq_true rfl) hS (lv_sub hl [0, 1, 2, 3] rfl)

set_option maxHeartbeats 4000000 in
set_option maxRecDepth 100000 in
theorem law_2 {p : Program} {l : Launch} {e : Env} {s : State} {m : MethodId} {below : List Frame} {meth : Method} {c : Code} {D : va_G} {cB cI cJ cZ cS cT : ClassId} {b : Nat} {xs : Nat → Int32} (C0 : lw_At p s m meth c b 6 xs) (hK : va_K D vwCl (tyL cB cI cJ cZ cS cT) s) (hN : kN s) {H : Heap} {locs : List Loc} {x0 : Nat} {m0 : Nat} {r_tape : Nat} {r_reader : Nat} {r_now : Nat} {r_trial : Nat} {r_images : Nat} {r_kept : Nat} {r_slots : Nat} {r_night : Nat} {r_other : Nat} {r_circle : Nat} {r_words : Nat} {r_law : Nat} {r_place : Nat} {r_drawn : Nat} {t_by : Nat} {d_dr : Nat} {d_signs : Nat} {d_posts : Nat} {d_acts : Nat} {d_over : Nat} {d_steps : Nat} {d_before : Nat} {d_gov : Nat → Int32} {n_signs : Nat} {n_posts : Nat} {n_acts : Nat} {n_over : Nat} {n_steps : Nat} {n_before : Nat} {n_gov : Nat → Int32} {m_world : Nat} {m_images : Nat} {m_hasImage : Nat} {m_tape : Nat} {m_five : Nat} {m_fresh : Nat} {m_spokenAt : Nat} {m_heardAt : Nat} {m_lastAt : Nat} {m_answerAt : Nat} {m_heardNow : Nat} {m_seenAt : Nat} {m_fewest : Nat} {m_costNow : Nat} {m_costThen : Nat} {m_lawsOf : Nat} {m_heardBy : Nat} {m_placesOf : Nat} {m_sentIn : Nat} {m_lostBy : Nat} {m_many : Nat} {m_width : Nat} {m_numbers : Nat} {m_moving : Nat} (hP : va_P D vwCl [(x0, .inr (11, [.ref r_tape, .ref r_reader, .ref r_now, .ref r_trial, .ref r_images, .ref r_kept, .ref r_slots, .ref r_night, .ref r_other, .ref r_circle, .ref r_words, .ref r_law, .ref r_place, .ref r_drawn])), (r_reader, .inr (6, [.ref d_dr, .int 0, .int 0, .int 0, .int 0, .int 0, .int (-1)])), (d_dr, .inr (8, [.int 0, .int 0, .int 0, .int 0, .int 0, .int 0, .int 0, .ref d_signs, .int 0, .ref d_posts, .int 0, .ref d_acts])), (d_signs, .inl (cI, 8, .inl (fun _ => 0))), (d_posts, .inl (cI, 5, .inl (fun _ => 0))), (d_acts, .inr (0, [.ref d_over, .ref d_steps, .ref d_before, .int 0])), (d_over, .inl (cI, 61, .inl d_gov)), (d_steps, .inl (cI, 30, .inl (fun _ => 0))), (d_before, .inl (cI, 30, .inl (fun _ => 0))), (r_now, .inr (8, [.int 0, .int 0, .int 0, .int 0, .int 0, .int 0, .int 0, .ref n_signs, .int 0, .ref n_posts, .int 0, .ref n_acts])), (n_signs, .inl (cI, 8, .inl (fun _ => 0))), (n_posts, .inl (cI, 5, .inl (fun _ => 0))), (n_acts, .inr (0, [.ref n_over, .ref n_steps, .ref n_before, .int 0])), (n_over, .inl (cI, 61, .inl n_gov)), (n_steps, .inl (cI, 30, .inl (fun _ => 0))), (n_before, .inl (cI, 30, .inl (fun _ => 0))), (r_tape, .inr (9, [.ref t_by, .int 0])), (m0, .inr (12, [.int 0, .ref m_world, .ref m_images, .ref m_hasImage, .ref m_tape, .int 0, .ref m_five, .int 0, .int 0, .int 0, .int 0, .int 0, .int 0, .int (-1), .ref m_fresh, .ref m_spokenAt, .ref m_heardAt, .ref m_lastAt, .ref m_answerAt, .int 0, .int 0, .int 0, .long 0, .int 0, .int 0, .ref m_heardNow, .ref m_seenAt, .int 0, .int 0, .int 0, .int 0, .int 0, .ref m_fewest, .ref m_costNow, .ref m_costThen, .ref m_lawsOf, .ref m_heardBy, .int 0, .int 0, .ref m_placesOf, .ref m_sentIn, .int 0, .int 0, .ref m_lostBy, .ref m_many, .ref m_width, .ref m_numbers, .ref m_moving])), (m_world, .inl (cI, 53, .inl (fun _ => 0))), (m_fresh, .inl (cI, 53, .inl (fun _ => 0)))] H) (hD : va_D (fun q : Nat => s.heap.size ≤ q) [(x0, .inr (11, [.ref r_tape, .ref r_reader, .ref r_now, .ref r_trial, .ref r_images, .ref r_kept, .ref r_slots, .ref r_night, .ref r_other, .ref r_circle, .ref r_words, .ref r_law, .ref r_place, .ref r_drawn])), (r_reader, .inr (6, [.ref d_dr, .int 0, .int 0, .int 0, .int 0, .int 0, .int (-1)])), (d_dr, .inr (8, [.int 0, .int 0, .int 0, .int 0, .int 0, .int 0, .int 0, .ref d_signs, .int 0, .ref d_posts, .int 0, .ref d_acts])), (d_signs, .inl (cI, 8, .inl (fun _ => 0))), (d_posts, .inl (cI, 5, .inl (fun _ => 0))), (d_acts, .inr (0, [.ref d_over, .ref d_steps, .ref d_before, .int 0])), (d_over, .inl (cI, 61, .inl d_gov)), (d_steps, .inl (cI, 30, .inl (fun _ => 0))), (d_before, .inl (cI, 30, .inl (fun _ => 0))), (r_now, .inr (8, [.int 0, .int 0, .int 0, .int 0, .int 0, .int 0, .int 0, .ref n_signs, .int 0, .ref n_posts, .int 0, .ref n_acts])), (n_signs, .inl (cI, 8, .inl (fun _ => 0))), (n_posts, .inl (cI, 5, .inl (fun _ => 0))), (n_acts, .inr (0, [.ref n_over, .ref n_steps, .ref n_before, .int 0])), (n_over, .inl (cI, 61, .inl n_gov)), (n_steps, .inl (cI, 30, .inl (fun _ => 0))), (n_before, .inl (cI, 30, .inl (fun _ => 0))), (r_tape, .inr (9, [.ref t_by, .int 0])), (m0, .inr (12, [.int 0, .ref m_world, .ref m_images, .ref m_hasImage, .ref m_tape, .int 0, .ref m_five, .int 0, .int 0, .int 0, .int 0, .int 0, .int 0, .int (-1), .ref m_fresh, .ref m_spokenAt, .ref m_heardAt, .ref m_lastAt, .ref m_answerAt, .int 0, .int 0, .int 0, .long 0, .int 0, .int 0, .ref m_heardNow, .ref m_seenAt, .int 0, .int 0, .int 0, .int 0, .int 0, .ref m_fewest, .ref m_costNow, .ref m_costThen, .ref m_lawsOf, .ref m_heardBy, .int 0, .int 0, .ref m_placesOf, .ref m_sentIn, .int 0, .int 0, .ref m_lostBy, .ref m_many, .ref m_width, .ref m_numbers, .ref m_moving])), (m_world, .inl (cI, 53, .inl (fun _ => 0))), (m_fresh, .inl (cI, 53, .inl (fun _ => 0)))]) (hS : va_S (fun q : Nat => s.heap.size ≤ q) s.heap H locs) {ls : Array Slot} (hl : lv_has ls 4 [(0, .ref b), (1, .ref x0), (2, .ref m0), (3, .int 0)]) : W p l e room_1 s m #[Value.ref b] below meth c H locs 118 60870 (lw_Z below #[Value.ref b] s) (F0 m 418 ls []) := by
  obtain ⟨hx, hb, hr, hml, hown, hts0, hX, hbl, hlocks, hgv⟩ := id C0
  have hts : ∀ w ∈ wsL_law, w.before #[Value.ref b] s = true := fun w h => hts0 w (wsL_law_in w h)
  have hA : ∀ q : Nat, s.heap.size ≤ q → (fun q : Nat => s.heap.size ≤ q) q := fun _ h => h
  have hbA : ¬ (fun q : Nat => s.heap.size ≤ q) b := Nat.not_le.mpr hbl
  refine lv_aload_n hx hb dL_law_418 rfl (lv_at hl 1 rfl) ?_
  refine wrVi (As := []) (rest := []) (wr := [(m0, .inr (12, [.int 0, .ref m_world, .ref m_images, .ref m_hasImage, .ref m_tape, .int 0, .ref m_five, .int 0, .int 0, .int 0, .int 0, .int 0, .int 0, .int (-1), .ref m_fresh, .ref m_spokenAt, .ref m_heardAt, .ref m_lastAt, .ref m_answerAt, .int 0, .int 0, .int 0, .long 0, .int 0, .int 0, .ref m_heardNow, .ref m_seenAt, .int 0, .int 0, .int 0, .int 0, .int 0, .ref m_fewest, .ref m_costNow, .ref m_costThen, .ref m_lawsOf, .ref m_heardBy, .int 0, .int 0, .ref m_placesOf, .ref m_sentIn, .int 0, .int 0, .ref m_lostBy, .ref m_many, .ref m_width, .ref m_numbers, .ref m_moving])), (m_world, .inl (cI, 53, .inl (fun _ => 0))), (m_fresh, .inl (cI, 53, .inl (fun _ => 0)))]) ⟨hx, hb, hml, hown, hts⟩ (kx_station l D cB cI cJ cZ cS cT H.size x0 r_tape r_reader r_now r_trial r_images r_kept r_slots r_night r_other r_circle r_words r_law r_place r_drawn d_dr d_signs d_posts d_acts d_over d_steps d_before d_gov n_signs n_posts n_acts n_over n_steps n_before n_gov t_by ) hP hD hS hA hK hN [0, 1, 2, 3, 4, 5, 6, 7, 8, 9, 10, 11, 12, 13, 14, 15, 16] [17, 18, 19] rfl rfl (by decide) (by decide) (by decide) (cvB (n := 0) (inr9 _ (List.mem_of_getElem? (i := 6) rfl)) (inr9 _ (List.mem_of_getElem? (i := 7) rfl)) (inr9 _ (List.mem_of_getElem? (i := 8) rfl)) (inr1 _ (List.mem_of_getElem? (i := 2) rfl)) (inr9 _ (List.mem_of_getElem? (i := 9) rfl)) (by decide +kernel) hts rfl rfl ⟨Nat.le_of_ble_eq_true rfl, Nat.le_of_ble_eq_true rfl⟩) 0 11 rfl rfl rfl rfl hl.1 rfl (Nat.le_of_ble_eq_true rfl) ⟨Nat.le_of_ble_eq_true rfl, Nat.le_of_ble_eq_true rfl⟩ dL_law_419 (fun r_1 x9 H locs h_2 hP hD hS => ?_)
  have hP : va_P D vwCl [(m0, .inr (12, [.int 0, .ref m_world, .ref m_images, .ref m_hasImage, .ref m_tape, .int 0, .ref m_five, .int 0, .int 0, .int 0, .int 0, .int 0, .int 0, .int (-1), .ref m_fresh, .ref m_spokenAt, .ref m_heardAt, .ref m_lastAt, .ref m_answerAt, .int 0, .int 0, .int 0, .long 0, .int 0, .int 0, .ref m_heardNow, .ref m_seenAt, .int 0, .int 0, .int 0, .int 0, .int 0, .ref m_fewest, .ref m_costNow, .ref m_costThen, .ref m_lawsOf, .ref m_heardBy, .int 0, .int 0, .ref m_placesOf, .ref m_sentIn, .int 0, .int 0, .ref m_lostBy, .ref m_many, .ref m_width, .ref m_numbers, .ref m_moving])), (m_world, .inl (cI, 53, .inl (fun _ => 0))), (m_fresh, .inl (cI, 53, .inl (fun _ => 0)))] H := hP
  have hD : va_D (fun q : Nat => s.heap.size ≤ q) [(m0, .inr (12, [.int 0, .ref m_world, .ref m_images, .ref m_hasImage, .ref m_tape, .int 0, .ref m_five, .int 0, .int 0, .int 0, .int 0, .int 0, .int 0, .int (-1), .ref m_fresh, .ref m_spokenAt, .ref m_heardAt, .ref m_lastAt, .ref m_answerAt, .int 0, .int 0, .int 0, .long 0, .int 0, .int 0, .ref m_heardNow, .ref m_seenAt, .int 0, .int 0, .int 0, .int 0, .int 0, .ref m_fewest, .ref m_costNow, .ref m_costThen, .ref m_lawsOf, .ref m_heardBy, .int 0, .int 0, .ref m_placesOf, .ref m_sentIn, .int 0, .int 0, .ref m_lostBy, .ref m_many, .ref m_width, .ref m_numbers, .ref m_moving])), (m_world, .inl (cI, 53, .inl (fun _ => 0))), (m_fresh, .inl (cI, 53, .inl (fun _ => 0)))] := hD
  obtain rfl := h_2
  refine lv_aload_n hx hb dL_law_422 rfl (lv_at hl 2 rfl) ?_
  refine wrVi (As := []) (rest := [.int 0]) (wr := []) ⟨hx, hb, hml, hown, hts⟩ (km_station l D cB cI cJ cZ cS cT H.size m0 m_world m_images m_hasImage m_tape m_five m_fresh m_spokenAt m_heardAt m_lastAt m_answerAt m_heardNow m_seenAt m_fewest m_costNow m_costThen m_lawsOf m_heardBy m_placesOf m_sentIn m_lostBy m_many m_width m_numbers m_moving ) hP hD hS hA hK hN [0, 1, 2] [] rfl rfl (by decide) (by decide) (by decide) (cvB (n := 0) (inr17 _ (List.mem_of_getElem? (i := 15) rfl)) (inr17 _ (List.mem_of_getElem? (i := 16) rfl)) (inr17 _ (List.mem_of_getElem? (i := 17) rfl)) (inr1 _ (List.mem_of_getElem? (i := 5) rfl)) (inr17 _ (List.mem_of_getElem? (i := 18) rfl)) (by decide +kernel) hts rfl rfl ⟨Nat.le_of_ble_eq_true rfl, Nat.le_of_ble_eq_true rfl⟩) 0 12 rfl rfl rfl rfl hl.1 rfl (Nat.le_of_ble_eq_true rfl) ⟨Nat.le_of_ble_eq_true rfl, Nat.le_of_ble_eq_true rfl⟩ dL_law_423 (fun r_3 x9 H locs h_4 hP hD hS => ?_)
  have hP : va_P D vwCl [] H := hP
  have hD : va_D (fun q : Nat => s.heap.size ≤ q) [] := hD
  obtain rfl := h_4
  refine lv_icmp_eq (tgt := 2116) hx hb dL_law_426 (by decide) (fun _ => ?_) (fun c0 => absurd c0 (by decide))
  exact law_end C0 hK hN (Nat.le_of_ble_eq_true rfl) (Nat.le_of_ble_eq_true rfl) hS (lv_sub hl [0, 1, 2, 3] rfl)

set_option maxHeartbeats 4000000 in
set_option maxRecDepth 100000 in
theorem law_3 {p : Program} {l : Launch} {e : Env} {s : State} {m : MethodId} {below : List Frame} {meth : Method} {c : Code} {D : va_G} {cB cI cJ cZ cS cT : ClassId} {b : Nat} {xs : Nat → Int32} (C0 : lw_At p s m meth c b 6 xs) (hK : va_K D vwCl (tyL cB cI cJ cZ cS cT) s) (hN : kN s) {H : Heap} {locs : List Loc} {x0 : Nat} {m0 : Nat} {r_tape : Nat} {r_reader : Nat} {r_now : Nat} {r_trial : Nat} {r_images : Nat} {r_kept : Nat} {r_slots : Nat} {r_night : Nat} {r_other : Nat} {r_circle : Nat} {r_words : Nat} {r_law : Nat} {r_place : Nat} {r_drawn : Nat} {d_dr : Nat} {m_world : Nat} {m_images : Nat} {m_hasImage : Nat} {m_tape : Nat} {m_five : Nat} {m_fresh : Nat} {m_spokenAt : Nat} {m_heardAt : Nat} {m_lastAt : Nat} {m_answerAt : Nat} {m_heardNow : Nat} {m_seenAt : Nat} {m_fewest : Nat} {m_costNow : Nat} {m_costThen : Nat} {m_lawsOf : Nat} {m_heardBy : Nat} {m_placesOf : Nat} {m_sentIn : Nat} {m_lostBy : Nat} {m_many : Nat} {m_width : Nat} {m_numbers : Nat} {m_moving : Nat} (hP : va_P D vwCl [(x0, .inr (11, [.ref r_tape, .ref r_reader, .ref r_now, .ref r_trial, .ref r_images, .ref r_kept, .ref r_slots, .ref r_night, .ref r_other, .ref r_circle, .ref r_words, .ref r_law, .ref r_place, .ref r_drawn])), (r_reader, .inr (6, [.ref d_dr, .int 0, .int 0, .int 0, .int 0, .int 0, .int (-1)])), (m0, .inr (12, [.int 0, .ref m_world, .ref m_images, .ref m_hasImage, .ref m_tape, .int 0, .ref m_five, .int 0, .int 0, .int 0, .int 0, .int 0, .int 0, .int (-1), .ref m_fresh, .ref m_spokenAt, .ref m_heardAt, .ref m_lastAt, .ref m_answerAt, .int 0, .int 0, .int 0, .long 0, .int 0, .int 0, .ref m_heardNow, .ref m_seenAt, .int 0, .int 0, .int 0, .int 0, .int 0, .ref m_fewest, .ref m_costNow, .ref m_costThen, .ref m_lawsOf, .ref m_heardBy, .int 0, .int 0, .ref m_placesOf, .ref m_sentIn, .int 0, .int 0, .ref m_lostBy, .ref m_many, .ref m_width, .ref m_numbers, .ref m_moving]))] H) (hD : va_D (fun q : Nat => s.heap.size ≤ q) [(x0, .inr (11, [.ref r_tape, .ref r_reader, .ref r_now, .ref r_trial, .ref r_images, .ref r_kept, .ref r_slots, .ref r_night, .ref r_other, .ref r_circle, .ref r_words, .ref r_law, .ref r_place, .ref r_drawn])), (r_reader, .inr (6, [.ref d_dr, .int 0, .int 0, .int 0, .int 0, .int 0, .int (-1)])), (m0, .inr (12, [.int 0, .ref m_world, .ref m_images, .ref m_hasImage, .ref m_tape, .int 0, .ref m_five, .int 0, .int 0, .int 0, .int 0, .int 0, .int 0, .int (-1), .ref m_fresh, .ref m_spokenAt, .ref m_heardAt, .ref m_lastAt, .ref m_answerAt, .int 0, .int 0, .int 0, .long 0, .int 0, .int 0, .ref m_heardNow, .ref m_seenAt, .int 0, .int 0, .int 0, .int 0, .int 0, .ref m_fewest, .ref m_costNow, .ref m_costThen, .ref m_lawsOf, .ref m_heardBy, .int 0, .int 0, .ref m_placesOf, .ref m_sentIn, .int 0, .int 0, .ref m_lostBy, .ref m_many, .ref m_width, .ref m_numbers, .ref m_moving]))]) (hS : va_S (fun q : Nat => s.heap.size ≤ q) s.heap H locs) {ls : Array Slot} (hl : lv_has ls 4 [(0, .ref b), (1, .ref x0), (2, .ref m0), (3, .int 0)]) : W p l e room_1 s m #[Value.ref b] below meth c H locs 118 60870 (lw_Z below #[Value.ref b] s) (F0 m 431 ls []) := by
  obtain ⟨hx, hb, hr, hml, hown, hts0, hX, hbl, hlocks, hgv⟩ := id C0
  have hts : ∀ w ∈ wsL_law, w.before #[Value.ref b] s = true := fun w h => hts0 w (wsL_law_in w h)
  have hA : ∀ q : Nat, s.heap.size ≤ q → (fun q : Nat => s.heap.size ≤ q) q := fun _ h => h
  have hbA : ¬ (fun q : Nat => s.heap.size ≤ q) b := Nat.not_le.mpr hbl
  refine lv_aload_n hx hb dL_law_431 rfl (lv_at hl 1 rfl) ?_
  refine lv_aload_n hx hb dL_law_432 rfl (lv_at hl 0 rfl) ?_
  refine lv_iload_n hx hb dL_law_433 rfl (lv_at hl 3 rfl) ?_
  refine lv_iconst (v := 1) hx hb dL_law_434 (by decide) ?_
  refine z_iadd (v := 1) hx hb dL_law_435 (by decide) ?_
  refine va_sld hx hb hX hbl hbA hS (by unfold vp_in; decide) dL_law_436 ?_
  refine W.eq (g2 := F0 m 437 ls [.int (xs 1), .ref x0]) rfl ?_
  refine roi (As := [.int (xs 1)]) (rest := []) ⟨hx, hb, hml, hown, hts⟩ (kx_fault l D cB cI cJ cZ cS cT x0 r_tape r_reader r_now r_trial r_images r_kept r_slots r_night r_other r_circle r_words r_law r_place r_drawn d_dr (xs 1) ) (cvB (n := 1) (inr20 _ (List.mem_of_getElem? (i := 12) rfl)) (inr20 _ (List.mem_of_getElem? (i := 13) rfl)) (inr20 _ (List.mem_of_getElem? (i := 14) rfl)) (inr1 _ (List.mem_of_getElem? (i := 2) rfl)) (inr20 _ (List.mem_of_getElem? (i := 15) rfl)) (by decide +kernel) hts rfl rfl ⟨Nat.le_of_ble_eq_true rfl, Nat.le_of_ble_eq_true rfl⟩) 0 11 rfl rfl rfl (hP.sub [0, 1] rfl) hK rfl hl.1 rfl (Nat.le_of_ble_eq_true rfl) ⟨Nat.le_of_ble_eq_true rfl, Nat.le_of_ble_eq_true rfl⟩ dL_law_437 (fun r_1 h_2 => ?_)
  refine lv_aload_n hx hb dL_law_440 rfl (lv_at hl 2 rfl) ?_
  refine lv_aload_n hx hb dL_law_441 rfl (lv_at hl 0 rfl) ?_
  refine lv_iload_n hx hb dL_law_442 rfl (lv_at hl 3 rfl) ?_
  refine lv_iconst (v := 1) hx hb dL_law_443 (by decide) ?_
  refine z_iadd (v := 1) hx hb dL_law_444 (by decide) ?_
  refine va_sld hx hb hX hbl hbA hS (by unfold vp_in; decide) dL_law_445 ?_
  refine W.eq (g2 := F0 m 446 ls [.int (xs 1), .ref m0, .int r_1]) rfl ?_
  refine roi (As := [.int (xs 1)]) (rest := [.int r_1]) ⟨hx, hb, hml, hown, hts⟩ (km_fault l D cB cI cJ cZ cS cT m0 m_world m_images m_hasImage m_tape m_five m_fresh m_spokenAt m_heardAt m_lastAt m_answerAt m_heardNow m_seenAt m_fewest m_costNow m_costThen m_lawsOf m_heardBy m_placesOf m_sentIn m_lostBy m_many m_width m_numbers m_moving (xs 1) ) (cvB (n := 1) (inr20 _ (List.mem_of_getElem? (i := 20) rfl)) (inr20 _ (List.mem_of_getElem? (i := 21) rfl)) (inr20 _ (List.mem_of_getElem? (i := 22) rfl)) (inr1 _ (List.mem_of_getElem? (i := 5) rfl)) (inr20 _ (List.mem_of_getElem? (i := 23) rfl)) (by decide +kernel) hts rfl rfl ⟨Nat.le_of_ble_eq_true rfl, Nat.le_of_ble_eq_true rfl⟩) 0 12 rfl rfl rfl (hP.sub [2] rfl) hK rfl hl.1 rfl (Nat.le_of_ble_eq_true rfl) ⟨Nat.le_of_ble_eq_true rfl, Nat.le_of_ble_eq_true rfl⟩ dL_law_446 (fun r_3 h_4 => ?_)
  refine lv_icmp_eq (tgt := 2116) hx hb dL_law_449 (by decide) (fun _ => ?_) (fun c0 => absurd (h_2.trans h_4.symm) c0)
  exact law_end C0 hK hN (Nat.le_of_ble_eq_true rfl) (Nat.le_of_ble_eq_true rfl) hS (lv_sub hl [0, 1, 2, 3] rfl)

set_option maxHeartbeats 4000000 in
set_option maxRecDepth 100000 in
theorem law_4 {p : Program} {l : Launch} {e : Env} {s : State} {m : MethodId} {below : List Frame} {meth : Method} {c : Code} {D : va_G} {cB cI cJ cZ cS cT : ClassId} {b : Nat} {xs : Nat → Int32} (C0 : lw_At p s m meth c b 6 xs) (hK : va_K D vwCl (tyL cB cI cJ cZ cS cT) s) (hN : kN s) {H : Heap} {locs : List Loc} {x0 : Nat} {m0 : Nat} {r_tape : Nat} {r_reader : Nat} {r_now : Nat} {r_trial : Nat} {r_images : Nat} {r_kept : Nat} {r_slots : Nat} {r_night : Nat} {r_other : Nat} {r_circle : Nat} {r_words : Nat} {r_law : Nat} {r_place : Nat} {r_drawn : Nat} {n_signs : Nat} {n_posts : Nat} {n_acts : Nat} {m_world : Nat} {m_images : Nat} {m_hasImage : Nat} {m_tape : Nat} {m_five : Nat} {m_fresh : Nat} {m_spokenAt : Nat} {m_heardAt : Nat} {m_lastAt : Nat} {m_answerAt : Nat} {m_heardNow : Nat} {m_seenAt : Nat} {m_fewest : Nat} {m_costNow : Nat} {m_costThen : Nat} {m_lawsOf : Nat} {m_heardBy : Nat} {m_placesOf : Nat} {m_sentIn : Nat} {m_lostBy : Nat} {m_many : Nat} {m_width : Nat} {m_numbers : Nat} {m_moving : Nat} (hP : va_P D vwCl [(x0, .inr (11, [.ref r_tape, .ref r_reader, .ref r_now, .ref r_trial, .ref r_images, .ref r_kept, .ref r_slots, .ref r_night, .ref r_other, .ref r_circle, .ref r_words, .ref r_law, .ref r_place, .ref r_drawn])), (r_now, .inr (8, [.int 0, .int 0, .int 0, .int 0, .int 0, .int 0, .int 0, .ref n_signs, .int 0, .ref n_posts, .int 0, .ref n_acts])), (m0, .inr (12, [.int 0, .ref m_world, .ref m_images, .ref m_hasImage, .ref m_tape, .int 0, .ref m_five, .int 0, .int 0, .int 0, .int 0, .int 0, .int 0, .int (-1), .ref m_fresh, .ref m_spokenAt, .ref m_heardAt, .ref m_lastAt, .ref m_answerAt, .int 0, .int 0, .int 0, .long 0, .int 0, .int 0, .ref m_heardNow, .ref m_seenAt, .int 0, .int 0, .int 0, .int 0, .int 0, .ref m_fewest, .ref m_costNow, .ref m_costThen, .ref m_lawsOf, .ref m_heardBy, .int 0, .int 0, .ref m_placesOf, .ref m_sentIn, .int 0, .int 0, .ref m_lostBy, .ref m_many, .ref m_width, .ref m_numbers, .ref m_moving])), (m_world, .inl (cI, 53, .inl (fun _ => 0)))] H) (hD : va_D (fun q : Nat => s.heap.size ≤ q) [(x0, .inr (11, [.ref r_tape, .ref r_reader, .ref r_now, .ref r_trial, .ref r_images, .ref r_kept, .ref r_slots, .ref r_night, .ref r_other, .ref r_circle, .ref r_words, .ref r_law, .ref r_place, .ref r_drawn])), (r_now, .inr (8, [.int 0, .int 0, .int 0, .int 0, .int 0, .int 0, .int 0, .ref n_signs, .int 0, .ref n_posts, .int 0, .ref n_acts])), (m0, .inr (12, [.int 0, .ref m_world, .ref m_images, .ref m_hasImage, .ref m_tape, .int 0, .ref m_five, .int 0, .int 0, .int 0, .int 0, .int 0, .int 0, .int (-1), .ref m_fresh, .ref m_spokenAt, .ref m_heardAt, .ref m_lastAt, .ref m_answerAt, .int 0, .int 0, .int 0, .long 0, .int 0, .int 0, .ref m_heardNow, .ref m_seenAt, .int 0, .int 0, .int 0, .int 0, .int 0, .ref m_fewest, .ref m_costNow, .ref m_costThen, .ref m_lawsOf, .ref m_heardBy, .int 0, .int 0, .ref m_placesOf, .ref m_sentIn, .int 0, .int 0, .ref m_lostBy, .ref m_many, .ref m_width, .ref m_numbers, .ref m_moving])), (m_world, .inl (cI, 53, .inl (fun _ => 0)))]) (hS : va_S (fun q : Nat => s.heap.size ≤ q) s.heap H locs) {ls : Array Slot} (hl : lv_has ls 4 [(0, .ref b), (1, .ref x0), (2, .ref m0), (3, .int 0)]) : W p l e room_1 s m #[Value.ref b] below meth c H locs 118 60870 (lw_Z below #[Value.ref b] s) (F0 m 454 ls []) := by
  obtain ⟨hx, hb, hr, hml, hown, hts0, hX, hbl, hlocks, hgv⟩ := id C0
  have hts : ∀ w ∈ wsL_law, w.before #[Value.ref b] s = true := fun w h => hts0 w (wsL_law_in w h)
  have hA : ∀ q : Nat, s.heap.size ≤ q → (fun q : Nat => s.heap.size ≤ q) q := fun _ h => h
  have hbA : ¬ (fun q : Nat => s.heap.size ≤ q) b := Nat.not_le.mpr hbl
  refine lv_aload_n hx hb dL_law_454 rfl (lv_at hl 1 rfl) ?_
  refine lv_aload_n hx hb dL_law_455 rfl (lv_at hl 0 rfl) ?_
  refine lv_iload_n hx hb dL_law_456 rfl (lv_at hl 3 rfl) ?_
  refine lv_iconst (v := 1) hx hb dL_law_457 (by decide) ?_
  refine z_iadd (v := 1) hx hb dL_law_458 (by decide) ?_
  refine va_sld hx hb hX hbl hbA hS (by unfold vp_in; decide) dL_law_459 ?_
  refine W.eq (g2 := F0 m 460 ls [.int (xs 1), .ref x0]) rfl ?_
  refine roi (As := [.int (xs 1)]) (rest := []) ⟨hx, hb, hml, hown, hts⟩ (kx_sign l D cB cI cJ cZ cS cT x0 r_tape r_reader r_now r_trial r_images r_kept r_slots r_night r_other r_circle r_words r_law r_place r_drawn n_signs n_posts n_acts (xs 1) ) (cvB (n := 1) (inr21 _ (List.mem_of_getElem? (i := 0) rfl)) (inr21 _ (List.mem_of_getElem? (i := 1) rfl)) (inr21 _ (List.mem_of_getElem? (i := 2) rfl)) (inr1 _ (List.mem_of_getElem? (i := 2) rfl)) (inr21 _ (List.mem_of_getElem? (i := 3) rfl)) (by decide +kernel) hts rfl rfl ⟨Nat.le_of_ble_eq_true rfl, Nat.le_of_ble_eq_true rfl⟩) 0 11 rfl rfl rfl (hP.sub [0, 1] rfl) hK rfl hl.1 rfl (Nat.le_of_ble_eq_true rfl) ⟨Nat.le_of_ble_eq_true rfl, Nat.le_of_ble_eq_true rfl⟩ dL_law_460 (fun r_1 h_2 => ?_)
  obtain rfl := h_2
  refine lv_aload_n hx hb dL_law_463 rfl (lv_at hl 2 rfl) ?_
  refine lv_aload_n hx hb dL_law_464 rfl (lv_at hl 0 rfl) ?_
  refine lv_iload_n hx hb dL_law_465 rfl (lv_at hl 3 rfl) ?_
  refine lv_iconst (v := 1) hx hb dL_law_466 (by decide) ?_
  refine z_iadd (v := 1) hx hb dL_law_467 (by decide) ?_
  refine va_sld hx hb hX hbl hbA hS (by unfold vp_in; decide) dL_law_468 ?_
  refine W.eq (g2 := F0 m 469 ls [.int (xs 1), .ref m0, .int (-2)]) rfl ?_
  refine roi (As := [.int (xs 1)]) (rest := [.int (-2)]) ⟨hx, hb, hml, hown, hts⟩ (km_sign l D cB cI cJ cZ cS cT m0 m_world m_images m_hasImage m_tape m_five m_fresh m_spokenAt m_heardAt m_lastAt m_answerAt m_heardNow m_seenAt m_fewest m_costNow m_costThen m_lawsOf m_heardBy m_placesOf m_sentIn m_lostBy m_many m_width m_numbers m_moving (xs 1) ) (cvB (n := 1) (inr21 _ (List.mem_of_getElem? (i := 9) rfl)) (inr21 _ (List.mem_of_getElem? (i := 10) rfl)) (inr21 _ (List.mem_of_getElem? (i := 11) rfl)) (inr1 _ (List.mem_of_getElem? (i := 5) rfl)) (inr21 _ (List.mem_of_getElem? (i := 12) rfl)) (by decide +kernel) hts rfl rfl ⟨Nat.le_of_ble_eq_true rfl, Nat.le_of_ble_eq_true rfl⟩) 0 12 rfl rfl rfl (hP.sub [2, 3] rfl) hK rfl hl.1 rfl (Nat.le_of_ble_eq_true rfl) ⟨Nat.le_of_ble_eq_true rfl, Nat.le_of_ble_eq_true rfl⟩ dL_law_469 (fun r_3 h_4 => ?_)
  obtain rfl := h_4
  refine lv_icmp_eq (tgt := 2116) hx hb dL_law_472 (by decide) (fun _ => ?_) (fun c0 => absurd c0 (by decide))
  exact law_end C0 hK hN (Nat.le_of_ble_eq_true rfl) (Nat.le_of_ble_eq_true rfl) hS (lv_sub hl [0, 1, 2, 3] rfl)

set_option maxHeartbeats 4000000 in
set_option maxRecDepth 100000 in
theorem law_5 {p : Program} {l : Launch} {e : Env} {s : State} {m : MethodId} {below : List Frame} {meth : Method} {c : Code} {D : va_G} {cB cI cJ cZ cS cT : ClassId} {b : Nat} {xs : Nat → Int32} (C0 : lw_At p s m meth c b 6 xs) (hK : va_K D vwCl (tyL cB cI cJ cZ cS cT) s) (hN : kN s) {H : Heap} {locs : List Loc} {x0 : Nat} {m0 : Nat} {r_tape : Nat} {r_reader : Nat} {r_now : Nat} {r_trial : Nat} {r_images : Nat} {r_kept : Nat} {r_slots : Nat} {r_night : Nat} {r_other : Nat} {r_circle : Nat} {r_words : Nat} {r_law : Nat} {r_place : Nat} {r_drawn : Nat} {n_signs : Nat} {n_posts : Nat} {n_acts : Nat} {m_world : Nat} {m_images : Nat} {m_hasImage : Nat} {m_tape : Nat} {m_five : Nat} {m_fresh : Nat} {m_spokenAt : Nat} {m_heardAt : Nat} {m_lastAt : Nat} {m_answerAt : Nat} {m_heardNow : Nat} {m_seenAt : Nat} {m_fewest : Nat} {m_costNow : Nat} {m_costThen : Nat} {m_lawsOf : Nat} {m_heardBy : Nat} {m_placesOf : Nat} {m_sentIn : Nat} {m_lostBy : Nat} {m_many : Nat} {m_width : Nat} {m_numbers : Nat} {m_moving : Nat} (hP : va_P D vwCl [(x0, .inr (11, [.ref r_tape, .ref r_reader, .ref r_now, .ref r_trial, .ref r_images, .ref r_kept, .ref r_slots, .ref r_night, .ref r_other, .ref r_circle, .ref r_words, .ref r_law, .ref r_place, .ref r_drawn])), (r_now, .inr (8, [.int 0, .int 0, .int 0, .int 0, .int 0, .int 0, .int 0, .ref n_signs, .int 0, .ref n_posts, .int 0, .ref n_acts])), (m0, .inr (12, [.int 0, .ref m_world, .ref m_images, .ref m_hasImage, .ref m_tape, .int 0, .ref m_five, .int 0, .int 0, .int 0, .int 0, .int 0, .int 0, .int (-1), .ref m_fresh, .ref m_spokenAt, .ref m_heardAt, .ref m_lastAt, .ref m_answerAt, .int 0, .int 0, .int 0, .long 0, .int 0, .int 0, .ref m_heardNow, .ref m_seenAt, .int 0, .int 0, .int 0, .int 0, .int 0, .ref m_fewest, .ref m_costNow, .ref m_costThen, .ref m_lawsOf, .ref m_heardBy, .int 0, .int 0, .ref m_placesOf, .ref m_sentIn, .int 0, .int 0, .ref m_lostBy, .ref m_many, .ref m_width, .ref m_numbers, .ref m_moving])), (m_world, .inl (cI, 53, .inl (fun _ => 0)))] H) (hD : va_D (fun q : Nat => s.heap.size ≤ q) [(x0, .inr (11, [.ref r_tape, .ref r_reader, .ref r_now, .ref r_trial, .ref r_images, .ref r_kept, .ref r_slots, .ref r_night, .ref r_other, .ref r_circle, .ref r_words, .ref r_law, .ref r_place, .ref r_drawn])), (r_now, .inr (8, [.int 0, .int 0, .int 0, .int 0, .int 0, .int 0, .int 0, .ref n_signs, .int 0, .ref n_posts, .int 0, .ref n_acts])), (m0, .inr (12, [.int 0, .ref m_world, .ref m_images, .ref m_hasImage, .ref m_tape, .int 0, .ref m_five, .int 0, .int 0, .int 0, .int 0, .int 0, .int 0, .int (-1), .ref m_fresh, .ref m_spokenAt, .ref m_heardAt, .ref m_lastAt, .ref m_answerAt, .int 0, .int 0, .int 0, .long 0, .int 0, .int 0, .ref m_heardNow, .ref m_seenAt, .int 0, .int 0, .int 0, .int 0, .int 0, .ref m_fewest, .ref m_costNow, .ref m_costThen, .ref m_lawsOf, .ref m_heardBy, .int 0, .int 0, .ref m_placesOf, .ref m_sentIn, .int 0, .int 0, .ref m_lostBy, .ref m_many, .ref m_width, .ref m_numbers, .ref m_moving])), (m_world, .inl (cI, 53, .inl (fun _ => 0)))]) (hS : va_S (fun q : Nat => s.heap.size ≤ q) s.heap H locs) {ls : Array Slot} (hl : lv_has ls 4 [(0, .ref b), (1, .ref x0), (2, .ref m0), (3, .int 0)]) : W p l e room_1 s m #[Value.ref b] below meth c H locs 118 60870 (lw_Z below #[Value.ref b] s) (F0 m 477 ls []) := by
  obtain ⟨hx, hb, hr, hml, hown, hts0, hX, hbl, hlocks, hgv⟩ := id C0
  have hts : ∀ w ∈ wsL_law, w.before #[Value.ref b] s = true := fun w h => hts0 w (wsL_law_in w h)
  have hA : ∀ q : Nat, s.heap.size ≤ q → (fun q : Nat => s.heap.size ≤ q) q := fun _ h => h
  have hbA : ¬ (fun q : Nat => s.heap.size ≤ q) b := Nat.not_le.mpr hbl
  refine lv_aload_n hx hb dL_law_477 rfl (lv_at hl 1 rfl) ?_
  refine lv_aload_n hx hb dL_law_478 rfl (lv_at hl 0 rfl) ?_
  refine lv_iload_n hx hb dL_law_479 rfl (lv_at hl 3 rfl) ?_
  refine lv_iconst (v := 1) hx hb dL_law_480 (by decide) ?_
  refine z_iadd (v := 1) hx hb dL_law_481 (by decide) ?_
  refine va_sld hx hb hX hbl hbA hS (by unfold vp_in; decide) dL_law_482 ?_
  refine W.eq (g2 := F0 m 483 ls [.int (xs 1), .ref x0]) rfl ?_
  refine roi (As := [.int (xs 1)]) (rest := []) ⟨hx, hb, hml, hown, hts⟩ (kx_post l D cB cI cJ cZ cS cT x0 r_tape r_reader r_now r_trial r_images r_kept r_slots r_night r_other r_circle r_words r_law r_place r_drawn n_signs n_posts n_acts (xs 1) ) (cvB (n := 1) (inr21 _ (List.mem_of_getElem? (i := 13) rfl)) (inr21 _ (List.mem_of_getElem? (i := 14) rfl)) (inr21 _ (List.mem_of_getElem? (i := 15) rfl)) (inr1 _ (List.mem_of_getElem? (i := 2) rfl)) (inr21 _ (List.mem_of_getElem? (i := 16) rfl)) (by decide +kernel) hts rfl rfl ⟨Nat.le_of_ble_eq_true rfl, Nat.le_of_ble_eq_true rfl⟩) 0 11 rfl rfl rfl (hP.sub [0, 1] rfl) hK rfl hl.1 rfl (Nat.le_of_ble_eq_true rfl) ⟨Nat.le_of_ble_eq_true rfl, Nat.le_of_ble_eq_true rfl⟩ dL_law_483 (fun r_1 h_2 => ?_)
  obtain rfl := h_2
  refine lv_aload_n hx hb dL_law_486 rfl (lv_at hl 2 rfl) ?_
  refine lv_aload_n hx hb dL_law_487 rfl (lv_at hl 0 rfl) ?_
  refine lv_iload_n hx hb dL_law_488 rfl (lv_at hl 3 rfl) ?_
  refine lv_iconst (v := 1) hx hb dL_law_489 (by decide) ?_
  refine z_iadd (v := 1) hx hb dL_law_490 (by decide) ?_
  refine va_sld hx hb hX hbl hbA hS (by unfold vp_in; decide) dL_law_491 ?_
  refine W.eq (g2 := F0 m 492 ls [.int (xs 1), .ref m0, .int (-2)]) rfl ?_
  refine roi (As := [.int (xs 1)]) (rest := [.int (-2)]) ⟨hx, hb, hml, hown, hts⟩ (km_post l D cB cI cJ cZ cS cT m0 m_world m_images m_hasImage m_tape m_five m_fresh m_spokenAt m_heardAt m_lastAt m_answerAt m_heardNow m_seenAt m_fewest m_costNow m_costThen m_lawsOf m_heardBy m_placesOf m_sentIn m_lostBy m_many m_width m_numbers m_moving (xs 1) ) (cvB (n := 1) (inr21 _ (List.mem_of_getElem? (i := 22) rfl)) (inr21 _ (List.mem_of_getElem? (i := 23) rfl)) (inr22 _ (List.mem_of_getElem? (i := 0) rfl)) (inr1 _ (List.mem_of_getElem? (i := 5) rfl)) (inr22 _ (List.mem_of_getElem? (i := 1) rfl)) (by decide +kernel) hts rfl rfl ⟨Nat.le_of_ble_eq_true rfl, Nat.le_of_ble_eq_true rfl⟩) 0 12 rfl rfl rfl (hP.sub [2, 3] rfl) hK rfl hl.1 rfl (Nat.le_of_ble_eq_true rfl) ⟨Nat.le_of_ble_eq_true rfl, Nat.le_of_ble_eq_true rfl⟩ dL_law_492 (fun r_3 h_4 => ?_)
  obtain rfl := h_4
  refine lv_icmp_eq (tgt := 2116) hx hb dL_law_495 (by decide) (fun _ => ?_) (fun c0 => absurd c0 (by decide))
  exact law_end C0 hK hN (Nat.le_of_ble_eq_true rfl) (Nat.le_of_ble_eq_true rfl) hS (lv_sub hl [0, 1, 2, 3] rfl)

set_option maxHeartbeats 4000000 in
set_option maxRecDepth 100000 in
theorem law_6 {p : Program} {l : Launch} {e : Env} {s : State} {m : MethodId} {below : List Frame} {meth : Method} {c : Code} {D : va_G} {cB cI cJ cZ cS cT : ClassId} {b : Nat} {xs : Nat → Int32} (C0 : lw_At p s m meth c b 6 xs) (hK : va_K D vwCl (tyL cB cI cJ cZ cS cT) s) (hN : kN s) {H : Heap} {locs : List Loc} {x0 : Nat} {m0 : Nat} {r_tape : Nat} {r_reader : Nat} {r_now : Nat} {r_trial : Nat} {r_images : Nat} {r_kept : Nat} {r_slots : Nat} {r_night : Nat} {r_other : Nat} {r_circle : Nat} {r_words : Nat} {r_law : Nat} {r_place : Nat} {r_drawn : Nat} {n_signs : Nat} {n_posts : Nat} {n_acts : Nat} {m_world : Nat} {m_images : Nat} {m_hasImage : Nat} {m_tape : Nat} {m_five : Nat} {m_fresh : Nat} {m_spokenAt : Nat} {m_heardAt : Nat} {m_lastAt : Nat} {m_answerAt : Nat} {m_heardNow : Nat} {m_seenAt : Nat} {m_fewest : Nat} {m_costNow : Nat} {m_costThen : Nat} {m_lawsOf : Nat} {m_heardBy : Nat} {m_placesOf : Nat} {m_sentIn : Nat} {m_lostBy : Nat} {m_many : Nat} {m_width : Nat} {m_numbers : Nat} {m_moving : Nat} (hP : va_P D vwCl [(x0, .inr (11, [.ref r_tape, .ref r_reader, .ref r_now, .ref r_trial, .ref r_images, .ref r_kept, .ref r_slots, .ref r_night, .ref r_other, .ref r_circle, .ref r_words, .ref r_law, .ref r_place, .ref r_drawn])), (r_now, .inr (8, [.int 0, .int 0, .int 0, .int 0, .int 0, .int 0, .int 0, .ref n_signs, .int 0, .ref n_posts, .int 0, .ref n_acts])), (m0, .inr (12, [.int 0, .ref m_world, .ref m_images, .ref m_hasImage, .ref m_tape, .int 0, .ref m_five, .int 0, .int 0, .int 0, .int 0, .int 0, .int 0, .int (-1), .ref m_fresh, .ref m_spokenAt, .ref m_heardAt, .ref m_lastAt, .ref m_answerAt, .int 0, .int 0, .int 0, .long 0, .int 0, .int 0, .ref m_heardNow, .ref m_seenAt, .int 0, .int 0, .int 0, .int 0, .int 0, .ref m_fewest, .ref m_costNow, .ref m_costThen, .ref m_lawsOf, .ref m_heardBy, .int 0, .int 0, .ref m_placesOf, .ref m_sentIn, .int 0, .int 0, .ref m_lostBy, .ref m_many, .ref m_width, .ref m_numbers, .ref m_moving])), (m_world, .inl (cI, 53, .inl (fun _ => 0))), (m_spokenAt, .inl (cI, 61, .inl (fun _ => 0)))] H) (hD : va_D (fun q : Nat => s.heap.size ≤ q) [(x0, .inr (11, [.ref r_tape, .ref r_reader, .ref r_now, .ref r_trial, .ref r_images, .ref r_kept, .ref r_slots, .ref r_night, .ref r_other, .ref r_circle, .ref r_words, .ref r_law, .ref r_place, .ref r_drawn])), (r_now, .inr (8, [.int 0, .int 0, .int 0, .int 0, .int 0, .int 0, .int 0, .ref n_signs, .int 0, .ref n_posts, .int 0, .ref n_acts])), (m0, .inr (12, [.int 0, .ref m_world, .ref m_images, .ref m_hasImage, .ref m_tape, .int 0, .ref m_five, .int 0, .int 0, .int 0, .int 0, .int 0, .int 0, .int (-1), .ref m_fresh, .ref m_spokenAt, .ref m_heardAt, .ref m_lastAt, .ref m_answerAt, .int 0, .int 0, .int 0, .long 0, .int 0, .int 0, .ref m_heardNow, .ref m_seenAt, .int 0, .int 0, .int 0, .int 0, .int 0, .ref m_fewest, .ref m_costNow, .ref m_costThen, .ref m_lawsOf, .ref m_heardBy, .int 0, .int 0, .ref m_placesOf, .ref m_sentIn, .int 0, .int 0, .ref m_lostBy, .ref m_many, .ref m_width, .ref m_numbers, .ref m_moving])), (m_world, .inl (cI, 53, .inl (fun _ => 0))), (m_spokenAt, .inl (cI, 61, .inl (fun _ => 0)))]) (hS : va_S (fun q : Nat => s.heap.size ≤ q) s.heap H locs) {ls : Array Slot} (hl : lv_has ls 4 [(0, .ref b), (1, .ref x0), (2, .ref m0), (3, .int 0)]) : W p l e room_1 s m #[Value.ref b] below meth c H locs 118 60870 (lw_Z below #[Value.ref b] s) (F0 m 500 ls []) := by
  obtain ⟨hx, hb, hr, hml, hown, hts0, hX, hbl, hlocks, hgv⟩ := id C0
  have hts : ∀ w ∈ wsL_law, w.before #[Value.ref b] s = true := fun w h => hts0 w (wsL_law_in w h)
  have hA : ∀ q : Nat, s.heap.size ≤ q → (fun q : Nat => s.heap.size ≤ q) q := fun _ h => h
  have hbA : ¬ (fun q : Nat => s.heap.size ≤ q) b := Nat.not_le.mpr hbl
  refine lv_aload_n hx hb dL_law_500 rfl (lv_at hl 1 rfl) ?_
  refine lv_aload_n hx hb dL_law_501 rfl (lv_at hl 0 rfl) ?_
  refine lv_iload_n hx hb dL_law_502 rfl (lv_at hl 3 rfl) ?_
  refine lv_iconst (v := 1) hx hb dL_law_503 (by decide) ?_
  refine z_iadd (v := 1) hx hb dL_law_504 (by decide) ?_
  refine va_sld hx hb hX hbl hbA hS (by unfold vp_in; decide) dL_law_505 ?_
  refine W.eq (g2 := F0 m 506 ls [.int (xs 1), .ref x0]) rfl ?_
  refine roi (As := [.int (xs 1)]) (rest := []) ⟨hx, hb, hml, hown, hts⟩ (kx_heard l D cB cI cJ cZ cS cT x0 r_tape r_reader r_now r_trial r_images r_kept r_slots r_night r_other r_circle r_words r_law r_place r_drawn n_signs n_posts n_acts (xs 1) ) (cvB (n := 1) (inr22 _ (List.mem_of_getElem? (i := 2) rfl)) (inr22 _ (List.mem_of_getElem? (i := 3) rfl)) (inr22 _ (List.mem_of_getElem? (i := 4) rfl)) (inr1 _ (List.mem_of_getElem? (i := 2) rfl)) (inr22 _ (List.mem_of_getElem? (i := 5) rfl)) (by decide +kernel) hts rfl rfl ⟨Nat.le_of_ble_eq_true rfl, Nat.le_of_ble_eq_true rfl⟩) 0 11 rfl rfl rfl (hP.sub [0, 1] rfl) hK rfl hl.1 rfl (Nat.le_of_ble_eq_true rfl) ⟨Nat.le_of_ble_eq_true rfl, Nat.le_of_ble_eq_true rfl⟩ dL_law_506 (fun r_1 h_2 => ?_)
  obtain rfl := h_2
  refine lv_aload_n hx hb dL_law_509 rfl (lv_at hl 2 rfl) ?_
  refine lv_aload_n hx hb dL_law_510 rfl (lv_at hl 0 rfl) ?_
  refine lv_iload_n hx hb dL_law_511 rfl (lv_at hl 3 rfl) ?_
  refine lv_iconst (v := 1) hx hb dL_law_512 (by decide) ?_
  refine z_iadd (v := 1) hx hb dL_law_513 (by decide) ?_
  refine va_sld hx hb hX hbl hbA hS (by unfold vp_in; decide) dL_law_514 ?_
  refine W.eq (g2 := F0 m 515 ls [.int (xs 1), .ref m0, .int (-2)]) rfl ?_
  refine wrVi (As := [.int (xs 1)]) (rest := [.int (-2)]) (wr := [(x0, .inr (11, [.ref r_tape, .ref r_reader, .ref r_now, .ref r_trial, .ref r_images, .ref r_kept, .ref r_slots, .ref r_night, .ref r_other, .ref r_circle, .ref r_words, .ref r_law, .ref r_place, .ref r_drawn])), (r_now, .inr (8, [.int 0, .int 0, .int 0, .int 0, .int 0, .int 0, .int 0, .ref n_signs, .int 0, .ref n_posts, .int 0, .ref n_acts]))]) ⟨hx, hb, hml, hown, hts⟩ (km_heard l D cB cI cJ cZ cS cT H.size m0 m_world m_images m_hasImage m_tape m_five m_fresh m_spokenAt m_heardAt m_lastAt m_answerAt m_heardNow m_seenAt m_fewest m_costNow m_costThen m_lawsOf m_heardBy m_placesOf m_sentIn m_lostBy m_many m_width m_numbers m_moving (fun _ => 0) (xs 1) ) hP hD hS hA hK hN [2, 3, 4] [0, 1] rfl rfl (by decide) (by decide) (by decide) (cvB (n := 1) (inr23 _ (List.mem_of_getElem? (i := 19) rfl)) (inr23 _ (List.mem_of_getElem? (i := 20) rfl)) (inr23 _ (List.mem_of_getElem? (i := 21) rfl)) (inr1 _ (List.mem_of_getElem? (i := 5) rfl)) (inr23 _ (List.mem_of_getElem? (i := 22) rfl)) (by decide +kernel) hts rfl rfl ⟨Nat.le_of_ble_eq_true rfl, Nat.le_of_ble_eq_true rfl⟩) 0 12 rfl rfl rfl rfl hl.1 rfl (Nat.le_of_ble_eq_true rfl) ⟨Nat.le_of_ble_eq_true rfl, Nat.le_of_ble_eq_true rfl⟩ dL_law_515 (fun r_3 x9 H locs h_4 hP hD hS => ?_)
  have hP : va_P D vwCl [(x0, .inr (11, [.ref r_tape, .ref r_reader, .ref r_now, .ref r_trial, .ref r_images, .ref r_kept, .ref r_slots, .ref r_night, .ref r_other, .ref r_circle, .ref r_words, .ref r_law, .ref r_place, .ref r_drawn])), (r_now, .inr (8, [.int 0, .int 0, .int 0, .int 0, .int 0, .int 0, .int 0, .ref n_signs, .int 0, .ref n_posts, .int 0, .ref n_acts]))] H := hP
  have hD : va_D (fun q : Nat => s.heap.size ≤ q) [(x0, .inr (11, [.ref r_tape, .ref r_reader, .ref r_now, .ref r_trial, .ref r_images, .ref r_kept, .ref r_slots, .ref r_night, .ref r_other, .ref r_circle, .ref r_words, .ref r_law, .ref r_place, .ref r_drawn])), (r_now, .inr (8, [.int 0, .int 0, .int 0, .int 0, .int 0, .int 0, .int 0, .ref n_signs, .int 0, .ref n_posts, .int 0, .ref n_acts]))] := hD
  obtain rfl := h_4
  refine lv_icmp_eq (tgt := 2116) hx hb dL_law_518 (by decide) (fun _ => ?_) (fun c0 => absurd c0 (by decide))
  exact law_end C0 hK hN (Nat.le_of_ble_eq_true rfl) (Nat.le_of_ble_eq_true rfl) hS (lv_sub hl [0, 1, 2, 3] rfl)

set_option maxHeartbeats 4000000 in
set_option maxRecDepth 100000 in
theorem law_7 {p : Program} {l : Launch} {e : Env} {s : State} {m : MethodId} {below : List Frame} {meth : Method} {c : Code} {D : va_G} {cB cI cJ cZ cS cT : ClassId} {b : Nat} {xs : Nat → Int32} (C0 : lw_At p s m meth c b 6 xs) (hK : va_K D vwCl (tyL cB cI cJ cZ cS cT) s) (hN : kN s) {H : Heap} {locs : List Loc} {x0 : Nat} {m0 : Nat} {r_tape : Nat} {r_reader : Nat} {r_now : Nat} {r_trial : Nat} {r_images : Nat} {r_kept : Nat} {r_slots : Nat} {r_night : Nat} {r_other : Nat} {r_circle : Nat} {r_words : Nat} {r_law : Nat} {r_place : Nat} {r_drawn : Nat} {n_signs : Nat} {n_posts : Nat} {n_acts : Nat} {m_world : Nat} {m_images : Nat} {m_hasImage : Nat} {m_tape : Nat} {m_five : Nat} {m_fresh : Nat} {m_spokenAt : Nat} {m_heardAt : Nat} {m_lastAt : Nat} {m_answerAt : Nat} {m_heardNow : Nat} {m_seenAt : Nat} {m_fewest : Nat} {m_costNow : Nat} {m_costThen : Nat} {m_lawsOf : Nat} {m_heardBy : Nat} {m_placesOf : Nat} {m_sentIn : Nat} {m_lostBy : Nat} {m_many : Nat} {m_width : Nat} {m_numbers : Nat} {m_moving : Nat} (hP : va_P D vwCl [(x0, .inr (11, [.ref r_tape, .ref r_reader, .ref r_now, .ref r_trial, .ref r_images, .ref r_kept, .ref r_slots, .ref r_night, .ref r_other, .ref r_circle, .ref r_words, .ref r_law, .ref r_place, .ref r_drawn])), (r_now, .inr (8, [.int 0, .int 0, .int 0, .int 0, .int 0, .int 0, .int 0, .ref n_signs, .int 0, .ref n_posts, .int 0, .ref n_acts])), (m0, .inr (12, [.int 0, .ref m_world, .ref m_images, .ref m_hasImage, .ref m_tape, .int 0, .ref m_five, .int 0, .int 0, .int 0, .int 0, .int 0, .int 0, .int (-1), .ref m_fresh, .ref m_spokenAt, .ref m_heardAt, .ref m_lastAt, .ref m_answerAt, .int 0, .int 0, .int 0, .long 0, .int 0, .int 0, .ref m_heardNow, .ref m_seenAt, .int 0, .int 0, .int 0, .int 0, .int 0, .ref m_fewest, .ref m_costNow, .ref m_costThen, .ref m_lawsOf, .ref m_heardBy, .int 0, .int 0, .ref m_placesOf, .ref m_sentIn, .int 0, .int 0, .ref m_lostBy, .ref m_many, .ref m_width, .ref m_numbers, .ref m_moving])), (m_world, .inl (cI, 53, .inl (fun _ => 0))), (m_spokenAt, .inl (cI, 61, .inl (fun _ => 0)))] H) (hD : va_D (fun q : Nat => s.heap.size ≤ q) [(x0, .inr (11, [.ref r_tape, .ref r_reader, .ref r_now, .ref r_trial, .ref r_images, .ref r_kept, .ref r_slots, .ref r_night, .ref r_other, .ref r_circle, .ref r_words, .ref r_law, .ref r_place, .ref r_drawn])), (r_now, .inr (8, [.int 0, .int 0, .int 0, .int 0, .int 0, .int 0, .int 0, .ref n_signs, .int 0, .ref n_posts, .int 0, .ref n_acts])), (m0, .inr (12, [.int 0, .ref m_world, .ref m_images, .ref m_hasImage, .ref m_tape, .int 0, .ref m_five, .int 0, .int 0, .int 0, .int 0, .int 0, .int 0, .int (-1), .ref m_fresh, .ref m_spokenAt, .ref m_heardAt, .ref m_lastAt, .ref m_answerAt, .int 0, .int 0, .int 0, .long 0, .int 0, .int 0, .ref m_heardNow, .ref m_seenAt, .int 0, .int 0, .int 0, .int 0, .int 0, .ref m_fewest, .ref m_costNow, .ref m_costThen, .ref m_lawsOf, .ref m_heardBy, .int 0, .int 0, .ref m_placesOf, .ref m_sentIn, .int 0, .int 0, .ref m_lostBy, .ref m_many, .ref m_width, .ref m_numbers, .ref m_moving])), (m_world, .inl (cI, 53, .inl (fun _ => 0))), (m_spokenAt, .inl (cI, 61, .inl (fun _ => 0)))]) (hS : va_S (fun q : Nat => s.heap.size ≤ q) s.heap H locs) {ls : Array Slot} (hl : lv_has ls 4 [(0, .ref b), (1, .ref x0), (2, .ref m0), (3, .int 0)]) : W p l e room_1 s m #[Value.ref b] below meth c H locs 118 60870 (lw_Z below #[Value.ref b] s) (F0 m 523 ls []) := by
  obtain ⟨hx, hb, hr, hml, hown, hts0, hX, hbl, hlocks, hgv⟩ := id C0
  have hts : ∀ w ∈ wsL_law, w.before #[Value.ref b] s = true := fun w h => hts0 w (wsL_law_in w h)
  have hA : ∀ q : Nat, s.heap.size ≤ q → (fun q : Nat => s.heap.size ≤ q) q := fun _ h => h
  have hbA : ¬ (fun q : Nat => s.heap.size ≤ q) b := Nat.not_le.mpr hbl
  refine lv_aload_n hx hb dL_law_523 rfl (lv_at hl 1 rfl) ?_
  refine lv_aload_n hx hb dL_law_524 rfl (lv_at hl 0 rfl) ?_
  refine lv_iload_n hx hb dL_law_525 rfl (lv_at hl 3 rfl) ?_
  refine lv_iconst (v := 1) hx hb dL_law_526 (by decide) ?_
  refine z_iadd (v := 1) hx hb dL_law_527 (by decide) ?_
  refine va_sld hx hb hX hbl hbA hS (by unfold vp_in; decide) dL_law_528 ?_
  refine W.eq (g2 := F0 m 529 ls [.int (xs 1), .ref x0]) rfl ?_
  refine roi (As := [.int (xs 1)]) (rest := []) ⟨hx, hb, hml, hown, hts⟩ (kx_last l D cB cI cJ cZ cS cT x0 r_tape r_reader r_now r_trial r_images r_kept r_slots r_night r_other r_circle r_words r_law r_place r_drawn n_signs n_posts n_acts (xs 1) ) (cvB (n := 1) (inr26 _ (List.mem_of_getElem? (i := 10) rfl)) (inr26 _ (List.mem_of_getElem? (i := 11) rfl)) (inr26 _ (List.mem_of_getElem? (i := 12) rfl)) (inr1 _ (List.mem_of_getElem? (i := 2) rfl)) (inr26 _ (List.mem_of_getElem? (i := 13) rfl)) (by decide +kernel) hts rfl rfl ⟨Nat.le_of_ble_eq_true rfl, Nat.le_of_ble_eq_true rfl⟩) 0 11 rfl rfl rfl (hP.sub [0, 1] rfl) hK rfl hl.1 rfl (Nat.le_of_ble_eq_true rfl) ⟨Nat.le_of_ble_eq_true rfl, Nat.le_of_ble_eq_true rfl⟩ dL_law_529 (fun r_1 h_2 => ?_)
  obtain rfl := h_2
  refine lv_aload_n hx hb dL_law_532 rfl (lv_at hl 2 rfl) ?_
  refine lv_aload_n hx hb dL_law_533 rfl (lv_at hl 0 rfl) ?_
  refine lv_iload_n hx hb dL_law_534 rfl (lv_at hl 3 rfl) ?_
  refine lv_iconst (v := 1) hx hb dL_law_535 (by decide) ?_
  refine z_iadd (v := 1) hx hb dL_law_536 (by decide) ?_
  refine va_sld hx hb hX hbl hbA hS (by unfold vp_in; decide) dL_law_537 ?_
  refine W.eq (g2 := F0 m 538 ls [.int (xs 1), .ref m0, .int (-2)]) rfl ?_
  refine wrVi (As := [.int (xs 1)]) (rest := [.int (-2)]) (wr := [(x0, .inr (11, [.ref r_tape, .ref r_reader, .ref r_now, .ref r_trial, .ref r_images, .ref r_kept, .ref r_slots, .ref r_night, .ref r_other, .ref r_circle, .ref r_words, .ref r_law, .ref r_place, .ref r_drawn])), (r_now, .inr (8, [.int 0, .int 0, .int 0, .int 0, .int 0, .int 0, .int 0, .ref n_signs, .int 0, .ref n_posts, .int 0, .ref n_acts]))]) ⟨hx, hb, hml, hown, hts⟩ (km_last l D cB cI cJ cZ cS cT H.size m0 m_world m_images m_hasImage m_tape m_five m_fresh m_spokenAt m_heardAt m_lastAt m_answerAt m_heardNow m_seenAt m_fewest m_costNow m_costThen m_lawsOf m_heardBy m_placesOf m_sentIn m_lostBy m_many m_width m_numbers m_moving (fun _ => 0) (xs 1) ) hP hD hS hA hK hN [2, 3, 4] [0, 1] rfl rfl (by decide) (by decide) (by decide) (cvB (n := 1) (inr26 _ (List.mem_of_getElem? (i := 18) rfl)) (inr26 _ (List.mem_of_getElem? (i := 19) rfl)) (inr26 _ (List.mem_of_getElem? (i := 20) rfl)) (inr1 _ (List.mem_of_getElem? (i := 5) rfl)) (inr26 _ (List.mem_of_getElem? (i := 21) rfl)) (by decide +kernel) hts rfl rfl ⟨Nat.le_of_ble_eq_true rfl, Nat.le_of_ble_eq_true rfl⟩) 0 12 rfl rfl rfl rfl hl.1 rfl (Nat.le_of_ble_eq_true rfl) ⟨Nat.le_of_ble_eq_true rfl, Nat.le_of_ble_eq_true rfl⟩ dL_law_538 (fun r_3 x9 H locs h_4 hP hD hS => ?_)
  have hP : va_P D vwCl [(x0, .inr (11, [.ref r_tape, .ref r_reader, .ref r_now, .ref r_trial, .ref r_images, .ref r_kept, .ref r_slots, .ref r_night, .ref r_other, .ref r_circle, .ref r_words, .ref r_law, .ref r_place, .ref r_drawn])), (r_now, .inr (8, [.int 0, .int 0, .int 0, .int 0, .int 0, .int 0, .int 0, .ref n_signs, .int 0, .ref n_posts, .int 0, .ref n_acts]))] H := hP
  have hD : va_D (fun q : Nat => s.heap.size ≤ q) [(x0, .inr (11, [.ref r_tape, .ref r_reader, .ref r_now, .ref r_trial, .ref r_images, .ref r_kept, .ref r_slots, .ref r_night, .ref r_other, .ref r_circle, .ref r_words, .ref r_law, .ref r_place, .ref r_drawn])), (r_now, .inr (8, [.int 0, .int 0, .int 0, .int 0, .int 0, .int 0, .int 0, .ref n_signs, .int 0, .ref n_posts, .int 0, .ref n_acts]))] := hD
  obtain rfl := h_4
  refine lv_icmp_eq (tgt := 2116) hx hb dL_law_541 (by decide) (fun _ => ?_) (fun c0 => absurd c0 (by decide))
  exact law_end C0 hK hN (Nat.le_of_ble_eq_true rfl) (Nat.le_of_ble_eq_true rfl) hS (lv_sub hl [0, 1, 2, 3] rfl)

set_option maxHeartbeats 4000000 in
set_option maxRecDepth 100000 in
theorem law_8 {p : Program} {l : Launch} {e : Env} {s : State} {m : MethodId} {below : List Frame} {meth : Method} {c : Code} {D : va_G} {cB cI cJ cZ cS cT : ClassId} {b : Nat} {xs : Nat → Int32} (C0 : lw_At p s m meth c b 6 xs) (hK : va_K D vwCl (tyL cB cI cJ cZ cS cT) s) (hN : kN s) {H : Heap} {locs : List Loc} {x0 : Nat} {m0 : Nat} {r_tape : Nat} {r_reader : Nat} {r_now : Nat} {r_trial : Nat} {r_images : Nat} {r_kept : Nat} {r_slots : Nat} {r_night : Nat} {r_other : Nat} {r_circle : Nat} {r_words : Nat} {r_law : Nat} {r_place : Nat} {r_drawn : Nat} {n_signs : Nat} {n_posts : Nat} {n_acts : Nat} {m_world : Nat} {m_images : Nat} {m_hasImage : Nat} {m_tape : Nat} {m_five : Nat} {m_fresh : Nat} {m_spokenAt : Nat} {m_heardAt : Nat} {m_lastAt : Nat} {m_answerAt : Nat} {m_heardNow : Nat} {m_seenAt : Nat} {m_fewest : Nat} {m_costNow : Nat} {m_costThen : Nat} {m_lawsOf : Nat} {m_heardBy : Nat} {m_placesOf : Nat} {m_sentIn : Nat} {m_lostBy : Nat} {m_many : Nat} {m_width : Nat} {m_numbers : Nat} {m_moving : Nat} (hP : va_P D vwCl [(x0, .inr (11, [.ref r_tape, .ref r_reader, .ref r_now, .ref r_trial, .ref r_images, .ref r_kept, .ref r_slots, .ref r_night, .ref r_other, .ref r_circle, .ref r_words, .ref r_law, .ref r_place, .ref r_drawn])), (r_now, .inr (8, [.int 0, .int 0, .int 0, .int 0, .int 0, .int 0, .int 0, .ref n_signs, .int 0, .ref n_posts, .int 0, .ref n_acts])), (m0, .inr (12, [.int 0, .ref m_world, .ref m_images, .ref m_hasImage, .ref m_tape, .int 0, .ref m_five, .int 0, .int 0, .int 0, .int 0, .int 0, .int 0, .int (-1), .ref m_fresh, .ref m_spokenAt, .ref m_heardAt, .ref m_lastAt, .ref m_answerAt, .int 0, .int 0, .int 0, .long 0, .int 0, .int 0, .ref m_heardNow, .ref m_seenAt, .int 0, .int 0, .int 0, .int 0, .int 0, .ref m_fewest, .ref m_costNow, .ref m_costThen, .ref m_lawsOf, .ref m_heardBy, .int 0, .int 0, .ref m_placesOf, .ref m_sentIn, .int 0, .int 0, .ref m_lostBy, .ref m_many, .ref m_width, .ref m_numbers, .ref m_moving])), (m_world, .inl (cI, 53, .inl (fun _ => 0))), (m_spokenAt, .inl (cI, 61, .inl (fun _ => 0)))] H) (hD : va_D (fun q : Nat => s.heap.size ≤ q) [(x0, .inr (11, [.ref r_tape, .ref r_reader, .ref r_now, .ref r_trial, .ref r_images, .ref r_kept, .ref r_slots, .ref r_night, .ref r_other, .ref r_circle, .ref r_words, .ref r_law, .ref r_place, .ref r_drawn])), (r_now, .inr (8, [.int 0, .int 0, .int 0, .int 0, .int 0, .int 0, .int 0, .ref n_signs, .int 0, .ref n_posts, .int 0, .ref n_acts])), (m0, .inr (12, [.int 0, .ref m_world, .ref m_images, .ref m_hasImage, .ref m_tape, .int 0, .ref m_five, .int 0, .int 0, .int 0, .int 0, .int 0, .int 0, .int (-1), .ref m_fresh, .ref m_spokenAt, .ref m_heardAt, .ref m_lastAt, .ref m_answerAt, .int 0, .int 0, .int 0, .long 0, .int 0, .int 0, .ref m_heardNow, .ref m_seenAt, .int 0, .int 0, .int 0, .int 0, .int 0, .ref m_fewest, .ref m_costNow, .ref m_costThen, .ref m_lawsOf, .ref m_heardBy, .int 0, .int 0, .ref m_placesOf, .ref m_sentIn, .int 0, .int 0, .ref m_lostBy, .ref m_many, .ref m_width, .ref m_numbers, .ref m_moving])), (m_world, .inl (cI, 53, .inl (fun _ => 0))), (m_spokenAt, .inl (cI, 61, .inl (fun _ => 0)))]) (hS : va_S (fun q : Nat => s.heap.size ≤ q) s.heap H locs) {ls : Array Slot} (hl : lv_has ls 4 [(0, .ref b), (1, .ref x0), (2, .ref m0), (3, .int 0)]) : W p l e room_1 s m #[Value.ref b] below meth c H locs 118 60870 (lw_Z below #[Value.ref b] s) (F0 m 546 ls []) := by
  obtain ⟨hx, hb, hr, hml, hown, hts0, hX, hbl, hlocks, hgv⟩ := id C0
  have hts : ∀ w ∈ wsL_law, w.before #[Value.ref b] s = true := fun w h => hts0 w (wsL_law_in w h)
  have hA : ∀ q : Nat, s.heap.size ≤ q → (fun q : Nat => s.heap.size ≤ q) q := fun _ h => h
  have hbA : ¬ (fun q : Nat => s.heap.size ≤ q) b := Nat.not_le.mpr hbl
  refine lv_aload_n hx hb dL_law_546 rfl (lv_at hl 1 rfl) ?_
  refine lv_aload_n hx hb dL_law_547 rfl (lv_at hl 0 rfl) ?_
  refine lv_iload_n hx hb dL_law_548 rfl (lv_at hl 3 rfl) ?_
  refine lv_iconst (v := 1) hx hb dL_law_549 (by decide) ?_
  refine z_iadd (v := 1) hx hb dL_law_550 (by decide) ?_
  refine va_sld hx hb hX hbl hbA hS (by unfold vp_in; decide) dL_law_551 ?_
  refine W.eq (g2 := F0 m 552 ls [.int (xs 1), .ref x0]) rfl ?_
  refine roi (As := [.int (xs 1)]) (rest := []) ⟨hx, hb, hml, hown, hts⟩ (kx_answer l D cB cI cJ cZ cS cT x0 r_tape r_reader r_now r_trial r_images r_kept r_slots r_night r_other r_circle r_words r_law r_place r_drawn n_signs n_posts n_acts (xs 1) ) (cvB (n := 1) (inr26 _ (List.mem_of_getElem? (i := 22) rfl)) (inr26 _ (List.mem_of_getElem? (i := 23) rfl)) (inr27 _ (List.mem_of_getElem? (i := 0) rfl)) (inr1 _ (List.mem_of_getElem? (i := 2) rfl)) (inr27 _ (List.mem_of_getElem? (i := 1) rfl)) (by decide +kernel) hts rfl rfl ⟨Nat.le_of_ble_eq_true rfl, Nat.le_of_ble_eq_true rfl⟩) 0 11 rfl rfl rfl (hP.sub [0, 1] rfl) hK rfl hl.1 rfl (Nat.le_of_ble_eq_true rfl) ⟨Nat.le_of_ble_eq_true rfl, Nat.le_of_ble_eq_true rfl⟩ dL_law_552 (fun r_1 h_2 => ?_)
  obtain rfl := h_2
  refine lv_aload_n hx hb dL_law_555 rfl (lv_at hl 2 rfl) ?_
  refine lv_aload_n hx hb dL_law_556 rfl (lv_at hl 0 rfl) ?_
  refine lv_iload_n hx hb dL_law_557 rfl (lv_at hl 3 rfl) ?_
  refine lv_iconst (v := 1) hx hb dL_law_558 (by decide) ?_
  refine z_iadd (v := 1) hx hb dL_law_559 (by decide) ?_
  refine va_sld hx hb hX hbl hbA hS (by unfold vp_in; decide) dL_law_560 ?_
  refine W.eq (g2 := F0 m 561 ls [.int (xs 1), .ref m0, .int (-2)]) rfl ?_
  refine wrVi (As := [.int (xs 1)]) (rest := [.int (-2)]) (wr := [(x0, .inr (11, [.ref r_tape, .ref r_reader, .ref r_now, .ref r_trial, .ref r_images, .ref r_kept, .ref r_slots, .ref r_night, .ref r_other, .ref r_circle, .ref r_words, .ref r_law, .ref r_place, .ref r_drawn])), (r_now, .inr (8, [.int 0, .int 0, .int 0, .int 0, .int 0, .int 0, .int 0, .ref n_signs, .int 0, .ref n_posts, .int 0, .ref n_acts]))]) ⟨hx, hb, hml, hown, hts⟩ (km_answer l D cB cI cJ cZ cS cT H.size m0 m_world m_images m_hasImage m_tape m_five m_fresh m_spokenAt m_heardAt m_lastAt m_answerAt m_heardNow m_seenAt m_fewest m_costNow m_costThen m_lawsOf m_heardBy m_placesOf m_sentIn m_lostBy m_many m_width m_numbers m_moving (fun _ => 0) (xs 1) ) hP hD hS hA hK hN [2, 3, 4] [0, 1] rfl rfl (by decide) (by decide) (by decide) (cvB (n := 1) (inr27 _ (List.mem_of_getElem? (i := 6) rfl)) (inr27 _ (List.mem_of_getElem? (i := 7) rfl)) (inr27 _ (List.mem_of_getElem? (i := 8) rfl)) (inr1 _ (List.mem_of_getElem? (i := 5) rfl)) (inr27 _ (List.mem_of_getElem? (i := 9) rfl)) (by decide +kernel) hts rfl rfl ⟨Nat.le_of_ble_eq_true rfl, Nat.le_of_ble_eq_true rfl⟩) 0 12 rfl rfl rfl rfl hl.1 rfl (Nat.le_of_ble_eq_true rfl) ⟨Nat.le_of_ble_eq_true rfl, Nat.le_of_ble_eq_true rfl⟩ dL_law_561 (fun r_3 x9 H locs h_4 hP hD hS => ?_)
  have hP : va_P D vwCl [(x0, .inr (11, [.ref r_tape, .ref r_reader, .ref r_now, .ref r_trial, .ref r_images, .ref r_kept, .ref r_slots, .ref r_night, .ref r_other, .ref r_circle, .ref r_words, .ref r_law, .ref r_place, .ref r_drawn])), (r_now, .inr (8, [.int 0, .int 0, .int 0, .int 0, .int 0, .int 0, .int 0, .ref n_signs, .int 0, .ref n_posts, .int 0, .ref n_acts]))] H := hP
  have hD : va_D (fun q : Nat => s.heap.size ≤ q) [(x0, .inr (11, [.ref r_tape, .ref r_reader, .ref r_now, .ref r_trial, .ref r_images, .ref r_kept, .ref r_slots, .ref r_night, .ref r_other, .ref r_circle, .ref r_words, .ref r_law, .ref r_place, .ref r_drawn])), (r_now, .inr (8, [.int 0, .int 0, .int 0, .int 0, .int 0, .int 0, .int 0, .ref n_signs, .int 0, .ref n_posts, .int 0, .ref n_acts]))] := hD
  obtain rfl := h_4
  refine lv_icmp_eq (tgt := 2116) hx hb dL_law_564 (by decide) (fun _ => ?_) (fun c0 => absurd c0 (by decide))
  exact law_end C0 hK hN (Nat.le_of_ble_eq_true rfl) (Nat.le_of_ble_eq_true rfl) hS (lv_sub hl [0, 1, 2, 3] rfl)

set_option maxHeartbeats 4000000 in
set_option maxRecDepth 100000 in
theorem law_9 {p : Program} {l : Launch} {e : Env} {s : State} {m : MethodId} {below : List Frame} {meth : Method} {c : Code} {D : va_G} {cB cI cJ cZ cS cT : ClassId} {b : Nat} {xs : Nat → Int32} (C0 : lw_At p s m meth c b 6 xs) (hK : va_K D vwCl (tyL cB cI cJ cZ cS cT) s) (hN : kN s) {H : Heap} {locs : List Loc} {x0 : Nat} {m0 : Nat} {r_tape : Nat} {r_reader : Nat} {r_now : Nat} {r_trial : Nat} {r_images : Nat} {r_kept : Nat} {r_slots : Nat} {r_night : Nat} {r_other : Nat} {r_circle : Nat} {r_words : Nat} {r_law : Nat} {r_place : Nat} {r_drawn : Nat} {n_signs : Nat} {n_posts : Nat} {n_acts : Nat} {m_world : Nat} {m_images : Nat} {m_hasImage : Nat} {m_tape : Nat} {m_five : Nat} {m_fresh : Nat} {m_spokenAt : Nat} {m_heardAt : Nat} {m_lastAt : Nat} {m_answerAt : Nat} {m_heardNow : Nat} {m_seenAt : Nat} {m_fewest : Nat} {m_costNow : Nat} {m_costThen : Nat} {m_lawsOf : Nat} {m_heardBy : Nat} {m_placesOf : Nat} {m_sentIn : Nat} {m_lostBy : Nat} {m_many : Nat} {m_width : Nat} {m_numbers : Nat} {m_moving : Nat} (hP : va_P D vwCl [(x0, .inr (11, [.ref r_tape, .ref r_reader, .ref r_now, .ref r_trial, .ref r_images, .ref r_kept, .ref r_slots, .ref r_night, .ref r_other, .ref r_circle, .ref r_words, .ref r_law, .ref r_place, .ref r_drawn])), (r_now, .inr (8, [.int 0, .int 0, .int 0, .int 0, .int 0, .int 0, .int 0, .ref n_signs, .int 0, .ref n_posts, .int 0, .ref n_acts])), (m0, .inr (12, [.int 0, .ref m_world, .ref m_images, .ref m_hasImage, .ref m_tape, .int 0, .ref m_five, .int 0, .int 0, .int 0, .int 0, .int 0, .int 0, .int (-1), .ref m_fresh, .ref m_spokenAt, .ref m_heardAt, .ref m_lastAt, .ref m_answerAt, .int 0, .int 0, .int 0, .long 0, .int 0, .int 0, .ref m_heardNow, .ref m_seenAt, .int 0, .int 0, .int 0, .int 0, .int 0, .ref m_fewest, .ref m_costNow, .ref m_costThen, .ref m_lawsOf, .ref m_heardBy, .int 0, .int 0, .ref m_placesOf, .ref m_sentIn, .int 0, .int 0, .ref m_lostBy, .ref m_many, .ref m_width, .ref m_numbers, .ref m_moving])), (m_world, .inl (cI, 53, .inl (fun _ => 0))), (m_spokenAt, .inl (cI, 61, .inl (fun _ => 0)))] H) (hD : va_D (fun q : Nat => s.heap.size ≤ q) [(x0, .inr (11, [.ref r_tape, .ref r_reader, .ref r_now, .ref r_trial, .ref r_images, .ref r_kept, .ref r_slots, .ref r_night, .ref r_other, .ref r_circle, .ref r_words, .ref r_law, .ref r_place, .ref r_drawn])), (r_now, .inr (8, [.int 0, .int 0, .int 0, .int 0, .int 0, .int 0, .int 0, .ref n_signs, .int 0, .ref n_posts, .int 0, .ref n_acts])), (m0, .inr (12, [.int 0, .ref m_world, .ref m_images, .ref m_hasImage, .ref m_tape, .int 0, .ref m_five, .int 0, .int 0, .int 0, .int 0, .int 0, .int 0, .int (-1), .ref m_fresh, .ref m_spokenAt, .ref m_heardAt, .ref m_lastAt, .ref m_answerAt, .int 0, .int 0, .int 0, .long 0, .int 0, .int 0, .ref m_heardNow, .ref m_seenAt, .int 0, .int 0, .int 0, .int 0, .int 0, .ref m_fewest, .ref m_costNow, .ref m_costThen, .ref m_lawsOf, .ref m_heardBy, .int 0, .int 0, .ref m_placesOf, .ref m_sentIn, .int 0, .int 0, .ref m_lostBy, .ref m_many, .ref m_width, .ref m_numbers, .ref m_moving])), (m_world, .inl (cI, 53, .inl (fun _ => 0))), (m_spokenAt, .inl (cI, 61, .inl (fun _ => 0)))]) (hS : va_S (fun q : Nat => s.heap.size ≤ q) s.heap H locs) {ls : Array Slot} (hl : lv_has ls 4 [(0, .ref b), (1, .ref x0), (2, .ref m0), (3, .int 0)]) : W p l e room_1 s m #[Value.ref b] below meth c H locs 118 60870 (lw_Z below #[Value.ref b] s) (F0 m 569 ls []) := by
  obtain ⟨hx, hb, hr, hml, hown, hts0, hX, hbl, hlocks, hgv⟩ := id C0
  have hts : ∀ w ∈ wsL_law, w.before #[Value.ref b] s = true := fun w h => hts0 w (wsL_law_in w h)
  have hA : ∀ q : Nat, s.heap.size ≤ q → (fun q : Nat => s.heap.size ≤ q) q := fun _ h => h
  have hbA : ¬ (fun q : Nat => s.heap.size ≤ q) b := Nat.not_le.mpr hbl
  refine lv_aload_n hx hb dL_law_569 rfl (lv_at hl 1 rfl) ?_
  refine lv_aload_n hx hb dL_law_570 rfl (lv_at hl 0 rfl) ?_
  refine lv_iload_n hx hb dL_law_571 rfl (lv_at hl 3 rfl) ?_
  refine lv_iconst (v := 1) hx hb dL_law_572 (by decide) ?_
  refine z_iadd (v := 1) hx hb dL_law_573 (by decide) ?_
  refine va_sld hx hb hX hbl hbA hS (by unfold vp_in; decide) dL_law_574 ?_
  refine W.eq (g2 := F0 m 575 ls [.int (xs 1), .ref x0]) rfl ?_
  refine roi (As := [.int (xs 1)]) (rest := []) ⟨hx, hb, hml, hown, hts⟩ (kx_gaps l D cB cI cJ cZ cS cT x0 r_tape r_reader r_now r_trial r_images r_kept r_slots r_night r_other r_circle r_words r_law r_place r_drawn n_signs n_posts n_acts (xs 1) ) (cvB (n := 1) (inr27 _ (List.mem_of_getElem? (i := 10) rfl)) (inr27 _ (List.mem_of_getElem? (i := 11) rfl)) (inr27 _ (List.mem_of_getElem? (i := 12) rfl)) (inr1 _ (List.mem_of_getElem? (i := 2) rfl)) (inr27 _ (List.mem_of_getElem? (i := 13) rfl)) (by decide +kernel) hts rfl rfl ⟨Nat.le_of_ble_eq_true rfl, Nat.le_of_ble_eq_true rfl⟩) 0 11 rfl rfl rfl (hP.sub [0, 1] rfl) hK rfl hl.1 rfl (Nat.le_of_ble_eq_true rfl) ⟨Nat.le_of_ble_eq_true rfl, Nat.le_of_ble_eq_true rfl⟩ dL_law_575 (fun r_1 h_2 => ?_)
  obtain rfl := h_2
  refine lv_aload_n hx hb dL_law_578 rfl (lv_at hl 2 rfl) ?_
  refine lv_aload_n hx hb dL_law_579 rfl (lv_at hl 0 rfl) ?_
  refine lv_iload_n hx hb dL_law_580 rfl (lv_at hl 3 rfl) ?_
  refine lv_iconst (v := 1) hx hb dL_law_581 (by decide) ?_
  refine z_iadd (v := 1) hx hb dL_law_582 (by decide) ?_
  refine va_sld hx hb hX hbl hbA hS (by unfold vp_in; decide) dL_law_583 ?_
  refine W.eq (g2 := F0 m 584 ls [.int (xs 1), .ref m0, .int (-2)]) rfl ?_
  refine wrVi (As := [.int (xs 1)]) (rest := [.int (-2)]) (wr := [(x0, .inr (11, [.ref r_tape, .ref r_reader, .ref r_now, .ref r_trial, .ref r_images, .ref r_kept, .ref r_slots, .ref r_night, .ref r_other, .ref r_circle, .ref r_words, .ref r_law, .ref r_place, .ref r_drawn])), (r_now, .inr (8, [.int 0, .int 0, .int 0, .int 0, .int 0, .int 0, .int 0, .ref n_signs, .int 0, .ref n_posts, .int 0, .ref n_acts]))]) ⟨hx, hb, hml, hown, hts⟩ (km_gaps l D cB cI cJ cZ cS cT H.size m0 m_world m_images m_hasImage m_tape m_five m_fresh m_spokenAt m_heardAt m_lastAt m_answerAt m_heardNow m_seenAt m_fewest m_costNow m_costThen m_lawsOf m_heardBy m_placesOf m_sentIn m_lostBy m_many m_width m_numbers m_moving (fun _ => 0) (xs 1) ) hP hD hS hA hK hN [2, 3, 4] [0, 1] rfl rfl (by decide) (by decide) (by decide) (cvB (n := 1) (inr27 _ (List.mem_of_getElem? (i := 15) rfl)) (inr27 _ (List.mem_of_getElem? (i := 16) rfl)) (inr27 _ (List.mem_of_getElem? (i := 17) rfl)) (inr1 _ (List.mem_of_getElem? (i := 5) rfl)) (inr27 _ (List.mem_of_getElem? (i := 18) rfl)) (by decide +kernel) hts rfl rfl ⟨Nat.le_of_ble_eq_true rfl, Nat.le_of_ble_eq_true rfl⟩) 0 12 rfl rfl rfl rfl hl.1 rfl (Nat.le_of_ble_eq_true rfl) ⟨Nat.le_of_ble_eq_true rfl, Nat.le_of_ble_eq_true rfl⟩ dL_law_584 (fun r_3 x9 H locs h_4 hP hD hS => ?_)
  have hP : va_P D vwCl [(x0, .inr (11, [.ref r_tape, .ref r_reader, .ref r_now, .ref r_trial, .ref r_images, .ref r_kept, .ref r_slots, .ref r_night, .ref r_other, .ref r_circle, .ref r_words, .ref r_law, .ref r_place, .ref r_drawn])), (r_now, .inr (8, [.int 0, .int 0, .int 0, .int 0, .int 0, .int 0, .int 0, .ref n_signs, .int 0, .ref n_posts, .int 0, .ref n_acts]))] H := hP
  have hD : va_D (fun q : Nat => s.heap.size ≤ q) [(x0, .inr (11, [.ref r_tape, .ref r_reader, .ref r_now, .ref r_trial, .ref r_images, .ref r_kept, .ref r_slots, .ref r_night, .ref r_other, .ref r_circle, .ref r_words, .ref r_law, .ref r_place, .ref r_drawn])), (r_now, .inr (8, [.int 0, .int 0, .int 0, .int 0, .int 0, .int 0, .int 0, .ref n_signs, .int 0, .ref n_posts, .int 0, .ref n_acts]))] := hD
  obtain rfl := h_4
  refine lv_icmp_eq (tgt := 2116) hx hb dL_law_587 (by decide) (fun _ => ?_) (fun c0 => absurd c0 (by decide))
  exact law_end C0 hK hN (Nat.le_of_ble_eq_true rfl) (Nat.le_of_ble_eq_true rfl) hS (lv_sub hl [0, 1, 2, 3] rfl)

set_option maxHeartbeats 4000000 in
set_option maxRecDepth 100000 in
theorem law_10 {p : Program} {l : Launch} {e : Env} {s : State} {m : MethodId} {below : List Frame} {meth : Method} {c : Code} {D : va_G} {cB cI cJ cZ cS cT : ClassId} {b : Nat} {xs : Nat → Int32} (C0 : lw_At p s m meth c b 6 xs) (hK : va_K D vwCl (tyL cB cI cJ cZ cS cT) s) (hN : kN s) {H : Heap} {locs : List Loc} {x0 : Nat} {m0 : Nat} {r_tape : Nat} {r_reader : Nat} {r_now : Nat} {r_trial : Nat} {r_images : Nat} {r_kept : Nat} {r_slots : Nat} {r_night : Nat} {r_other : Nat} {r_circle : Nat} {r_words : Nat} {r_law : Nat} {r_place : Nat} {r_drawn : Nat} {n_signs : Nat} {n_posts : Nat} {n_acts : Nat} {m_world : Nat} {m_images : Nat} {m_hasImage : Nat} {m_tape : Nat} {m_five : Nat} {m_fresh : Nat} {m_spokenAt : Nat} {m_heardAt : Nat} {m_lastAt : Nat} {m_answerAt : Nat} {m_heardNow : Nat} {m_seenAt : Nat} {m_fewest : Nat} {m_costNow : Nat} {m_costThen : Nat} {m_lawsOf : Nat} {m_heardBy : Nat} {m_placesOf : Nat} {m_sentIn : Nat} {m_lostBy : Nat} {m_many : Nat} {m_width : Nat} {m_numbers : Nat} {m_moving : Nat} (hP : va_P D vwCl [(x0, .inr (11, [.ref r_tape, .ref r_reader, .ref r_now, .ref r_trial, .ref r_images, .ref r_kept, .ref r_slots, .ref r_night, .ref r_other, .ref r_circle, .ref r_words, .ref r_law, .ref r_place, .ref r_drawn])), (r_now, .inr (8, [.int 0, .int 0, .int 0, .int 0, .int 0, .int 0, .int 0, .ref n_signs, .int 0, .ref n_posts, .int 0, .ref n_acts])), (m0, .inr (12, [.int 0, .ref m_world, .ref m_images, .ref m_hasImage, .ref m_tape, .int 0, .ref m_five, .int 0, .int 0, .int 0, .int 0, .int 0, .int 0, .int (-1), .ref m_fresh, .ref m_spokenAt, .ref m_heardAt, .ref m_lastAt, .ref m_answerAt, .int 0, .int 0, .int 0, .long 0, .int 0, .int 0, .ref m_heardNow, .ref m_seenAt, .int 0, .int 0, .int 0, .int 0, .int 0, .ref m_fewest, .ref m_costNow, .ref m_costThen, .ref m_lawsOf, .ref m_heardBy, .int 0, .int 0, .ref m_placesOf, .ref m_sentIn, .int 0, .int 0, .ref m_lostBy, .ref m_many, .ref m_width, .ref m_numbers, .ref m_moving])), (m_world, .inl (cI, 53, .inl (fun _ => 0))), (m_spokenAt, .inl (cI, 61, .inl (fun _ => 0)))] H) (hD : va_D (fun q : Nat => s.heap.size ≤ q) [(x0, .inr (11, [.ref r_tape, .ref r_reader, .ref r_now, .ref r_trial, .ref r_images, .ref r_kept, .ref r_slots, .ref r_night, .ref r_other, .ref r_circle, .ref r_words, .ref r_law, .ref r_place, .ref r_drawn])), (r_now, .inr (8, [.int 0, .int 0, .int 0, .int 0, .int 0, .int 0, .int 0, .ref n_signs, .int 0, .ref n_posts, .int 0, .ref n_acts])), (m0, .inr (12, [.int 0, .ref m_world, .ref m_images, .ref m_hasImage, .ref m_tape, .int 0, .ref m_five, .int 0, .int 0, .int 0, .int 0, .int 0, .int 0, .int (-1), .ref m_fresh, .ref m_spokenAt, .ref m_heardAt, .ref m_lastAt, .ref m_answerAt, .int 0, .int 0, .int 0, .long 0, .int 0, .int 0, .ref m_heardNow, .ref m_seenAt, .int 0, .int 0, .int 0, .int 0, .int 0, .ref m_fewest, .ref m_costNow, .ref m_costThen, .ref m_lawsOf, .ref m_heardBy, .int 0, .int 0, .ref m_placesOf, .ref m_sentIn, .int 0, .int 0, .ref m_lostBy, .ref m_many, .ref m_width, .ref m_numbers, .ref m_moving])), (m_world, .inl (cI, 53, .inl (fun _ => 0))), (m_spokenAt, .inl (cI, 61, .inl (fun _ => 0)))]) (hS : va_S (fun q : Nat => s.heap.size ≤ q) s.heap H locs) {ls : Array Slot} (hl : lv_has ls 4 [(0, .ref b), (1, .ref x0), (2, .ref m0), (3, .int 0)]) : W p l e room_1 s m #[Value.ref b] below meth c H locs 118 60870 (lw_Z below #[Value.ref b] s) (F0 m 592 ls []) := by
  obtain ⟨hx, hb, hr, hml, hown, hts0, hX, hbl, hlocks, hgv⟩ := id C0
  have hts : ∀ w ∈ wsL_law, w.before #[Value.ref b] s = true := fun w h => hts0 w (wsL_law_in w h)
  have hA : ∀ q : Nat, s.heap.size ≤ q → (fun q : Nat => s.heap.size ≤ q) q := fun _ h => h
  have hbA : ¬ (fun q : Nat => s.heap.size ≤ q) b := Nat.not_le.mpr hbl
  refine lv_aload_n hx hb dL_law_592 rfl (lv_at hl 1 rfl) ?_
  refine lv_aload_n hx hb dL_law_593 rfl (lv_at hl 0 rfl) ?_
  refine lv_iload_n hx hb dL_law_594 rfl (lv_at hl 3 rfl) ?_
  refine lv_iconst (v := 1) hx hb dL_law_595 (by decide) ?_
  refine z_iadd (v := 1) hx hb dL_law_596 (by decide) ?_
  refine va_sld hx hb hX hbl hbA hS (by unfold vp_in; decide) dL_law_597 ?_
  refine W.eq (g2 := F0 m 598 ls [.int (xs 1), .ref x0]) rfl ?_
  refine roi (As := [.int (xs 1)]) (rest := []) ⟨hx, hb, hml, hown, hts⟩ (kx_pips l D cB cI cJ cZ cS cT x0 r_tape r_reader r_now r_trial r_images r_kept r_slots r_night r_other r_circle r_words r_law r_place r_drawn n_signs n_posts n_acts (xs 1) ) (cvB (n := 1) (inr27 _ (List.mem_of_getElem? (i := 19) rfl)) (inr27 _ (List.mem_of_getElem? (i := 20) rfl)) (inr27 _ (List.mem_of_getElem? (i := 21) rfl)) (inr1 _ (List.mem_of_getElem? (i := 2) rfl)) (inr27 _ (List.mem_of_getElem? (i := 22) rfl)) (by decide +kernel) hts rfl rfl ⟨Nat.le_of_ble_eq_true rfl, Nat.le_of_ble_eq_true rfl⟩) 0 11 rfl rfl rfl (hP.sub [0, 1] rfl) hK rfl hl.1 rfl (Nat.le_of_ble_eq_true rfl) ⟨Nat.le_of_ble_eq_true rfl, Nat.le_of_ble_eq_true rfl⟩ dL_law_598 (fun r_1 h_2 => ?_)
  obtain rfl := h_2
  refine lv_aload_n hx hb dL_law_601 rfl (lv_at hl 2 rfl) ?_
  refine lv_aload_n hx hb dL_law_602 rfl (lv_at hl 0 rfl) ?_
  refine lv_iload_n hx hb dL_law_603 rfl (lv_at hl 3 rfl) ?_
  refine lv_iconst (v := 1) hx hb dL_law_604 (by decide) ?_
  refine z_iadd (v := 1) hx hb dL_law_605 (by decide) ?_
  refine va_sld hx hb hX hbl hbA hS (by unfold vp_in; decide) dL_law_606 ?_
  refine W.eq (g2 := F0 m 607 ls [.int (xs 1), .ref m0, .int (-2)]) rfl ?_
  refine wrVi (As := [.int (xs 1)]) (rest := [.int (-2)]) (wr := [(x0, .inr (11, [.ref r_tape, .ref r_reader, .ref r_now, .ref r_trial, .ref r_images, .ref r_kept, .ref r_slots, .ref r_night, .ref r_other, .ref r_circle, .ref r_words, .ref r_law, .ref r_place, .ref r_drawn])), (r_now, .inr (8, [.int 0, .int 0, .int 0, .int 0, .int 0, .int 0, .int 0, .ref n_signs, .int 0, .ref n_posts, .int 0, .ref n_acts]))]) ⟨hx, hb, hml, hown, hts⟩ (km_pips l D cB cI cJ cZ cS cT H.size m0 m_world m_images m_hasImage m_tape m_five m_fresh m_spokenAt m_heardAt m_lastAt m_answerAt m_heardNow m_seenAt m_fewest m_costNow m_costThen m_lawsOf m_heardBy m_placesOf m_sentIn m_lostBy m_many m_width m_numbers m_moving (fun _ => 0) (xs 1) ) hP hD hS hA hK hN [2, 3, 4] [0, 1] rfl rfl (by decide) (by decide) (by decide) (cvB (n := 1) (inr28 _ (List.mem_of_getElem? (i := 3) rfl)) (inr28 _ (List.mem_of_getElem? (i := 4) rfl)) (inr28 _ (List.mem_of_getElem? (i := 5) rfl)) (inr1 _ (List.mem_of_getElem? (i := 5) rfl)) (inr28 _ (List.mem_of_getElem? (i := 6) rfl)) (by decide +kernel) hts rfl rfl ⟨Nat.le_of_ble_eq_true rfl, Nat.le_of_ble_eq_true rfl⟩) 0 12 rfl rfl rfl rfl hl.1 rfl (Nat.le_of_ble_eq_true rfl) ⟨Nat.le_of_ble_eq_true rfl, Nat.le_of_ble_eq_true rfl⟩ dL_law_607 (fun r_3 x9 H locs h_4 hP hD hS => ?_)
  have hP : va_P D vwCl [(x0, .inr (11, [.ref r_tape, .ref r_reader, .ref r_now, .ref r_trial, .ref r_images, .ref r_kept, .ref r_slots, .ref r_night, .ref r_other, .ref r_circle, .ref r_words, .ref r_law, .ref r_place, .ref r_drawn])), (r_now, .inr (8, [.int 0, .int 0, .int 0, .int 0, .int 0, .int 0, .int 0, .ref n_signs, .int 0, .ref n_posts, .int 0, .ref n_acts]))] H := hP
  have hD : va_D (fun q : Nat => s.heap.size ≤ q) [(x0, .inr (11, [.ref r_tape, .ref r_reader, .ref r_now, .ref r_trial, .ref r_images, .ref r_kept, .ref r_slots, .ref r_night, .ref r_other, .ref r_circle, .ref r_words, .ref r_law, .ref r_place, .ref r_drawn])), (r_now, .inr (8, [.int 0, .int 0, .int 0, .int 0, .int 0, .int 0, .int 0, .ref n_signs, .int 0, .ref n_posts, .int 0, .ref n_acts]))] := hD
  obtain rfl := h_4
  refine lv_icmp_eq (tgt := 2116) hx hb dL_law_610 (by decide) (fun _ => ?_) (fun c0 => absurd c0 (by decide))
  exact law_end C0 hK hN (Nat.le_of_ble_eq_true rfl) (Nat.le_of_ble_eq_true rfl) hS (lv_sub hl [0, 1, 2, 3] rfl)

set_option maxHeartbeats 4000000 in
set_option maxRecDepth 100000 in
theorem law_11 {p : Program} {l : Launch} {e : Env} {s : State} {m : MethodId} {below : List Frame} {meth : Method} {c : Code} {D : va_G} {cB cI cJ cZ cS cT : ClassId} {b : Nat} {xs : Nat → Int32} (C0 : lw_At p s m meth c b 6 xs) (hK : va_K D vwCl (tyL cB cI cJ cZ cS cT) s) (hN : kN s) {H : Heap} {locs : List Loc} {x0 : Nat} {m0 : Nat} {r_tape : Nat} {r_reader : Nat} {r_now : Nat} {r_trial : Nat} {r_images : Nat} {r_kept : Nat} {r_slots : Nat} {r_night : Nat} {r_other : Nat} {r_circle : Nat} {r_words : Nat} {r_law : Nat} {r_place : Nat} {r_drawn : Nat} {n_signs : Nat} {n_posts : Nat} {n_acts : Nat} {m_world : Nat} {m_images : Nat} {m_hasImage : Nat} {m_tape : Nat} {m_five : Nat} {m_fresh : Nat} {m_spokenAt : Nat} {m_heardAt : Nat} {m_lastAt : Nat} {m_answerAt : Nat} {m_heardNow : Nat} {m_seenAt : Nat} {m_fewest : Nat} {m_costNow : Nat} {m_costThen : Nat} {m_lawsOf : Nat} {m_heardBy : Nat} {m_placesOf : Nat} {m_sentIn : Nat} {m_lostBy : Nat} {m_many : Nat} {m_width : Nat} {m_numbers : Nat} {m_moving : Nat} (hP : va_P D vwCl [(x0, .inr (11, [.ref r_tape, .ref r_reader, .ref r_now, .ref r_trial, .ref r_images, .ref r_kept, .ref r_slots, .ref r_night, .ref r_other, .ref r_circle, .ref r_words, .ref r_law, .ref r_place, .ref r_drawn])), (r_now, .inr (8, [.int 0, .int 0, .int 0, .int 0, .int 0, .int 0, .int 0, .ref n_signs, .int 0, .ref n_posts, .int 0, .ref n_acts])), (m0, .inr (12, [.int 0, .ref m_world, .ref m_images, .ref m_hasImage, .ref m_tape, .int 0, .ref m_five, .int 0, .int 0, .int 0, .int 0, .int 0, .int 0, .int (-1), .ref m_fresh, .ref m_spokenAt, .ref m_heardAt, .ref m_lastAt, .ref m_answerAt, .int 0, .int 0, .int 0, .long 0, .int 0, .int 0, .ref m_heardNow, .ref m_seenAt, .int 0, .int 0, .int 0, .int 0, .int 0, .ref m_fewest, .ref m_costNow, .ref m_costThen, .ref m_lawsOf, .ref m_heardBy, .int 0, .int 0, .ref m_placesOf, .ref m_sentIn, .int 0, .int 0, .ref m_lostBy, .ref m_many, .ref m_width, .ref m_numbers, .ref m_moving])), (m_world, .inl (cI, 53, .inl (fun _ => 0))), (m_spokenAt, .inl (cI, 61, .inl (fun _ => 0)))] H) (hD : va_D (fun q : Nat => s.heap.size ≤ q) [(x0, .inr (11, [.ref r_tape, .ref r_reader, .ref r_now, .ref r_trial, .ref r_images, .ref r_kept, .ref r_slots, .ref r_night, .ref r_other, .ref r_circle, .ref r_words, .ref r_law, .ref r_place, .ref r_drawn])), (r_now, .inr (8, [.int 0, .int 0, .int 0, .int 0, .int 0, .int 0, .int 0, .ref n_signs, .int 0, .ref n_posts, .int 0, .ref n_acts])), (m0, .inr (12, [.int 0, .ref m_world, .ref m_images, .ref m_hasImage, .ref m_tape, .int 0, .ref m_five, .int 0, .int 0, .int 0, .int 0, .int 0, .int 0, .int (-1), .ref m_fresh, .ref m_spokenAt, .ref m_heardAt, .ref m_lastAt, .ref m_answerAt, .int 0, .int 0, .int 0, .long 0, .int 0, .int 0, .ref m_heardNow, .ref m_seenAt, .int 0, .int 0, .int 0, .int 0, .int 0, .ref m_fewest, .ref m_costNow, .ref m_costThen, .ref m_lawsOf, .ref m_heardBy, .int 0, .int 0, .ref m_placesOf, .ref m_sentIn, .int 0, .int 0, .ref m_lostBy, .ref m_many, .ref m_width, .ref m_numbers, .ref m_moving])), (m_world, .inl (cI, 53, .inl (fun _ => 0))), (m_spokenAt, .inl (cI, 61, .inl (fun _ => 0)))]) (hS : va_S (fun q : Nat => s.heap.size ≤ q) s.heap H locs) {ls : Array Slot} (hl : lv_has ls 4 [(0, .ref b), (1, .ref x0), (2, .ref m0), (3, .int 0)]) : W p l e room_1 s m #[Value.ref b] below meth c H locs 118 60870 (lw_Z below #[Value.ref b] s) (F0 m 615 ls []) := by
  obtain ⟨hx, hb, hr, hml, hown, hts0, hX, hbl, hlocks, hgv⟩ := id C0
  have hts : ∀ w ∈ wsL_law, w.before #[Value.ref b] s = true := fun w h => hts0 w (wsL_law_in w h)
  have hA : ∀ q : Nat, s.heap.size ≤ q → (fun q : Nat => s.heap.size ≤ q) q := fun _ h => h
  have hbA : ¬ (fun q : Nat => s.heap.size ≤ q) b := Nat.not_le.mpr hbl
  refine lv_aload_n hx hb dL_law_615 rfl (lv_at hl 1 rfl) ?_
  refine roi (As := []) (rest := []) ⟨hx, hb, hml, hown, hts⟩ (kx_wed l D cB cI cJ cZ cS cT x0 r_tape r_reader r_now r_trial r_images r_kept r_slots r_night r_other r_circle r_words r_law r_place r_drawn n_signs n_posts n_acts ) (cvB (n := 0) (inr28 _ (List.mem_of_getElem? (i := 15) rfl)) (inr28 _ (List.mem_of_getElem? (i := 16) rfl)) (inr28 _ (List.mem_of_getElem? (i := 17) rfl)) (inr1 _ (List.mem_of_getElem? (i := 2) rfl)) (inr28 _ (List.mem_of_getElem? (i := 18) rfl)) (by decide +kernel) hts rfl rfl ⟨Nat.le_of_ble_eq_true rfl, Nat.le_of_ble_eq_true rfl⟩) 0 11 rfl rfl rfl (hP.sub [0, 1] rfl) hK rfl hl.1 rfl (Nat.le_of_ble_eq_true rfl) ⟨Nat.le_of_ble_eq_true rfl, Nat.le_of_ble_eq_true rfl⟩ dL_law_616 (fun r_1 h_2 => ?_)
  obtain rfl := h_2
  refine lv_aload_n hx hb dL_law_619 rfl (lv_at hl 2 rfl) ?_
  refine wrVi (As := []) (rest := [.int (-2)]) (wr := [(x0, .inr (11, [.ref r_tape, .ref r_reader, .ref r_now, .ref r_trial, .ref r_images, .ref r_kept, .ref r_slots, .ref r_night, .ref r_other, .ref r_circle, .ref r_words, .ref r_law, .ref r_place, .ref r_drawn])), (r_now, .inr (8, [.int 0, .int 0, .int 0, .int 0, .int 0, .int 0, .int 0, .ref n_signs, .int 0, .ref n_posts, .int 0, .ref n_acts]))]) ⟨hx, hb, hml, hown, hts⟩ (km_wed l D cB cI cJ cZ cS cT H.size m0 m_world m_images m_hasImage m_tape m_five m_fresh m_spokenAt m_heardAt m_lastAt m_answerAt m_heardNow m_seenAt m_fewest m_costNow m_costThen m_lawsOf m_heardBy m_placesOf m_sentIn m_lostBy m_many m_width m_numbers m_moving (fun _ => 0) ) hP hD hS hA hK hN [2, 3, 4] [0, 1] rfl rfl (by decide) (by decide) (by decide) (cvB (n := 0) (inr28 _ (List.mem_of_getElem? (i := 23) rfl)) (inr29 _ (List.mem_of_getElem? (i := 0) rfl)) (inr29 _ (List.mem_of_getElem? (i := 1) rfl)) (inr1 _ (List.mem_of_getElem? (i := 5) rfl)) (inr29 _ (List.mem_of_getElem? (i := 2) rfl)) (by decide +kernel) hts rfl rfl ⟨Nat.le_of_ble_eq_true rfl, Nat.le_of_ble_eq_true rfl⟩) 0 12 rfl rfl rfl rfl hl.1 rfl (Nat.le_of_ble_eq_true rfl) ⟨Nat.le_of_ble_eq_true rfl, Nat.le_of_ble_eq_true rfl⟩ dL_law_620 (fun r_3 x9 H locs h_4 hP hD hS => ?_)
  have hP : va_P D vwCl [(x0, .inr (11, [.ref r_tape, .ref r_reader, .ref r_now, .ref r_trial, .ref r_images, .ref r_kept, .ref r_slots, .ref r_night, .ref r_other, .ref r_circle, .ref r_words, .ref r_law, .ref r_place, .ref r_drawn])), (r_now, .inr (8, [.int 0, .int 0, .int 0, .int 0, .int 0, .int 0, .int 0, .ref n_signs, .int 0, .ref n_posts, .int 0, .ref n_acts]))] H := hP
  have hD : va_D (fun q : Nat => s.heap.size ≤ q) [(x0, .inr (11, [.ref r_tape, .ref r_reader, .ref r_now, .ref r_trial, .ref r_images, .ref r_kept, .ref r_slots, .ref r_night, .ref r_other, .ref r_circle, .ref r_words, .ref r_law, .ref r_place, .ref r_drawn])), (r_now, .inr (8, [.int 0, .int 0, .int 0, .int 0, .int 0, .int 0, .int 0, .ref n_signs, .int 0, .ref n_posts, .int 0, .ref n_acts]))] := hD
  obtain rfl := h_4
  refine lv_icmp_eq (tgt := 2116) hx hb dL_law_623 (by decide) (fun _ => ?_) (fun c0 => absurd c0 (by decide))
  exact law_end C0 hK hN (Nat.le_of_ble_eq_true rfl) (Nat.le_of_ble_eq_true rfl) hS (lv_sub hl [0, 1, 2, 3] rfl)

set_option maxHeartbeats 4000000 in
set_option maxRecDepth 100000 in
theorem law_12 {p : Program} {l : Launch} {e : Env} {s : State} {m : MethodId} {below : List Frame} {meth : Method} {c : Code} {D : va_G} {cB cI cJ cZ cS cT : ClassId} {b : Nat} {xs : Nat → Int32} (C0 : lw_At p s m meth c b 6 xs) (hK : va_K D vwCl (tyL cB cI cJ cZ cS cT) s) (hN : kN s) {H : Heap} {locs : List Loc} {x0 : Nat} {m0 : Nat} {r_tape : Nat} {r_reader : Nat} {r_now : Nat} {r_trial : Nat} {r_images : Nat} {r_kept : Nat} {r_slots : Nat} {r_night : Nat} {r_other : Nat} {r_circle : Nat} {r_words : Nat} {r_law : Nat} {r_place : Nat} {r_drawn : Nat} {n_signs : Nat} {n_posts : Nat} {n_acts : Nat} {m_world : Nat} {m_images : Nat} {m_hasImage : Nat} {m_tape : Nat} {m_five : Nat} {m_fresh : Nat} {m_spokenAt : Nat} {m_heardAt : Nat} {m_lastAt : Nat} {m_answerAt : Nat} {m_heardNow : Nat} {m_seenAt : Nat} {m_fewest : Nat} {m_costNow : Nat} {m_costThen : Nat} {m_lawsOf : Nat} {m_heardBy : Nat} {m_placesOf : Nat} {m_sentIn : Nat} {m_lostBy : Nat} {m_many : Nat} {m_width : Nat} {m_numbers : Nat} {m_moving : Nat} (hP : va_P D vwCl [(x0, .inr (11, [.ref r_tape, .ref r_reader, .ref r_now, .ref r_trial, .ref r_images, .ref r_kept, .ref r_slots, .ref r_night, .ref r_other, .ref r_circle, .ref r_words, .ref r_law, .ref r_place, .ref r_drawn])), (r_now, .inr (8, [.int 0, .int 0, .int 0, .int 0, .int 0, .int 0, .int 0, .ref n_signs, .int 0, .ref n_posts, .int 0, .ref n_acts])), (m0, .inr (12, [.int 0, .ref m_world, .ref m_images, .ref m_hasImage, .ref m_tape, .int 0, .ref m_five, .int 0, .int 0, .int 0, .int 0, .int 0, .int 0, .int (-1), .ref m_fresh, .ref m_spokenAt, .ref m_heardAt, .ref m_lastAt, .ref m_answerAt, .int 0, .int 0, .int 0, .long 0, .int 0, .int 0, .ref m_heardNow, .ref m_seenAt, .int 0, .int 0, .int 0, .int 0, .int 0, .ref m_fewest, .ref m_costNow, .ref m_costThen, .ref m_lawsOf, .ref m_heardBy, .int 0, .int 0, .ref m_placesOf, .ref m_sentIn, .int 0, .int 0, .ref m_lostBy, .ref m_many, .ref m_width, .ref m_numbers, .ref m_moving])), (m_world, .inl (cI, 53, .inl (fun _ => 0))), (m_spokenAt, .inl (cI, 61, .inl (fun _ => 0)))] H) (hD : va_D (fun q : Nat => s.heap.size ≤ q) [(x0, .inr (11, [.ref r_tape, .ref r_reader, .ref r_now, .ref r_trial, .ref r_images, .ref r_kept, .ref r_slots, .ref r_night, .ref r_other, .ref r_circle, .ref r_words, .ref r_law, .ref r_place, .ref r_drawn])), (r_now, .inr (8, [.int 0, .int 0, .int 0, .int 0, .int 0, .int 0, .int 0, .ref n_signs, .int 0, .ref n_posts, .int 0, .ref n_acts])), (m0, .inr (12, [.int 0, .ref m_world, .ref m_images, .ref m_hasImage, .ref m_tape, .int 0, .ref m_five, .int 0, .int 0, .int 0, .int 0, .int 0, .int 0, .int (-1), .ref m_fresh, .ref m_spokenAt, .ref m_heardAt, .ref m_lastAt, .ref m_answerAt, .int 0, .int 0, .int 0, .long 0, .int 0, .int 0, .ref m_heardNow, .ref m_seenAt, .int 0, .int 0, .int 0, .int 0, .int 0, .ref m_fewest, .ref m_costNow, .ref m_costThen, .ref m_lawsOf, .ref m_heardBy, .int 0, .int 0, .ref m_placesOf, .ref m_sentIn, .int 0, .int 0, .ref m_lostBy, .ref m_many, .ref m_width, .ref m_numbers, .ref m_moving])), (m_world, .inl (cI, 53, .inl (fun _ => 0))), (m_spokenAt, .inl (cI, 61, .inl (fun _ => 0)))]) (hS : va_S (fun q : Nat => s.heap.size ≤ q) s.heap H locs) {ls : Array Slot} (hl : lv_has ls 4 [(0, .ref b), (1, .ref x0), (2, .ref m0), (3, .int 0)]) : W p l e room_1 s m #[Value.ref b] below meth c H locs 118 60870 (lw_Z below #[Value.ref b] s) (F0 m 628 ls []) := by
  obtain ⟨hx, hb, hr, hml, hown, hts0, hX, hbl, hlocks, hgv⟩ := id C0
  have hts : ∀ w ∈ wsL_law, w.before #[Value.ref b] s = true := fun w h => hts0 w (wsL_law_in w h)
  have hA : ∀ q : Nat, s.heap.size ≤ q → (fun q : Nat => s.heap.size ≤ q) q := fun _ h => h
  have hbA : ¬ (fun q : Nat => s.heap.size ≤ q) b := Nat.not_le.mpr hbl
  refine lv_aload_n hx hb dL_law_628 rfl (lv_at hl 1 rfl) ?_
  refine lv_aload_n hx hb dL_law_629 rfl (lv_at hl 0 rfl) ?_
  refine lv_iload_n hx hb dL_law_630 rfl (lv_at hl 3 rfl) ?_
  refine lv_iconst (v := 1) hx hb dL_law_631 (by decide) ?_
  refine z_iadd (v := 1) hx hb dL_law_632 (by decide) ?_
  refine va_sld hx hb hX hbl hbA hS (by unfold vp_in; decide) dL_law_633 ?_
  refine W.eq (g2 := F0 m 634 ls [.int (xs 1), .ref x0]) rfl ?_
  refine roi (As := [.int (xs 1)]) (rest := []) ⟨hx, hb, hml, hown, hts⟩ (kx_first l D cB cI cJ cZ cS cT x0 r_tape r_reader r_now r_trial r_images r_kept r_slots r_night r_other r_circle r_words r_law r_place r_drawn n_signs n_posts n_acts (xs 1) ) (cvB (n := 1) (inr29 _ (List.mem_of_getElem? (i := 7) rfl)) (inr29 _ (List.mem_of_getElem? (i := 8) rfl)) (inr29 _ (List.mem_of_getElem? (i := 9) rfl)) (inr1 _ (List.mem_of_getElem? (i := 2) rfl)) (inr29 _ (List.mem_of_getElem? (i := 10) rfl)) (by decide +kernel) hts rfl rfl ⟨Nat.le_of_ble_eq_true rfl, Nat.le_of_ble_eq_true rfl⟩) 0 11 rfl rfl rfl (hP.sub [0, 1] rfl) hK rfl hl.1 rfl (Nat.le_of_ble_eq_true rfl) ⟨Nat.le_of_ble_eq_true rfl, Nat.le_of_ble_eq_true rfl⟩ dL_law_634 (fun r_1 h_2 => ?_)
  obtain rfl := h_2
  refine lv_aload_n hx hb dL_law_637 rfl (lv_at hl 2 rfl) ?_
  refine lv_aload_n hx hb dL_law_638 rfl (lv_at hl 0 rfl) ?_
  refine lv_iload_n hx hb dL_law_639 rfl (lv_at hl 3 rfl) ?_
  refine lv_iconst (v := 1) hx hb dL_law_640 (by decide) ?_
  refine z_iadd (v := 1) hx hb dL_law_641 (by decide) ?_
  refine va_sld hx hb hX hbl hbA hS (by unfold vp_in; decide) dL_law_642 ?_
  refine W.eq (g2 := F0 m 643 ls [.int (xs 1), .ref m0, .int (-2)]) rfl ?_
  refine wrVi (As := [.int (xs 1)]) (rest := [.int (-2)]) (wr := [(x0, .inr (11, [.ref r_tape, .ref r_reader, .ref r_now, .ref r_trial, .ref r_images, .ref r_kept, .ref r_slots, .ref r_night, .ref r_other, .ref r_circle, .ref r_words, .ref r_law, .ref r_place, .ref r_drawn])), (r_now, .inr (8, [.int 0, .int 0, .int 0, .int 0, .int 0, .int 0, .int 0, .ref n_signs, .int 0, .ref n_posts, .int 0, .ref n_acts]))]) ⟨hx, hb, hml, hown, hts⟩ (km_first l D cB cI cJ cZ cS cT H.size m0 m_world m_images m_hasImage m_tape m_five m_fresh m_spokenAt m_heardAt m_lastAt m_answerAt m_heardNow m_seenAt m_fewest m_costNow m_costThen m_lawsOf m_heardBy m_placesOf m_sentIn m_lostBy m_many m_width m_numbers m_moving (fun _ => 0) (xs 1) ) hP hD hS hA hK hN [2, 3, 4] [0, 1] rfl rfl (by decide) (by decide) (by decide) (cvB (n := 1) (inr29 _ (List.mem_of_getElem? (i := 20) rfl)) (inr29 _ (List.mem_of_getElem? (i := 21) rfl)) (inr29 _ (List.mem_of_getElem? (i := 22) rfl)) (inr1 _ (List.mem_of_getElem? (i := 5) rfl)) (inr29 _ (List.mem_of_getElem? (i := 23) rfl)) (by decide +kernel) hts rfl rfl ⟨Nat.le_of_ble_eq_true rfl, Nat.le_of_ble_eq_true rfl⟩) 0 12 rfl rfl rfl rfl hl.1 rfl (Nat.le_of_ble_eq_true rfl) ⟨Nat.le_of_ble_eq_true rfl, Nat.le_of_ble_eq_true rfl⟩ dL_law_643 (fun r_3 x9 H locs h_4 hP hD hS => ?_)
  have hP : va_P D vwCl [(x0, .inr (11, [.ref r_tape, .ref r_reader, .ref r_now, .ref r_trial, .ref r_images, .ref r_kept, .ref r_slots, .ref r_night, .ref r_other, .ref r_circle, .ref r_words, .ref r_law, .ref r_place, .ref r_drawn])), (r_now, .inr (8, [.int 0, .int 0, .int 0, .int 0, .int 0, .int 0, .int 0, .ref n_signs, .int 0, .ref n_posts, .int 0, .ref n_acts]))] H := hP
  have hD : va_D (fun q : Nat => s.heap.size ≤ q) [(x0, .inr (11, [.ref r_tape, .ref r_reader, .ref r_now, .ref r_trial, .ref r_images, .ref r_kept, .ref r_slots, .ref r_night, .ref r_other, .ref r_circle, .ref r_words, .ref r_law, .ref r_place, .ref r_drawn])), (r_now, .inr (8, [.int 0, .int 0, .int 0, .int 0, .int 0, .int 0, .int 0, .ref n_signs, .int 0, .ref n_posts, .int 0, .ref n_acts]))] := hD
  obtain rfl := h_4
  refine lv_icmp_eq (tgt := 2116) hx hb dL_law_646 (by decide) (fun _ => ?_) (fun c0 => absurd c0 (by decide))
  exact law_end C0 hK hN (Nat.le_of_ble_eq_true rfl) (Nat.le_of_ble_eq_true rfl) hS (lv_sub hl [0, 1, 2, 3] rfl)

set_option maxHeartbeats 4000000 in
set_option maxRecDepth 100000 in
theorem law_13 {p : Program} {l : Launch} {e : Env} {s : State} {m : MethodId} {below : List Frame} {meth : Method} {c : Code} {D : va_G} {cB cI cJ cZ cS cT : ClassId} {b : Nat} {xs : Nat → Int32} (C0 : lw_At p s m meth c b 6 xs) (hK : va_K D vwCl (tyL cB cI cJ cZ cS cT) s) (hN : kN s) {H : Heap} {locs : List Loc} {x0 : Nat} {m0 : Nat} {r_tape : Nat} {r_reader : Nat} {r_now : Nat} {r_trial : Nat} {r_images : Nat} {r_kept : Nat} {r_slots : Nat} {r_night : Nat} {r_other : Nat} {r_circle : Nat} {r_words : Nat} {r_law : Nat} {r_place : Nat} {r_drawn : Nat} {n_signs : Nat} {n_posts : Nat} {n_acts : Nat} {m_world : Nat} {m_images : Nat} {m_hasImage : Nat} {m_tape : Nat} {m_five : Nat} {m_fresh : Nat} {m_spokenAt : Nat} {m_heardAt : Nat} {m_lastAt : Nat} {m_answerAt : Nat} {m_heardNow : Nat} {m_seenAt : Nat} {m_fewest : Nat} {m_costNow : Nat} {m_costThen : Nat} {m_lawsOf : Nat} {m_heardBy : Nat} {m_placesOf : Nat} {m_sentIn : Nat} {m_lostBy : Nat} {m_many : Nat} {m_width : Nat} {m_numbers : Nat} {m_moving : Nat} (hP : va_P D vwCl [(x0, .inr (11, [.ref r_tape, .ref r_reader, .ref r_now, .ref r_trial, .ref r_images, .ref r_kept, .ref r_slots, .ref r_night, .ref r_other, .ref r_circle, .ref r_words, .ref r_law, .ref r_place, .ref r_drawn])), (r_now, .inr (8, [.int 0, .int 0, .int 0, .int 0, .int 0, .int 0, .int 0, .ref n_signs, .int 0, .ref n_posts, .int 0, .ref n_acts])), (m0, .inr (12, [.int 0, .ref m_world, .ref m_images, .ref m_hasImage, .ref m_tape, .int 0, .ref m_five, .int 0, .int 0, .int 0, .int 0, .int 0, .int 0, .int (-1), .ref m_fresh, .ref m_spokenAt, .ref m_heardAt, .ref m_lastAt, .ref m_answerAt, .int 0, .int 0, .int 0, .long 0, .int 0, .int 0, .ref m_heardNow, .ref m_seenAt, .int 0, .int 0, .int 0, .int 0, .int 0, .ref m_fewest, .ref m_costNow, .ref m_costThen, .ref m_lawsOf, .ref m_heardBy, .int 0, .int 0, .ref m_placesOf, .ref m_sentIn, .int 0, .int 0, .ref m_lostBy, .ref m_many, .ref m_width, .ref m_numbers, .ref m_moving])), (m_world, .inl (cI, 53, .inl (fun _ => 0))), (m_spokenAt, .inl (cI, 61, .inl (fun _ => 0)))] H) (hD : va_D (fun q : Nat => s.heap.size ≤ q) [(x0, .inr (11, [.ref r_tape, .ref r_reader, .ref r_now, .ref r_trial, .ref r_images, .ref r_kept, .ref r_slots, .ref r_night, .ref r_other, .ref r_circle, .ref r_words, .ref r_law, .ref r_place, .ref r_drawn])), (r_now, .inr (8, [.int 0, .int 0, .int 0, .int 0, .int 0, .int 0, .int 0, .ref n_signs, .int 0, .ref n_posts, .int 0, .ref n_acts])), (m0, .inr (12, [.int 0, .ref m_world, .ref m_images, .ref m_hasImage, .ref m_tape, .int 0, .ref m_five, .int 0, .int 0, .int 0, .int 0, .int 0, .int 0, .int (-1), .ref m_fresh, .ref m_spokenAt, .ref m_heardAt, .ref m_lastAt, .ref m_answerAt, .int 0, .int 0, .int 0, .long 0, .int 0, .int 0, .ref m_heardNow, .ref m_seenAt, .int 0, .int 0, .int 0, .int 0, .int 0, .ref m_fewest, .ref m_costNow, .ref m_costThen, .ref m_lawsOf, .ref m_heardBy, .int 0, .int 0, .ref m_placesOf, .ref m_sentIn, .int 0, .int 0, .ref m_lostBy, .ref m_many, .ref m_width, .ref m_numbers, .ref m_moving])), (m_world, .inl (cI, 53, .inl (fun _ => 0))), (m_spokenAt, .inl (cI, 61, .inl (fun _ => 0)))]) (hS : va_S (fun q : Nat => s.heap.size ≤ q) s.heap H locs) {ls : Array Slot} (hl : lv_has ls 4 [(0, .ref b), (1, .ref x0), (2, .ref m0), (3, .int 0)]) : W p l e room_1 s m #[Value.ref b] below meth c H locs 118 60870 (lw_Z below #[Value.ref b] s) (F0 m 651 ls []) := by
  obtain ⟨hx, hb, hr, hml, hown, hts0, hX, hbl, hlocks, hgv⟩ := id C0
  have hts : ∀ w ∈ wsL_law, w.before #[Value.ref b] s = true := fun w h => hts0 w (wsL_law_in w h)
  have hA : ∀ q : Nat, s.heap.size ≤ q → (fun q : Nat => s.heap.size ≤ q) q := fun _ h => h
  have hbA : ¬ (fun q : Nat => s.heap.size ≤ q) b := Nat.not_le.mpr hbl
  refine lv_aload_n hx hb dL_law_651 rfl (lv_at hl 1 rfl) ?_
  refine lv_aload_n hx hb dL_law_652 rfl (lv_at hl 0 rfl) ?_
  refine lv_iload_n hx hb dL_law_653 rfl (lv_at hl 3 rfl) ?_
  refine lv_iconst (v := 1) hx hb dL_law_654 (by decide) ?_
  refine z_iadd (v := 1) hx hb dL_law_655 (by decide) ?_
  refine va_sld hx hb hX hbl hbA hS (by unfold vp_in; decide) dL_law_656 ?_
  refine W.eq (g2 := F0 m 657 ls [.int (xs 1), .ref x0]) rfl ?_
  refine lv_aload_n hx hb dL_law_657 rfl (lv_at hl 0 rfl) ?_
  refine lv_iload_n hx hb dL_law_658 rfl (lv_at hl 3 rfl) ?_
  refine lv_iconst (v := 2) hx hb dL_law_659 (by decide) ?_
  refine z_iadd (v := 2) hx hb dL_law_660 (by decide) ?_
  refine va_sld hx hb hX hbl hbA hS (by unfold vp_in; decide) dL_law_661 ?_
  refine W.eq (g2 := F0 m 662 ls [.int (xs 2), .int (xs 1), .ref x0]) rfl ?_
  refine roi (As := [.int (xs 1), .int (xs 2)]) (rest := []) ⟨hx, hb, hml, hown, hts⟩ (kx_often l D cB cI cJ cZ cS cT x0 r_tape r_reader r_now r_trial r_images r_kept r_slots r_night r_other r_circle r_words r_law r_place r_drawn n_signs n_posts n_acts (xs 1) (xs 2) ) (cvB (n := 2) (inr30 _ (List.mem_of_getElem? (i := 4) rfl)) (inr30 _ (List.mem_of_getElem? (i := 5) rfl)) (inr30 _ (List.mem_of_getElem? (i := 6) rfl)) (inr1 _ (List.mem_of_getElem? (i := 2) rfl)) (inr30 _ (List.mem_of_getElem? (i := 7) rfl)) (by decide +kernel) hts rfl rfl ⟨Nat.le_of_ble_eq_true rfl, Nat.le_of_ble_eq_true rfl⟩) 0 11 rfl rfl rfl (hP.sub [0, 1] rfl) hK rfl hl.1 rfl (Nat.le_of_ble_eq_true rfl) ⟨Nat.le_of_ble_eq_true rfl, Nat.le_of_ble_eq_true rfl⟩ dL_law_662 (fun r_1 h_2 => ?_)
  obtain rfl := h_2
  refine lv_aload_n hx hb dL_law_665 rfl (lv_at hl 2 rfl) ?_
  refine lv_aload_n hx hb dL_law_666 rfl (lv_at hl 0 rfl) ?_
  refine lv_iload_n hx hb dL_law_667 rfl (lv_at hl 3 rfl) ?_
  refine lv_iconst (v := 1) hx hb dL_law_668 (by decide) ?_
  refine z_iadd (v := 1) hx hb dL_law_669 (by decide) ?_
  refine va_sld hx hb hX hbl hbA hS (by unfold vp_in; decide) dL_law_670 ?_
  refine W.eq (g2 := F0 m 671 ls [.int (xs 1), .ref m0, .int (-2)]) rfl ?_
  refine lv_aload_n hx hb dL_law_671 rfl (lv_at hl 0 rfl) ?_
  refine lv_iload_n hx hb dL_law_672 rfl (lv_at hl 3 rfl) ?_
  refine lv_iconst (v := 2) hx hb dL_law_673 (by decide) ?_
  refine z_iadd (v := 2) hx hb dL_law_674 (by decide) ?_
  refine va_sld hx hb hX hbl hbA hS (by unfold vp_in; decide) dL_law_675 ?_
  refine W.eq (g2 := F0 m 676 ls [.int (xs 2), .int (xs 1), .ref m0, .int (-2)]) rfl ?_
  refine wrVi (As := [.int (xs 1), .int (xs 2)]) (rest := [.int (-2)]) (wr := [(x0, .inr (11, [.ref r_tape, .ref r_reader, .ref r_now, .ref r_trial, .ref r_images, .ref r_kept, .ref r_slots, .ref r_night, .ref r_other, .ref r_circle, .ref r_words, .ref r_law, .ref r_place, .ref r_drawn])), (r_now, .inr (8, [.int 0, .int 0, .int 0, .int 0, .int 0, .int 0, .int 0, .ref n_signs, .int 0, .ref n_posts, .int 0, .ref n_acts]))]) ⟨hx, hb, hml, hown, hts⟩ (km_often l D cB cI cJ cZ cS cT H.size m0 m_world m_images m_hasImage m_tape m_five m_fresh m_spokenAt m_heardAt m_lastAt m_answerAt m_heardNow m_seenAt m_fewest m_costNow m_costThen m_lawsOf m_heardBy m_placesOf m_sentIn m_lostBy m_many m_width m_numbers m_moving (fun _ => 0) (xs 1) (xs 2) ) hP hD hS hA hK hN [2, 3, 4] [0, 1] rfl rfl (by decide) (by decide) (by decide) (cvB (n := 2) (inr30 _ (List.mem_of_getElem? (i := 12) rfl)) (inr30 _ (List.mem_of_getElem? (i := 13) rfl)) (inr30 _ (List.mem_of_getElem? (i := 14) rfl)) (inr1 _ (List.mem_of_getElem? (i := 5) rfl)) (inr30 _ (List.mem_of_getElem? (i := 15) rfl)) (by decide +kernel) hts rfl rfl ⟨Nat.le_of_ble_eq_true rfl, Nat.le_of_ble_eq_true rfl⟩) 0 12 rfl rfl rfl rfl hl.1 rfl (Nat.le_of_ble_eq_true rfl) ⟨Nat.le_of_ble_eq_true rfl, Nat.le_of_ble_eq_true rfl⟩ dL_law_676 (fun r_3 x9 H locs h_4 hP hD hS => ?_)
  have hP : va_P D vwCl [(x0, .inr (11, [.ref r_tape, .ref r_reader, .ref r_now, .ref r_trial, .ref r_images, .ref r_kept, .ref r_slots, .ref r_night, .ref r_other, .ref r_circle, .ref r_words, .ref r_law, .ref r_place, .ref r_drawn])), (r_now, .inr (8, [.int 0, .int 0, .int 0, .int 0, .int 0, .int 0, .int 0, .ref n_signs, .int 0, .ref n_posts, .int 0, .ref n_acts]))] H := hP
  have hD : va_D (fun q : Nat => s.heap.size ≤ q) [(x0, .inr (11, [.ref r_tape, .ref r_reader, .ref r_now, .ref r_trial, .ref r_images, .ref r_kept, .ref r_slots, .ref r_night, .ref r_other, .ref r_circle, .ref r_words, .ref r_law, .ref r_place, .ref r_drawn])), (r_now, .inr (8, [.int 0, .int 0, .int 0, .int 0, .int 0, .int 0, .int 0, .ref n_signs, .int 0, .ref n_posts, .int 0, .ref n_acts]))] := hD
  obtain rfl := h_4
  refine lv_icmp_eq (tgt := 2116) hx hb dL_law_679 (by decide) (fun _ => ?_) (fun c0 => absurd c0 (by decide))
  exact law_end C0 hK hN (Nat.le_of_ble_eq_true rfl) (Nat.le_of_ble_eq_true rfl) hS (lv_sub hl [0, 1, 2, 3] rfl)

set_option maxHeartbeats 4000000 in
set_option maxRecDepth 100000 in
theorem law_14 {p : Program} {l : Launch} {e : Env} {s : State} {m : MethodId} {below : List Frame} {meth : Method} {c : Code} {D : va_G} {cB cI cJ cZ cS cT : ClassId} {b : Nat} {xs : Nat → Int32} (C0 : lw_At p s m meth c b 6 xs) (hK : va_K D vwCl (tyL cB cI cJ cZ cS cT) s) (hN : kN s) {H : Heap} {locs : List Loc} {x0 : Nat} {m0 : Nat} {r_tape : Nat} {r_reader : Nat} {r_now : Nat} {r_trial : Nat} {r_images : Nat} {r_kept : Nat} {r_slots : Nat} {r_night : Nat} {r_other : Nat} {r_circle : Nat} {r_words : Nat} {r_law : Nat} {r_place : Nat} {r_drawn : Nat} {n_signs : Nat} {n_posts : Nat} {n_acts : Nat} {m_world : Nat} {m_images : Nat} {m_hasImage : Nat} {m_tape : Nat} {m_five : Nat} {m_fresh : Nat} {m_spokenAt : Nat} {m_heardAt : Nat} {m_lastAt : Nat} {m_answerAt : Nat} {m_heardNow : Nat} {m_seenAt : Nat} {m_fewest : Nat} {m_costNow : Nat} {m_costThen : Nat} {m_lawsOf : Nat} {m_heardBy : Nat} {m_placesOf : Nat} {m_sentIn : Nat} {m_lostBy : Nat} {m_many : Nat} {m_width : Nat} {m_numbers : Nat} {m_moving : Nat} (hP : va_P D vwCl [(x0, .inr (11, [.ref r_tape, .ref r_reader, .ref r_now, .ref r_trial, .ref r_images, .ref r_kept, .ref r_slots, .ref r_night, .ref r_other, .ref r_circle, .ref r_words, .ref r_law, .ref r_place, .ref r_drawn])), (r_now, .inr (8, [.int 0, .int 0, .int 0, .int 0, .int 0, .int 0, .int 0, .ref n_signs, .int 0, .ref n_posts, .int 0, .ref n_acts])), (m0, .inr (12, [.int 0, .ref m_world, .ref m_images, .ref m_hasImage, .ref m_tape, .int 0, .ref m_five, .int 0, .int 0, .int 0, .int 0, .int 0, .int 0, .int (-1), .ref m_fresh, .ref m_spokenAt, .ref m_heardAt, .ref m_lastAt, .ref m_answerAt, .int 0, .int 0, .int 0, .long 0, .int 0, .int 0, .ref m_heardNow, .ref m_seenAt, .int 0, .int 0, .int 0, .int 0, .int 0, .ref m_fewest, .ref m_costNow, .ref m_costThen, .ref m_lawsOf, .ref m_heardBy, .int 0, .int 0, .ref m_placesOf, .ref m_sentIn, .int 0, .int 0, .ref m_lostBy, .ref m_many, .ref m_width, .ref m_numbers, .ref m_moving])), (m_world, .inl (cI, 53, .inl (fun _ => 0))), (m_spokenAt, .inl (cI, 61, .inl (fun _ => 0)))] H) (hD : va_D (fun q : Nat => s.heap.size ≤ q) [(x0, .inr (11, [.ref r_tape, .ref r_reader, .ref r_now, .ref r_trial, .ref r_images, .ref r_kept, .ref r_slots, .ref r_night, .ref r_other, .ref r_circle, .ref r_words, .ref r_law, .ref r_place, .ref r_drawn])), (r_now, .inr (8, [.int 0, .int 0, .int 0, .int 0, .int 0, .int 0, .int 0, .ref n_signs, .int 0, .ref n_posts, .int 0, .ref n_acts])), (m0, .inr (12, [.int 0, .ref m_world, .ref m_images, .ref m_hasImage, .ref m_tape, .int 0, .ref m_five, .int 0, .int 0, .int 0, .int 0, .int 0, .int 0, .int (-1), .ref m_fresh, .ref m_spokenAt, .ref m_heardAt, .ref m_lastAt, .ref m_answerAt, .int 0, .int 0, .int 0, .long 0, .int 0, .int 0, .ref m_heardNow, .ref m_seenAt, .int 0, .int 0, .int 0, .int 0, .int 0, .ref m_fewest, .ref m_costNow, .ref m_costThen, .ref m_lawsOf, .ref m_heardBy, .int 0, .int 0, .ref m_placesOf, .ref m_sentIn, .int 0, .int 0, .ref m_lostBy, .ref m_many, .ref m_width, .ref m_numbers, .ref m_moving])), (m_world, .inl (cI, 53, .inl (fun _ => 0))), (m_spokenAt, .inl (cI, 61, .inl (fun _ => 0)))]) (hS : va_S (fun q : Nat => s.heap.size ≤ q) s.heap H locs) {ls : Array Slot} (hl : lv_has ls 4 [(0, .ref b), (1, .ref x0), (2, .ref m0), (3, .int 0)]) : W p l e room_1 s m #[Value.ref b] below meth c H locs 118 60870 (lw_Z below #[Value.ref b] s) (F0 m 684 ls []) := by
  obtain ⟨hx, hb, hr, hml, hown, hts0, hX, hbl, hlocks, hgv⟩ := id C0
  have hts : ∀ w ∈ wsL_law, w.before #[Value.ref b] s = true := fun w h => hts0 w (wsL_law_in w h)
  have hA : ∀ q : Nat, s.heap.size ≤ q → (fun q : Nat => s.heap.size ≤ q) q := fun _ h => h
  have hbA : ¬ (fun q : Nat => s.heap.size ≤ q) b := Nat.not_le.mpr hbl
  refine lv_aload_n hx hb dL_law_684 rfl (lv_at hl 1 rfl) ?_
  refine lv_aload_n hx hb dL_law_685 rfl (lv_at hl 0 rfl) ?_
  refine lv_iload_n hx hb dL_law_686 rfl (lv_at hl 3 rfl) ?_
  refine lv_iconst (v := 1) hx hb dL_law_687 (by decide) ?_
  refine z_iadd (v := 1) hx hb dL_law_688 (by decide) ?_
  refine va_sld hx hb hX hbl hbA hS (by unfold vp_in; decide) dL_law_689 ?_
  refine W.eq (g2 := F0 m 690 ls [.int (xs 1), .ref x0]) rfl ?_
  refine roi (As := [.int (xs 1)]) (rest := []) ⟨hx, hb, hml, hown, hts⟩ (kx_all l D cB cI cJ cZ cS cT x0 r_tape r_reader r_now r_trial r_images r_kept r_slots r_night r_other r_circle r_words r_law r_place r_drawn n_signs n_posts n_acts (xs 1) ) (cvB (n := 1) (inr30 _ (List.mem_of_getElem? (i := 20) rfl)) (inr30 _ (List.mem_of_getElem? (i := 21) rfl)) (inr30 _ (List.mem_of_getElem? (i := 22) rfl)) (inr1 _ (List.mem_of_getElem? (i := 2) rfl)) (inr30 _ (List.mem_of_getElem? (i := 23) rfl)) (by decide +kernel) hts rfl rfl ⟨Nat.le_of_ble_eq_true rfl, Nat.le_of_ble_eq_true rfl⟩) 0 11 rfl rfl rfl (hP.sub [0, 1] rfl) hK rfl hl.1 rfl (Nat.le_of_ble_eq_true rfl) ⟨Nat.le_of_ble_eq_true rfl, Nat.le_of_ble_eq_true rfl⟩ dL_law_690 (fun r_1 h_2 => ?_)
  obtain rfl := h_2
  refine lv_aload_n hx hb dL_law_693 rfl (lv_at hl 2 rfl) ?_
  refine lv_aload_n hx hb dL_law_694 rfl (lv_at hl 0 rfl) ?_
  refine lv_iload_n hx hb dL_law_695 rfl (lv_at hl 3 rfl) ?_
  refine lv_iconst (v := 1) hx hb dL_law_696 (by decide) ?_
  refine z_iadd (v := 1) hx hb dL_law_697 (by decide) ?_
  refine va_sld hx hb hX hbl hbA hS (by unfold vp_in; decide) dL_law_698 ?_
  refine W.eq (g2 := F0 m 699 ls [.int (xs 1), .ref m0, .int (-2)]) rfl ?_
  refine wrVi (As := [.int (xs 1)]) (rest := [.int (-2)]) (wr := [(x0, .inr (11, [.ref r_tape, .ref r_reader, .ref r_now, .ref r_trial, .ref r_images, .ref r_kept, .ref r_slots, .ref r_night, .ref r_other, .ref r_circle, .ref r_words, .ref r_law, .ref r_place, .ref r_drawn])), (r_now, .inr (8, [.int 0, .int 0, .int 0, .int 0, .int 0, .int 0, .int 0, .ref n_signs, .int 0, .ref n_posts, .int 0, .ref n_acts]))]) ⟨hx, hb, hml, hown, hts⟩ (km_all l D cB cI cJ cZ cS cT H.size m0 m_world m_images m_hasImage m_tape m_five m_fresh m_spokenAt m_heardAt m_lastAt m_answerAt m_heardNow m_seenAt m_fewest m_costNow m_costThen m_lawsOf m_heardBy m_placesOf m_sentIn m_lostBy m_many m_width m_numbers m_moving (fun _ => 0) (xs 1) ) hP hD hS hA hK hN [2, 3, 4] [0, 1] rfl rfl (by decide) (by decide) (by decide) (cvB (n := 1) (inr31 _ (List.mem_of_getElem? (i := 4) rfl)) (inr31 _ (List.mem_of_getElem? (i := 5) rfl)) (inr31 _ (List.mem_of_getElem? (i := 6) rfl)) (inr1 _ (List.mem_of_getElem? (i := 5) rfl)) (inr31 _ (List.mem_of_getElem? (i := 7) rfl)) (by decide +kernel) hts rfl rfl ⟨Nat.le_of_ble_eq_true rfl, Nat.le_of_ble_eq_true rfl⟩) 0 12 rfl rfl rfl rfl hl.1 rfl (Nat.le_of_ble_eq_true rfl) ⟨Nat.le_of_ble_eq_true rfl, Nat.le_of_ble_eq_true rfl⟩ dL_law_699 (fun r_3 x9 H locs h_4 hP hD hS => ?_)
  have hP : va_P D vwCl [(x0, .inr (11, [.ref r_tape, .ref r_reader, .ref r_now, .ref r_trial, .ref r_images, .ref r_kept, .ref r_slots, .ref r_night, .ref r_other, .ref r_circle, .ref r_words, .ref r_law, .ref r_place, .ref r_drawn])), (r_now, .inr (8, [.int 0, .int 0, .int 0, .int 0, .int 0, .int 0, .int 0, .ref n_signs, .int 0, .ref n_posts, .int 0, .ref n_acts]))] H := hP
  have hD : va_D (fun q : Nat => s.heap.size ≤ q) [(x0, .inr (11, [.ref r_tape, .ref r_reader, .ref r_now, .ref r_trial, .ref r_images, .ref r_kept, .ref r_slots, .ref r_night, .ref r_other, .ref r_circle, .ref r_words, .ref r_law, .ref r_place, .ref r_drawn])), (r_now, .inr (8, [.int 0, .int 0, .int 0, .int 0, .int 0, .int 0, .int 0, .ref n_signs, .int 0, .ref n_posts, .int 0, .ref n_acts]))] := hD
  obtain rfl := h_4
  refine lv_icmp_eq (tgt := 2116) hx hb dL_law_702 (by decide) (fun _ => ?_) (fun c0 => absurd c0 (by decide))
  exact law_end C0 hK hN (Nat.le_of_ble_eq_true rfl) (Nat.le_of_ble_eq_true rfl) hS (lv_sub hl [0, 1, 2, 3] rfl)

set_option maxHeartbeats 4000000 in
set_option maxRecDepth 100000 in
theorem law_15 {p : Program} {l : Launch} {e : Env} {s : State} {m : MethodId} {below : List Frame} {meth : Method} {c : Code} {D : va_G} {cB cI cJ cZ cS cT : ClassId} {b : Nat} {xs : Nat → Int32} (C0 : lw_At p s m meth c b 6 xs) (hK : va_K D vwCl (tyL cB cI cJ cZ cS cT) s) (hN : kN s) {H : Heap} {locs : List Loc} {x0 : Nat} {m0 : Nat} {r_tape : Nat} {r_reader : Nat} {r_now : Nat} {r_trial : Nat} {r_images : Nat} {r_kept : Nat} {r_slots : Nat} {r_night : Nat} {r_other : Nat} {r_circle : Nat} {r_words : Nat} {r_law : Nat} {r_place : Nat} {r_drawn : Nat} {n_signs : Nat} {n_posts : Nat} {n_acts : Nat} {m_world : Nat} {m_images : Nat} {m_hasImage : Nat} {m_tape : Nat} {m_five : Nat} {m_fresh : Nat} {m_spokenAt : Nat} {m_heardAt : Nat} {m_lastAt : Nat} {m_answerAt : Nat} {m_heardNow : Nat} {m_seenAt : Nat} {m_fewest : Nat} {m_costNow : Nat} {m_costThen : Nat} {m_lawsOf : Nat} {m_heardBy : Nat} {m_placesOf : Nat} {m_sentIn : Nat} {m_lostBy : Nat} {m_many : Nat} {m_width : Nat} {m_numbers : Nat} {m_moving : Nat} (hP : va_P D vwCl [(x0, .inr (11, [.ref r_tape, .ref r_reader, .ref r_now, .ref r_trial, .ref r_images, .ref r_kept, .ref r_slots, .ref r_night, .ref r_other, .ref r_circle, .ref r_words, .ref r_law, .ref r_place, .ref r_drawn])), (r_now, .inr (8, [.int 0, .int 0, .int 0, .int 0, .int 0, .int 0, .int 0, .ref n_signs, .int 0, .ref n_posts, .int 0, .ref n_acts])), (m0, .inr (12, [.int 0, .ref m_world, .ref m_images, .ref m_hasImage, .ref m_tape, .int 0, .ref m_five, .int 0, .int 0, .int 0, .int 0, .int 0, .int 0, .int (-1), .ref m_fresh, .ref m_spokenAt, .ref m_heardAt, .ref m_lastAt, .ref m_answerAt, .int 0, .int 0, .int 0, .long 0, .int 0, .int 0, .ref m_heardNow, .ref m_seenAt, .int 0, .int 0, .int 0, .int 0, .int 0, .ref m_fewest, .ref m_costNow, .ref m_costThen, .ref m_lawsOf, .ref m_heardBy, .int 0, .int 0, .ref m_placesOf, .ref m_sentIn, .int 0, .int 0, .ref m_lostBy, .ref m_many, .ref m_width, .ref m_numbers, .ref m_moving])), (m_world, .inl (cI, 53, .inl (fun _ => 0))), (m_spokenAt, .inl (cI, 61, .inl (fun _ => 0)))] H) (hD : va_D (fun q : Nat => s.heap.size ≤ q) [(x0, .inr (11, [.ref r_tape, .ref r_reader, .ref r_now, .ref r_trial, .ref r_images, .ref r_kept, .ref r_slots, .ref r_night, .ref r_other, .ref r_circle, .ref r_words, .ref r_law, .ref r_place, .ref r_drawn])), (r_now, .inr (8, [.int 0, .int 0, .int 0, .int 0, .int 0, .int 0, .int 0, .ref n_signs, .int 0, .ref n_posts, .int 0, .ref n_acts])), (m0, .inr (12, [.int 0, .ref m_world, .ref m_images, .ref m_hasImage, .ref m_tape, .int 0, .ref m_five, .int 0, .int 0, .int 0, .int 0, .int 0, .int 0, .int (-1), .ref m_fresh, .ref m_spokenAt, .ref m_heardAt, .ref m_lastAt, .ref m_answerAt, .int 0, .int 0, .int 0, .long 0, .int 0, .int 0, .ref m_heardNow, .ref m_seenAt, .int 0, .int 0, .int 0, .int 0, .int 0, .ref m_fewest, .ref m_costNow, .ref m_costThen, .ref m_lawsOf, .ref m_heardBy, .int 0, .int 0, .ref m_placesOf, .ref m_sentIn, .int 0, .int 0, .ref m_lostBy, .ref m_many, .ref m_width, .ref m_numbers, .ref m_moving])), (m_world, .inl (cI, 53, .inl (fun _ => 0))), (m_spokenAt, .inl (cI, 61, .inl (fun _ => 0)))]) (hS : va_S (fun q : Nat => s.heap.size ≤ q) s.heap H locs) {ls : Array Slot} (hl : lv_has ls 4 [(0, .ref b), (1, .ref x0), (2, .ref m0), (3, .int 0)]) : W p l e room_1 s m #[Value.ref b] below meth c H locs 118 60870 (lw_Z below #[Value.ref b] s) (F0 m 707 ls []) := by
  obtain ⟨hx, hb, hr, hml, hown, hts0, hX, hbl, hlocks, hgv⟩ := id C0
  have hts : ∀ w ∈ wsL_law, w.before #[Value.ref b] s = true := fun w h => hts0 w (wsL_law_in w h)
  have hA : ∀ q : Nat, s.heap.size ≤ q → (fun q : Nat => s.heap.size ≤ q) q := fun _ h => h
  have hbA : ¬ (fun q : Nat => s.heap.size ≤ q) b := Nat.not_le.mpr hbl
  refine lv_aload_n hx hb dL_law_707 rfl (lv_at hl 1 rfl) ?_
  refine roi (As := []) (rest := []) ⟨hx, hb, hml, hown, hts⟩ (kx_most l D cB cI cJ cZ cS cT x0 r_tape r_reader r_now r_trial r_images r_kept r_slots r_night r_other r_circle r_words r_law r_place r_drawn n_signs n_posts n_acts ) (cvB (n := 0) (inr31 _ (List.mem_of_getElem? (i := 12) rfl)) (inr31 _ (List.mem_of_getElem? (i := 13) rfl)) (inr31 _ (List.mem_of_getElem? (i := 14) rfl)) (inr1 _ (List.mem_of_getElem? (i := 2) rfl)) (inr31 _ (List.mem_of_getElem? (i := 15) rfl)) (by decide +kernel) hts rfl rfl ⟨Nat.le_of_ble_eq_true rfl, Nat.le_of_ble_eq_true rfl⟩) 0 11 rfl rfl rfl (hP.sub [0, 1] rfl) hK rfl hl.1 rfl (Nat.le_of_ble_eq_true rfl) ⟨Nat.le_of_ble_eq_true rfl, Nat.le_of_ble_eq_true rfl⟩ dL_law_708 (fun r_1 h_2 => ?_)
  obtain rfl := h_2
  refine lv_aload_n hx hb dL_law_711 rfl (lv_at hl 2 rfl) ?_
  refine wrVi (As := []) (rest := [.int (-2)]) (wr := [(x0, .inr (11, [.ref r_tape, .ref r_reader, .ref r_now, .ref r_trial, .ref r_images, .ref r_kept, .ref r_slots, .ref r_night, .ref r_other, .ref r_circle, .ref r_words, .ref r_law, .ref r_place, .ref r_drawn])), (r_now, .inr (8, [.int 0, .int 0, .int 0, .int 0, .int 0, .int 0, .int 0, .ref n_signs, .int 0, .ref n_posts, .int 0, .ref n_acts]))]) ⟨hx, hb, hml, hown, hts⟩ (km_most l D cB cI cJ cZ cS cT H.size m0 m_world m_images m_hasImage m_tape m_five m_fresh m_spokenAt m_heardAt m_lastAt m_answerAt m_heardNow m_seenAt m_fewest m_costNow m_costThen m_lawsOf m_heardBy m_placesOf m_sentIn m_lostBy m_many m_width m_numbers m_moving (fun _ => 0) ) hP hD hS hA hK hN [2, 3, 4] [0, 1] rfl rfl (by decide) (by decide) (by decide) (cvB (n := 0) (inr31 _ (List.mem_of_getElem? (i := 16) rfl)) (inr31 _ (List.mem_of_getElem? (i := 17) rfl)) (inr31 _ (List.mem_of_getElem? (i := 18) rfl)) (inr1 _ (List.mem_of_getElem? (i := 5) rfl)) (inr31 _ (List.mem_of_getElem? (i := 19) rfl)) (by decide +kernel) hts rfl rfl ⟨Nat.le_of_ble_eq_true rfl, Nat.le_of_ble_eq_true rfl⟩) 0 12 rfl rfl rfl rfl hl.1 rfl (Nat.le_of_ble_eq_true rfl) ⟨Nat.le_of_ble_eq_true rfl, Nat.le_of_ble_eq_true rfl⟩ dL_law_712 (fun r_3 x9 H locs h_4 hP hD hS => ?_)
  have hP : va_P D vwCl [(x0, .inr (11, [.ref r_tape, .ref r_reader, .ref r_now, .ref r_trial, .ref r_images, .ref r_kept, .ref r_slots, .ref r_night, .ref r_other, .ref r_circle, .ref r_words, .ref r_law, .ref r_place, .ref r_drawn])), (r_now, .inr (8, [.int 0, .int 0, .int 0, .int 0, .int 0, .int 0, .int 0, .ref n_signs, .int 0, .ref n_posts, .int 0, .ref n_acts]))] H := hP
  have hD : va_D (fun q : Nat => s.heap.size ≤ q) [(x0, .inr (11, [.ref r_tape, .ref r_reader, .ref r_now, .ref r_trial, .ref r_images, .ref r_kept, .ref r_slots, .ref r_night, .ref r_other, .ref r_circle, .ref r_words, .ref r_law, .ref r_place, .ref r_drawn])), (r_now, .inr (8, [.int 0, .int 0, .int 0, .int 0, .int 0, .int 0, .int 0, .ref n_signs, .int 0, .ref n_posts, .int 0, .ref n_acts]))] := hD
  obtain rfl := h_4
  refine lv_icmp_eq (tgt := 2116) hx hb dL_law_715 (by decide) (fun _ => ?_) (fun c0 => absurd c0 (by decide))
  exact law_end C0 hK hN (Nat.le_of_ble_eq_true rfl) (Nat.le_of_ble_eq_true rfl) hS (lv_sub hl [0, 1, 2, 3] rfl)

set_option maxHeartbeats 4000000 in
set_option maxRecDepth 100000 in
theorem law_16 {p : Program} {l : Launch} {e : Env} {s : State} {m : MethodId} {below : List Frame} {meth : Method} {c : Code} {D : va_G} {cB cI cJ cZ cS cT : ClassId} {b : Nat} {xs : Nat → Int32} (C0 : lw_At p s m meth c b 6 xs) (hK : va_K D vwCl (tyL cB cI cJ cZ cS cT) s) (hN : kN s) {H : Heap} {locs : List Loc} {x0 : Nat} {m0 : Nat} {r_tape : Nat} {r_reader : Nat} {r_now : Nat} {r_trial : Nat} {r_images : Nat} {r_kept : Nat} {r_slots : Nat} {r_night : Nat} {r_other : Nat} {r_circle : Nat} {r_words : Nat} {r_law : Nat} {r_place : Nat} {r_drawn : Nat} {n_signs : Nat} {n_posts : Nat} {n_acts : Nat} {m_world : Nat} {m_images : Nat} {m_hasImage : Nat} {m_tape : Nat} {m_five : Nat} {m_fresh : Nat} {m_spokenAt : Nat} {m_heardAt : Nat} {m_lastAt : Nat} {m_answerAt : Nat} {m_heardNow : Nat} {m_seenAt : Nat} {m_fewest : Nat} {m_costNow : Nat} {m_costThen : Nat} {m_lawsOf : Nat} {m_heardBy : Nat} {m_placesOf : Nat} {m_sentIn : Nat} {m_lostBy : Nat} {m_many : Nat} {m_width : Nat} {m_numbers : Nat} {m_moving : Nat} (hP : va_P D vwCl [(x0, .inr (11, [.ref r_tape, .ref r_reader, .ref r_now, .ref r_trial, .ref r_images, .ref r_kept, .ref r_slots, .ref r_night, .ref r_other, .ref r_circle, .ref r_words, .ref r_law, .ref r_place, .ref r_drawn])), (r_now, .inr (8, [.int 0, .int 0, .int 0, .int 0, .int 0, .int 0, .int 0, .ref n_signs, .int 0, .ref n_posts, .int 0, .ref n_acts])), (m0, .inr (12, [.int 0, .ref m_world, .ref m_images, .ref m_hasImage, .ref m_tape, .int 0, .ref m_five, .int 0, .int 0, .int 0, .int 0, .int 0, .int 0, .int (-1), .ref m_fresh, .ref m_spokenAt, .ref m_heardAt, .ref m_lastAt, .ref m_answerAt, .int 0, .int 0, .int 0, .long 0, .int 0, .int 0, .ref m_heardNow, .ref m_seenAt, .int 0, .int 0, .int 0, .int 0, .int 0, .ref m_fewest, .ref m_costNow, .ref m_costThen, .ref m_lawsOf, .ref m_heardBy, .int 0, .int 0, .ref m_placesOf, .ref m_sentIn, .int 0, .int 0, .ref m_lostBy, .ref m_many, .ref m_width, .ref m_numbers, .ref m_moving])), (m_world, .inl (cI, 53, .inl (fun _ => 0))), (m_spokenAt, .inl (cI, 61, .inl (fun _ => 0)))] H) (hD : va_D (fun q : Nat => s.heap.size ≤ q) [(x0, .inr (11, [.ref r_tape, .ref r_reader, .ref r_now, .ref r_trial, .ref r_images, .ref r_kept, .ref r_slots, .ref r_night, .ref r_other, .ref r_circle, .ref r_words, .ref r_law, .ref r_place, .ref r_drawn])), (r_now, .inr (8, [.int 0, .int 0, .int 0, .int 0, .int 0, .int 0, .int 0, .ref n_signs, .int 0, .ref n_posts, .int 0, .ref n_acts])), (m0, .inr (12, [.int 0, .ref m_world, .ref m_images, .ref m_hasImage, .ref m_tape, .int 0, .ref m_five, .int 0, .int 0, .int 0, .int 0, .int 0, .int 0, .int (-1), .ref m_fresh, .ref m_spokenAt, .ref m_heardAt, .ref m_lastAt, .ref m_answerAt, .int 0, .int 0, .int 0, .long 0, .int 0, .int 0, .ref m_heardNow, .ref m_seenAt, .int 0, .int 0, .int 0, .int 0, .int 0, .ref m_fewest, .ref m_costNow, .ref m_costThen, .ref m_lawsOf, .ref m_heardBy, .int 0, .int 0, .ref m_placesOf, .ref m_sentIn, .int 0, .int 0, .ref m_lostBy, .ref m_many, .ref m_width, .ref m_numbers, .ref m_moving])), (m_world, .inl (cI, 53, .inl (fun _ => 0))), (m_spokenAt, .inl (cI, 61, .inl (fun _ => 0)))]) (hS : va_S (fun q : Nat => s.heap.size ≤ q) s.heap H locs) {ls : Array Slot} (hl : lv_has ls 4 [(0, .ref b), (1, .ref x0), (2, .ref m0), (3, .int 0)]) : W p l e room_1 s m #[Value.ref b] below meth c H locs 118 60870 (lw_Z below #[Value.ref b] s) (F0 m 720 ls []) := by
  obtain ⟨hx, hb, hr, hml, hown, hts0, hX, hbl, hlocks, hgv⟩ := id C0
  have hts : ∀ w ∈ wsL_law, w.before #[Value.ref b] s = true := fun w h => hts0 w (wsL_law_in w h)
  have hA : ∀ q : Nat, s.heap.size ≤ q → (fun q : Nat => s.heap.size ≤ q) q := fun _ h => h
  have hbA : ¬ (fun q : Nat => s.heap.size ≤ q) b := Nat.not_le.mpr hbl
  refine lv_aload_n hx hb dL_law_720 rfl (lv_at hl 1 rfl) ?_
  refine roi (As := []) (rest := []) ⟨hx, hb, hml, hown, hts⟩ (kx_held l D cB cI cJ cZ cS cT x0 r_tape r_reader r_now r_trial r_images r_kept r_slots r_night r_other r_circle r_words r_law r_place r_drawn n_signs n_posts n_acts ) (cvB (n := 0) (inr31 _ (List.mem_of_getElem? (i := 20) rfl)) (inr31 _ (List.mem_of_getElem? (i := 21) rfl)) (inr31 _ (List.mem_of_getElem? (i := 22) rfl)) (inr1 _ (List.mem_of_getElem? (i := 2) rfl)) (inr31 _ (List.mem_of_getElem? (i := 23) rfl)) (by decide +kernel) hts rfl rfl ⟨Nat.le_of_ble_eq_true rfl, Nat.le_of_ble_eq_true rfl⟩) 0 11 rfl rfl rfl (hP.sub [0, 1] rfl) hK rfl hl.1 rfl (Nat.le_of_ble_eq_true rfl) ⟨Nat.le_of_ble_eq_true rfl, Nat.le_of_ble_eq_true rfl⟩ dL_law_721 (fun r_1 h_2 => ?_)
  obtain rfl := h_2
  refine lv_aload_n hx hb dL_law_724 rfl (lv_at hl 2 rfl) ?_
  refine wrVi (As := []) (rest := [.int (-2)]) (wr := [(x0, .inr (11, [.ref r_tape, .ref r_reader, .ref r_now, .ref r_trial, .ref r_images, .ref r_kept, .ref r_slots, .ref r_night, .ref r_other, .ref r_circle, .ref r_words, .ref r_law, .ref r_place, .ref r_drawn])), (r_now, .inr (8, [.int 0, .int 0, .int 0, .int 0, .int 0, .int 0, .int 0, .ref n_signs, .int 0, .ref n_posts, .int 0, .ref n_acts]))]) ⟨hx, hb, hml, hown, hts⟩ (km_held l D cB cI cJ cZ cS cT H.size m0 m_world m_images m_hasImage m_tape m_five m_fresh m_spokenAt m_heardAt m_lastAt m_answerAt m_heardNow m_seenAt m_fewest m_costNow m_costThen m_lawsOf m_heardBy m_placesOf m_sentIn m_lostBy m_many m_width m_numbers m_moving (fun _ => 0) ) hP hD hS hA hK hN [2, 3, 4] [0, 1] rfl rfl (by decide) (by decide) (by decide) (cvB (n := 0) (inr32 _ (List.mem_of_getElem? (i := 7) rfl)) (inr32 _ (List.mem_of_getElem? (i := 8) rfl)) (inr32 _ (List.mem_of_getElem? (i := 9) rfl)) (inr1 _ (List.mem_of_getElem? (i := 5) rfl)) (inr32 _ (List.mem_of_getElem? (i := 10) rfl)) (by decide +kernel) hts rfl rfl ⟨Nat.le_of_ble_eq_true rfl, Nat.le_of_ble_eq_true rfl⟩) 0 12 rfl rfl rfl rfl hl.1 rfl (Nat.le_of_ble_eq_true rfl) ⟨Nat.le_of_ble_eq_true rfl, Nat.le_of_ble_eq_true rfl⟩ dL_law_725 (fun r_3 x9 H locs h_4 hP hD hS => ?_)
  have hP : va_P D vwCl [(x0, .inr (11, [.ref r_tape, .ref r_reader, .ref r_now, .ref r_trial, .ref r_images, .ref r_kept, .ref r_slots, .ref r_night, .ref r_other, .ref r_circle, .ref r_words, .ref r_law, .ref r_place, .ref r_drawn])), (r_now, .inr (8, [.int 0, .int 0, .int 0, .int 0, .int 0, .int 0, .int 0, .ref n_signs, .int 0, .ref n_posts, .int 0, .ref n_acts]))] H := hP
  have hD : va_D (fun q : Nat => s.heap.size ≤ q) [(x0, .inr (11, [.ref r_tape, .ref r_reader, .ref r_now, .ref r_trial, .ref r_images, .ref r_kept, .ref r_slots, .ref r_night, .ref r_other, .ref r_circle, .ref r_words, .ref r_law, .ref r_place, .ref r_drawn])), (r_now, .inr (8, [.int 0, .int 0, .int 0, .int 0, .int 0, .int 0, .int 0, .ref n_signs, .int 0, .ref n_posts, .int 0, .ref n_acts]))] := hD
  obtain rfl := h_4
  refine lv_icmp_eq (tgt := 2116) hx hb dL_law_728 (by decide) (fun _ => ?_) (fun c0 => absurd c0 (by decide))
  exact law_end C0 hK hN (Nat.le_of_ble_eq_true rfl) (Nat.le_of_ble_eq_true rfl) hS (lv_sub hl [0, 1, 2, 3] rfl)

set_option maxHeartbeats 4000000 in
set_option maxRecDepth 100000 in
theorem law_17 {p : Program} {l : Launch} {e : Env} {s : State} {m : MethodId} {below : List Frame} {meth : Method} {c : Code} {D : va_G} {cB cI cJ cZ cS cT : ClassId} {b : Nat} {xs : Nat → Int32} (C0 : lw_At p s m meth c b 6 xs) (hK : va_K D vwCl (tyL cB cI cJ cZ cS cT) s) (hN : kN s) {H : Heap} {locs : List Loc} {x0 : Nat} {m0 : Nat} {r_tape : Nat} {r_reader : Nat} {r_now : Nat} {r_trial : Nat} {r_images : Nat} {r_kept : Nat} {r_slots : Nat} {r_night : Nat} {r_other : Nat} {r_circle : Nat} {r_words : Nat} {r_law : Nat} {r_place : Nat} {r_drawn : Nat} {n_signs : Nat} {n_posts : Nat} {n_acts : Nat} {m_world : Nat} {m_images : Nat} {m_hasImage : Nat} {m_tape : Nat} {m_five : Nat} {m_fresh : Nat} {m_spokenAt : Nat} {m_heardAt : Nat} {m_lastAt : Nat} {m_answerAt : Nat} {m_heardNow : Nat} {m_seenAt : Nat} {m_fewest : Nat} {m_costNow : Nat} {m_costThen : Nat} {m_lawsOf : Nat} {m_heardBy : Nat} {m_placesOf : Nat} {m_sentIn : Nat} {m_lostBy : Nat} {m_many : Nat} {m_width : Nat} {m_numbers : Nat} {m_moving : Nat} (hP : va_P D vwCl [(x0, .inr (11, [.ref r_tape, .ref r_reader, .ref r_now, .ref r_trial, .ref r_images, .ref r_kept, .ref r_slots, .ref r_night, .ref r_other, .ref r_circle, .ref r_words, .ref r_law, .ref r_place, .ref r_drawn])), (r_now, .inr (8, [.int 0, .int 0, .int 0, .int 0, .int 0, .int 0, .int 0, .ref n_signs, .int 0, .ref n_posts, .int 0, .ref n_acts])), (m0, .inr (12, [.int 0, .ref m_world, .ref m_images, .ref m_hasImage, .ref m_tape, .int 0, .ref m_five, .int 0, .int 0, .int 0, .int 0, .int 0, .int 0, .int (-1), .ref m_fresh, .ref m_spokenAt, .ref m_heardAt, .ref m_lastAt, .ref m_answerAt, .int 0, .int 0, .int 0, .long 0, .int 0, .int 0, .ref m_heardNow, .ref m_seenAt, .int 0, .int 0, .int 0, .int 0, .int 0, .ref m_fewest, .ref m_costNow, .ref m_costThen, .ref m_lawsOf, .ref m_heardBy, .int 0, .int 0, .ref m_placesOf, .ref m_sentIn, .int 0, .int 0, .ref m_lostBy, .ref m_many, .ref m_width, .ref m_numbers, .ref m_moving])), (m_world, .inl (cI, 53, .inl (fun _ => 0))), (m_spokenAt, .inl (cI, 61, .inl (fun _ => 0)))] H) (hD : va_D (fun q : Nat => s.heap.size ≤ q) [(x0, .inr (11, [.ref r_tape, .ref r_reader, .ref r_now, .ref r_trial, .ref r_images, .ref r_kept, .ref r_slots, .ref r_night, .ref r_other, .ref r_circle, .ref r_words, .ref r_law, .ref r_place, .ref r_drawn])), (r_now, .inr (8, [.int 0, .int 0, .int 0, .int 0, .int 0, .int 0, .int 0, .ref n_signs, .int 0, .ref n_posts, .int 0, .ref n_acts])), (m0, .inr (12, [.int 0, .ref m_world, .ref m_images, .ref m_hasImage, .ref m_tape, .int 0, .ref m_five, .int 0, .int 0, .int 0, .int 0, .int 0, .int 0, .int (-1), .ref m_fresh, .ref m_spokenAt, .ref m_heardAt, .ref m_lastAt, .ref m_answerAt, .int 0, .int 0, .int 0, .long 0, .int 0, .int 0, .ref m_heardNow, .ref m_seenAt, .int 0, .int 0, .int 0, .int 0, .int 0, .ref m_fewest, .ref m_costNow, .ref m_costThen, .ref m_lawsOf, .ref m_heardBy, .int 0, .int 0, .ref m_placesOf, .ref m_sentIn, .int 0, .int 0, .ref m_lostBy, .ref m_many, .ref m_width, .ref m_numbers, .ref m_moving])), (m_world, .inl (cI, 53, .inl (fun _ => 0))), (m_spokenAt, .inl (cI, 61, .inl (fun _ => 0)))]) (hS : va_S (fun q : Nat => s.heap.size ≤ q) s.heap H locs) {ls : Array Slot} (hl : lv_has ls 4 [(0, .ref b), (1, .ref x0), (2, .ref m0), (3, .int 0)]) : W p l e room_1 s m #[Value.ref b] below meth c H locs 118 60870 (lw_Z below #[Value.ref b] s) (F0 m 733 ls []) := by
  obtain ⟨hx, hb, hr, hml, hown, hts0, hX, hbl, hlocks, hgv⟩ := id C0
  have hts : ∀ w ∈ wsL_law, w.before #[Value.ref b] s = true := fun w h => hts0 w (wsL_law_in w h)
  have hA : ∀ q : Nat, s.heap.size ≤ q → (fun q : Nat => s.heap.size ≤ q) q := fun _ h => h
  have hbA : ¬ (fun q : Nat => s.heap.size ≤ q) b := Nat.not_le.mpr hbl
  refine lv_aload_n hx hb dL_law_733 rfl (lv_at hl 1 rfl) ?_
  refine roi (As := []) (rest := []) ⟨hx, hb, hml, hown, hts⟩ (kx_rises l D cB cI cJ cZ cS cT x0 r_tape r_reader r_now r_trial r_images r_kept r_slots r_night r_other r_circle r_words r_law r_place r_drawn n_signs n_posts n_acts ) (cvB (n := 0) (inr32 _ (List.mem_of_getElem? (i := 12) rfl)) (inr32 _ (List.mem_of_getElem? (i := 13) rfl)) (inr32 _ (List.mem_of_getElem? (i := 14) rfl)) (inr1 _ (List.mem_of_getElem? (i := 2) rfl)) (inr32 _ (List.mem_of_getElem? (i := 15) rfl)) (by decide +kernel) hts rfl rfl ⟨Nat.le_of_ble_eq_true rfl, Nat.le_of_ble_eq_true rfl⟩) 0 11 rfl rfl rfl (hP.sub [0, 1] rfl) hK rfl hl.1 rfl (Nat.le_of_ble_eq_true rfl) ⟨Nat.le_of_ble_eq_true rfl, Nat.le_of_ble_eq_true rfl⟩ dL_law_734 (fun r_1 h_2 => ?_)
  obtain rfl := h_2
  refine lv_aload_n hx hb dL_law_737 rfl (lv_at hl 2 rfl) ?_
  refine wrVi (As := []) (rest := [.int (-2)]) (wr := [(x0, .inr (11, [.ref r_tape, .ref r_reader, .ref r_now, .ref r_trial, .ref r_images, .ref r_kept, .ref r_slots, .ref r_night, .ref r_other, .ref r_circle, .ref r_words, .ref r_law, .ref r_place, .ref r_drawn])), (r_now, .inr (8, [.int 0, .int 0, .int 0, .int 0, .int 0, .int 0, .int 0, .ref n_signs, .int 0, .ref n_posts, .int 0, .ref n_acts]))]) ⟨hx, hb, hml, hown, hts⟩ (km_rises l D cB cI cJ cZ cS cT H.size m0 m_world m_images m_hasImage m_tape m_five m_fresh m_spokenAt m_heardAt m_lastAt m_answerAt m_heardNow m_seenAt m_fewest m_costNow m_costThen m_lawsOf m_heardBy m_placesOf m_sentIn m_lostBy m_many m_width m_numbers m_moving (fun _ => 0) ) hP hD hS hA hK hN [2, 3, 4] [0, 1] rfl rfl (by decide) (by decide) (by decide) (cvB (n := 0) (inr32 _ (List.mem_of_getElem? (i := 20) rfl)) (inr32 _ (List.mem_of_getElem? (i := 21) rfl)) (inr32 _ (List.mem_of_getElem? (i := 22) rfl)) (inr1 _ (List.mem_of_getElem? (i := 5) rfl)) (inr32 _ (List.mem_of_getElem? (i := 23) rfl)) (by decide +kernel) hts rfl rfl ⟨Nat.le_of_ble_eq_true rfl, Nat.le_of_ble_eq_true rfl⟩) 0 12 rfl rfl rfl rfl hl.1 rfl (Nat.le_of_ble_eq_true rfl) ⟨Nat.le_of_ble_eq_true rfl, Nat.le_of_ble_eq_true rfl⟩ dL_law_738 (fun r_3 x9 H locs h_4 hP hD hS => ?_)
  have hP : va_P D vwCl [(x0, .inr (11, [.ref r_tape, .ref r_reader, .ref r_now, .ref r_trial, .ref r_images, .ref r_kept, .ref r_slots, .ref r_night, .ref r_other, .ref r_circle, .ref r_words, .ref r_law, .ref r_place, .ref r_drawn])), (r_now, .inr (8, [.int 0, .int 0, .int 0, .int 0, .int 0, .int 0, .int 0, .ref n_signs, .int 0, .ref n_posts, .int 0, .ref n_acts]))] H := hP
  have hD : va_D (fun q : Nat => s.heap.size ≤ q) [(x0, .inr (11, [.ref r_tape, .ref r_reader, .ref r_now, .ref r_trial, .ref r_images, .ref r_kept, .ref r_slots, .ref r_night, .ref r_other, .ref r_circle, .ref r_words, .ref r_law, .ref r_place, .ref r_drawn])), (r_now, .inr (8, [.int 0, .int 0, .int 0, .int 0, .int 0, .int 0, .int 0, .ref n_signs, .int 0, .ref n_posts, .int 0, .ref n_acts]))] := hD
  obtain rfl := h_4
  refine lv_icmp_eq (tgt := 2116) hx hb dL_law_741 (by decide) (fun _ => ?_) (fun c0 => absurd c0 (by decide))
  exact law_end C0 hK hN (Nat.le_of_ble_eq_true rfl) (Nat.le_of_ble_eq_true rfl) hS (lv_sub hl [0, 1, 2, 3] rfl)

set_option maxHeartbeats 4000000 in
set_option maxRecDepth 100000 in
theorem law_18 {p : Program} {l : Launch} {e : Env} {s : State} {m : MethodId} {below : List Frame} {meth : Method} {c : Code} {D : va_G} {cB cI cJ cZ cS cT : ClassId} {b : Nat} {xs : Nat → Int32} (C0 : lw_At p s m meth c b 6 xs) (hK : va_K D vwCl (tyL cB cI cJ cZ cS cT) s) (hN : kN s) {H : Heap} {locs : List Loc} {x0 : Nat} {m0 : Nat} {r_tape : Nat} {r_reader : Nat} {r_now : Nat} {r_trial : Nat} {r_images : Nat} {r_kept : Nat} {r_slots : Nat} {r_night : Nat} {r_other : Nat} {r_circle : Nat} {r_words : Nat} {r_law : Nat} {r_place : Nat} {r_drawn : Nat} {n_signs : Nat} {n_posts : Nat} {n_acts : Nat} {m_world : Nat} {m_images : Nat} {m_hasImage : Nat} {m_tape : Nat} {m_five : Nat} {m_fresh : Nat} {m_spokenAt : Nat} {m_heardAt : Nat} {m_lastAt : Nat} {m_answerAt : Nat} {m_heardNow : Nat} {m_seenAt : Nat} {m_fewest : Nat} {m_costNow : Nat} {m_costThen : Nat} {m_lawsOf : Nat} {m_heardBy : Nat} {m_placesOf : Nat} {m_sentIn : Nat} {m_lostBy : Nat} {m_many : Nat} {m_width : Nat} {m_numbers : Nat} {m_moving : Nat} (hP : va_P D vwCl [(x0, .inr (11, [.ref r_tape, .ref r_reader, .ref r_now, .ref r_trial, .ref r_images, .ref r_kept, .ref r_slots, .ref r_night, .ref r_other, .ref r_circle, .ref r_words, .ref r_law, .ref r_place, .ref r_drawn])), (r_now, .inr (8, [.int 0, .int 0, .int 0, .int 0, .int 0, .int 0, .int 0, .ref n_signs, .int 0, .ref n_posts, .int 0, .ref n_acts])), (m0, .inr (12, [.int 0, .ref m_world, .ref m_images, .ref m_hasImage, .ref m_tape, .int 0, .ref m_five, .int 0, .int 0, .int 0, .int 0, .int 0, .int 0, .int (-1), .ref m_fresh, .ref m_spokenAt, .ref m_heardAt, .ref m_lastAt, .ref m_answerAt, .int 0, .int 0, .int 0, .long 0, .int 0, .int 0, .ref m_heardNow, .ref m_seenAt, .int 0, .int 0, .int 0, .int 0, .int 0, .ref m_fewest, .ref m_costNow, .ref m_costThen, .ref m_lawsOf, .ref m_heardBy, .int 0, .int 0, .ref m_placesOf, .ref m_sentIn, .int 0, .int 0, .ref m_lostBy, .ref m_many, .ref m_width, .ref m_numbers, .ref m_moving])), (m_world, .inl (cI, 53, .inl (fun _ => 0))), (m_spokenAt, .inl (cI, 61, .inl (fun _ => 0)))] H) (hD : va_D (fun q : Nat => s.heap.size ≤ q) [(x0, .inr (11, [.ref r_tape, .ref r_reader, .ref r_now, .ref r_trial, .ref r_images, .ref r_kept, .ref r_slots, .ref r_night, .ref r_other, .ref r_circle, .ref r_words, .ref r_law, .ref r_place, .ref r_drawn])), (r_now, .inr (8, [.int 0, .int 0, .int 0, .int 0, .int 0, .int 0, .int 0, .ref n_signs, .int 0, .ref n_posts, .int 0, .ref n_acts])), (m0, .inr (12, [.int 0, .ref m_world, .ref m_images, .ref m_hasImage, .ref m_tape, .int 0, .ref m_five, .int 0, .int 0, .int 0, .int 0, .int 0, .int 0, .int (-1), .ref m_fresh, .ref m_spokenAt, .ref m_heardAt, .ref m_lastAt, .ref m_answerAt, .int 0, .int 0, .int 0, .long 0, .int 0, .int 0, .ref m_heardNow, .ref m_seenAt, .int 0, .int 0, .int 0, .int 0, .int 0, .ref m_fewest, .ref m_costNow, .ref m_costThen, .ref m_lawsOf, .ref m_heardBy, .int 0, .int 0, .ref m_placesOf, .ref m_sentIn, .int 0, .int 0, .ref m_lostBy, .ref m_many, .ref m_width, .ref m_numbers, .ref m_moving])), (m_world, .inl (cI, 53, .inl (fun _ => 0))), (m_spokenAt, .inl (cI, 61, .inl (fun _ => 0)))]) (hS : va_S (fun q : Nat => s.heap.size ≤ q) s.heap H locs) {ls : Array Slot} (hl : lv_has ls 4 [(0, .ref b), (1, .ref x0), (2, .ref m0), (3, .int 0)]) : W p l e room_1 s m #[Value.ref b] below meth c H locs 118 60870 (lw_Z below #[Value.ref b] s) (F0 m 746 ls []) := by
  obtain ⟨hx, hb, hr, hml, hown, hts0, hX, hbl, hlocks, hgv⟩ := id C0
  have hts : ∀ w ∈ wsL_law, w.before #[Value.ref b] s = true := fun w h => hts0 w (wsL_law_in w h)
  have hA : ∀ q : Nat, s.heap.size ≤ q → (fun q : Nat => s.heap.size ≤ q) q := fun _ h => h
  have hbA : ¬ (fun q : Nat => s.heap.size ≤ q) b := Nat.not_le.mpr hbl
  refine lv_aload_n hx hb dL_law_746 rfl (lv_at hl 1 rfl) ?_
  refine lv_aload_n hx hb dL_law_747 rfl (lv_at hl 0 rfl) ?_
  refine lv_iload_n hx hb dL_law_748 rfl (lv_at hl 3 rfl) ?_
  refine lv_iconst (v := 1) hx hb dL_law_749 (by decide) ?_
  refine z_iadd (v := 1) hx hb dL_law_750 (by decide) ?_
  refine va_sld hx hb hX hbl hbA hS (by unfold vp_in; decide) dL_law_751 ?_
  refine W.eq (g2 := F0 m 752 ls [.int (xs 1), .ref x0]) rfl ?_
  refine roi (As := [.int (xs 1)]) (rest := []) ⟨hx, hb, hml, hown, hts⟩ (kx_unlike l D cB cI cJ cZ cS cT x0 r_tape r_reader r_now r_trial r_images r_kept r_slots r_night r_other r_circle r_words r_law r_place r_drawn n_signs n_posts n_acts (xs 1) ) (cvB (n := 1) (inr33 _ (List.mem_of_getElem? (i := 0) rfl)) (inr33 _ (List.mem_of_getElem? (i := 1) rfl)) (inr33 _ (List.mem_of_getElem? (i := 2) rfl)) (inr1 _ (List.mem_of_getElem? (i := 2) rfl)) (inr33 _ (List.mem_of_getElem? (i := 3) rfl)) (by decide +kernel) hts rfl rfl ⟨Nat.le_of_ble_eq_true rfl, Nat.le_of_ble_eq_true rfl⟩) 0 11 rfl rfl rfl (hP.sub [0, 1] rfl) hK rfl hl.1 rfl (Nat.le_of_ble_eq_true rfl) ⟨Nat.le_of_ble_eq_true rfl, Nat.le_of_ble_eq_true rfl⟩ dL_law_752 (fun r_1 h_2 => ?_)
  obtain rfl := h_2
  refine lv_aload_n hx hb dL_law_755 rfl (lv_at hl 2 rfl) ?_
  refine lv_aload_n hx hb dL_law_756 rfl (lv_at hl 0 rfl) ?_
  refine lv_iload_n hx hb dL_law_757 rfl (lv_at hl 3 rfl) ?_
  refine lv_iconst (v := 1) hx hb dL_law_758 (by decide) ?_
  refine z_iadd (v := 1) hx hb dL_law_759 (by decide) ?_
  refine va_sld hx hb hX hbl hbA hS (by unfold vp_in; decide) dL_law_760 ?_
  refine W.eq (g2 := F0 m 761 ls [.int (xs 1), .ref m0, .int (-2)]) rfl ?_
  refine wrVi (As := [.int (xs 1)]) (rest := [.int (-2)]) (wr := [(x0, .inr (11, [.ref r_tape, .ref r_reader, .ref r_now, .ref r_trial, .ref r_images, .ref r_kept, .ref r_slots, .ref r_night, .ref r_other, .ref r_circle, .ref r_words, .ref r_law, .ref r_place, .ref r_drawn])), (r_now, .inr (8, [.int 0, .int 0, .int 0, .int 0, .int 0, .int 0, .int 0, .ref n_signs, .int 0, .ref n_posts, .int 0, .ref n_acts]))]) ⟨hx, hb, hml, hown, hts⟩ (km_unlike l D cB cI cJ cZ cS cT H.size m0 m_world m_images m_hasImage m_tape m_five m_fresh m_spokenAt m_heardAt m_lastAt m_answerAt m_heardNow m_seenAt m_fewest m_costNow m_costThen m_lawsOf m_heardBy m_placesOf m_sentIn m_lostBy m_many m_width m_numbers m_moving (fun _ => 0) (xs 1) ) hP hD hS hA hK hN [2, 3, 4] [0, 1] rfl rfl (by decide) (by decide) (by decide) (cvB (n := 1) (inr33 _ (List.mem_of_getElem? (i := 11) rfl)) (inr33 _ (List.mem_of_getElem? (i := 12) rfl)) (inr33 _ (List.mem_of_getElem? (i := 13) rfl)) (inr1 _ (List.mem_of_getElem? (i := 5) rfl)) (inr33 _ (List.mem_of_getElem? (i := 14) rfl)) (by decide +kernel) hts rfl rfl ⟨Nat.le_of_ble_eq_true rfl, Nat.le_of_ble_eq_true rfl⟩) 0 12 rfl rfl rfl rfl hl.1 rfl (Nat.le_of_ble_eq_true rfl) ⟨Nat.le_of_ble_eq_true rfl, Nat.le_of_ble_eq_true rfl⟩ dL_law_761 (fun r_3 x9 H locs h_4 hP hD hS => ?_)
  have hP : va_P D vwCl [(x0, .inr (11, [.ref r_tape, .ref r_reader, .ref r_now, .ref r_trial, .ref r_images, .ref r_kept, .ref r_slots, .ref r_night, .ref r_other, .ref r_circle, .ref r_words, .ref r_law, .ref r_place, .ref r_drawn])), (r_now, .inr (8, [.int 0, .int 0, .int 0, .int 0, .int 0, .int 0, .int 0, .ref n_signs, .int 0, .ref n_posts, .int 0, .ref n_acts]))] H := hP
  have hD : va_D (fun q : Nat => s.heap.size ≤ q) [(x0, .inr (11, [.ref r_tape, .ref r_reader, .ref r_now, .ref r_trial, .ref r_images, .ref r_kept, .ref r_slots, .ref r_night, .ref r_other, .ref r_circle, .ref r_words, .ref r_law, .ref r_place, .ref r_drawn])), (r_now, .inr (8, [.int 0, .int 0, .int 0, .int 0, .int 0, .int 0, .int 0, .ref n_signs, .int 0, .ref n_posts, .int 0, .ref n_acts]))] := hD
  obtain rfl := h_4
  refine lv_icmp_eq (tgt := 2116) hx hb dL_law_764 (by decide) (fun _ => ?_) (fun c0 => absurd c0 (by decide))
  exact law_end C0 hK hN (Nat.le_of_ble_eq_true rfl) (Nat.le_of_ble_eq_true rfl) hS (lv_sub hl [0, 1, 2, 3] rfl)

set_option maxHeartbeats 4000000 in
set_option maxRecDepth 100000 in
theorem law_19 {p : Program} {l : Launch} {e : Env} {s : State} {m : MethodId} {below : List Frame} {meth : Method} {c : Code} {D : va_G} {cB cI cJ cZ cS cT : ClassId} {b : Nat} {xs : Nat → Int32} (C0 : lw_At p s m meth c b 6 xs) (hK : va_K D vwCl (tyL cB cI cJ cZ cS cT) s) (hN : kN s) {H : Heap} {locs : List Loc} {x0 : Nat} {m0 : Nat} {r_tape : Nat} {r_reader : Nat} {r_now : Nat} {r_trial : Nat} {r_images : Nat} {r_kept : Nat} {r_slots : Nat} {r_night : Nat} {r_other : Nat} {r_circle : Nat} {r_words : Nat} {r_law : Nat} {r_place : Nat} {r_drawn : Nat} {n_signs : Nat} {n_posts : Nat} {n_acts : Nat} {m_world : Nat} {m_images : Nat} {m_hasImage : Nat} {m_tape : Nat} {m_five : Nat} {m_fresh : Nat} {m_spokenAt : Nat} {m_heardAt : Nat} {m_lastAt : Nat} {m_answerAt : Nat} {m_heardNow : Nat} {m_seenAt : Nat} {m_fewest : Nat} {m_costNow : Nat} {m_costThen : Nat} {m_lawsOf : Nat} {m_heardBy : Nat} {m_placesOf : Nat} {m_sentIn : Nat} {m_lostBy : Nat} {m_many : Nat} {m_width : Nat} {m_numbers : Nat} {m_moving : Nat} (hP : va_P D vwCl [(x0, .inr (11, [.ref r_tape, .ref r_reader, .ref r_now, .ref r_trial, .ref r_images, .ref r_kept, .ref r_slots, .ref r_night, .ref r_other, .ref r_circle, .ref r_words, .ref r_law, .ref r_place, .ref r_drawn])), (r_now, .inr (8, [.int 0, .int 0, .int 0, .int 0, .int 0, .int 0, .int 0, .ref n_signs, .int 0, .ref n_posts, .int 0, .ref n_acts])), (m0, .inr (12, [.int 0, .ref m_world, .ref m_images, .ref m_hasImage, .ref m_tape, .int 0, .ref m_five, .int 0, .int 0, .int 0, .int 0, .int 0, .int 0, .int (-1), .ref m_fresh, .ref m_spokenAt, .ref m_heardAt, .ref m_lastAt, .ref m_answerAt, .int 0, .int 0, .int 0, .long 0, .int 0, .int 0, .ref m_heardNow, .ref m_seenAt, .int 0, .int 0, .int 0, .int 0, .int 0, .ref m_fewest, .ref m_costNow, .ref m_costThen, .ref m_lawsOf, .ref m_heardBy, .int 0, .int 0, .ref m_placesOf, .ref m_sentIn, .int 0, .int 0, .ref m_lostBy, .ref m_many, .ref m_width, .ref m_numbers, .ref m_moving])), (m_world, .inl (cI, 53, .inl (fun _ => 0))), (m_spokenAt, .inl (cI, 61, .inl (fun _ => 0)))] H) (hD : va_D (fun q : Nat => s.heap.size ≤ q) [(x0, .inr (11, [.ref r_tape, .ref r_reader, .ref r_now, .ref r_trial, .ref r_images, .ref r_kept, .ref r_slots, .ref r_night, .ref r_other, .ref r_circle, .ref r_words, .ref r_law, .ref r_place, .ref r_drawn])), (r_now, .inr (8, [.int 0, .int 0, .int 0, .int 0, .int 0, .int 0, .int 0, .ref n_signs, .int 0, .ref n_posts, .int 0, .ref n_acts])), (m0, .inr (12, [.int 0, .ref m_world, .ref m_images, .ref m_hasImage, .ref m_tape, .int 0, .ref m_five, .int 0, .int 0, .int 0, .int 0, .int 0, .int 0, .int (-1), .ref m_fresh, .ref m_spokenAt, .ref m_heardAt, .ref m_lastAt, .ref m_answerAt, .int 0, .int 0, .int 0, .long 0, .int 0, .int 0, .ref m_heardNow, .ref m_seenAt, .int 0, .int 0, .int 0, .int 0, .int 0, .ref m_fewest, .ref m_costNow, .ref m_costThen, .ref m_lawsOf, .ref m_heardBy, .int 0, .int 0, .ref m_placesOf, .ref m_sentIn, .int 0, .int 0, .ref m_lostBy, .ref m_many, .ref m_width, .ref m_numbers, .ref m_moving])), (m_world, .inl (cI, 53, .inl (fun _ => 0))), (m_spokenAt, .inl (cI, 61, .inl (fun _ => 0)))]) (hS : va_S (fun q : Nat => s.heap.size ≤ q) s.heap H locs) {ls : Array Slot} (hl : lv_has ls 4 [(0, .ref b), (1, .ref x0), (2, .ref m0), (3, .int 0)]) : W p l e room_1 s m #[Value.ref b] below meth c H locs 118 60870 (lw_Z below #[Value.ref b] s) (F0 m 769 ls []) := by
  obtain ⟨hx, hb, hr, hml, hown, hts0, hX, hbl, hlocks, hgv⟩ := id C0
  have hts : ∀ w ∈ wsL_law, w.before #[Value.ref b] s = true := fun w h => hts0 w (wsL_law_in w h)
  have hA : ∀ q : Nat, s.heap.size ≤ q → (fun q : Nat => s.heap.size ≤ q) q := fun _ h => h
  have hbA : ¬ (fun q : Nat => s.heap.size ≤ q) b := Nat.not_le.mpr hbl
  refine lv_aload_n hx hb dL_law_769 rfl (lv_at hl 1 rfl) ?_
  refine roi (As := []) (rest := []) ⟨hx, hb, hml, hown, hts⟩ (kx_falls l D cB cI cJ cZ cS cT x0 r_tape r_reader r_now r_trial r_images r_kept r_slots r_night r_other r_circle r_words r_law r_place r_drawn n_signs n_posts n_acts ) (cvB (n := 0) (inr33 _ (List.mem_of_getElem? (i := 18) rfl)) (inr33 _ (List.mem_of_getElem? (i := 19) rfl)) (inr33 _ (List.mem_of_getElem? (i := 20) rfl)) (inr1 _ (List.mem_of_getElem? (i := 2) rfl)) (inr33 _ (List.mem_of_getElem? (i := 21) rfl)) (by decide +kernel) hts rfl rfl ⟨Nat.le_of_ble_eq_true rfl, Nat.le_of_ble_eq_true rfl⟩) 0 11 rfl rfl rfl (hP.sub [0, 1] rfl) hK rfl hl.1 rfl (Nat.le_of_ble_eq_true rfl) ⟨Nat.le_of_ble_eq_true rfl, Nat.le_of_ble_eq_true rfl⟩ dL_law_770 (fun r_1 h_2 => ?_)
  obtain rfl := h_2
  refine lv_aload_n hx hb dL_law_773 rfl (lv_at hl 2 rfl) ?_
  refine wrVi (As := []) (rest := [.int (-2)]) (wr := [(x0, .inr (11, [.ref r_tape, .ref r_reader, .ref r_now, .ref r_trial, .ref r_images, .ref r_kept, .ref r_slots, .ref r_night, .ref r_other, .ref r_circle, .ref r_words, .ref r_law, .ref r_place, .ref r_drawn])), (r_now, .inr (8, [.int 0, .int 0, .int 0, .int 0, .int 0, .int 0, .int 0, .ref n_signs, .int 0, .ref n_posts, .int 0, .ref n_acts]))]) ⟨hx, hb, hml, hown, hts⟩ (km_falls l D cB cI cJ cZ cS cT H.size m0 m_world m_images m_hasImage m_tape m_five m_fresh m_spokenAt m_heardAt m_lastAt m_answerAt m_heardNow m_seenAt m_fewest m_costNow m_costThen m_lawsOf m_heardBy m_placesOf m_sentIn m_lostBy m_many m_width m_numbers m_moving (fun _ => 0) ) hP hD hS hA hK hN [2, 3, 4] [0, 1] rfl rfl (by decide) (by decide) (by decide) (cvB (n := 0) (inr33 _ (List.mem_of_getElem? (i := 22) rfl)) (inr33 _ (List.mem_of_getElem? (i := 23) rfl)) (inr34 _ (List.mem_of_getElem? (i := 0) rfl)) (inr1 _ (List.mem_of_getElem? (i := 5) rfl)) (inr34 _ (List.mem_of_getElem? (i := 1) rfl)) (by decide +kernel) hts rfl rfl ⟨Nat.le_of_ble_eq_true rfl, Nat.le_of_ble_eq_true rfl⟩) 0 12 rfl rfl rfl rfl hl.1 rfl (Nat.le_of_ble_eq_true rfl) ⟨Nat.le_of_ble_eq_true rfl, Nat.le_of_ble_eq_true rfl⟩ dL_law_774 (fun r_3 x9 H locs h_4 hP hD hS => ?_)
  have hP : va_P D vwCl [(x0, .inr (11, [.ref r_tape, .ref r_reader, .ref r_now, .ref r_trial, .ref r_images, .ref r_kept, .ref r_slots, .ref r_night, .ref r_other, .ref r_circle, .ref r_words, .ref r_law, .ref r_place, .ref r_drawn])), (r_now, .inr (8, [.int 0, .int 0, .int 0, .int 0, .int 0, .int 0, .int 0, .ref n_signs, .int 0, .ref n_posts, .int 0, .ref n_acts]))] H := hP
  have hD : va_D (fun q : Nat => s.heap.size ≤ q) [(x0, .inr (11, [.ref r_tape, .ref r_reader, .ref r_now, .ref r_trial, .ref r_images, .ref r_kept, .ref r_slots, .ref r_night, .ref r_other, .ref r_circle, .ref r_words, .ref r_law, .ref r_place, .ref r_drawn])), (r_now, .inr (8, [.int 0, .int 0, .int 0, .int 0, .int 0, .int 0, .int 0, .ref n_signs, .int 0, .ref n_posts, .int 0, .ref n_acts]))] := hD
  obtain rfl := h_4
  refine lv_icmp_eq (tgt := 2116) hx hb dL_law_777 (by decide) (fun _ => ?_) (fun c0 => absurd c0 (by decide))
  exact law_end C0 hK hN (Nat.le_of_ble_eq_true rfl) (Nat.le_of_ble_eq_true rfl) hS (lv_sub hl [0, 1, 2, 3] rfl)

set_option maxHeartbeats 4000000 in
set_option maxRecDepth 100000 in
theorem law_20 {p : Program} {l : Launch} {e : Env} {s : State} {m : MethodId} {below : List Frame} {meth : Method} {c : Code} {D : va_G} {cB cI cJ cZ cS cT : ClassId} {b : Nat} {xs : Nat → Int32} (C0 : lw_At p s m meth c b 6 xs) (hK : va_K D vwCl (tyL cB cI cJ cZ cS cT) s) (hN : kN s) {H : Heap} {locs : List Loc} {x0 : Nat} {m0 : Nat} {r_tape : Nat} {r_reader : Nat} {r_now : Nat} {r_trial : Nat} {r_images : Nat} {r_kept : Nat} {r_slots : Nat} {r_night : Nat} {r_other : Nat} {r_circle : Nat} {r_words : Nat} {r_law : Nat} {r_place : Nat} {r_drawn : Nat} {n_signs : Nat} {n_posts : Nat} {n_acts : Nat} {m_world : Nat} {m_images : Nat} {m_hasImage : Nat} {m_tape : Nat} {m_five : Nat} {m_fresh : Nat} {m_spokenAt : Nat} {m_heardAt : Nat} {m_lastAt : Nat} {m_answerAt : Nat} {m_heardNow : Nat} {m_seenAt : Nat} {m_fewest : Nat} {m_costNow : Nat} {m_costThen : Nat} {m_lawsOf : Nat} {m_heardBy : Nat} {m_placesOf : Nat} {m_sentIn : Nat} {m_lostBy : Nat} {m_many : Nat} {m_width : Nat} {m_numbers : Nat} {m_moving : Nat} (hP : va_P D vwCl [(x0, .inr (11, [.ref r_tape, .ref r_reader, .ref r_now, .ref r_trial, .ref r_images, .ref r_kept, .ref r_slots, .ref r_night, .ref r_other, .ref r_circle, .ref r_words, .ref r_law, .ref r_place, .ref r_drawn])), (r_now, .inr (8, [.int 0, .int 0, .int 0, .int 0, .int 0, .int 0, .int 0, .ref n_signs, .int 0, .ref n_posts, .int 0, .ref n_acts])), (m0, .inr (12, [.int 0, .ref m_world, .ref m_images, .ref m_hasImage, .ref m_tape, .int 0, .ref m_five, .int 0, .int 0, .int 0, .int 0, .int 0, .int 0, .int (-1), .ref m_fresh, .ref m_spokenAt, .ref m_heardAt, .ref m_lastAt, .ref m_answerAt, .int 0, .int 0, .int 0, .long 0, .int 0, .int 0, .ref m_heardNow, .ref m_seenAt, .int 0, .int 0, .int 0, .int 0, .int 0, .ref m_fewest, .ref m_costNow, .ref m_costThen, .ref m_lawsOf, .ref m_heardBy, .int 0, .int 0, .ref m_placesOf, .ref m_sentIn, .int 0, .int 0, .ref m_lostBy, .ref m_many, .ref m_width, .ref m_numbers, .ref m_moving])), (m_world, .inl (cI, 53, .inl (fun _ => 0))), (m_spokenAt, .inl (cI, 61, .inl (fun _ => 0)))] H) (hD : va_D (fun q : Nat => s.heap.size ≤ q) [(x0, .inr (11, [.ref r_tape, .ref r_reader, .ref r_now, .ref r_trial, .ref r_images, .ref r_kept, .ref r_slots, .ref r_night, .ref r_other, .ref r_circle, .ref r_words, .ref r_law, .ref r_place, .ref r_drawn])), (r_now, .inr (8, [.int 0, .int 0, .int 0, .int 0, .int 0, .int 0, .int 0, .ref n_signs, .int 0, .ref n_posts, .int 0, .ref n_acts])), (m0, .inr (12, [.int 0, .ref m_world, .ref m_images, .ref m_hasImage, .ref m_tape, .int 0, .ref m_five, .int 0, .int 0, .int 0, .int 0, .int 0, .int 0, .int (-1), .ref m_fresh, .ref m_spokenAt, .ref m_heardAt, .ref m_lastAt, .ref m_answerAt, .int 0, .int 0, .int 0, .long 0, .int 0, .int 0, .ref m_heardNow, .ref m_seenAt, .int 0, .int 0, .int 0, .int 0, .int 0, .ref m_fewest, .ref m_costNow, .ref m_costThen, .ref m_lawsOf, .ref m_heardBy, .int 0, .int 0, .ref m_placesOf, .ref m_sentIn, .int 0, .int 0, .ref m_lostBy, .ref m_many, .ref m_width, .ref m_numbers, .ref m_moving])), (m_world, .inl (cI, 53, .inl (fun _ => 0))), (m_spokenAt, .inl (cI, 61, .inl (fun _ => 0)))]) (hS : va_S (fun q : Nat => s.heap.size ≤ q) s.heap H locs) {ls : Array Slot} (hl : lv_has ls 4 [(0, .ref b), (1, .ref x0), (2, .ref m0), (3, .int 0)]) : W p l e room_1 s m #[Value.ref b] below meth c H locs 118 60870 (lw_Z below #[Value.ref b] s) (F0 m 782 ls []) := by
  obtain ⟨hx, hb, hr, hml, hown, hts0, hX, hbl, hlocks, hgv⟩ := id C0
  have hts : ∀ w ∈ wsL_law, w.before #[Value.ref b] s = true := fun w h => hts0 w (wsL_law_in w h)
  have hA : ∀ q : Nat, s.heap.size ≤ q → (fun q : Nat => s.heap.size ≤ q) q := fun _ h => h
  have hbA : ¬ (fun q : Nat => s.heap.size ≤ q) b := Nat.not_le.mpr hbl
  refine lv_aload_n hx hb dL_law_782 rfl (lv_at hl 1 rfl) ?_
  refine roi (As := []) (rest := []) ⟨hx, hb, hml, hown, hts⟩ (kx_leap l D cB cI cJ cZ cS cT x0 r_tape r_reader r_now r_trial r_images r_kept r_slots r_night r_other r_circle r_words r_law r_place r_drawn n_signs n_posts n_acts ) (cvB (n := 0) (inr34 _ (List.mem_of_getElem? (i := 2) rfl)) (inr34 _ (List.mem_of_getElem? (i := 3) rfl)) (inr34 _ (List.mem_of_getElem? (i := 4) rfl)) (inr1 _ (List.mem_of_getElem? (i := 2) rfl)) (inr34 _ (List.mem_of_getElem? (i := 5) rfl)) (by decide +kernel) hts rfl rfl ⟨Nat.le_of_ble_eq_true rfl, Nat.le_of_ble_eq_true rfl⟩) 0 11 rfl rfl rfl (hP.sub [0, 1] rfl) hK rfl hl.1 rfl (Nat.le_of_ble_eq_true rfl) ⟨Nat.le_of_ble_eq_true rfl, Nat.le_of_ble_eq_true rfl⟩ dL_law_783 (fun r_1 h_2 => ?_)
  obtain rfl := h_2
  refine lv_aload_n hx hb dL_law_786 rfl (lv_at hl 2 rfl) ?_
  refine wrVi (As := []) (rest := [.int (-2)]) (wr := [(x0, .inr (11, [.ref r_tape, .ref r_reader, .ref r_now, .ref r_trial, .ref r_images, .ref r_kept, .ref r_slots, .ref r_night, .ref r_other, .ref r_circle, .ref r_words, .ref r_law, .ref r_place, .ref r_drawn])), (r_now, .inr (8, [.int 0, .int 0, .int 0, .int 0, .int 0, .int 0, .int 0, .ref n_signs, .int 0, .ref n_posts, .int 0, .ref n_acts]))]) ⟨hx, hb, hml, hown, hts⟩ (km_leap l D cB cI cJ cZ cS cT H.size m0 m_world m_images m_hasImage m_tape m_five m_fresh m_spokenAt m_heardAt m_lastAt m_answerAt m_heardNow m_seenAt m_fewest m_costNow m_costThen m_lawsOf m_heardBy m_placesOf m_sentIn m_lostBy m_many m_width m_numbers m_moving (fun _ => 0) ) hP hD hS hA hK hN [2, 3, 4] [0, 1] rfl rfl (by decide) (by decide) (by decide) (cvB (n := 0) (inr34 _ (List.mem_of_getElem? (i := 13) rfl)) (inr34 _ (List.mem_of_getElem? (i := 14) rfl)) (inr34 _ (List.mem_of_getElem? (i := 15) rfl)) (inr1 _ (List.mem_of_getElem? (i := 5) rfl)) (inr34 _ (List.mem_of_getElem? (i := 16) rfl)) (by decide +kernel) hts rfl rfl ⟨Nat.le_of_ble_eq_true rfl, Nat.le_of_ble_eq_true rfl⟩) 0 12 rfl rfl rfl rfl hl.1 rfl (Nat.le_of_ble_eq_true rfl) ⟨Nat.le_of_ble_eq_true rfl, Nat.le_of_ble_eq_true rfl⟩ dL_law_787 (fun r_3 x9 H locs h_4 hP hD hS => ?_)
  have hP : va_P D vwCl [(x0, .inr (11, [.ref r_tape, .ref r_reader, .ref r_now, .ref r_trial, .ref r_images, .ref r_kept, .ref r_slots, .ref r_night, .ref r_other, .ref r_circle, .ref r_words, .ref r_law, .ref r_place, .ref r_drawn])), (r_now, .inr (8, [.int 0, .int 0, .int 0, .int 0, .int 0, .int 0, .int 0, .ref n_signs, .int 0, .ref n_posts, .int 0, .ref n_acts]))] H := hP
  have hD : va_D (fun q : Nat => s.heap.size ≤ q) [(x0, .inr (11, [.ref r_tape, .ref r_reader, .ref r_now, .ref r_trial, .ref r_images, .ref r_kept, .ref r_slots, .ref r_night, .ref r_other, .ref r_circle, .ref r_words, .ref r_law, .ref r_place, .ref r_drawn])), (r_now, .inr (8, [.int 0, .int 0, .int 0, .int 0, .int 0, .int 0, .int 0, .ref n_signs, .int 0, .ref n_posts, .int 0, .ref n_acts]))] := hD
  obtain rfl := h_4
  refine lv_icmp_eq (tgt := 2116) hx hb dL_law_790 (by decide) (fun _ => ?_) (fun c0 => absurd c0 (by decide))
  exact law_end C0 hK hN (Nat.le_of_ble_eq_true rfl) (Nat.le_of_ble_eq_true rfl) hS (lv_sub hl [0, 1, 2, 3] rfl)

set_option maxHeartbeats 4000000 in
set_option maxRecDepth 100000 in
theorem law_21 {p : Program} {l : Launch} {e : Env} {s : State} {m : MethodId} {below : List Frame} {meth : Method} {c : Code} {D : va_G} {cB cI cJ cZ cS cT : ClassId} {b : Nat} {xs : Nat → Int32} (C0 : lw_At p s m meth c b 6 xs) (hK : va_K D vwCl (tyL cB cI cJ cZ cS cT) s) (hN : kN s) {H : Heap} {locs : List Loc} {x0 : Nat} {m0 : Nat} {r_tape : Nat} {r_reader : Nat} {r_now : Nat} {r_trial : Nat} {r_images : Nat} {r_kept : Nat} {r_slots : Nat} {r_night : Nat} {r_other : Nat} {r_circle : Nat} {r_words : Nat} {r_law : Nat} {r_place : Nat} {r_drawn : Nat} {n_signs : Nat} {n_posts : Nat} {n_acts : Nat} {m_world : Nat} {m_images : Nat} {m_hasImage : Nat} {m_tape : Nat} {m_five : Nat} {m_fresh : Nat} {m_spokenAt : Nat} {m_heardAt : Nat} {m_lastAt : Nat} {m_answerAt : Nat} {m_heardNow : Nat} {m_seenAt : Nat} {m_fewest : Nat} {m_costNow : Nat} {m_costThen : Nat} {m_lawsOf : Nat} {m_heardBy : Nat} {m_placesOf : Nat} {m_sentIn : Nat} {m_lostBy : Nat} {m_many : Nat} {m_width : Nat} {m_numbers : Nat} {m_moving : Nat} (hP : va_P D vwCl [(x0, .inr (11, [.ref r_tape, .ref r_reader, .ref r_now, .ref r_trial, .ref r_images, .ref r_kept, .ref r_slots, .ref r_night, .ref r_other, .ref r_circle, .ref r_words, .ref r_law, .ref r_place, .ref r_drawn])), (r_now, .inr (8, [.int 0, .int 0, .int 0, .int 0, .int 0, .int 0, .int 0, .ref n_signs, .int 0, .ref n_posts, .int 0, .ref n_acts])), (m0, .inr (12, [.int 0, .ref m_world, .ref m_images, .ref m_hasImage, .ref m_tape, .int 0, .ref m_five, .int 0, .int 0, .int 0, .int 0, .int 0, .int 0, .int (-1), .ref m_fresh, .ref m_spokenAt, .ref m_heardAt, .ref m_lastAt, .ref m_answerAt, .int 0, .int 0, .int 0, .long 0, .int 0, .int 0, .ref m_heardNow, .ref m_seenAt, .int 0, .int 0, .int 0, .int 0, .int 0, .ref m_fewest, .ref m_costNow, .ref m_costThen, .ref m_lawsOf, .ref m_heardBy, .int 0, .int 0, .ref m_placesOf, .ref m_sentIn, .int 0, .int 0, .ref m_lostBy, .ref m_many, .ref m_width, .ref m_numbers, .ref m_moving])), (m_world, .inl (cI, 53, .inl (fun _ => 0))), (m_spokenAt, .inl (cI, 61, .inl (fun _ => 0)))] H) (hD : va_D (fun q : Nat => s.heap.size ≤ q) [(x0, .inr (11, [.ref r_tape, .ref r_reader, .ref r_now, .ref r_trial, .ref r_images, .ref r_kept, .ref r_slots, .ref r_night, .ref r_other, .ref r_circle, .ref r_words, .ref r_law, .ref r_place, .ref r_drawn])), (r_now, .inr (8, [.int 0, .int 0, .int 0, .int 0, .int 0, .int 0, .int 0, .ref n_signs, .int 0, .ref n_posts, .int 0, .ref n_acts])), (m0, .inr (12, [.int 0, .ref m_world, .ref m_images, .ref m_hasImage, .ref m_tape, .int 0, .ref m_five, .int 0, .int 0, .int 0, .int 0, .int 0, .int 0, .int (-1), .ref m_fresh, .ref m_spokenAt, .ref m_heardAt, .ref m_lastAt, .ref m_answerAt, .int 0, .int 0, .int 0, .long 0, .int 0, .int 0, .ref m_heardNow, .ref m_seenAt, .int 0, .int 0, .int 0, .int 0, .int 0, .ref m_fewest, .ref m_costNow, .ref m_costThen, .ref m_lawsOf, .ref m_heardBy, .int 0, .int 0, .ref m_placesOf, .ref m_sentIn, .int 0, .int 0, .ref m_lostBy, .ref m_many, .ref m_width, .ref m_numbers, .ref m_moving])), (m_world, .inl (cI, 53, .inl (fun _ => 0))), (m_spokenAt, .inl (cI, 61, .inl (fun _ => 0)))]) (hS : va_S (fun q : Nat => s.heap.size ≤ q) s.heap H locs) {ls : Array Slot} (hl : lv_has ls 4 [(0, .ref b), (1, .ref x0), (2, .ref m0), (3, .int 0)]) : W p l e room_1 s m #[Value.ref b] below meth c H locs 118 60870 (lw_Z below #[Value.ref b] s) (F0 m 795 ls []) := by
  obtain ⟨hx, hb, hr, hml, hown, hts0, hX, hbl, hlocks, hgv⟩ := id C0
  have hts : ∀ w ∈ wsL_law, w.before #[Value.ref b] s = true := fun w h => hts0 w (wsL_law_in w h)
  have hA : ∀ q : Nat, s.heap.size ≤ q → (fun q : Nat => s.heap.size ≤ q) q := fun _ h => h
  have hbA : ¬ (fun q : Nat => s.heap.size ≤ q) b := Nat.not_le.mpr hbl
  refine lv_aload_n hx hb dL_law_795 rfl (lv_at hl 1 rfl) ?_
  refine lv_aload_n hx hb dL_law_796 rfl (lv_at hl 0 rfl) ?_
  refine lv_iload_n hx hb dL_law_797 rfl (lv_at hl 3 rfl) ?_
  refine lv_iconst (v := 1) hx hb dL_law_798 (by decide) ?_
  refine z_iadd (v := 1) hx hb dL_law_799 (by decide) ?_
  refine va_sld hx hb hX hbl hbA hS (by unfold vp_in; decide) dL_law_800 ?_
  refine W.eq (g2 := F0 m 801 ls [.int (xs 1), .ref x0]) rfl ?_
  refine roi (As := [.int (xs 1)]) (rest := []) ⟨hx, hb, hml, hown, hts⟩ (kx_when l D cB cI cJ cZ cS cT x0 r_tape r_reader r_now r_trial r_images r_kept r_slots r_night r_other r_circle r_words r_law r_place r_drawn n_signs n_posts n_acts (xs 1) ) (cvB (n := 1) (inr34 _ (List.mem_of_getElem? (i := 18) rfl)) (inr34 _ (List.mem_of_getElem? (i := 19) rfl)) (inr34 _ (List.mem_of_getElem? (i := 20) rfl)) (inr1 _ (List.mem_of_getElem? (i := 2) rfl)) (inr34 _ (List.mem_of_getElem? (i := 21) rfl)) (by decide +kernel) hts rfl rfl ⟨Nat.le_of_ble_eq_true rfl, Nat.le_of_ble_eq_true rfl⟩) 0 11 rfl rfl rfl (hP.sub [0, 1] rfl) hK rfl hl.1 rfl (Nat.le_of_ble_eq_true rfl) ⟨Nat.le_of_ble_eq_true rfl, Nat.le_of_ble_eq_true rfl⟩ dL_law_801 (fun r_1 h_2 => ?_)
  obtain rfl := h_2
  refine lv_aload_n hx hb dL_law_804 rfl (lv_at hl 2 rfl) ?_
  refine lv_aload_n hx hb dL_law_805 rfl (lv_at hl 0 rfl) ?_
  refine lv_iload_n hx hb dL_law_806 rfl (lv_at hl 3 rfl) ?_
  refine lv_iconst (v := 1) hx hb dL_law_807 (by decide) ?_
  refine z_iadd (v := 1) hx hb dL_law_808 (by decide) ?_
  refine va_sld hx hb hX hbl hbA hS (by unfold vp_in; decide) dL_law_809 ?_
  refine W.eq (g2 := F0 m 810 ls [.int (xs 1), .ref m0, .int (-2)]) rfl ?_
  refine wrVi (As := [.int (xs 1)]) (rest := [.int (-2)]) (wr := [(x0, .inr (11, [.ref r_tape, .ref r_reader, .ref r_now, .ref r_trial, .ref r_images, .ref r_kept, .ref r_slots, .ref r_night, .ref r_other, .ref r_circle, .ref r_words, .ref r_law, .ref r_place, .ref r_drawn])), (r_now, .inr (8, [.int 0, .int 0, .int 0, .int 0, .int 0, .int 0, .int 0, .ref n_signs, .int 0, .ref n_posts, .int 0, .ref n_acts]))]) ⟨hx, hb, hml, hown, hts⟩ (km_when l D cB cI cJ cZ cS cT H.size m0 m_world m_images m_hasImage m_tape m_five m_fresh m_spokenAt m_heardAt m_lastAt m_answerAt m_heardNow m_seenAt m_fewest m_costNow m_costThen m_lawsOf m_heardBy m_placesOf m_sentIn m_lostBy m_many m_width m_numbers m_moving (fun _ => 0) (xs 1) ) hP hD hS hA hK hN [2, 3, 4] [0, 1] rfl rfl (by decide) (by decide) (by decide) (cvB (n := 1) (inr34 _ (List.mem_of_getElem? (i := 22) rfl)) (inr34 _ (List.mem_of_getElem? (i := 23) rfl)) (inr35 _ (List.mem_of_getElem? (i := 0) rfl)) (inr1 _ (List.mem_of_getElem? (i := 5) rfl)) (inr35 _ (List.mem_of_getElem? (i := 1) rfl)) (by decide +kernel) hts rfl rfl ⟨Nat.le_of_ble_eq_true rfl, Nat.le_of_ble_eq_true rfl⟩) 0 12 rfl rfl rfl rfl hl.1 rfl (Nat.le_of_ble_eq_true rfl) ⟨Nat.le_of_ble_eq_true rfl, Nat.le_of_ble_eq_true rfl⟩ dL_law_810 (fun r_3 x9 H locs h_4 hP hD hS => ?_)
  have hP : va_P D vwCl [(x0, .inr (11, [.ref r_tape, .ref r_reader, .ref r_now, .ref r_trial, .ref r_images, .ref r_kept, .ref r_slots, .ref r_night, .ref r_other, .ref r_circle, .ref r_words, .ref r_law, .ref r_place, .ref r_drawn])), (r_now, .inr (8, [.int 0, .int 0, .int 0, .int 0, .int 0, .int 0, .int 0, .ref n_signs, .int 0, .ref n_posts, .int 0, .ref n_acts]))] H := hP
  have hD : va_D (fun q : Nat => s.heap.size ≤ q) [(x0, .inr (11, [.ref r_tape, .ref r_reader, .ref r_now, .ref r_trial, .ref r_images, .ref r_kept, .ref r_slots, .ref r_night, .ref r_other, .ref r_circle, .ref r_words, .ref r_law, .ref r_place, .ref r_drawn])), (r_now, .inr (8, [.int 0, .int 0, .int 0, .int 0, .int 0, .int 0, .int 0, .ref n_signs, .int 0, .ref n_posts, .int 0, .ref n_acts]))] := hD
  obtain rfl := h_4
  refine lv_icmp_eq (tgt := 2116) hx hb dL_law_813 (by decide) (fun _ => ?_) (fun c0 => absurd c0 (by decide))
  exact law_end C0 hK hN (Nat.le_of_ble_eq_true rfl) (Nat.le_of_ble_eq_true rfl) hS (lv_sub hl [0, 1, 2, 3] rfl)

set_option maxHeartbeats 4000000 in
set_option maxRecDepth 100000 in
theorem law_22 {p : Program} {l : Launch} {e : Env} {s : State} {m : MethodId} {below : List Frame} {meth : Method} {c : Code} {D : va_G} {cB cI cJ cZ cS cT : ClassId} {b : Nat} {xs : Nat → Int32} (C0 : lw_At p s m meth c b 6 xs) (hK : va_K D vwCl (tyL cB cI cJ cZ cS cT) s) (hN : kN s) {H : Heap} {locs : List Loc} {x0 : Nat} {m0 : Nat} {r_tape : Nat} {r_reader : Nat} {r_now : Nat} {r_trial : Nat} {r_images : Nat} {r_kept : Nat} {r_slots : Nat} {r_night : Nat} {r_other : Nat} {r_circle : Nat} {r_words : Nat} {r_law : Nat} {r_place : Nat} {r_drawn : Nat} {n_signs : Nat} {n_posts : Nat} {n_acts : Nat} {m_world : Nat} {m_images : Nat} {m_hasImage : Nat} {m_tape : Nat} {m_five : Nat} {m_fresh : Nat} {m_spokenAt : Nat} {m_heardAt : Nat} {m_lastAt : Nat} {m_answerAt : Nat} {m_heardNow : Nat} {m_seenAt : Nat} {m_fewest : Nat} {m_costNow : Nat} {m_costThen : Nat} {m_lawsOf : Nat} {m_heardBy : Nat} {m_placesOf : Nat} {m_sentIn : Nat} {m_lostBy : Nat} {m_many : Nat} {m_width : Nat} {m_numbers : Nat} {m_moving : Nat} (hP : va_P D vwCl [(x0, .inr (11, [.ref r_tape, .ref r_reader, .ref r_now, .ref r_trial, .ref r_images, .ref r_kept, .ref r_slots, .ref r_night, .ref r_other, .ref r_circle, .ref r_words, .ref r_law, .ref r_place, .ref r_drawn])), (r_now, .inr (8, [.int 0, .int 0, .int 0, .int 0, .int 0, .int 0, .int 0, .ref n_signs, .int 0, .ref n_posts, .int 0, .ref n_acts])), (m0, .inr (12, [.int 0, .ref m_world, .ref m_images, .ref m_hasImage, .ref m_tape, .int 0, .ref m_five, .int 0, .int 0, .int 0, .int 0, .int 0, .int 0, .int (-1), .ref m_fresh, .ref m_spokenAt, .ref m_heardAt, .ref m_lastAt, .ref m_answerAt, .int 0, .int 0, .int 0, .long 0, .int 0, .int 0, .ref m_heardNow, .ref m_seenAt, .int 0, .int 0, .int 0, .int 0, .int 0, .ref m_fewest, .ref m_costNow, .ref m_costThen, .ref m_lawsOf, .ref m_heardBy, .int 0, .int 0, .ref m_placesOf, .ref m_sentIn, .int 0, .int 0, .ref m_lostBy, .ref m_many, .ref m_width, .ref m_numbers, .ref m_moving])), (m_world, .inl (cI, 53, .inl (fun _ => 0))), (m_spokenAt, .inl (cI, 61, .inl (fun _ => 0)))] H) (hD : va_D (fun q : Nat => s.heap.size ≤ q) [(x0, .inr (11, [.ref r_tape, .ref r_reader, .ref r_now, .ref r_trial, .ref r_images, .ref r_kept, .ref r_slots, .ref r_night, .ref r_other, .ref r_circle, .ref r_words, .ref r_law, .ref r_place, .ref r_drawn])), (r_now, .inr (8, [.int 0, .int 0, .int 0, .int 0, .int 0, .int 0, .int 0, .ref n_signs, .int 0, .ref n_posts, .int 0, .ref n_acts])), (m0, .inr (12, [.int 0, .ref m_world, .ref m_images, .ref m_hasImage, .ref m_tape, .int 0, .ref m_five, .int 0, .int 0, .int 0, .int 0, .int 0, .int 0, .int (-1), .ref m_fresh, .ref m_spokenAt, .ref m_heardAt, .ref m_lastAt, .ref m_answerAt, .int 0, .int 0, .int 0, .long 0, .int 0, .int 0, .ref m_heardNow, .ref m_seenAt, .int 0, .int 0, .int 0, .int 0, .int 0, .ref m_fewest, .ref m_costNow, .ref m_costThen, .ref m_lawsOf, .ref m_heardBy, .int 0, .int 0, .ref m_placesOf, .ref m_sentIn, .int 0, .int 0, .ref m_lostBy, .ref m_many, .ref m_width, .ref m_numbers, .ref m_moving])), (m_world, .inl (cI, 53, .inl (fun _ => 0))), (m_spokenAt, .inl (cI, 61, .inl (fun _ => 0)))]) (hS : va_S (fun q : Nat => s.heap.size ≤ q) s.heap H locs) {ls : Array Slot} (hl : lv_has ls 4 [(0, .ref b), (1, .ref x0), (2, .ref m0), (3, .int 0)]) : W p l e room_1 s m #[Value.ref b] below meth c H locs 118 60870 (lw_Z below #[Value.ref b] s) (F0 m 818 ls []) := by
  obtain ⟨hx, hb, hr, hml, hown, hts0, hX, hbl, hlocks, hgv⟩ := id C0
  have hts : ∀ w ∈ wsL_law, w.before #[Value.ref b] s = true := fun w h => hts0 w (wsL_law_in w h)
  have hA : ∀ q : Nat, s.heap.size ≤ q → (fun q : Nat => s.heap.size ≤ q) q := fun _ h => h
  have hbA : ¬ (fun q : Nat => s.heap.size ≤ q) b := Nat.not_le.mpr hbl
  refine lv_aload_n hx hb dL_law_818 rfl (lv_at hl 1 rfl) ?_
  refine lv_aload_n hx hb dL_law_819 rfl (lv_at hl 0 rfl) ?_
  refine lv_iload_n hx hb dL_law_820 rfl (lv_at hl 3 rfl) ?_
  refine lv_iconst (v := 1) hx hb dL_law_821 (by decide) ?_
  refine z_iadd (v := 1) hx hb dL_law_822 (by decide) ?_
  refine va_sld hx hb hX hbl hbA hS (by unfold vp_in; decide) dL_law_823 ?_
  refine W.eq (g2 := F0 m 824 ls [.int (xs 1), .ref x0]) rfl ?_
  refine roi (As := [.int (xs 1)]) (rest := []) ⟨hx, hb, hml, hown, hts⟩ (kx_echo l D cB cI cJ cZ cS cT x0 r_tape r_reader r_now r_trial r_images r_kept r_slots r_night r_other r_circle r_words r_law r_place r_drawn n_signs n_posts n_acts (xs 1) ) (cvB (n := 1) (inr35 _ (List.mem_of_getElem? (i := 2) rfl)) (inr35 _ (List.mem_of_getElem? (i := 3) rfl)) (inr35 _ (List.mem_of_getElem? (i := 4) rfl)) (inr1 _ (List.mem_of_getElem? (i := 2) rfl)) (inr35 _ (List.mem_of_getElem? (i := 5) rfl)) (by decide +kernel) hts rfl rfl ⟨Nat.le_of_ble_eq_true rfl, Nat.le_of_ble_eq_true rfl⟩) 0 11 rfl rfl rfl (hP.sub [0, 1] rfl) hK rfl hl.1 rfl (Nat.le_of_ble_eq_true rfl) ⟨Nat.le_of_ble_eq_true rfl, Nat.le_of_ble_eq_true rfl⟩ dL_law_824 (fun r_1 h_2 => ?_)
  obtain rfl := h_2
  refine lv_aload_n hx hb dL_law_827 rfl (lv_at hl 2 rfl) ?_
  refine lv_aload_n hx hb dL_law_828 rfl (lv_at hl 0 rfl) ?_
  refine lv_iload_n hx hb dL_law_829 rfl (lv_at hl 3 rfl) ?_
  refine lv_iconst (v := 1) hx hb dL_law_830 (by decide) ?_
  refine z_iadd (v := 1) hx hb dL_law_831 (by decide) ?_
  refine va_sld hx hb hX hbl hbA hS (by unfold vp_in; decide) dL_law_832 ?_
  refine W.eq (g2 := F0 m 833 ls [.int (xs 1), .ref m0, .int (-2)]) rfl ?_
  refine wrVi (As := [.int (xs 1)]) (rest := [.int (-2)]) (wr := [(x0, .inr (11, [.ref r_tape, .ref r_reader, .ref r_now, .ref r_trial, .ref r_images, .ref r_kept, .ref r_slots, .ref r_night, .ref r_other, .ref r_circle, .ref r_words, .ref r_law, .ref r_place, .ref r_drawn])), (r_now, .inr (8, [.int 0, .int 0, .int 0, .int 0, .int 0, .int 0, .int 0, .ref n_signs, .int 0, .ref n_posts, .int 0, .ref n_acts]))]) ⟨hx, hb, hml, hown, hts⟩ (km_echo l D cB cI cJ cZ cS cT H.size m0 m_world m_images m_hasImage m_tape m_five m_fresh m_spokenAt m_heardAt m_lastAt m_answerAt m_heardNow m_seenAt m_fewest m_costNow m_costThen m_lawsOf m_heardBy m_placesOf m_sentIn m_lostBy m_many m_width m_numbers m_moving (fun _ => 0) (xs 1) ) hP hD hS hA hK hN [2, 3, 4] [0, 1] rfl rfl (by decide) (by decide) (by decide) (cvB (n := 1) (inr35 _ (List.mem_of_getElem? (i := 11) rfl)) (inr35 _ (List.mem_of_getElem? (i := 12) rfl)) (inr35 _ (List.mem_of_getElem? (i := 13) rfl)) (inr1 _ (List.mem_of_getElem? (i := 5) rfl)) (inr35 _ (List.mem_of_getElem? (i := 14) rfl)) (by decide +kernel) hts rfl rfl ⟨Nat.le_of_ble_eq_true rfl, Nat.le_of_ble_eq_true rfl⟩) 0 12 rfl rfl rfl rfl hl.1 rfl (Nat.le_of_ble_eq_true rfl) ⟨Nat.le_of_ble_eq_true rfl, Nat.le_of_ble_eq_true rfl⟩ dL_law_833 (fun r_3 x9 H locs h_4 hP hD hS => ?_)
  have hP : va_P D vwCl [(x0, .inr (11, [.ref r_tape, .ref r_reader, .ref r_now, .ref r_trial, .ref r_images, .ref r_kept, .ref r_slots, .ref r_night, .ref r_other, .ref r_circle, .ref r_words, .ref r_law, .ref r_place, .ref r_drawn])), (r_now, .inr (8, [.int 0, .int 0, .int 0, .int 0, .int 0, .int 0, .int 0, .ref n_signs, .int 0, .ref n_posts, .int 0, .ref n_acts]))] H := hP
  have hD : va_D (fun q : Nat => s.heap.size ≤ q) [(x0, .inr (11, [.ref r_tape, .ref r_reader, .ref r_now, .ref r_trial, .ref r_images, .ref r_kept, .ref r_slots, .ref r_night, .ref r_other, .ref r_circle, .ref r_words, .ref r_law, .ref r_place, .ref r_drawn])), (r_now, .inr (8, [.int 0, .int 0, .int 0, .int 0, .int 0, .int 0, .int 0, .ref n_signs, .int 0, .ref n_posts, .int 0, .ref n_acts]))] := hD
  obtain rfl := h_4
  refine lv_icmp_eq (tgt := 2116) hx hb dL_law_836 (by decide) (fun _ => ?_) (fun c0 => absurd c0 (by decide))
  exact law_end C0 hK hN (Nat.le_of_ble_eq_true rfl) (Nat.le_of_ble_eq_true rfl) hS (lv_sub hl [0, 1, 2, 3] rfl)

set_option maxHeartbeats 4000000 in
set_option maxRecDepth 100000 in
theorem law_23 {p : Program} {l : Launch} {e : Env} {s : State} {m : MethodId} {below : List Frame} {meth : Method} {c : Code} {D : va_G} {cB cI cJ cZ cS cT : ClassId} {b : Nat} {xs : Nat → Int32} (C0 : lw_At p s m meth c b 6 xs) (hK : va_K D vwCl (tyL cB cI cJ cZ cS cT) s) (hN : kN s) {H : Heap} {locs : List Loc} {x0 : Nat} {m0 : Nat} {r_tape : Nat} {r_reader : Nat} {r_now : Nat} {r_trial : Nat} {r_images : Nat} {r_kept : Nat} {r_slots : Nat} {r_night : Nat} {r_other : Nat} {r_circle : Nat} {r_words : Nat} {r_law : Nat} {r_place : Nat} {r_drawn : Nat} {n_signs : Nat} {n_posts : Nat} {n_acts : Nat} {m_world : Nat} {m_images : Nat} {m_hasImage : Nat} {m_tape : Nat} {m_five : Nat} {m_fresh : Nat} {m_spokenAt : Nat} {m_heardAt : Nat} {m_lastAt : Nat} {m_answerAt : Nat} {m_heardNow : Nat} {m_seenAt : Nat} {m_fewest : Nat} {m_costNow : Nat} {m_costThen : Nat} {m_lawsOf : Nat} {m_heardBy : Nat} {m_placesOf : Nat} {m_sentIn : Nat} {m_lostBy : Nat} {m_many : Nat} {m_width : Nat} {m_numbers : Nat} {m_moving : Nat} (hP : va_P D vwCl [(x0, .inr (11, [.ref r_tape, .ref r_reader, .ref r_now, .ref r_trial, .ref r_images, .ref r_kept, .ref r_slots, .ref r_night, .ref r_other, .ref r_circle, .ref r_words, .ref r_law, .ref r_place, .ref r_drawn])), (r_now, .inr (8, [.int 0, .int 0, .int 0, .int 0, .int 0, .int 0, .int 0, .ref n_signs, .int 0, .ref n_posts, .int 0, .ref n_acts])), (m0, .inr (12, [.int 0, .ref m_world, .ref m_images, .ref m_hasImage, .ref m_tape, .int 0, .ref m_five, .int 0, .int 0, .int 0, .int 0, .int 0, .int 0, .int (-1), .ref m_fresh, .ref m_spokenAt, .ref m_heardAt, .ref m_lastAt, .ref m_answerAt, .int 0, .int 0, .int 0, .long 0, .int 0, .int 0, .ref m_heardNow, .ref m_seenAt, .int 0, .int 0, .int 0, .int 0, .int 0, .ref m_fewest, .ref m_costNow, .ref m_costThen, .ref m_lawsOf, .ref m_heardBy, .int 0, .int 0, .ref m_placesOf, .ref m_sentIn, .int 0, .int 0, .ref m_lostBy, .ref m_many, .ref m_width, .ref m_numbers, .ref m_moving])), (m_world, .inl (cI, 53, .inl (fun _ => 0))), (m_spokenAt, .inl (cI, 61, .inl (fun _ => 0)))] H) (hD : va_D (fun q : Nat => s.heap.size ≤ q) [(x0, .inr (11, [.ref r_tape, .ref r_reader, .ref r_now, .ref r_trial, .ref r_images, .ref r_kept, .ref r_slots, .ref r_night, .ref r_other, .ref r_circle, .ref r_words, .ref r_law, .ref r_place, .ref r_drawn])), (r_now, .inr (8, [.int 0, .int 0, .int 0, .int 0, .int 0, .int 0, .int 0, .ref n_signs, .int 0, .ref n_posts, .int 0, .ref n_acts])), (m0, .inr (12, [.int 0, .ref m_world, .ref m_images, .ref m_hasImage, .ref m_tape, .int 0, .ref m_five, .int 0, .int 0, .int 0, .int 0, .int 0, .int 0, .int (-1), .ref m_fresh, .ref m_spokenAt, .ref m_heardAt, .ref m_lastAt, .ref m_answerAt, .int 0, .int 0, .int 0, .long 0, .int 0, .int 0, .ref m_heardNow, .ref m_seenAt, .int 0, .int 0, .int 0, .int 0, .int 0, .ref m_fewest, .ref m_costNow, .ref m_costThen, .ref m_lawsOf, .ref m_heardBy, .int 0, .int 0, .ref m_placesOf, .ref m_sentIn, .int 0, .int 0, .ref m_lostBy, .ref m_many, .ref m_width, .ref m_numbers, .ref m_moving])), (m_world, .inl (cI, 53, .inl (fun _ => 0))), (m_spokenAt, .inl (cI, 61, .inl (fun _ => 0)))]) (hS : va_S (fun q : Nat => s.heap.size ≤ q) s.heap H locs) {ls : Array Slot} (hl : lv_has ls 4 [(0, .ref b), (1, .ref x0), (2, .ref m0), (3, .int 0)]) : W p l e room_1 s m #[Value.ref b] below meth c H locs 118 60870 (lw_Z below #[Value.ref b] s) (F0 m 841 ls []) := by
  obtain ⟨hx, hb, hr, hml, hown, hts0, hX, hbl, hlocks, hgv⟩ := id C0
  have hts : ∀ w ∈ wsL_law, w.before #[Value.ref b] s = true := fun w h => hts0 w (wsL_law_in w h)
  have hA : ∀ q : Nat, s.heap.size ≤ q → (fun q : Nat => s.heap.size ≤ q) q := fun _ h => h
  have hbA : ¬ (fun q : Nat => s.heap.size ≤ q) b := Nat.not_le.mpr hbl
  refine lv_aload_n hx hb dL_law_841 rfl (lv_at hl 1 rfl) ?_
  refine lv_aload_n hx hb dL_law_842 rfl (lv_at hl 0 rfl) ?_
  refine lv_iload_n hx hb dL_law_843 rfl (lv_at hl 3 rfl) ?_
  refine lv_iconst (v := 1) hx hb dL_law_844 (by decide) ?_
  refine z_iadd (v := 1) hx hb dL_law_845 (by decide) ?_
  refine va_sld hx hb hX hbl hbA hS (by unfold vp_in; decide) dL_law_846 ?_
  refine W.eq (g2 := F0 m 847 ls [.int (xs 1), .ref x0]) rfl ?_
  refine lv_aload_n hx hb dL_law_847 rfl (lv_at hl 0 rfl) ?_
  refine lv_iload_n hx hb dL_law_848 rfl (lv_at hl 3 rfl) ?_
  refine lv_iconst (v := 2) hx hb dL_law_849 (by decide) ?_
  refine z_iadd (v := 2) hx hb dL_law_850 (by decide) ?_
  refine va_sld hx hb hX hbl hbA hS (by unfold vp_in; decide) dL_law_851 ?_
  refine W.eq (g2 := F0 m 852 ls [.int (xs 2), .int (xs 1), .ref x0]) rfl ?_
  refine roi (As := [.int (xs 1), .int (xs 2)]) (rest := []) ⟨hx, hb, hml, hown, hts⟩ (kx_shift l D cB cI cJ cZ cS cT x0 r_tape r_reader r_now r_trial r_images r_kept r_slots r_night r_other r_circle r_words r_law r_place r_drawn n_signs n_posts n_acts (xs 1) (xs 2) ) (cvB (n := 2) (inr35 _ (List.mem_of_getElem? (i := 15) rfl)) (inr35 _ (List.mem_of_getElem? (i := 16) rfl)) (inr35 _ (List.mem_of_getElem? (i := 17) rfl)) (inr1 _ (List.mem_of_getElem? (i := 2) rfl)) (inr35 _ (List.mem_of_getElem? (i := 18) rfl)) (by decide +kernel) hts rfl rfl ⟨Nat.le_of_ble_eq_true rfl, Nat.le_of_ble_eq_true rfl⟩) 0 11 rfl rfl rfl (hP.sub [0, 1] rfl) hK rfl hl.1 rfl (Nat.le_of_ble_eq_true rfl) ⟨Nat.le_of_ble_eq_true rfl, Nat.le_of_ble_eq_true rfl⟩ dL_law_852 (fun r_1 h_2 => ?_)
  obtain rfl := h_2
  refine lv_aload_n hx hb dL_law_855 rfl (lv_at hl 2 rfl) ?_
  refine lv_aload_n hx hb dL_law_856 rfl (lv_at hl 0 rfl) ?_
  refine lv_iload_n hx hb dL_law_857 rfl (lv_at hl 3 rfl) ?_
  refine lv_iconst (v := 1) hx hb dL_law_858 (by decide) ?_
  refine z_iadd (v := 1) hx hb dL_law_859 (by decide) ?_
  refine va_sld hx hb hX hbl hbA hS (by unfold vp_in; decide) dL_law_860 ?_
  refine W.eq (g2 := F0 m 861 ls [.int (xs 1), .ref m0, .int (-2)]) rfl ?_
  refine lv_aload_n hx hb dL_law_861 rfl (lv_at hl 0 rfl) ?_
  refine lv_iload_n hx hb dL_law_862 rfl (lv_at hl 3 rfl) ?_
  refine lv_iconst (v := 2) hx hb dL_law_863 (by decide) ?_
  refine z_iadd (v := 2) hx hb dL_law_864 (by decide) ?_
  refine va_sld hx hb hX hbl hbA hS (by unfold vp_in; decide) dL_law_865 ?_
  refine W.eq (g2 := F0 m 866 ls [.int (xs 2), .int (xs 1), .ref m0, .int (-2)]) rfl ?_
  refine wrVi (As := [.int (xs 1), .int (xs 2)]) (rest := [.int (-2)]) (wr := [(x0, .inr (11, [.ref r_tape, .ref r_reader, .ref r_now, .ref r_trial, .ref r_images, .ref r_kept, .ref r_slots, .ref r_night, .ref r_other, .ref r_circle, .ref r_words, .ref r_law, .ref r_place, .ref r_drawn])), (r_now, .inr (8, [.int 0, .int 0, .int 0, .int 0, .int 0, .int 0, .int 0, .ref n_signs, .int 0, .ref n_posts, .int 0, .ref n_acts]))]) ⟨hx, hb, hml, hown, hts⟩ (km_shift l D cB cI cJ cZ cS cT H.size m0 m_world m_images m_hasImage m_tape m_five m_fresh m_spokenAt m_heardAt m_lastAt m_answerAt m_heardNow m_seenAt m_fewest m_costNow m_costThen m_lawsOf m_heardBy m_placesOf m_sentIn m_lostBy m_many m_width m_numbers m_moving (fun _ => 0) (xs 1) (xs 2) ) hP hD hS hA hK hN [2, 3, 4] [0, 1] rfl rfl (by decide) (by decide) (by decide) (cvB (n := 2) (inr36 _ (List.mem_of_getElem? (i := 11) rfl)) (inr36 _ (List.mem_of_getElem? (i := 12) rfl)) (inr36 _ (List.mem_of_getElem? (i := 13) rfl)) (inr1 _ (List.mem_of_getElem? (i := 5) rfl)) (inr36 _ (List.mem_of_getElem? (i := 14) rfl)) (by decide +kernel) hts rfl rfl ⟨Nat.le_of_ble_eq_true rfl, Nat.le_of_ble_eq_true rfl⟩) 0 12 rfl rfl rfl rfl hl.1 rfl (Nat.le_of_ble_eq_true rfl) ⟨Nat.le_of_ble_eq_true rfl, Nat.le_of_ble_eq_true rfl⟩ dL_law_866 (fun r_3 x9 H locs h_4 hP hD hS => ?_)
  have hP : va_P D vwCl [(x0, .inr (11, [.ref r_tape, .ref r_reader, .ref r_now, .ref r_trial, .ref r_images, .ref r_kept, .ref r_slots, .ref r_night, .ref r_other, .ref r_circle, .ref r_words, .ref r_law, .ref r_place, .ref r_drawn])), (r_now, .inr (8, [.int 0, .int 0, .int 0, .int 0, .int 0, .int 0, .int 0, .ref n_signs, .int 0, .ref n_posts, .int 0, .ref n_acts]))] H := hP
  have hD : va_D (fun q : Nat => s.heap.size ≤ q) [(x0, .inr (11, [.ref r_tape, .ref r_reader, .ref r_now, .ref r_trial, .ref r_images, .ref r_kept, .ref r_slots, .ref r_night, .ref r_other, .ref r_circle, .ref r_words, .ref r_law, .ref r_place, .ref r_drawn])), (r_now, .inr (8, [.int 0, .int 0, .int 0, .int 0, .int 0, .int 0, .int 0, .ref n_signs, .int 0, .ref n_posts, .int 0, .ref n_acts]))] := hD
  obtain rfl := h_4
  refine lv_icmp_eq (tgt := 2116) hx hb dL_law_869 (by decide) (fun _ => ?_) (fun c0 => absurd c0 (by decide))
  exact law_end C0 hK hN (Nat.le_of_ble_eq_true rfl) (Nat.le_of_ble_eq_true rfl) hS (lv_sub hl [0, 1, 2, 3] rfl)

set_option maxHeartbeats 4000000 in
set_option maxRecDepth 100000 in
theorem law_24 {p : Program} {l : Launch} {e : Env} {s : State} {m : MethodId} {below : List Frame} {meth : Method} {c : Code} {D : va_G} {cB cI cJ cZ cS cT : ClassId} {b : Nat} {xs : Nat → Int32} (C0 : lw_At p s m meth c b 6 xs) (hK : va_K D vwCl (tyL cB cI cJ cZ cS cT) s) (hN : kN s) {H : Heap} {locs : List Loc} {x0 : Nat} {m0 : Nat} {r_tape : Nat} {r_reader : Nat} {r_now : Nat} {r_trial : Nat} {r_images : Nat} {r_kept : Nat} {r_slots : Nat} {r_night : Nat} {r_other : Nat} {r_circle : Nat} {r_words : Nat} {r_law : Nat} {r_place : Nat} {r_drawn : Nat} {n_signs : Nat} {n_posts : Nat} {n_acts : Nat} {m_world : Nat} {m_images : Nat} {m_hasImage : Nat} {m_tape : Nat} {m_five : Nat} {m_fresh : Nat} {m_spokenAt : Nat} {m_heardAt : Nat} {m_lastAt : Nat} {m_answerAt : Nat} {m_heardNow : Nat} {m_seenAt : Nat} {m_fewest : Nat} {m_costNow : Nat} {m_costThen : Nat} {m_lawsOf : Nat} {m_heardBy : Nat} {m_placesOf : Nat} {m_sentIn : Nat} {m_lostBy : Nat} {m_many : Nat} {m_width : Nat} {m_numbers : Nat} {m_moving : Nat} (hP : va_P D vwCl [(x0, .inr (11, [.ref r_tape, .ref r_reader, .ref r_now, .ref r_trial, .ref r_images, .ref r_kept, .ref r_slots, .ref r_night, .ref r_other, .ref r_circle, .ref r_words, .ref r_law, .ref r_place, .ref r_drawn])), (r_now, .inr (8, [.int 0, .int 0, .int 0, .int 0, .int 0, .int 0, .int 0, .ref n_signs, .int 0, .ref n_posts, .int 0, .ref n_acts])), (m0, .inr (12, [.int 0, .ref m_world, .ref m_images, .ref m_hasImage, .ref m_tape, .int 0, .ref m_five, .int 0, .int 0, .int 0, .int 0, .int 0, .int 0, .int (-1), .ref m_fresh, .ref m_spokenAt, .ref m_heardAt, .ref m_lastAt, .ref m_answerAt, .int 0, .int 0, .int 0, .long 0, .int 0, .int 0, .ref m_heardNow, .ref m_seenAt, .int 0, .int 0, .int 0, .int 0, .int 0, .ref m_fewest, .ref m_costNow, .ref m_costThen, .ref m_lawsOf, .ref m_heardBy, .int 0, .int 0, .ref m_placesOf, .ref m_sentIn, .int 0, .int 0, .ref m_lostBy, .ref m_many, .ref m_width, .ref m_numbers, .ref m_moving])), (m_world, .inl (cI, 53, .inl (fun _ => 0))), (m_spokenAt, .inl (cI, 61, .inl (fun _ => 0)))] H) (hD : va_D (fun q : Nat => s.heap.size ≤ q) [(x0, .inr (11, [.ref r_tape, .ref r_reader, .ref r_now, .ref r_trial, .ref r_images, .ref r_kept, .ref r_slots, .ref r_night, .ref r_other, .ref r_circle, .ref r_words, .ref r_law, .ref r_place, .ref r_drawn])), (r_now, .inr (8, [.int 0, .int 0, .int 0, .int 0, .int 0, .int 0, .int 0, .ref n_signs, .int 0, .ref n_posts, .int 0, .ref n_acts])), (m0, .inr (12, [.int 0, .ref m_world, .ref m_images, .ref m_hasImage, .ref m_tape, .int 0, .ref m_five, .int 0, .int 0, .int 0, .int 0, .int 0, .int 0, .int (-1), .ref m_fresh, .ref m_spokenAt, .ref m_heardAt, .ref m_lastAt, .ref m_answerAt, .int 0, .int 0, .int 0, .long 0, .int 0, .int 0, .ref m_heardNow, .ref m_seenAt, .int 0, .int 0, .int 0, .int 0, .int 0, .ref m_fewest, .ref m_costNow, .ref m_costThen, .ref m_lawsOf, .ref m_heardBy, .int 0, .int 0, .ref m_placesOf, .ref m_sentIn, .int 0, .int 0, .ref m_lostBy, .ref m_many, .ref m_width, .ref m_numbers, .ref m_moving])), (m_world, .inl (cI, 53, .inl (fun _ => 0))), (m_spokenAt, .inl (cI, 61, .inl (fun _ => 0)))]) (hS : va_S (fun q : Nat => s.heap.size ≤ q) s.heap H locs) {ls : Array Slot} (hl : lv_has ls 4 [(0, .ref b), (1, .ref x0), (2, .ref m0), (3, .int 0)]) : W p l e room_1 s m #[Value.ref b] below meth c H locs 118 60870 (lw_Z below #[Value.ref b] s) (F0 m 874 ls []) := by
  obtain ⟨hx, hb, hr, hml, hown, hts0, hX, hbl, hlocks, hgv⟩ := id C0
  have hts : ∀ w ∈ wsL_law, w.before #[Value.ref b] s = true := fun w h => hts0 w (wsL_law_in w h)
  have hA : ∀ q : Nat, s.heap.size ≤ q → (fun q : Nat => s.heap.size ≤ q) q := fun _ h => h
  have hbA : ¬ (fun q : Nat => s.heap.size ≤ q) b := Nat.not_le.mpr hbl
  refine lv_aload_n hx hb dL_law_874 rfl (lv_at hl 1 rfl) ?_
  refine lv_aload_n hx hb dL_law_875 rfl (lv_at hl 0 rfl) ?_
  refine lv_iload_n hx hb dL_law_876 rfl (lv_at hl 3 rfl) ?_
  refine lv_iconst (v := 1) hx hb dL_law_877 (by decide) ?_
  refine z_iadd (v := 1) hx hb dL_law_878 (by decide) ?_
  refine va_sld hx hb hX hbl hbA hS (by unfold vp_in; decide) dL_law_879 ?_
  refine W.eq (g2 := F0 m 880 ls [.int (xs 1), .ref x0]) rfl ?_
  refine lv_aload_n hx hb dL_law_880 rfl (lv_at hl 0 rfl) ?_
  refine lv_iload_n hx hb dL_law_881 rfl (lv_at hl 3 rfl) ?_
  refine lv_iconst (v := 2) hx hb dL_law_882 (by decide) ?_
  refine z_iadd (v := 2) hx hb dL_law_883 (by decide) ?_
  refine va_sld hx hb hX hbl hbA hS (by unfold vp_in; decide) dL_law_884 ?_
  refine W.eq (g2 := F0 m 885 ls [.int (xs 2), .int (xs 1), .ref x0]) rfl ?_
  refine roi (As := [.int (xs 1), .int (xs 2)]) (rest := []) ⟨hx, hb, hml, hown, hts⟩ (kx_heals l D cB cI cJ cZ cS cT x0 r_tape r_reader r_now r_trial r_images r_kept r_slots r_night r_other r_circle r_words r_law r_place r_drawn n_signs n_posts n_acts (xs 1) (xs 2) ) (cvB (n := 2) (inr36 _ (List.mem_of_getElem? (i := 23) rfl)) (inr37 _ (List.mem_of_getElem? (i := 0) rfl)) (inr37 _ (List.mem_of_getElem? (i := 1) rfl)) (inr1 _ (List.mem_of_getElem? (i := 2) rfl)) (inr37 _ (List.mem_of_getElem? (i := 2) rfl)) (by decide +kernel) hts rfl rfl ⟨Nat.le_of_ble_eq_true rfl, Nat.le_of_ble_eq_true rfl⟩) 0 11 rfl rfl rfl (hP.sub [0, 1] rfl) hK rfl hl.1 rfl (Nat.le_of_ble_eq_true rfl) ⟨Nat.le_of_ble_eq_true rfl, Nat.le_of_ble_eq_true rfl⟩ dL_law_885 (fun r_1 h_2 => ?_)
  obtain rfl := h_2
  refine lv_aload_n hx hb dL_law_888 rfl (lv_at hl 2 rfl) ?_
  refine lv_aload_n hx hb dL_law_889 rfl (lv_at hl 0 rfl) ?_
  refine lv_iload_n hx hb dL_law_890 rfl (lv_at hl 3 rfl) ?_
  refine lv_iconst (v := 1) hx hb dL_law_891 (by decide) ?_
  refine z_iadd (v := 1) hx hb dL_law_892 (by decide) ?_
  refine va_sld hx hb hX hbl hbA hS (by unfold vp_in; decide) dL_law_893 ?_
  refine W.eq (g2 := F0 m 894 ls [.int (xs 1), .ref m0, .int (-2)]) rfl ?_
  refine lv_aload_n hx hb dL_law_894 rfl (lv_at hl 0 rfl) ?_
  refine lv_iload_n hx hb dL_law_895 rfl (lv_at hl 3 rfl) ?_
  refine lv_iconst (v := 2) hx hb dL_law_896 (by decide) ?_
  refine z_iadd (v := 2) hx hb dL_law_897 (by decide) ?_
  refine va_sld hx hb hX hbl hbA hS (by unfold vp_in; decide) dL_law_898 ?_
  refine W.eq (g2 := F0 m 899 ls [.int (xs 2), .int (xs 1), .ref m0, .int (-2)]) rfl ?_
  refine wrVi (As := [.int (xs 1), .int (xs 2)]) (rest := [.int (-2)]) (wr := [(x0, .inr (11, [.ref r_tape, .ref r_reader, .ref r_now, .ref r_trial, .ref r_images, .ref r_kept, .ref r_slots, .ref r_night, .ref r_other, .ref r_circle, .ref r_words, .ref r_law, .ref r_place, .ref r_drawn])), (r_now, .inr (8, [.int 0, .int 0, .int 0, .int 0, .int 0, .int 0, .int 0, .ref n_signs, .int 0, .ref n_posts, .int 0, .ref n_acts]))]) ⟨hx, hb, hml, hown, hts⟩ (km_heals l D cB cI cJ cZ cS cT H.size m0 m_world m_images m_hasImage m_tape m_five m_fresh m_spokenAt m_heardAt m_lastAt m_answerAt m_heardNow m_seenAt m_fewest m_costNow m_costThen m_lawsOf m_heardBy m_placesOf m_sentIn m_lostBy m_many m_width m_numbers m_moving (fun _ => 0) (xs 1) (xs 2) ) hP hD hS hA hK hN [2, 3, 4] [0, 1] rfl rfl (by decide) (by decide) (by decide) (cvB (n := 2) (inr37 _ (List.mem_of_getElem? (i := 3) rfl)) (inr37 _ (List.mem_of_getElem? (i := 4) rfl)) (inr37 _ (List.mem_of_getElem? (i := 5) rfl)) (inr1 _ (List.mem_of_getElem? (i := 5) rfl)) (inr37 _ (List.mem_of_getElem? (i := 6) rfl)) (by decide +kernel) hts rfl rfl ⟨Nat.le_of_ble_eq_true rfl, Nat.le_of_ble_eq_true rfl⟩) 0 12 rfl rfl rfl rfl hl.1 rfl (Nat.le_of_ble_eq_true rfl) ⟨Nat.le_of_ble_eq_true rfl, Nat.le_of_ble_eq_true rfl⟩ dL_law_899 (fun r_3 x9 H locs h_4 hP hD hS => ?_)
  have hP : va_P D vwCl [(x0, .inr (11, [.ref r_tape, .ref r_reader, .ref r_now, .ref r_trial, .ref r_images, .ref r_kept, .ref r_slots, .ref r_night, .ref r_other, .ref r_circle, .ref r_words, .ref r_law, .ref r_place, .ref r_drawn])), (r_now, .inr (8, [.int 0, .int 0, .int 0, .int 0, .int 0, .int 0, .int 0, .ref n_signs, .int 0, .ref n_posts, .int 0, .ref n_acts]))] H := hP
  have hD : va_D (fun q : Nat => s.heap.size ≤ q) [(x0, .inr (11, [.ref r_tape, .ref r_reader, .ref r_now, .ref r_trial, .ref r_images, .ref r_kept, .ref r_slots, .ref r_night, .ref r_other, .ref r_circle, .ref r_words, .ref r_law, .ref r_place, .ref r_drawn])), (r_now, .inr (8, [.int 0, .int 0, .int 0, .int 0, .int 0, .int 0, .int 0, .ref n_signs, .int 0, .ref n_posts, .int 0, .ref n_acts]))] := hD
  obtain rfl := h_4
  refine lv_icmp_eq (tgt := 2116) hx hb dL_law_902 (by decide) (fun _ => ?_) (fun c0 => absurd c0 (by decide))
  exact law_end C0 hK hN (Nat.le_of_ble_eq_true rfl) (Nat.le_of_ble_eq_true rfl) hS (lv_sub hl [0, 1, 2, 3] rfl)

set_option maxHeartbeats 4000000 in
set_option maxRecDepth 100000 in
theorem law_25 {p : Program} {l : Launch} {e : Env} {s : State} {m : MethodId} {below : List Frame} {meth : Method} {c : Code} {D : va_G} {cB cI cJ cZ cS cT : ClassId} {b : Nat} {xs : Nat → Int32} (C0 : lw_At p s m meth c b 6 xs) (hK : va_K D vwCl (tyL cB cI cJ cZ cS cT) s) (hN : kN s) {H : Heap} {locs : List Loc} {x0 : Nat} {m0 : Nat} {r_tape : Nat} {r_reader : Nat} {r_now : Nat} {r_trial : Nat} {r_images : Nat} {r_kept : Nat} {r_slots : Nat} {r_night : Nat} {r_other : Nat} {r_circle : Nat} {r_words : Nat} {r_law : Nat} {r_place : Nat} {r_drawn : Nat} {n_signs : Nat} {n_posts : Nat} {n_acts : Nat} {m_world : Nat} {m_images : Nat} {m_hasImage : Nat} {m_tape : Nat} {m_five : Nat} {m_fresh : Nat} {m_spokenAt : Nat} {m_heardAt : Nat} {m_lastAt : Nat} {m_answerAt : Nat} {m_heardNow : Nat} {m_seenAt : Nat} {m_fewest : Nat} {m_costNow : Nat} {m_costThen : Nat} {m_lawsOf : Nat} {m_heardBy : Nat} {m_placesOf : Nat} {m_sentIn : Nat} {m_lostBy : Nat} {m_many : Nat} {m_width : Nat} {m_numbers : Nat} {m_moving : Nat} (hP : va_P D vwCl [(x0, .inr (11, [.ref r_tape, .ref r_reader, .ref r_now, .ref r_trial, .ref r_images, .ref r_kept, .ref r_slots, .ref r_night, .ref r_other, .ref r_circle, .ref r_words, .ref r_law, .ref r_place, .ref r_drawn])), (r_now, .inr (8, [.int 0, .int 0, .int 0, .int 0, .int 0, .int 0, .int 0, .ref n_signs, .int 0, .ref n_posts, .int 0, .ref n_acts])), (m0, .inr (12, [.int 0, .ref m_world, .ref m_images, .ref m_hasImage, .ref m_tape, .int 0, .ref m_five, .int 0, .int 0, .int 0, .int 0, .int 0, .int 0, .int (-1), .ref m_fresh, .ref m_spokenAt, .ref m_heardAt, .ref m_lastAt, .ref m_answerAt, .int 0, .int 0, .int 0, .long 0, .int 0, .int 0, .ref m_heardNow, .ref m_seenAt, .int 0, .int 0, .int 0, .int 0, .int 0, .ref m_fewest, .ref m_costNow, .ref m_costThen, .ref m_lawsOf, .ref m_heardBy, .int 0, .int 0, .ref m_placesOf, .ref m_sentIn, .int 0, .int 0, .ref m_lostBy, .ref m_many, .ref m_width, .ref m_numbers, .ref m_moving])), (m_world, .inl (cI, 53, .inl (fun _ => 0))), (m_spokenAt, .inl (cI, 61, .inl (fun _ => 0)))] H) (hD : va_D (fun q : Nat => s.heap.size ≤ q) [(x0, .inr (11, [.ref r_tape, .ref r_reader, .ref r_now, .ref r_trial, .ref r_images, .ref r_kept, .ref r_slots, .ref r_night, .ref r_other, .ref r_circle, .ref r_words, .ref r_law, .ref r_place, .ref r_drawn])), (r_now, .inr (8, [.int 0, .int 0, .int 0, .int 0, .int 0, .int 0, .int 0, .ref n_signs, .int 0, .ref n_posts, .int 0, .ref n_acts])), (m0, .inr (12, [.int 0, .ref m_world, .ref m_images, .ref m_hasImage, .ref m_tape, .int 0, .ref m_five, .int 0, .int 0, .int 0, .int 0, .int 0, .int 0, .int (-1), .ref m_fresh, .ref m_spokenAt, .ref m_heardAt, .ref m_lastAt, .ref m_answerAt, .int 0, .int 0, .int 0, .long 0, .int 0, .int 0, .ref m_heardNow, .ref m_seenAt, .int 0, .int 0, .int 0, .int 0, .int 0, .ref m_fewest, .ref m_costNow, .ref m_costThen, .ref m_lawsOf, .ref m_heardBy, .int 0, .int 0, .ref m_placesOf, .ref m_sentIn, .int 0, .int 0, .ref m_lostBy, .ref m_many, .ref m_width, .ref m_numbers, .ref m_moving])), (m_world, .inl (cI, 53, .inl (fun _ => 0))), (m_spokenAt, .inl (cI, 61, .inl (fun _ => 0)))]) (hS : va_S (fun q : Nat => s.heap.size ≤ q) s.heap H locs) {ls : Array Slot} (hl : lv_has ls 4 [(0, .ref b), (1, .ref x0), (2, .ref m0), (3, .int 0)]) : W p l e room_1 s m #[Value.ref b] below meth c H locs 118 60870 (lw_Z below #[Value.ref b] s) (F0 m 907 ls []) := by
  obtain ⟨hx, hb, hr, hml, hown, hts0, hX, hbl, hlocks, hgv⟩ := id C0
  have hts : ∀ w ∈ wsL_law, w.before #[Value.ref b] s = true := fun w h => hts0 w (wsL_law_in w h)
  have hA : ∀ q : Nat, s.heap.size ≤ q → (fun q : Nat => s.heap.size ≤ q) q := fun _ h => h
  have hbA : ¬ (fun q : Nat => s.heap.size ≤ q) b := Nat.not_le.mpr hbl
  refine lv_aload_n hx hb dL_law_907 rfl (lv_at hl 1 rfl) ?_
  refine lv_aload_n hx hb dL_law_908 rfl (lv_at hl 0 rfl) ?_
  refine lv_iload_n hx hb dL_law_909 rfl (lv_at hl 3 rfl) ?_
  refine lv_iconst (v := 1) hx hb dL_law_910 (by decide) ?_
  refine z_iadd (v := 1) hx hb dL_law_911 (by decide) ?_
  refine va_sld hx hb hX hbl hbA hS (by unfold vp_in; decide) dL_law_912 ?_
  refine W.eq (g2 := F0 m 913 ls [.int (xs 1), .ref x0]) rfl ?_
  refine roi (As := [.int (xs 1)]) (rest := []) ⟨hx, hb, hml, hown, hts⟩ (kx_worst l D cB cI cJ cZ cS cT x0 r_tape r_reader r_now r_trial r_images r_kept r_slots r_night r_other r_circle r_words r_law r_place r_drawn n_signs n_posts n_acts (xs 1) ) (cvB (n := 1) (inr37 _ (List.mem_of_getElem? (i := 7) rfl)) (inr37 _ (List.mem_of_getElem? (i := 8) rfl)) (inr37 _ (List.mem_of_getElem? (i := 9) rfl)) (inr1 _ (List.mem_of_getElem? (i := 2) rfl)) (inr37 _ (List.mem_of_getElem? (i := 10) rfl)) (by decide +kernel) hts rfl rfl ⟨Nat.le_of_ble_eq_true rfl, Nat.le_of_ble_eq_true rfl⟩) 0 11 rfl rfl rfl (hP.sub [0, 1] rfl) hK rfl hl.1 rfl (Nat.le_of_ble_eq_true rfl) ⟨Nat.le_of_ble_eq_true rfl, Nat.le_of_ble_eq_true rfl⟩ dL_law_913 (fun r_1 h_2 => ?_)
  obtain rfl := h_2
  refine lv_aload_n hx hb dL_law_916 rfl (lv_at hl 2 rfl) ?_
  refine lv_aload_n hx hb dL_law_917 rfl (lv_at hl 0 rfl) ?_
  refine lv_iload_n hx hb dL_law_918 rfl (lv_at hl 3 rfl) ?_
  refine lv_iconst (v := 1) hx hb dL_law_919 (by decide) ?_
  refine z_iadd (v := 1) hx hb dL_law_920 (by decide) ?_
  refine va_sld hx hb hX hbl hbA hS (by unfold vp_in; decide) dL_law_921 ?_
  refine W.eq (g2 := F0 m 922 ls [.int (xs 1), .ref m0, .int (-2)]) rfl ?_
  refine wrVi (As := [.int (xs 1)]) (rest := [.int (-2)]) (wr := [(x0, .inr (11, [.ref r_tape, .ref r_reader, .ref r_now, .ref r_trial, .ref r_images, .ref r_kept, .ref r_slots, .ref r_night, .ref r_other, .ref r_circle, .ref r_words, .ref r_law, .ref r_place, .ref r_drawn])), (r_now, .inr (8, [.int 0, .int 0, .int 0, .int 0, .int 0, .int 0, .int 0, .ref n_signs, .int 0, .ref n_posts, .int 0, .ref n_acts]))]) ⟨hx, hb, hml, hown, hts⟩ (km_worst l D cB cI cJ cZ cS cT H.size m0 m_world m_images m_hasImage m_tape m_five m_fresh m_spokenAt m_heardAt m_lastAt m_answerAt m_heardNow m_seenAt m_fewest m_costNow m_costThen m_lawsOf m_heardBy m_placesOf m_sentIn m_lostBy m_many m_width m_numbers m_moving (fun _ => 0) (xs 1) ) hP hD hS hA hK hN [2, 3, 4] [0, 1] rfl rfl (by decide) (by decide) (by decide) (cvB (n := 1) (inr37 _ (List.mem_of_getElem? (i := 11) rfl)) (inr37 _ (List.mem_of_getElem? (i := 12) rfl)) (inr37 _ (List.mem_of_getElem? (i := 13) rfl)) (inr1 _ (List.mem_of_getElem? (i := 5) rfl)) (inr37 _ (List.mem_of_getElem? (i := 14) rfl)) (by decide +kernel) hts rfl rfl ⟨Nat.le_of_ble_eq_true rfl, Nat.le_of_ble_eq_true rfl⟩) 0 12 rfl rfl rfl rfl hl.1 rfl (Nat.le_of_ble_eq_true rfl) ⟨Nat.le_of_ble_eq_true rfl, Nat.le_of_ble_eq_true rfl⟩ dL_law_922 (fun r_3 x9 H locs h_4 hP hD hS => ?_)
  have hP : va_P D vwCl [(x0, .inr (11, [.ref r_tape, .ref r_reader, .ref r_now, .ref r_trial, .ref r_images, .ref r_kept, .ref r_slots, .ref r_night, .ref r_other, .ref r_circle, .ref r_words, .ref r_law, .ref r_place, .ref r_drawn])), (r_now, .inr (8, [.int 0, .int 0, .int 0, .int 0, .int 0, .int 0, .int 0, .ref n_signs, .int 0, .ref n_posts, .int 0, .ref n_acts]))] H := hP
  have hD : va_D (fun q : Nat => s.heap.size ≤ q) [(x0, .inr (11, [.ref r_tape, .ref r_reader, .ref r_now, .ref r_trial, .ref r_images, .ref r_kept, .ref r_slots, .ref r_night, .ref r_other, .ref r_circle, .ref r_words, .ref r_law, .ref r_place, .ref r_drawn])), (r_now, .inr (8, [.int 0, .int 0, .int 0, .int 0, .int 0, .int 0, .int 0, .ref n_signs, .int 0, .ref n_posts, .int 0, .ref n_acts]))] := hD
  obtain rfl := h_4
  refine lv_icmp_eq (tgt := 2116) hx hb dL_law_925 (by decide) (fun _ => ?_) (fun c0 => absurd c0 (by decide))
  exact law_end C0 hK hN (Nat.le_of_ble_eq_true rfl) (Nat.le_of_ble_eq_true rfl) hS (lv_sub hl [0, 1, 2, 3] rfl)

set_option maxHeartbeats 4000000 in
set_option maxRecDepth 100000 in
theorem law_26 {p : Program} {l : Launch} {e : Env} {s : State} {m : MethodId} {below : List Frame} {meth : Method} {c : Code} {D : va_G} {cB cI cJ cZ cS cT : ClassId} {b : Nat} {xs : Nat → Int32} (C0 : lw_At p s m meth c b 6 xs) (hK : va_K D vwCl (tyL cB cI cJ cZ cS cT) s) (hN : kN s) {H : Heap} {locs : List Loc} {x0 : Nat} {m0 : Nat} {r_tape : Nat} {r_reader : Nat} {r_now : Nat} {r_trial : Nat} {r_images : Nat} {r_kept : Nat} {r_slots : Nat} {r_night : Nat} {r_other : Nat} {r_circle : Nat} {r_words : Nat} {r_law : Nat} {r_place : Nat} {r_drawn : Nat} {n_signs : Nat} {n_posts : Nat} {n_acts : Nat} {m_world : Nat} {m_images : Nat} {m_hasImage : Nat} {m_tape : Nat} {m_five : Nat} {m_fresh : Nat} {m_spokenAt : Nat} {m_heardAt : Nat} {m_lastAt : Nat} {m_answerAt : Nat} {m_heardNow : Nat} {m_seenAt : Nat} {m_fewest : Nat} {m_costNow : Nat} {m_costThen : Nat} {m_lawsOf : Nat} {m_heardBy : Nat} {m_placesOf : Nat} {m_sentIn : Nat} {m_lostBy : Nat} {m_many : Nat} {m_width : Nat} {m_numbers : Nat} {m_moving : Nat} (hP : va_P D vwCl [(x0, .inr (11, [.ref r_tape, .ref r_reader, .ref r_now, .ref r_trial, .ref r_images, .ref r_kept, .ref r_slots, .ref r_night, .ref r_other, .ref r_circle, .ref r_words, .ref r_law, .ref r_place, .ref r_drawn])), (r_now, .inr (8, [.int 0, .int 0, .int 0, .int 0, .int 0, .int 0, .int 0, .ref n_signs, .int 0, .ref n_posts, .int 0, .ref n_acts])), (m0, .inr (12, [.int 0, .ref m_world, .ref m_images, .ref m_hasImage, .ref m_tape, .int 0, .ref m_five, .int 0, .int 0, .int 0, .int 0, .int 0, .int 0, .int (-1), .ref m_fresh, .ref m_spokenAt, .ref m_heardAt, .ref m_lastAt, .ref m_answerAt, .int 0, .int 0, .int 0, .long 0, .int 0, .int 0, .ref m_heardNow, .ref m_seenAt, .int 0, .int 0, .int 0, .int 0, .int 0, .ref m_fewest, .ref m_costNow, .ref m_costThen, .ref m_lawsOf, .ref m_heardBy, .int 0, .int 0, .ref m_placesOf, .ref m_sentIn, .int 0, .int 0, .ref m_lostBy, .ref m_many, .ref m_width, .ref m_numbers, .ref m_moving])), (m_world, .inl (cI, 53, .inl (fun _ => 0)))] H) (hD : va_D (fun q : Nat => s.heap.size ≤ q) [(x0, .inr (11, [.ref r_tape, .ref r_reader, .ref r_now, .ref r_trial, .ref r_images, .ref r_kept, .ref r_slots, .ref r_night, .ref r_other, .ref r_circle, .ref r_words, .ref r_law, .ref r_place, .ref r_drawn])), (r_now, .inr (8, [.int 0, .int 0, .int 0, .int 0, .int 0, .int 0, .int 0, .ref n_signs, .int 0, .ref n_posts, .int 0, .ref n_acts])), (m0, .inr (12, [.int 0, .ref m_world, .ref m_images, .ref m_hasImage, .ref m_tape, .int 0, .ref m_five, .int 0, .int 0, .int 0, .int 0, .int 0, .int 0, .int (-1), .ref m_fresh, .ref m_spokenAt, .ref m_heardAt, .ref m_lastAt, .ref m_answerAt, .int 0, .int 0, .int 0, .long 0, .int 0, .int 0, .ref m_heardNow, .ref m_seenAt, .int 0, .int 0, .int 0, .int 0, .int 0, .ref m_fewest, .ref m_costNow, .ref m_costThen, .ref m_lawsOf, .ref m_heardBy, .int 0, .int 0, .ref m_placesOf, .ref m_sentIn, .int 0, .int 0, .ref m_lostBy, .ref m_many, .ref m_width, .ref m_numbers, .ref m_moving])), (m_world, .inl (cI, 53, .inl (fun _ => 0)))]) (hS : va_S (fun q : Nat => s.heap.size ≤ q) s.heap H locs) {ls : Array Slot} (hl : lv_has ls 4 [(0, .ref b), (1, .ref x0), (2, .ref m0), (3, .int 0)]) : W p l e room_1 s m #[Value.ref b] below meth c H locs 118 60870 (lw_Z below #[Value.ref b] s) (F0 m 930 ls []) := by
  obtain ⟨hx, hb, hr, hml, hown, hts0, hX, hbl, hlocks, hgv⟩ := id C0
  have hts : ∀ w ∈ wsL_law, w.before #[Value.ref b] s = true := fun w h => hts0 w (wsL_law_in w h)
  have hA : ∀ q : Nat, s.heap.size ≤ q → (fun q : Nat => s.heap.size ≤ q) q := fun _ h => h
  have hbA : ¬ (fun q : Nat => s.heap.size ≤ q) b := Nat.not_le.mpr hbl
  refine lv_aload_n hx hb dL_law_930 rfl (lv_at hl 1 rfl) ?_
  refine roi (As := []) (rest := []) ⟨hx, hb, hml, hown, hts⟩ (kx_pretty l D cB cI cJ cZ cS cT x0 r_tape r_reader r_now r_trial r_images r_kept r_slots r_night r_other r_circle r_words r_law r_place r_drawn n_signs n_posts n_acts ) (cvB (n := 0) (inr37 _ (List.mem_of_getElem? (i := 15) rfl)) (inr37 _ (List.mem_of_getElem? (i := 16) rfl)) (inr37 _ (List.mem_of_getElem? (i := 17) rfl)) (inr1 _ (List.mem_of_getElem? (i := 2) rfl)) (inr37 _ (List.mem_of_getElem? (i := 18) rfl)) (by decide +kernel) hts rfl rfl ⟨Nat.le_of_ble_eq_true rfl, Nat.le_of_ble_eq_true rfl⟩) 0 11 rfl rfl rfl (hP.sub [0, 1] rfl) hK rfl hl.1 rfl (Nat.le_of_ble_eq_true rfl) ⟨Nat.le_of_ble_eq_true rfl, Nat.le_of_ble_eq_true rfl⟩ dL_law_931 (fun r_1 h_2 => ?_)
  obtain rfl := h_2
  refine lv_aload_n hx hb dL_law_934 rfl (lv_at hl 2 rfl) ?_
  refine roi (As := []) (rest := [.int (-2)]) ⟨hx, hb, hml, hown, hts⟩ (km_pretty l D cB cI cJ cZ cS cT m0 m_world m_images m_hasImage m_tape m_five m_fresh m_spokenAt m_heardAt m_lastAt m_answerAt m_heardNow m_seenAt m_fewest m_costNow m_costThen m_lawsOf m_heardBy m_placesOf m_sentIn m_lostBy m_many m_width m_numbers m_moving ) (cvB (n := 0) (inr38 _ (List.mem_of_getElem? (i := 21) rfl)) (inr38 _ (List.mem_of_getElem? (i := 22) rfl)) (inr38 _ (List.mem_of_getElem? (i := 23) rfl)) (inr1 _ (List.mem_of_getElem? (i := 5) rfl)) (inr39 _ (List.mem_of_getElem? (i := 0) rfl)) (by decide +kernel) hts rfl rfl ⟨Nat.le_of_ble_eq_true rfl, Nat.le_of_ble_eq_true rfl⟩) 0 12 rfl rfl rfl (hP.sub [2, 3] rfl) hK rfl hl.1 rfl (Nat.le_of_ble_eq_true rfl) ⟨Nat.le_of_ble_eq_true rfl, Nat.le_of_ble_eq_true rfl⟩ dL_law_935 (fun r_3 h_4 => ?_)
  obtain rfl := h_4
  refine lv_icmp_eq (tgt := 2116) hx hb dL_law_938 (by decide) (fun _ => ?_) (fun c0 => absurd c0 (by decide))
  exact law_end C0 hK hN (Nat.le_of_ble_eq_true rfl) (Nat.le_of_ble_eq_true rfl) hS (lv_sub hl [0, 1, 2, 3] rfl)

set_option maxHeartbeats 4000000 in
set_option maxRecDepth 100000 in
theorem law_27 {p : Program} {l : Launch} {e : Env} {s : State} {m : MethodId} {below : List Frame} {meth : Method} {c : Code} {D : va_G} {cB cI cJ cZ cS cT : ClassId} {b : Nat} {xs : Nat → Int32} (C0 : lw_At p s m meth c b 6 xs) (hK : va_K D vwCl (tyL cB cI cJ cZ cS cT) s) (hN : kN s) {H : Heap} {locs : List Loc} {x0 : Nat} {m0 : Nat} {r_tape : Nat} {r_reader : Nat} {r_now : Nat} {r_trial : Nat} {r_images : Nat} {r_kept : Nat} {r_slots : Nat} {r_night : Nat} {r_other : Nat} {r_circle : Nat} {r_words : Nat} {r_law : Nat} {r_place : Nat} {r_drawn : Nat} {n_signs : Nat} {n_posts : Nat} {n_acts : Nat} {m_world : Nat} {m_images : Nat} {m_hasImage : Nat} {m_tape : Nat} {m_five : Nat} {m_fresh : Nat} {m_spokenAt : Nat} {m_heardAt : Nat} {m_lastAt : Nat} {m_answerAt : Nat} {m_heardNow : Nat} {m_seenAt : Nat} {m_fewest : Nat} {m_costNow : Nat} {m_costThen : Nat} {m_lawsOf : Nat} {m_heardBy : Nat} {m_placesOf : Nat} {m_sentIn : Nat} {m_lostBy : Nat} {m_many : Nat} {m_width : Nat} {m_numbers : Nat} {m_moving : Nat} (hP : va_P D vwCl [(x0, .inr (11, [.ref r_tape, .ref r_reader, .ref r_now, .ref r_trial, .ref r_images, .ref r_kept, .ref r_slots, .ref r_night, .ref r_other, .ref r_circle, .ref r_words, .ref r_law, .ref r_place, .ref r_drawn])), (r_now, .inr (8, [.int 0, .int 0, .int 0, .int 0, .int 0, .int 0, .int 0, .ref n_signs, .int 0, .ref n_posts, .int 0, .ref n_acts])), (m0, .inr (12, [.int 0, .ref m_world, .ref m_images, .ref m_hasImage, .ref m_tape, .int 0, .ref m_five, .int 0, .int 0, .int 0, .int 0, .int 0, .int 0, .int (-1), .ref m_fresh, .ref m_spokenAt, .ref m_heardAt, .ref m_lastAt, .ref m_answerAt, .int 0, .int 0, .int 0, .long 0, .int 0, .int 0, .ref m_heardNow, .ref m_seenAt, .int 0, .int 0, .int 0, .int 0, .int 0, .ref m_fewest, .ref m_costNow, .ref m_costThen, .ref m_lawsOf, .ref m_heardBy, .int 0, .int 0, .ref m_placesOf, .ref m_sentIn, .int 0, .int 0, .ref m_lostBy, .ref m_many, .ref m_width, .ref m_numbers, .ref m_moving])), (m_world, .inl (cI, 53, .inl (fun _ => 0)))] H) (hD : va_D (fun q : Nat => s.heap.size ≤ q) [(x0, .inr (11, [.ref r_tape, .ref r_reader, .ref r_now, .ref r_trial, .ref r_images, .ref r_kept, .ref r_slots, .ref r_night, .ref r_other, .ref r_circle, .ref r_words, .ref r_law, .ref r_place, .ref r_drawn])), (r_now, .inr (8, [.int 0, .int 0, .int 0, .int 0, .int 0, .int 0, .int 0, .ref n_signs, .int 0, .ref n_posts, .int 0, .ref n_acts])), (m0, .inr (12, [.int 0, .ref m_world, .ref m_images, .ref m_hasImage, .ref m_tape, .int 0, .ref m_five, .int 0, .int 0, .int 0, .int 0, .int 0, .int 0, .int (-1), .ref m_fresh, .ref m_spokenAt, .ref m_heardAt, .ref m_lastAt, .ref m_answerAt, .int 0, .int 0, .int 0, .long 0, .int 0, .int 0, .ref m_heardNow, .ref m_seenAt, .int 0, .int 0, .int 0, .int 0, .int 0, .ref m_fewest, .ref m_costNow, .ref m_costThen, .ref m_lawsOf, .ref m_heardBy, .int 0, .int 0, .ref m_placesOf, .ref m_sentIn, .int 0, .int 0, .ref m_lostBy, .ref m_many, .ref m_width, .ref m_numbers, .ref m_moving])), (m_world, .inl (cI, 53, .inl (fun _ => 0)))]) (hS : va_S (fun q : Nat => s.heap.size ≤ q) s.heap H locs) {ls : Array Slot} (hl : lv_has ls 4 [(0, .ref b), (1, .ref x0), (2, .ref m0), (3, .int 0)]) : W p l e room_1 s m #[Value.ref b] below meth c H locs 118 60870 (lw_Z below #[Value.ref b] s) (F0 m 943 ls []) := by
  obtain ⟨hx, hb, hr, hml, hown, hts0, hX, hbl, hlocks, hgv⟩ := id C0
  have hts : ∀ w ∈ wsL_law, w.before #[Value.ref b] s = true := fun w h => hts0 w (wsL_law_in w h)
  have hA : ∀ q : Nat, s.heap.size ≤ q → (fun q : Nat => s.heap.size ≤ q) q := fun _ h => h
  have hbA : ¬ (fun q : Nat => s.heap.size ≤ q) b := Nat.not_le.mpr hbl
  refine lv_aload_n hx hb dL_law_943 rfl (lv_at hl 1 rfl) ?_
  refine roi (As := []) (rest := []) ⟨hx, hb, hml, hown, hts⟩ (kx_silent l D cB cI cJ cZ cS cT x0 r_tape r_reader r_now r_trial r_images r_kept r_slots r_night r_other r_circle r_words r_law r_place r_drawn n_signs n_posts n_acts ) (cvB (n := 0) (inr39 _ (List.mem_of_getElem? (i := 9) rfl)) (inr39 _ (List.mem_of_getElem? (i := 10) rfl)) (inr39 _ (List.mem_of_getElem? (i := 11) rfl)) (inr1 _ (List.mem_of_getElem? (i := 2) rfl)) (inr39 _ (List.mem_of_getElem? (i := 12) rfl)) (by decide +kernel) hts rfl rfl ⟨Nat.le_of_ble_eq_true rfl, Nat.le_of_ble_eq_true rfl⟩) 0 11 rfl rfl rfl (hP.sub [0, 1] rfl) hK rfl hl.1 rfl (Nat.le_of_ble_eq_true rfl) ⟨Nat.le_of_ble_eq_true rfl, Nat.le_of_ble_eq_true rfl⟩ dL_law_944 (fun r_1 h_2 => ?_)
  obtain rfl := h_2
  refine lv_aload_n hx hb dL_law_947 rfl (lv_at hl 2 rfl) ?_
  refine roi (As := []) (rest := [.int (-2)]) ⟨hx, hb, hml, hown, hts⟩ (km_silent l D cB cI cJ cZ cS cT m0 m_world m_images m_hasImage m_tape m_five m_fresh m_spokenAt m_heardAt m_lastAt m_answerAt m_heardNow m_seenAt m_fewest m_costNow m_costThen m_lawsOf m_heardBy m_placesOf m_sentIn m_lostBy m_many m_width m_numbers m_moving ) (cvB (n := 0) (inr39 _ (List.mem_of_getElem? (i := 17) rfl)) (inr39 _ (List.mem_of_getElem? (i := 18) rfl)) (inr39 _ (List.mem_of_getElem? (i := 19) rfl)) (inr1 _ (List.mem_of_getElem? (i := 5) rfl)) (inr39 _ (List.mem_of_getElem? (i := 20) rfl)) (by decide +kernel) hts rfl rfl ⟨Nat.le_of_ble_eq_true rfl, Nat.le_of_ble_eq_true rfl⟩) 0 12 rfl rfl rfl (hP.sub [2, 3] rfl) hK rfl hl.1 rfl (Nat.le_of_ble_eq_true rfl) ⟨Nat.le_of_ble_eq_true rfl, Nat.le_of_ble_eq_true rfl⟩ dL_law_948 (fun r_3 h_4 => ?_)
  obtain rfl := h_4
  refine lv_icmp_eq (tgt := 2116) hx hb dL_law_951 (by decide) (fun _ => ?_) (fun c0 => absurd c0 (by decide))
  exact law_end C0 hK hN (Nat.le_of_ble_eq_true rfl) (Nat.le_of_ble_eq_true rfl) hS (lv_sub hl [0, 1, 2, 3] rfl)

set_option maxHeartbeats 4000000 in
set_option maxRecDepth 100000 in
theorem law_28 {p : Program} {l : Launch} {e : Env} {s : State} {m : MethodId} {below : List Frame} {meth : Method} {c : Code} {D : va_G} {cB cI cJ cZ cS cT : ClassId} {b : Nat} {xs : Nat → Int32} (C0 : lw_At p s m meth c b 6 xs) (hK : va_K D vwCl (tyL cB cI cJ cZ cS cT) s) (hN : kN s) {H : Heap} {locs : List Loc} {x0 : Nat} {m0 : Nat} {r_tape : Nat} {r_reader : Nat} {r_now : Nat} {r_trial : Nat} {r_images : Nat} {r_kept : Nat} {r_slots : Nat} {r_night : Nat} {r_other : Nat} {r_circle : Nat} {r_words : Nat} {r_law : Nat} {r_place : Nat} {r_drawn : Nat} {n_signs : Nat} {n_posts : Nat} {n_acts : Nat} {m_world : Nat} {m_images : Nat} {m_hasImage : Nat} {m_tape : Nat} {m_five : Nat} {m_fresh : Nat} {m_spokenAt : Nat} {m_heardAt : Nat} {m_lastAt : Nat} {m_answerAt : Nat} {m_heardNow : Nat} {m_seenAt : Nat} {m_fewest : Nat} {m_costNow : Nat} {m_costThen : Nat} {m_lawsOf : Nat} {m_heardBy : Nat} {m_placesOf : Nat} {m_sentIn : Nat} {m_lostBy : Nat} {m_many : Nat} {m_width : Nat} {m_numbers : Nat} {m_moving : Nat} (hP : va_P D vwCl [(x0, .inr (11, [.ref r_tape, .ref r_reader, .ref r_now, .ref r_trial, .ref r_images, .ref r_kept, .ref r_slots, .ref r_night, .ref r_other, .ref r_circle, .ref r_words, .ref r_law, .ref r_place, .ref r_drawn])), (r_now, .inr (8, [.int 0, .int 0, .int 0, .int 0, .int 0, .int 0, .int 0, .ref n_signs, .int 0, .ref n_posts, .int 0, .ref n_acts])), (m0, .inr (12, [.int 0, .ref m_world, .ref m_images, .ref m_hasImage, .ref m_tape, .int 0, .ref m_five, .int 0, .int 0, .int 0, .int 0, .int 0, .int 0, .int (-1), .ref m_fresh, .ref m_spokenAt, .ref m_heardAt, .ref m_lastAt, .ref m_answerAt, .int 0, .int 0, .int 0, .long 0, .int 0, .int 0, .ref m_heardNow, .ref m_seenAt, .int 0, .int 0, .int 0, .int 0, .int 0, .ref m_fewest, .ref m_costNow, .ref m_costThen, .ref m_lawsOf, .ref m_heardBy, .int 0, .int 0, .ref m_placesOf, .ref m_sentIn, .int 0, .int 0, .ref m_lostBy, .ref m_many, .ref m_width, .ref m_numbers, .ref m_moving])), (m_world, .inl (cI, 53, .inl (fun _ => 0))), (m_spokenAt, .inl (cI, 61, .inl (fun _ => 0)))] H) (hD : va_D (fun q : Nat => s.heap.size ≤ q) [(x0, .inr (11, [.ref r_tape, .ref r_reader, .ref r_now, .ref r_trial, .ref r_images, .ref r_kept, .ref r_slots, .ref r_night, .ref r_other, .ref r_circle, .ref r_words, .ref r_law, .ref r_place, .ref r_drawn])), (r_now, .inr (8, [.int 0, .int 0, .int 0, .int 0, .int 0, .int 0, .int 0, .ref n_signs, .int 0, .ref n_posts, .int 0, .ref n_acts])), (m0, .inr (12, [.int 0, .ref m_world, .ref m_images, .ref m_hasImage, .ref m_tape, .int 0, .ref m_five, .int 0, .int 0, .int 0, .int 0, .int 0, .int 0, .int (-1), .ref m_fresh, .ref m_spokenAt, .ref m_heardAt, .ref m_lastAt, .ref m_answerAt, .int 0, .int 0, .int 0, .long 0, .int 0, .int 0, .ref m_heardNow, .ref m_seenAt, .int 0, .int 0, .int 0, .int 0, .int 0, .ref m_fewest, .ref m_costNow, .ref m_costThen, .ref m_lawsOf, .ref m_heardBy, .int 0, .int 0, .ref m_placesOf, .ref m_sentIn, .int 0, .int 0, .ref m_lostBy, .ref m_many, .ref m_width, .ref m_numbers, .ref m_moving])), (m_world, .inl (cI, 53, .inl (fun _ => 0))), (m_spokenAt, .inl (cI, 61, .inl (fun _ => 0)))]) (hS : va_S (fun q : Nat => s.heap.size ≤ q) s.heap H locs) {ls : Array Slot} (hl : lv_has ls 4 [(0, .ref b), (1, .ref x0), (2, .ref m0), (3, .int 0)]) : W p l e room_1 s m #[Value.ref b] below meth c H locs 118 60870 (lw_Z below #[Value.ref b] s) (F0 m 956 ls []) := by
  obtain ⟨hx, hb, hr, hml, hown, hts0, hX, hbl, hlocks, hgv⟩ := id C0
  have hts : ∀ w ∈ wsL_law, w.before #[Value.ref b] s = true := fun w h => hts0 w (wsL_law_in w h)
  have hA : ∀ q : Nat, s.heap.size ≤ q → (fun q : Nat => s.heap.size ≤ q) q := fun _ h => h
  have hbA : ¬ (fun q : Nat => s.heap.size ≤ q) b := Nat.not_le.mpr hbl
  refine lv_aload_n hx hb dL_law_956 rfl (lv_at hl 1 rfl) ?_
  refine roi (As := []) (rest := []) ⟨hx, hb, hml, hown, hts⟩ (kx_tuned l D cB cI cJ cZ cS cT x0 r_tape r_reader r_now r_trial r_images r_kept r_slots r_night r_other r_circle r_words r_law r_place r_drawn n_signs n_posts n_acts ) (cvB (n := 0) (inr39 _ (List.mem_of_getElem? (i := 21) rfl)) (inr39 _ (List.mem_of_getElem? (i := 22) rfl)) (inr39 _ (List.mem_of_getElem? (i := 23) rfl)) (inr1 _ (List.mem_of_getElem? (i := 2) rfl)) (inr40 _ (List.mem_of_getElem? (i := 0) rfl)) (by decide +kernel) hts rfl rfl ⟨Nat.le_of_ble_eq_true rfl, Nat.le_of_ble_eq_true rfl⟩) 0 11 rfl rfl rfl (hP.sub [0, 1] rfl) hK rfl hl.1 rfl (Nat.le_of_ble_eq_true rfl) ⟨Nat.le_of_ble_eq_true rfl, Nat.le_of_ble_eq_true rfl⟩ dL_law_957 (fun r_1 h_2 => ?_)
  obtain rfl := h_2
  refine lv_aload_n hx hb dL_law_960 rfl (lv_at hl 2 rfl) ?_
  refine wrVi (As := []) (rest := [.int (-2)]) (wr := [(x0, .inr (11, [.ref r_tape, .ref r_reader, .ref r_now, .ref r_trial, .ref r_images, .ref r_kept, .ref r_slots, .ref r_night, .ref r_other, .ref r_circle, .ref r_words, .ref r_law, .ref r_place, .ref r_drawn])), (r_now, .inr (8, [.int 0, .int 0, .int 0, .int 0, .int 0, .int 0, .int 0, .ref n_signs, .int 0, .ref n_posts, .int 0, .ref n_acts]))]) ⟨hx, hb, hml, hown, hts⟩ (km_tuned l D cB cI cJ cZ cS cT H.size m0 m_world m_images m_hasImage m_tape m_five m_fresh m_spokenAt m_heardAt m_lastAt m_answerAt m_heardNow m_seenAt m_fewest m_costNow m_costThen m_lawsOf m_heardBy m_placesOf m_sentIn m_lostBy m_many m_width m_numbers m_moving (fun _ => 0) ) hP hD hS hA hK hN [2, 3, 4] [0, 1] rfl rfl (by decide) (by decide) (by decide) (cvB (n := 0) (inr40 _ (List.mem_of_getElem? (i := 5) rfl)) (inr40 _ (List.mem_of_getElem? (i := 6) rfl)) (inr40 _ (List.mem_of_getElem? (i := 7) rfl)) (inr1 _ (List.mem_of_getElem? (i := 5) rfl)) (inr40 _ (List.mem_of_getElem? (i := 8) rfl)) (by decide +kernel) hts rfl rfl ⟨Nat.le_of_ble_eq_true rfl, Nat.le_of_ble_eq_true rfl⟩) 0 12 rfl rfl rfl rfl hl.1 rfl (Nat.le_of_ble_eq_true rfl) ⟨Nat.le_of_ble_eq_true rfl, Nat.le_of_ble_eq_true rfl⟩ dL_law_961 (fun r_3 x9 H locs h_4 hP hD hS => ?_)
  have hP : va_P D vwCl [(x0, .inr (11, [.ref r_tape, .ref r_reader, .ref r_now, .ref r_trial, .ref r_images, .ref r_kept, .ref r_slots, .ref r_night, .ref r_other, .ref r_circle, .ref r_words, .ref r_law, .ref r_place, .ref r_drawn])), (r_now, .inr (8, [.int 0, .int 0, .int 0, .int 0, .int 0, .int 0, .int 0, .ref n_signs, .int 0, .ref n_posts, .int 0, .ref n_acts]))] H := hP
  have hD : va_D (fun q : Nat => s.heap.size ≤ q) [(x0, .inr (11, [.ref r_tape, .ref r_reader, .ref r_now, .ref r_trial, .ref r_images, .ref r_kept, .ref r_slots, .ref r_night, .ref r_other, .ref r_circle, .ref r_words, .ref r_law, .ref r_place, .ref r_drawn])), (r_now, .inr (8, [.int 0, .int 0, .int 0, .int 0, .int 0, .int 0, .int 0, .ref n_signs, .int 0, .ref n_posts, .int 0, .ref n_acts]))] := hD
  obtain rfl := h_4
  refine lv_icmp_eq (tgt := 2116) hx hb dL_law_964 (by decide) (fun _ => ?_) (fun c0 => absurd c0 (by decide))
  exact law_end C0 hK hN (Nat.le_of_ble_eq_true rfl) (Nat.le_of_ble_eq_true rfl) hS (lv_sub hl [0, 1, 2, 3] rfl)

set_option maxHeartbeats 4000000 in
set_option maxRecDepth 100000 in
theorem law_29 {p : Program} {l : Launch} {e : Env} {s : State} {m : MethodId} {below : List Frame} {meth : Method} {c : Code} {D : va_G} {cB cI cJ cZ cS cT : ClassId} {b : Nat} {xs : Nat → Int32} (C0 : lw_At p s m meth c b 6 xs) (hK : va_K D vwCl (tyL cB cI cJ cZ cS cT) s) (hN : kN s) {H : Heap} {locs : List Loc} {x0 : Nat} {m0 : Nat} {r_tape : Nat} {r_reader : Nat} {r_now : Nat} {r_trial : Nat} {r_images : Nat} {r_kept : Nat} {r_slots : Nat} {r_night : Nat} {r_other : Nat} {r_circle : Nat} {r_words : Nat} {r_law : Nat} {r_place : Nat} {r_drawn : Nat} {n_signs : Nat} {n_posts : Nat} {n_acts : Nat} {m_world : Nat} {m_images : Nat} {m_hasImage : Nat} {m_tape : Nat} {m_five : Nat} {m_fresh : Nat} {m_spokenAt : Nat} {m_heardAt : Nat} {m_lastAt : Nat} {m_answerAt : Nat} {m_heardNow : Nat} {m_seenAt : Nat} {m_fewest : Nat} {m_costNow : Nat} {m_costThen : Nat} {m_lawsOf : Nat} {m_heardBy : Nat} {m_placesOf : Nat} {m_sentIn : Nat} {m_lostBy : Nat} {m_many : Nat} {m_width : Nat} {m_numbers : Nat} {m_moving : Nat} (hP : va_P D vwCl [(x0, .inr (11, [.ref r_tape, .ref r_reader, .ref r_now, .ref r_trial, .ref r_images, .ref r_kept, .ref r_slots, .ref r_night, .ref r_other, .ref r_circle, .ref r_words, .ref r_law, .ref r_place, .ref r_drawn])), (r_now, .inr (8, [.int 0, .int 0, .int 0, .int 0, .int 0, .int 0, .int 0, .ref n_signs, .int 0, .ref n_posts, .int 0, .ref n_acts])), (m0, .inr (12, [.int 0, .ref m_world, .ref m_images, .ref m_hasImage, .ref m_tape, .int 0, .ref m_five, .int 0, .int 0, .int 0, .int 0, .int 0, .int 0, .int (-1), .ref m_fresh, .ref m_spokenAt, .ref m_heardAt, .ref m_lastAt, .ref m_answerAt, .int 0, .int 0, .int 0, .long 0, .int 0, .int 0, .ref m_heardNow, .ref m_seenAt, .int 0, .int 0, .int 0, .int 0, .int 0, .ref m_fewest, .ref m_costNow, .ref m_costThen, .ref m_lawsOf, .ref m_heardBy, .int 0, .int 0, .ref m_placesOf, .ref m_sentIn, .int 0, .int 0, .ref m_lostBy, .ref m_many, .ref m_width, .ref m_numbers, .ref m_moving])), (m_world, .inl (cI, 53, .inl (fun _ => 0)))] H) (hD : va_D (fun q : Nat => s.heap.size ≤ q) [(x0, .inr (11, [.ref r_tape, .ref r_reader, .ref r_now, .ref r_trial, .ref r_images, .ref r_kept, .ref r_slots, .ref r_night, .ref r_other, .ref r_circle, .ref r_words, .ref r_law, .ref r_place, .ref r_drawn])), (r_now, .inr (8, [.int 0, .int 0, .int 0, .int 0, .int 0, .int 0, .int 0, .ref n_signs, .int 0, .ref n_posts, .int 0, .ref n_acts])), (m0, .inr (12, [.int 0, .ref m_world, .ref m_images, .ref m_hasImage, .ref m_tape, .int 0, .ref m_five, .int 0, .int 0, .int 0, .int 0, .int 0, .int 0, .int (-1), .ref m_fresh, .ref m_spokenAt, .ref m_heardAt, .ref m_lastAt, .ref m_answerAt, .int 0, .int 0, .int 0, .long 0, .int 0, .int 0, .ref m_heardNow, .ref m_seenAt, .int 0, .int 0, .int 0, .int 0, .int 0, .ref m_fewest, .ref m_costNow, .ref m_costThen, .ref m_lawsOf, .ref m_heardBy, .int 0, .int 0, .ref m_placesOf, .ref m_sentIn, .int 0, .int 0, .ref m_lostBy, .ref m_many, .ref m_width, .ref m_numbers, .ref m_moving])), (m_world, .inl (cI, 53, .inl (fun _ => 0)))]) (hS : va_S (fun q : Nat => s.heap.size ≤ q) s.heap H locs) {ls : Array Slot} (hl : lv_has ls 4 [(0, .ref b), (1, .ref x0), (2, .ref m0), (3, .int 0)]) : W p l e room_1 s m #[Value.ref b] below meth c H locs 118 60870 (lw_Z below #[Value.ref b] s) (F0 m 969 ls []) := by
  obtain ⟨hx, hb, hr, hml, hown, hts0, hX, hbl, hlocks, hgv⟩ := id C0
  have hts : ∀ w ∈ wsL_law, w.before #[Value.ref b] s = true := fun w h => hts0 w (wsL_law_in w h)
  have hA : ∀ q : Nat, s.heap.size ≤ q → (fun q : Nat => s.heap.size ≤ q) q := fun _ h => h
  have hbA : ¬ (fun q : Nat => s.heap.size ≤ q) b := Nat.not_le.mpr hbl
  refine lv_aload_n hx hb dL_law_969 rfl (lv_at hl 1 rfl) ?_
  refine lv_aload_n hx hb dL_law_970 rfl (lv_at hl 0 rfl) ?_
  refine lv_iload_n hx hb dL_law_971 rfl (lv_at hl 3 rfl) ?_
  refine lv_iconst (v := 1) hx hb dL_law_972 (by decide) ?_
  refine z_iadd (v := 1) hx hb dL_law_973 (by decide) ?_
  refine va_sld hx hb hX hbl hbA hS (by unfold vp_in; decide) dL_law_974 ?_
  refine W.eq (g2 := F0 m 975 ls [.int (xs 1), .ref x0]) rfl ?_
  refine roi (As := [.int (xs 1)]) (rest := []) ⟨hx, hb, hml, hown, hts⟩ (kx_reach l D cB cI cJ cZ cS cT x0 r_tape r_reader r_now r_trial r_images r_kept r_slots r_night r_other r_circle r_words r_law r_place r_drawn n_signs n_posts n_acts (xs 1) ) (cvB (n := 1) (inr40 _ (List.mem_of_getElem? (i := 10) rfl)) (inr40 _ (List.mem_of_getElem? (i := 11) rfl)) (inr40 _ (List.mem_of_getElem? (i := 12) rfl)) (inr1 _ (List.mem_of_getElem? (i := 2) rfl)) (inr40 _ (List.mem_of_getElem? (i := 13) rfl)) (by decide +kernel) hts rfl rfl ⟨Nat.le_of_ble_eq_true rfl, Nat.le_of_ble_eq_true rfl⟩) 0 11 rfl rfl rfl (hP.sub [0, 1] rfl) hK rfl hl.1 rfl (Nat.le_of_ble_eq_true rfl) ⟨Nat.le_of_ble_eq_true rfl, Nat.le_of_ble_eq_true rfl⟩ dL_law_975 (fun r_1 h_2 => ?_)
  obtain rfl := h_2
  refine lv_aload_n hx hb dL_law_978 rfl (lv_at hl 2 rfl) ?_
  refine lv_aload_n hx hb dL_law_979 rfl (lv_at hl 0 rfl) ?_
  refine lv_iload_n hx hb dL_law_980 rfl (lv_at hl 3 rfl) ?_
  refine lv_iconst (v := 1) hx hb dL_law_981 (by decide) ?_
  refine z_iadd (v := 1) hx hb dL_law_982 (by decide) ?_
  refine va_sld hx hb hX hbl hbA hS (by unfold vp_in; decide) dL_law_983 ?_
  refine W.eq (g2 := F0 m 984 ls [.int (xs 1), .ref m0, .int (-2)]) rfl ?_
  refine roi (As := [.int (xs 1)]) (rest := [.int (-2)]) ⟨hx, hb, hml, hown, hts⟩ (km_reach l D cB cI cJ cZ cS cT m0 m_world m_images m_hasImage m_tape m_five m_fresh m_spokenAt m_heardAt m_lastAt m_answerAt m_heardNow m_seenAt m_fewest m_costNow m_costThen m_lawsOf m_heardBy m_placesOf m_sentIn m_lostBy m_many m_width m_numbers m_moving (xs 1) ) (cvB (n := 1) (inr42 _ (List.mem_of_getElem? (i := 5) rfl)) (inr42 _ (List.mem_of_getElem? (i := 6) rfl)) (inr42 _ (List.mem_of_getElem? (i := 7) rfl)) (inr1 _ (List.mem_of_getElem? (i := 5) rfl)) (inr42 _ (List.mem_of_getElem? (i := 8) rfl)) (by decide +kernel) hts rfl rfl ⟨Nat.le_of_ble_eq_true rfl, Nat.le_of_ble_eq_true rfl⟩) 0 12 rfl rfl rfl (hP.sub [2, 3] rfl) hK rfl hl.1 rfl (Nat.le_of_ble_eq_true rfl) ⟨Nat.le_of_ble_eq_true rfl, Nat.le_of_ble_eq_true rfl⟩ dL_law_984 (fun r_3 h_4 => ?_)
  obtain rfl := h_4
  refine lv_icmp_eq (tgt := 2116) hx hb dL_law_987 (by decide) (fun _ => ?_) (fun c0 => absurd c0 (by decide))
  exact law_end C0 hK hN (Nat.le_of_ble_eq_true rfl) (Nat.le_of_ble_eq_true rfl) hS (lv_sub hl [0, 1, 2, 3] rfl)

set_option maxHeartbeats 4000000 in
set_option maxRecDepth 100000 in
theorem law_30 {p : Program} {l : Launch} {e : Env} {s : State} {m : MethodId} {below : List Frame} {meth : Method} {c : Code} {D : va_G} {cB cI cJ cZ cS cT : ClassId} {b : Nat} {xs : Nat → Int32} (C0 : lw_At p s m meth c b 6 xs) (hK : va_K D vwCl (tyL cB cI cJ cZ cS cT) s) (hN : kN s) {H : Heap} {locs : List Loc} {x0 : Nat} {m0 : Nat} {r_tape : Nat} {r_reader : Nat} {r_now : Nat} {r_trial : Nat} {r_images : Nat} {r_kept : Nat} {r_slots : Nat} {r_night : Nat} {r_other : Nat} {r_circle : Nat} {r_words : Nat} {r_law : Nat} {r_place : Nat} {r_drawn : Nat} {n_signs : Nat} {n_posts : Nat} {n_acts : Nat} {m_world : Nat} {m_images : Nat} {m_hasImage : Nat} {m_tape : Nat} {m_five : Nat} {m_fresh : Nat} {m_spokenAt : Nat} {m_heardAt : Nat} {m_lastAt : Nat} {m_answerAt : Nat} {m_heardNow : Nat} {m_seenAt : Nat} {m_fewest : Nat} {m_costNow : Nat} {m_costThen : Nat} {m_lawsOf : Nat} {m_heardBy : Nat} {m_placesOf : Nat} {m_sentIn : Nat} {m_lostBy : Nat} {m_many : Nat} {m_width : Nat} {m_numbers : Nat} {m_moving : Nat} (hP : va_P D vwCl [(x0, .inr (11, [.ref r_tape, .ref r_reader, .ref r_now, .ref r_trial, .ref r_images, .ref r_kept, .ref r_slots, .ref r_night, .ref r_other, .ref r_circle, .ref r_words, .ref r_law, .ref r_place, .ref r_drawn])), (r_now, .inr (8, [.int 0, .int 0, .int 0, .int 0, .int 0, .int 0, .int 0, .ref n_signs, .int 0, .ref n_posts, .int 0, .ref n_acts])), (m0, .inr (12, [.int 0, .ref m_world, .ref m_images, .ref m_hasImage, .ref m_tape, .int 0, .ref m_five, .int 0, .int 0, .int 0, .int 0, .int 0, .int 0, .int (-1), .ref m_fresh, .ref m_spokenAt, .ref m_heardAt, .ref m_lastAt, .ref m_answerAt, .int 0, .int 0, .int 0, .long 0, .int 0, .int 0, .ref m_heardNow, .ref m_seenAt, .int 0, .int 0, .int 0, .int 0, .int 0, .ref m_fewest, .ref m_costNow, .ref m_costThen, .ref m_lawsOf, .ref m_heardBy, .int 0, .int 0, .ref m_placesOf, .ref m_sentIn, .int 0, .int 0, .ref m_lostBy, .ref m_many, .ref m_width, .ref m_numbers, .ref m_moving])), (m_world, .inl (cI, 53, .inl (fun _ => 0)))] H) (hD : va_D (fun q : Nat => s.heap.size ≤ q) [(x0, .inr (11, [.ref r_tape, .ref r_reader, .ref r_now, .ref r_trial, .ref r_images, .ref r_kept, .ref r_slots, .ref r_night, .ref r_other, .ref r_circle, .ref r_words, .ref r_law, .ref r_place, .ref r_drawn])), (r_now, .inr (8, [.int 0, .int 0, .int 0, .int 0, .int 0, .int 0, .int 0, .ref n_signs, .int 0, .ref n_posts, .int 0, .ref n_acts])), (m0, .inr (12, [.int 0, .ref m_world, .ref m_images, .ref m_hasImage, .ref m_tape, .int 0, .ref m_five, .int 0, .int 0, .int 0, .int 0, .int 0, .int 0, .int (-1), .ref m_fresh, .ref m_spokenAt, .ref m_heardAt, .ref m_lastAt, .ref m_answerAt, .int 0, .int 0, .int 0, .long 0, .int 0, .int 0, .ref m_heardNow, .ref m_seenAt, .int 0, .int 0, .int 0, .int 0, .int 0, .ref m_fewest, .ref m_costNow, .ref m_costThen, .ref m_lawsOf, .ref m_heardBy, .int 0, .int 0, .ref m_placesOf, .ref m_sentIn, .int 0, .int 0, .ref m_lostBy, .ref m_many, .ref m_width, .ref m_numbers, .ref m_moving])), (m_world, .inl (cI, 53, .inl (fun _ => 0)))]) (hS : va_S (fun q : Nat => s.heap.size ≤ q) s.heap H locs) {ls : Array Slot} (hl : lv_has ls 4 [(0, .ref b), (1, .ref x0), (2, .ref m0), (3, .int 0)]) : W p l e room_1 s m #[Value.ref b] below meth c H locs 118 60870 (lw_Z below #[Value.ref b] s) (F0 m 992 ls []) := by
  obtain ⟨hx, hb, hr, hml, hown, hts0, hX, hbl, hlocks, hgv⟩ := id C0
  have hts : ∀ w ∈ wsL_law, w.before #[Value.ref b] s = true := fun w h => hts0 w (wsL_law_in w h)
  have hA : ∀ q : Nat, s.heap.size ≤ q → (fun q : Nat => s.heap.size ≤ q) q := fun _ h => h
  have hbA : ¬ (fun q : Nat => s.heap.size ≤ q) b := Nat.not_le.mpr hbl
  refine lv_aload_n hx hb dL_law_992 rfl (lv_at hl 1 rfl) ?_
  refine lv_aload_n hx hb dL_law_993 rfl (lv_at hl 0 rfl) ?_
  refine lv_iload_n hx hb dL_law_994 rfl (lv_at hl 3 rfl) ?_
  refine lv_iconst (v := 1) hx hb dL_law_995 (by decide) ?_
  refine z_iadd (v := 1) hx hb dL_law_996 (by decide) ?_
  refine va_sld hx hb hX hbl hbA hS (by unfold vp_in; decide) dL_law_997 ?_
  refine W.eq (g2 := F0 m 998 ls [.int (xs 1), .ref x0]) rfl ?_
  refine roi (As := [.int (xs 1)]) (rest := []) ⟨hx, hb, hml, hown, hts⟩ (kx_spread l D cB cI cJ cZ cS cT x0 r_tape r_reader r_now r_trial r_images r_kept r_slots r_night r_other r_circle r_words r_law r_place r_drawn n_signs n_posts n_acts (xs 1) ) (cvB (n := 1) (inr43 _ (List.mem_of_getElem? (i := 5) rfl)) (inr43 _ (List.mem_of_getElem? (i := 6) rfl)) (inr43 _ (List.mem_of_getElem? (i := 7) rfl)) (inr1 _ (List.mem_of_getElem? (i := 2) rfl)) (inr43 _ (List.mem_of_getElem? (i := 8) rfl)) (by decide +kernel) hts rfl rfl ⟨Nat.le_of_ble_eq_true rfl, Nat.le_of_ble_eq_true rfl⟩) 0 11 rfl rfl rfl (hP.sub [0, 1] rfl) hK rfl hl.1 rfl (Nat.le_of_ble_eq_true rfl) ⟨Nat.le_of_ble_eq_true rfl, Nat.le_of_ble_eq_true rfl⟩ dL_law_998 (fun r_1 h_2 => ?_)
  obtain rfl := h_2
  refine lv_aload_n hx hb dL_law_1001 rfl (lv_at hl 2 rfl) ?_
  refine lv_aload_n hx hb dL_law_1002 rfl (lv_at hl 0 rfl) ?_
  refine lv_iload_n hx hb dL_law_1003 rfl (lv_at hl 3 rfl) ?_
  refine lv_iconst (v := 1) hx hb dL_law_1004 (by decide) ?_
  refine z_iadd (v := 1) hx hb dL_law_1005 (by decide) ?_
  refine va_sld hx hb hX hbl hbA hS (by unfold vp_in; decide) dL_law_1006 ?_
  refine W.eq (g2 := F0 m 1007 ls [.int (xs 1), .ref m0, .int (-2)]) rfl ?_
  refine roi (As := [.int (xs 1)]) (rest := [.int (-2)]) ⟨hx, hb, hml, hown, hts⟩ (km_spread l D cB cI cJ cZ cS cT m0 m_world m_images m_hasImage m_tape m_five m_fresh m_spokenAt m_heardAt m_lastAt m_answerAt m_heardNow m_seenAt m_fewest m_costNow m_costThen m_lawsOf m_heardBy m_placesOf m_sentIn m_lostBy m_many m_width m_numbers m_moving (xs 1) ) (cvB (n := 1) (inr43 _ (List.mem_of_getElem? (i := 18) rfl)) (inr43 _ (List.mem_of_getElem? (i := 19) rfl)) (inr43 _ (List.mem_of_getElem? (i := 20) rfl)) (inr1 _ (List.mem_of_getElem? (i := 5) rfl)) (inr43 _ (List.mem_of_getElem? (i := 21) rfl)) (by decide +kernel) hts rfl rfl ⟨Nat.le_of_ble_eq_true rfl, Nat.le_of_ble_eq_true rfl⟩) 0 12 rfl rfl rfl (hP.sub [2, 3] rfl) hK rfl hl.1 rfl (Nat.le_of_ble_eq_true rfl) ⟨Nat.le_of_ble_eq_true rfl, Nat.le_of_ble_eq_true rfl⟩ dL_law_1007 (fun r_3 h_4 => ?_)
  obtain rfl := h_4
  refine lv_icmp_eq (tgt := 2116) hx hb dL_law_1010 (by decide) (fun _ => ?_) (fun c0 => absurd c0 (by decide))
  exact law_end C0 hK hN (Nat.le_of_ble_eq_true rfl) (Nat.le_of_ble_eq_true rfl) hS (lv_sub hl [0, 1, 2, 3] rfl)

set_option maxHeartbeats 4000000 in
set_option maxRecDepth 100000 in
theorem law_31 {p : Program} {l : Launch} {e : Env} {s : State} {m : MethodId} {below : List Frame} {meth : Method} {c : Code} {D : va_G} {cB cI cJ cZ cS cT : ClassId} {b : Nat} {xs : Nat → Int32} (C0 : lw_At p s m meth c b 6 xs) (hK : va_K D vwCl (tyL cB cI cJ cZ cS cT) s) (hN : kN s) {H : Heap} {locs : List Loc} {x0 : Nat} {m0 : Nat} {r_tape : Nat} {r_reader : Nat} {r_now : Nat} {r_trial : Nat} {r_images : Nat} {r_kept : Nat} {r_slots : Nat} {r_night : Nat} {r_other : Nat} {r_circle : Nat} {r_words : Nat} {r_law : Nat} {r_place : Nat} {r_drawn : Nat} {n_signs : Nat} {n_posts : Nat} {n_acts : Nat} {m_world : Nat} {m_images : Nat} {m_hasImage : Nat} {m_tape : Nat} {m_five : Nat} {m_fresh : Nat} {m_spokenAt : Nat} {m_heardAt : Nat} {m_lastAt : Nat} {m_answerAt : Nat} {m_heardNow : Nat} {m_seenAt : Nat} {m_fewest : Nat} {m_costNow : Nat} {m_costThen : Nat} {m_lawsOf : Nat} {m_heardBy : Nat} {m_placesOf : Nat} {m_sentIn : Nat} {m_lostBy : Nat} {m_many : Nat} {m_width : Nat} {m_numbers : Nat} {m_moving : Nat} (hP : va_P D vwCl [(x0, .inr (11, [.ref r_tape, .ref r_reader, .ref r_now, .ref r_trial, .ref r_images, .ref r_kept, .ref r_slots, .ref r_night, .ref r_other, .ref r_circle, .ref r_words, .ref r_law, .ref r_place, .ref r_drawn])), (r_now, .inr (8, [.int 0, .int 0, .int 0, .int 0, .int 0, .int 0, .int 0, .ref n_signs, .int 0, .ref n_posts, .int 0, .ref n_acts])), (m0, .inr (12, [.int 0, .ref m_world, .ref m_images, .ref m_hasImage, .ref m_tape, .int 0, .ref m_five, .int 0, .int 0, .int 0, .int 0, .int 0, .int 0, .int (-1), .ref m_fresh, .ref m_spokenAt, .ref m_heardAt, .ref m_lastAt, .ref m_answerAt, .int 0, .int 0, .int 0, .long 0, .int 0, .int 0, .ref m_heardNow, .ref m_seenAt, .int 0, .int 0, .int 0, .int 0, .int 0, .ref m_fewest, .ref m_costNow, .ref m_costThen, .ref m_lawsOf, .ref m_heardBy, .int 0, .int 0, .ref m_placesOf, .ref m_sentIn, .int 0, .int 0, .ref m_lostBy, .ref m_many, .ref m_width, .ref m_numbers, .ref m_moving])), (m_world, .inl (cI, 53, .inl (fun _ => 0)))] H) (hD : va_D (fun q : Nat => s.heap.size ≤ q) [(x0, .inr (11, [.ref r_tape, .ref r_reader, .ref r_now, .ref r_trial, .ref r_images, .ref r_kept, .ref r_slots, .ref r_night, .ref r_other, .ref r_circle, .ref r_words, .ref r_law, .ref r_place, .ref r_drawn])), (r_now, .inr (8, [.int 0, .int 0, .int 0, .int 0, .int 0, .int 0, .int 0, .ref n_signs, .int 0, .ref n_posts, .int 0, .ref n_acts])), (m0, .inr (12, [.int 0, .ref m_world, .ref m_images, .ref m_hasImage, .ref m_tape, .int 0, .ref m_five, .int 0, .int 0, .int 0, .int 0, .int 0, .int 0, .int (-1), .ref m_fresh, .ref m_spokenAt, .ref m_heardAt, .ref m_lastAt, .ref m_answerAt, .int 0, .int 0, .int 0, .long 0, .int 0, .int 0, .ref m_heardNow, .ref m_seenAt, .int 0, .int 0, .int 0, .int 0, .int 0, .ref m_fewest, .ref m_costNow, .ref m_costThen, .ref m_lawsOf, .ref m_heardBy, .int 0, .int 0, .ref m_placesOf, .ref m_sentIn, .int 0, .int 0, .ref m_lostBy, .ref m_many, .ref m_width, .ref m_numbers, .ref m_moving])), (m_world, .inl (cI, 53, .inl (fun _ => 0)))]) (hS : va_S (fun q : Nat => s.heap.size ≤ q) s.heap H locs) {ls : Array Slot} (hl : lv_has ls 4 [(0, .ref b), (1, .ref x0), (2, .ref m0), (3, .int 0)]) : W p l e room_1 s m #[Value.ref b] below meth c H locs 118 60870 (lw_Z below #[Value.ref b] s) (F0 m 1015 ls []) := by
  obtain ⟨hx, hb, hr, hml, hown, hts0, hX, hbl, hlocks, hgv⟩ := id C0
  have hts : ∀ w ∈ wsL_law, w.before #[Value.ref b] s = true := fun w h => hts0 w (wsL_law_in w h)
  have hA : ∀ q : Nat, s.heap.size ≤ q → (fun q : Nat => s.heap.size ≤ q) q := fun _ h => h
  have hbA : ¬ (fun q : Nat => s.heap.size ≤ q) b := Nat.not_le.mpr hbl
  refine lv_aload_n hx hb dL_law_1015 rfl (lv_at hl 1 rfl) ?_
  refine roi (As := []) (rest := []) ⟨hx, hb, hml, hown, hts⟩ (kx_blind l D cB cI cJ cZ cS cT x0 r_tape r_reader r_now r_trial r_images r_kept r_slots r_night r_other r_circle r_words r_law r_place r_drawn n_signs n_posts n_acts ) (cvB (n := 0) (inr44 _ (List.mem_of_getElem? (i := 3) rfl)) (inr44 _ (List.mem_of_getElem? (i := 4) rfl)) (inr44 _ (List.mem_of_getElem? (i := 5) rfl)) (inr1 _ (List.mem_of_getElem? (i := 2) rfl)) (inr44 _ (List.mem_of_getElem? (i := 6) rfl)) (by decide +kernel) hts rfl rfl ⟨Nat.le_of_ble_eq_true rfl, Nat.le_of_ble_eq_true rfl⟩) 0 11 rfl rfl rfl (hP.sub [0, 1] rfl) hK rfl hl.1 rfl (Nat.le_of_ble_eq_true rfl) ⟨Nat.le_of_ble_eq_true rfl, Nat.le_of_ble_eq_true rfl⟩ dL_law_1016 (fun r_1 h_2 => ?_)
  obtain rfl := h_2
  refine lv_aload_n hx hb dL_law_1019 rfl (lv_at hl 2 rfl) ?_
  refine roi (As := []) (rest := [.int (-2)]) ⟨hx, hb, hml, hown, hts⟩ (km_blind l D cB cI cJ cZ cS cT m0 m_world m_images m_hasImage m_tape m_five m_fresh m_spokenAt m_heardAt m_lastAt m_answerAt m_heardNow m_seenAt m_fewest m_costNow m_costThen m_lawsOf m_heardBy m_placesOf m_sentIn m_lostBy m_many m_width m_numbers m_moving ) (cvB (n := 0) (inr44 _ (List.mem_of_getElem? (i := 12) rfl)) (inr44 _ (List.mem_of_getElem? (i := 13) rfl)) (inr44 _ (List.mem_of_getElem? (i := 14) rfl)) (inr1 _ (List.mem_of_getElem? (i := 5) rfl)) (inr44 _ (List.mem_of_getElem? (i := 15) rfl)) (by decide +kernel) hts rfl rfl ⟨Nat.le_of_ble_eq_true rfl, Nat.le_of_ble_eq_true rfl⟩) 0 12 rfl rfl rfl (hP.sub [2, 3] rfl) hK rfl hl.1 rfl (Nat.le_of_ble_eq_true rfl) ⟨Nat.le_of_ble_eq_true rfl, Nat.le_of_ble_eq_true rfl⟩ dL_law_1020 (fun r_3 h_4 => ?_)
  obtain rfl := h_4
  refine lv_icmp_eq (tgt := 2116) hx hb dL_law_1023 (by decide) (fun _ => ?_) (fun c0 => absurd c0 (by decide))
  exact law_end C0 hK hN (Nat.le_of_ble_eq_true rfl) (Nat.le_of_ble_eq_true rfl) hS (lv_sub hl [0, 1, 2, 3] rfl)

set_option maxHeartbeats 4000000 in
set_option maxRecDepth 100000 in
theorem law_32 {p : Program} {l : Launch} {e : Env} {s : State} {m : MethodId} {below : List Frame} {meth : Method} {c : Code} {D : va_G} {cB cI cJ cZ cS cT : ClassId} {b : Nat} {xs : Nat → Int32} (C0 : lw_At p s m meth c b 6 xs) (hK : va_K D vwCl (tyL cB cI cJ cZ cS cT) s) (hN : kN s) {H : Heap} {locs : List Loc} {x0 : Nat} {m0 : Nat} {r_tape : Nat} {r_reader : Nat} {r_now : Nat} {r_trial : Nat} {r_images : Nat} {r_kept : Nat} {r_slots : Nat} {r_night : Nat} {r_other : Nat} {r_circle : Nat} {r_words : Nat} {r_law : Nat} {r_place : Nat} {r_drawn : Nat} {n_signs : Nat} {n_posts : Nat} {n_acts : Nat} {m_world : Nat} {m_images : Nat} {m_hasImage : Nat} {m_tape : Nat} {m_five : Nat} {m_fresh : Nat} {m_spokenAt : Nat} {m_heardAt : Nat} {m_lastAt : Nat} {m_answerAt : Nat} {m_heardNow : Nat} {m_seenAt : Nat} {m_fewest : Nat} {m_costNow : Nat} {m_costThen : Nat} {m_lawsOf : Nat} {m_heardBy : Nat} {m_placesOf : Nat} {m_sentIn : Nat} {m_lostBy : Nat} {m_many : Nat} {m_width : Nat} {m_numbers : Nat} {m_moving : Nat} (hP : va_P D vwCl [(x0, .inr (11, [.ref r_tape, .ref r_reader, .ref r_now, .ref r_trial, .ref r_images, .ref r_kept, .ref r_slots, .ref r_night, .ref r_other, .ref r_circle, .ref r_words, .ref r_law, .ref r_place, .ref r_drawn])), (r_now, .inr (8, [.int 0, .int 0, .int 0, .int 0, .int 0, .int 0, .int 0, .ref n_signs, .int 0, .ref n_posts, .int 0, .ref n_acts])), (m0, .inr (12, [.int 0, .ref m_world, .ref m_images, .ref m_hasImage, .ref m_tape, .int 0, .ref m_five, .int 0, .int 0, .int 0, .int 0, .int 0, .int 0, .int (-1), .ref m_fresh, .ref m_spokenAt, .ref m_heardAt, .ref m_lastAt, .ref m_answerAt, .int 0, .int 0, .int 0, .long 0, .int 0, .int 0, .ref m_heardNow, .ref m_seenAt, .int 0, .int 0, .int 0, .int 0, .int 0, .ref m_fewest, .ref m_costNow, .ref m_costThen, .ref m_lawsOf, .ref m_heardBy, .int 0, .int 0, .ref m_placesOf, .ref m_sentIn, .int 0, .int 0, .ref m_lostBy, .ref m_many, .ref m_width, .ref m_numbers, .ref m_moving])), (m_world, .inl (cI, 53, .inl (fun _ => 0)))] H) (hD : va_D (fun q : Nat => s.heap.size ≤ q) [(x0, .inr (11, [.ref r_tape, .ref r_reader, .ref r_now, .ref r_trial, .ref r_images, .ref r_kept, .ref r_slots, .ref r_night, .ref r_other, .ref r_circle, .ref r_words, .ref r_law, .ref r_place, .ref r_drawn])), (r_now, .inr (8, [.int 0, .int 0, .int 0, .int 0, .int 0, .int 0, .int 0, .ref n_signs, .int 0, .ref n_posts, .int 0, .ref n_acts])), (m0, .inr (12, [.int 0, .ref m_world, .ref m_images, .ref m_hasImage, .ref m_tape, .int 0, .ref m_five, .int 0, .int 0, .int 0, .int 0, .int 0, .int 0, .int (-1), .ref m_fresh, .ref m_spokenAt, .ref m_heardAt, .ref m_lastAt, .ref m_answerAt, .int 0, .int 0, .int 0, .long 0, .int 0, .int 0, .ref m_heardNow, .ref m_seenAt, .int 0, .int 0, .int 0, .int 0, .int 0, .ref m_fewest, .ref m_costNow, .ref m_costThen, .ref m_lawsOf, .ref m_heardBy, .int 0, .int 0, .ref m_placesOf, .ref m_sentIn, .int 0, .int 0, .ref m_lostBy, .ref m_many, .ref m_width, .ref m_numbers, .ref m_moving])), (m_world, .inl (cI, 53, .inl (fun _ => 0)))]) (hS : va_S (fun q : Nat => s.heap.size ≤ q) s.heap H locs) {ls : Array Slot} (hl : lv_has ls 4 [(0, .ref b), (1, .ref x0), (2, .ref m0), (3, .int 0)]) : W p l e room_1 s m #[Value.ref b] below meth c H locs 118 60870 (lw_Z below #[Value.ref b] s) (F0 m 1028 ls []) := by
  obtain ⟨hx, hb, hr, hml, hown, hts0, hX, hbl, hlocks, hgv⟩ := id C0
  have hts : ∀ w ∈ wsL_law, w.before #[Value.ref b] s = true := fun w h => hts0 w (wsL_law_in w h)
  have hA : ∀ q : Nat, s.heap.size ≤ q → (fun q : Nat => s.heap.size ≤ q) q := fun _ h => h
  have hbA : ¬ (fun q : Nat => s.heap.size ≤ q) b := Nat.not_le.mpr hbl
  refine lv_aload_n hx hb dL_law_1028 rfl (lv_at hl 1 rfl) ?_
  refine roi (As := []) (rest := []) ⟨hx, hb, hml, hown, hts⟩ (kx_settles l D cB cI cJ cZ cS cT x0 r_tape r_reader r_now r_trial r_images r_kept r_slots r_night r_other r_circle r_words r_law r_place r_drawn n_signs n_posts n_acts ) (cvB (n := 0) (inr44 _ (List.mem_of_getElem? (i := 16) rfl)) (inr44 _ (List.mem_of_getElem? (i := 17) rfl)) (inr44 _ (List.mem_of_getElem? (i := 18) rfl)) (inr1 _ (List.mem_of_getElem? (i := 2) rfl)) (inr44 _ (List.mem_of_getElem? (i := 19) rfl)) (by decide +kernel) hts rfl rfl ⟨Nat.le_of_ble_eq_true rfl, Nat.le_of_ble_eq_true rfl⟩) 0 11 rfl rfl rfl (hP.sub [0, 1] rfl) hK rfl hl.1 rfl (Nat.le_of_ble_eq_true rfl) ⟨Nat.le_of_ble_eq_true rfl, Nat.le_of_ble_eq_true rfl⟩ dL_law_1029 (fun r_1 h_2 => ?_)
  obtain rfl := h_2
  refine lv_aload_n hx hb dL_law_1032 rfl (lv_at hl 2 rfl) ?_
  refine roi (As := []) (rest := [.int (-2)]) ⟨hx, hb, hml, hown, hts⟩ (km_settles l D cB cI cJ cZ cS cT m0 m_world m_images m_hasImage m_tape m_five m_fresh m_spokenAt m_heardAt m_lastAt m_answerAt m_heardNow m_seenAt m_fewest m_costNow m_costThen m_lawsOf m_heardBy m_placesOf m_sentIn m_lostBy m_many m_width m_numbers m_moving ) (cvB (n := 0) (inr45 _ (List.mem_of_getElem? (i := 12) rfl)) (inr45 _ (List.mem_of_getElem? (i := 13) rfl)) (inr45 _ (List.mem_of_getElem? (i := 14) rfl)) (inr1 _ (List.mem_of_getElem? (i := 5) rfl)) (inr45 _ (List.mem_of_getElem? (i := 15) rfl)) (by decide +kernel) hts rfl rfl ⟨Nat.le_of_ble_eq_true rfl, Nat.le_of_ble_eq_true rfl⟩) 0 12 rfl rfl rfl (hP.sub [2, 3] rfl) hK rfl hl.1 rfl (Nat.le_of_ble_eq_true rfl) ⟨Nat.le_of_ble_eq_true rfl, Nat.le_of_ble_eq_true rfl⟩ dL_law_1033 (fun r_3 h_4 => ?_)
  obtain rfl := h_4
  refine lv_icmp_eq (tgt := 2116) hx hb dL_law_1036 (by decide) (fun _ => ?_) (fun c0 => absurd c0 (by decide))
  exact law_end C0 hK hN (Nat.le_of_ble_eq_true rfl) (Nat.le_of_ble_eq_true rfl) hS (lv_sub hl [0, 1, 2, 3] rfl)

set_option maxHeartbeats 4000000 in
set_option maxRecDepth 100000 in
theorem law_33 {p : Program} {l : Launch} {e : Env} {s : State} {m : MethodId} {below : List Frame} {meth : Method} {c : Code} {D : va_G} {cB cI cJ cZ cS cT : ClassId} {b : Nat} {xs : Nat → Int32} (C0 : lw_At p s m meth c b 6 xs) (hK : va_K D vwCl (tyL cB cI cJ cZ cS cT) s) (hN : kN s) {H : Heap} {locs : List Loc} {x0 : Nat} {m0 : Nat} {r_tape : Nat} {r_reader : Nat} {r_now : Nat} {r_trial : Nat} {r_images : Nat} {r_kept : Nat} {r_slots : Nat} {r_night : Nat} {r_other : Nat} {r_circle : Nat} {r_words : Nat} {r_law : Nat} {r_place : Nat} {r_drawn : Nat} {n_signs : Nat} {n_posts : Nat} {n_acts : Nat} {m_world : Nat} {m_images : Nat} {m_hasImage : Nat} {m_tape : Nat} {m_five : Nat} {m_fresh : Nat} {m_spokenAt : Nat} {m_heardAt : Nat} {m_lastAt : Nat} {m_answerAt : Nat} {m_heardNow : Nat} {m_seenAt : Nat} {m_fewest : Nat} {m_costNow : Nat} {m_costThen : Nat} {m_lawsOf : Nat} {m_heardBy : Nat} {m_placesOf : Nat} {m_sentIn : Nat} {m_lostBy : Nat} {m_many : Nat} {m_width : Nat} {m_numbers : Nat} {m_moving : Nat} (hP : va_P D vwCl [(x0, .inr (11, [.ref r_tape, .ref r_reader, .ref r_now, .ref r_trial, .ref r_images, .ref r_kept, .ref r_slots, .ref r_night, .ref r_other, .ref r_circle, .ref r_words, .ref r_law, .ref r_place, .ref r_drawn])), (r_now, .inr (8, [.int 0, .int 0, .int 0, .int 0, .int 0, .int 0, .int 0, .ref n_signs, .int 0, .ref n_posts, .int 0, .ref n_acts])), (m0, .inr (12, [.int 0, .ref m_world, .ref m_images, .ref m_hasImage, .ref m_tape, .int 0, .ref m_five, .int 0, .int 0, .int 0, .int 0, .int 0, .int 0, .int (-1), .ref m_fresh, .ref m_spokenAt, .ref m_heardAt, .ref m_lastAt, .ref m_answerAt, .int 0, .int 0, .int 0, .long 0, .int 0, .int 0, .ref m_heardNow, .ref m_seenAt, .int 0, .int 0, .int 0, .int 0, .int 0, .ref m_fewest, .ref m_costNow, .ref m_costThen, .ref m_lawsOf, .ref m_heardBy, .int 0, .int 0, .ref m_placesOf, .ref m_sentIn, .int 0, .int 0, .ref m_lostBy, .ref m_many, .ref m_width, .ref m_numbers, .ref m_moving])), (m_world, .inl (cI, 53, .inl (fun _ => 0)))] H) (hD : va_D (fun q : Nat => s.heap.size ≤ q) [(x0, .inr (11, [.ref r_tape, .ref r_reader, .ref r_now, .ref r_trial, .ref r_images, .ref r_kept, .ref r_slots, .ref r_night, .ref r_other, .ref r_circle, .ref r_words, .ref r_law, .ref r_place, .ref r_drawn])), (r_now, .inr (8, [.int 0, .int 0, .int 0, .int 0, .int 0, .int 0, .int 0, .ref n_signs, .int 0, .ref n_posts, .int 0, .ref n_acts])), (m0, .inr (12, [.int 0, .ref m_world, .ref m_images, .ref m_hasImage, .ref m_tape, .int 0, .ref m_five, .int 0, .int 0, .int 0, .int 0, .int 0, .int 0, .int (-1), .ref m_fresh, .ref m_spokenAt, .ref m_heardAt, .ref m_lastAt, .ref m_answerAt, .int 0, .int 0, .int 0, .long 0, .int 0, .int 0, .ref m_heardNow, .ref m_seenAt, .int 0, .int 0, .int 0, .int 0, .int 0, .ref m_fewest, .ref m_costNow, .ref m_costThen, .ref m_lawsOf, .ref m_heardBy, .int 0, .int 0, .ref m_placesOf, .ref m_sentIn, .int 0, .int 0, .ref m_lostBy, .ref m_many, .ref m_width, .ref m_numbers, .ref m_moving])), (m_world, .inl (cI, 53, .inl (fun _ => 0)))]) (hS : va_S (fun q : Nat => s.heap.size ≤ q) s.heap H locs) {ls : Array Slot} (hl : lv_has ls 4 [(0, .ref b), (1, .ref x0), (2, .ref m0), (3, .int 0)]) : W p l e room_1 s m #[Value.ref b] below meth c H locs 118 60870 (lw_Z below #[Value.ref b] s) (F0 m 1041 ls []) := by
  obtain ⟨hx, hb, hr, hml, hown, hts0, hX, hbl, hlocks, hgv⟩ := id C0
  have hts : ∀ w ∈ wsL_law, w.before #[Value.ref b] s = true := fun w h => hts0 w (wsL_law_in w h)
  have hA : ∀ q : Nat, s.heap.size ≤ q → (fun q : Nat => s.heap.size ≤ q) q := fun _ h => h
  have hbA : ¬ (fun q : Nat => s.heap.size ≤ q) b := Nat.not_le.mpr hbl
  refine lv_aload_n hx hb dL_law_1041 rfl (lv_at hl 1 rfl) ?_
  refine roi (As := []) (rest := []) ⟨hx, hb, hml, hown, hts⟩ (kx_round l D cB cI cJ cZ cS cT x0 r_tape r_reader r_now r_trial r_images r_kept r_slots r_night r_other r_circle r_words r_law r_place r_drawn n_signs n_posts n_acts ) (cvB (n := 0) (inr46 _ (List.mem_of_getElem? (i := 9) rfl)) (inr46 _ (List.mem_of_getElem? (i := 10) rfl)) (inr46 _ (List.mem_of_getElem? (i := 11) rfl)) (inr1 _ (List.mem_of_getElem? (i := 2) rfl)) (inr46 _ (List.mem_of_getElem? (i := 12) rfl)) (by decide +kernel) hts rfl rfl ⟨Nat.le_of_ble_eq_true rfl, Nat.le_of_ble_eq_true rfl⟩) 0 11 rfl rfl rfl (hP.sub [0, 1] rfl) hK rfl hl.1 rfl (Nat.le_of_ble_eq_true rfl) ⟨Nat.le_of_ble_eq_true rfl, Nat.le_of_ble_eq_true rfl⟩ dL_law_1042 (fun r_1 h_2 => ?_)
  obtain rfl := h_2
  refine lv_aload_n hx hb dL_law_1045 rfl (lv_at hl 2 rfl) ?_
  refine roi (As := []) (rest := [.int (-2)]) ⟨hx, hb, hml, hown, hts⟩ (km_round l D cB cI cJ cZ cS cT m0 m_world m_images m_hasImage m_tape m_five m_fresh m_spokenAt m_heardAt m_lastAt m_answerAt m_heardNow m_seenAt m_fewest m_costNow m_costThen m_lawsOf m_heardBy m_placesOf m_sentIn m_lostBy m_many m_width m_numbers m_moving ) (cvB (n := 0) (inr46 _ (List.mem_of_getElem? (i := 17) rfl)) (inr46 _ (List.mem_of_getElem? (i := 18) rfl)) (inr46 _ (List.mem_of_getElem? (i := 19) rfl)) (inr1 _ (List.mem_of_getElem? (i := 5) rfl)) (inr46 _ (List.mem_of_getElem? (i := 20) rfl)) (by decide +kernel) hts rfl rfl ⟨Nat.le_of_ble_eq_true rfl, Nat.le_of_ble_eq_true rfl⟩) 0 12 rfl rfl rfl (hP.sub [2, 3] rfl) hK rfl hl.1 rfl (Nat.le_of_ble_eq_true rfl) ⟨Nat.le_of_ble_eq_true rfl, Nat.le_of_ble_eq_true rfl⟩ dL_law_1046 (fun r_3 h_4 => ?_)
  obtain rfl := h_4
  refine lv_icmp_eq (tgt := 2116) hx hb dL_law_1049 (by decide) (fun _ => ?_) (fun c0 => absurd c0 (by decide))
  exact law_end C0 hK hN (Nat.le_of_ble_eq_true rfl) (Nat.le_of_ble_eq_true rfl) hS (lv_sub hl [0, 1, 2, 3] rfl)

set_option maxHeartbeats 4000000 in
set_option maxRecDepth 100000 in
theorem law_34 {p : Program} {l : Launch} {e : Env} {s : State} {m : MethodId} {below : List Frame} {meth : Method} {c : Code} {D : va_G} {cB cI cJ cZ cS cT : ClassId} {b : Nat} {xs : Nat → Int32} (C0 : lw_At p s m meth c b 6 xs) (hK : va_K D vwCl (tyL cB cI cJ cZ cS cT) s) (hN : kN s) {H : Heap} {locs : List Loc} {x0 : Nat} {m0 : Nat} {r_tape : Nat} {r_reader : Nat} {r_now : Nat} {r_trial : Nat} {r_images : Nat} {r_kept : Nat} {r_slots : Nat} {r_night : Nat} {r_other : Nat} {r_circle : Nat} {r_words : Nat} {r_law : Nat} {r_place : Nat} {r_drawn : Nat} {n_signs : Nat} {n_posts : Nat} {n_acts : Nat} {m_world : Nat} {m_images : Nat} {m_hasImage : Nat} {m_tape : Nat} {m_five : Nat} {m_fresh : Nat} {m_spokenAt : Nat} {m_heardAt : Nat} {m_lastAt : Nat} {m_answerAt : Nat} {m_heardNow : Nat} {m_seenAt : Nat} {m_fewest : Nat} {m_costNow : Nat} {m_costThen : Nat} {m_lawsOf : Nat} {m_heardBy : Nat} {m_placesOf : Nat} {m_sentIn : Nat} {m_lostBy : Nat} {m_many : Nat} {m_width : Nat} {m_numbers : Nat} {m_moving : Nat} (hP : va_P D vwCl [(x0, .inr (11, [.ref r_tape, .ref r_reader, .ref r_now, .ref r_trial, .ref r_images, .ref r_kept, .ref r_slots, .ref r_night, .ref r_other, .ref r_circle, .ref r_words, .ref r_law, .ref r_place, .ref r_drawn])), (r_now, .inr (8, [.int 0, .int 0, .int 0, .int 0, .int 0, .int 0, .int 0, .ref n_signs, .int 0, .ref n_posts, .int 0, .ref n_acts])), (m0, .inr (12, [.int 0, .ref m_world, .ref m_images, .ref m_hasImage, .ref m_tape, .int 0, .ref m_five, .int 0, .int 0, .int 0, .int 0, .int 0, .int 0, .int (-1), .ref m_fresh, .ref m_spokenAt, .ref m_heardAt, .ref m_lastAt, .ref m_answerAt, .int 0, .int 0, .int 0, .long 0, .int 0, .int 0, .ref m_heardNow, .ref m_seenAt, .int 0, .int 0, .int 0, .int 0, .int 0, .ref m_fewest, .ref m_costNow, .ref m_costThen, .ref m_lawsOf, .ref m_heardBy, .int 0, .int 0, .ref m_placesOf, .ref m_sentIn, .int 0, .int 0, .ref m_lostBy, .ref m_many, .ref m_width, .ref m_numbers, .ref m_moving])), (m_world, .inl (cI, 53, .inl (fun _ => 0)))] H) (hD : va_D (fun q : Nat => s.heap.size ≤ q) [(x0, .inr (11, [.ref r_tape, .ref r_reader, .ref r_now, .ref r_trial, .ref r_images, .ref r_kept, .ref r_slots, .ref r_night, .ref r_other, .ref r_circle, .ref r_words, .ref r_law, .ref r_place, .ref r_drawn])), (r_now, .inr (8, [.int 0, .int 0, .int 0, .int 0, .int 0, .int 0, .int 0, .ref n_signs, .int 0, .ref n_posts, .int 0, .ref n_acts])), (m0, .inr (12, [.int 0, .ref m_world, .ref m_images, .ref m_hasImage, .ref m_tape, .int 0, .ref m_five, .int 0, .int 0, .int 0, .int 0, .int 0, .int 0, .int (-1), .ref m_fresh, .ref m_spokenAt, .ref m_heardAt, .ref m_lastAt, .ref m_answerAt, .int 0, .int 0, .int 0, .long 0, .int 0, .int 0, .ref m_heardNow, .ref m_seenAt, .int 0, .int 0, .int 0, .int 0, .int 0, .ref m_fewest, .ref m_costNow, .ref m_costThen, .ref m_lawsOf, .ref m_heardBy, .int 0, .int 0, .ref m_placesOf, .ref m_sentIn, .int 0, .int 0, .ref m_lostBy, .ref m_many, .ref m_width, .ref m_numbers, .ref m_moving])), (m_world, .inl (cI, 53, .inl (fun _ => 0)))]) (hS : va_S (fun q : Nat => s.heap.size ≤ q) s.heap H locs) {ls : Array Slot} (hl : lv_has ls 4 [(0, .ref b), (1, .ref x0), (2, .ref m0), (3, .int 0)]) : W p l e room_1 s m #[Value.ref b] below meth c H locs 118 60870 (lw_Z below #[Value.ref b] s) (F0 m 1054 ls []) := by
  obtain ⟨hx, hb, hr, hml, hown, hts0, hX, hbl, hlocks, hgv⟩ := id C0
  have hts : ∀ w ∈ wsL_law, w.before #[Value.ref b] s = true := fun w h => hts0 w (wsL_law_in w h)
  have hA : ∀ q : Nat, s.heap.size ≤ q → (fun q : Nat => s.heap.size ≤ q) q := fun _ h => h
  have hbA : ¬ (fun q : Nat => s.heap.size ≤ q) b := Nat.not_le.mpr hbl
  refine lv_aload_n hx hb dL_law_1054 rfl (lv_at hl 1 rfl) ?_
  refine roi (As := []) (rest := []) ⟨hx, hb, hml, hown, hts⟩ (kx_births l D cB cI cJ cZ cS cT x0 r_tape r_reader r_now r_trial r_images r_kept r_slots r_night r_other r_circle r_words r_law r_place r_drawn n_signs n_posts n_acts ) (cvB (n := 0) (inr46 _ (List.mem_of_getElem? (i := 21) rfl)) (inr46 _ (List.mem_of_getElem? (i := 22) rfl)) (inr46 _ (List.mem_of_getElem? (i := 23) rfl)) (inr1 _ (List.mem_of_getElem? (i := 2) rfl)) (inr47 _ (List.mem_of_getElem? (i := 0) rfl)) (by decide +kernel) hts rfl rfl ⟨Nat.le_of_ble_eq_true rfl, Nat.le_of_ble_eq_true rfl⟩) 0 11 rfl rfl rfl (hP.sub [0, 1] rfl) hK rfl hl.1 rfl (Nat.le_of_ble_eq_true rfl) ⟨Nat.le_of_ble_eq_true rfl, Nat.le_of_ble_eq_true rfl⟩ dL_law_1055 (fun r_1 h_2 => ?_)
  obtain rfl := h_2
  refine lv_aload_n hx hb dL_law_1058 rfl (lv_at hl 2 rfl) ?_
  refine roi (As := []) (rest := [.int (-2)]) ⟨hx, hb, hml, hown, hts⟩ (km_births l D cB cI cJ cZ cS cT m0 m_world m_images m_hasImage m_tape m_five m_fresh m_spokenAt m_heardAt m_lastAt m_answerAt m_heardNow m_seenAt m_fewest m_costNow m_costThen m_lawsOf m_heardBy m_placesOf m_sentIn m_lostBy m_many m_width m_numbers m_moving ) (cvB (n := 0) (inr47 _ (List.mem_of_getElem? (i := 5) rfl)) (inr47 _ (List.mem_of_getElem? (i := 6) rfl)) (inr47 _ (List.mem_of_getElem? (i := 7) rfl)) (inr1 _ (List.mem_of_getElem? (i := 5) rfl)) (inr47 _ (List.mem_of_getElem? (i := 8) rfl)) (by decide +kernel) hts rfl rfl ⟨Nat.le_of_ble_eq_true rfl, Nat.le_of_ble_eq_true rfl⟩) 0 12 rfl rfl rfl (hP.sub [2, 3] rfl) hK rfl hl.1 rfl (Nat.le_of_ble_eq_true rfl) ⟨Nat.le_of_ble_eq_true rfl, Nat.le_of_ble_eq_true rfl⟩ dL_law_1059 (fun r_3 h_4 => ?_)
  obtain rfl := h_4
  refine lv_icmp_eq (tgt := 2116) hx hb dL_law_1062 (by decide) (fun _ => ?_) (fun c0 => absurd c0 (by decide))
  exact law_end C0 hK hN (Nat.le_of_ble_eq_true rfl) (Nat.le_of_ble_eq_true rfl) hS (lv_sub hl [0, 1, 2, 3] rfl)

set_option maxHeartbeats 4000000 in
set_option maxRecDepth 100000 in
theorem law_35 {p : Program} {l : Launch} {e : Env} {s : State} {m : MethodId} {below : List Frame} {meth : Method} {c : Code} {D : va_G} {cB cI cJ cZ cS cT : ClassId} {b : Nat} {xs : Nat → Int32} (C0 : lw_At p s m meth c b 6 xs) (hK : va_K D vwCl (tyL cB cI cJ cZ cS cT) s) (hN : kN s) {H : Heap} {locs : List Loc} {x0 : Nat} {m0 : Nat} {r_tape : Nat} {r_reader : Nat} {r_now : Nat} {r_trial : Nat} {r_images : Nat} {r_kept : Nat} {r_slots : Nat} {r_night : Nat} {r_other : Nat} {r_circle : Nat} {r_words : Nat} {r_law : Nat} {r_place : Nat} {r_drawn : Nat} {n_signs : Nat} {n_posts : Nat} {n_acts : Nat} {m_world : Nat} {m_images : Nat} {m_hasImage : Nat} {m_tape : Nat} {m_five : Nat} {m_fresh : Nat} {m_spokenAt : Nat} {m_heardAt : Nat} {m_lastAt : Nat} {m_answerAt : Nat} {m_heardNow : Nat} {m_seenAt : Nat} {m_fewest : Nat} {m_costNow : Nat} {m_costThen : Nat} {m_lawsOf : Nat} {m_heardBy : Nat} {m_placesOf : Nat} {m_sentIn : Nat} {m_lostBy : Nat} {m_many : Nat} {m_width : Nat} {m_numbers : Nat} {m_moving : Nat} (hP : va_P D vwCl [(x0, .inr (11, [.ref r_tape, .ref r_reader, .ref r_now, .ref r_trial, .ref r_images, .ref r_kept, .ref r_slots, .ref r_night, .ref r_other, .ref r_circle, .ref r_words, .ref r_law, .ref r_place, .ref r_drawn])), (r_now, .inr (8, [.int 0, .int 0, .int 0, .int 0, .int 0, .int 0, .int 0, .ref n_signs, .int 0, .ref n_posts, .int 0, .ref n_acts])), (m0, .inr (12, [.int 0, .ref m_world, .ref m_images, .ref m_hasImage, .ref m_tape, .int 0, .ref m_five, .int 0, .int 0, .int 0, .int 0, .int 0, .int 0, .int (-1), .ref m_fresh, .ref m_spokenAt, .ref m_heardAt, .ref m_lastAt, .ref m_answerAt, .int 0, .int 0, .int 0, .long 0, .int 0, .int 0, .ref m_heardNow, .ref m_seenAt, .int 0, .int 0, .int 0, .int 0, .int 0, .ref m_fewest, .ref m_costNow, .ref m_costThen, .ref m_lawsOf, .ref m_heardBy, .int 0, .int 0, .ref m_placesOf, .ref m_sentIn, .int 0, .int 0, .ref m_lostBy, .ref m_many, .ref m_width, .ref m_numbers, .ref m_moving])), (m_world, .inl (cI, 53, .inl (fun _ => 0)))] H) (hD : va_D (fun q : Nat => s.heap.size ≤ q) [(x0, .inr (11, [.ref r_tape, .ref r_reader, .ref r_now, .ref r_trial, .ref r_images, .ref r_kept, .ref r_slots, .ref r_night, .ref r_other, .ref r_circle, .ref r_words, .ref r_law, .ref r_place, .ref r_drawn])), (r_now, .inr (8, [.int 0, .int 0, .int 0, .int 0, .int 0, .int 0, .int 0, .ref n_signs, .int 0, .ref n_posts, .int 0, .ref n_acts])), (m0, .inr (12, [.int 0, .ref m_world, .ref m_images, .ref m_hasImage, .ref m_tape, .int 0, .ref m_five, .int 0, .int 0, .int 0, .int 0, .int 0, .int 0, .int (-1), .ref m_fresh, .ref m_spokenAt, .ref m_heardAt, .ref m_lastAt, .ref m_answerAt, .int 0, .int 0, .int 0, .long 0, .int 0, .int 0, .ref m_heardNow, .ref m_seenAt, .int 0, .int 0, .int 0, .int 0, .int 0, .ref m_fewest, .ref m_costNow, .ref m_costThen, .ref m_lawsOf, .ref m_heardBy, .int 0, .int 0, .ref m_placesOf, .ref m_sentIn, .int 0, .int 0, .ref m_lostBy, .ref m_many, .ref m_width, .ref m_numbers, .ref m_moving])), (m_world, .inl (cI, 53, .inl (fun _ => 0)))]) (hS : va_S (fun q : Nat => s.heap.size ≤ q) s.heap H locs) {ls : Array Slot} (hl : lv_has ls 4 [(0, .ref b), (1, .ref x0), (2, .ref m0), (3, .int 0)]) : W p l e room_1 s m #[Value.ref b] below meth c H locs 118 60870 (lw_Z below #[Value.ref b] s) (F0 m 1067 ls []) := by
  obtain ⟨hx, hb, hr, hml, hown, hts0, hX, hbl, hlocks, hgv⟩ := id C0
  have hts : ∀ w ∈ wsL_law, w.before #[Value.ref b] s = true := fun w h => hts0 w (wsL_law_in w h)
  have hA : ∀ q : Nat, s.heap.size ≤ q → (fun q : Nat => s.heap.size ≤ q) q := fun _ h => h
  have hbA : ¬ (fun q : Nat => s.heap.size ≤ q) b := Nat.not_le.mpr hbl
  refine lv_aload_n hx hb dL_law_1067 rfl (lv_at hl 1 rfl) ?_
  refine lv_aload_n hx hb dL_law_1068 rfl (lv_at hl 0 rfl) ?_
  refine lv_iload_n hx hb dL_law_1069 rfl (lv_at hl 3 rfl) ?_
  refine lv_iconst (v := 1) hx hb dL_law_1070 (by decide) ?_
  refine z_iadd (v := 1) hx hb dL_law_1071 (by decide) ?_
  refine va_sld hx hb hX hbl hbA hS (by unfold vp_in; decide) dL_law_1072 ?_
  refine W.eq (g2 := F0 m 1073 ls [.int (xs 1), .ref x0]) rfl ?_
  refine roi (As := [.int (xs 1)]) (rest := []) ⟨hx, hb, hml, hown, hts⟩ (kx_far l D cB cI cJ cZ cS cT x0 r_tape r_reader r_now r_trial r_images r_kept r_slots r_night r_other r_circle r_words r_law r_place r_drawn n_signs n_posts n_acts (xs 1) ) (cvB (n := 1) (inr47 _ (List.mem_of_getElem? (i := 9) rfl)) (inr47 _ (List.mem_of_getElem? (i := 10) rfl)) (inr47 _ (List.mem_of_getElem? (i := 11) rfl)) (inr1 _ (List.mem_of_getElem? (i := 2) rfl)) (inr47 _ (List.mem_of_getElem? (i := 12) rfl)) (by decide +kernel) hts rfl rfl ⟨Nat.le_of_ble_eq_true rfl, Nat.le_of_ble_eq_true rfl⟩) 0 11 rfl rfl rfl (hP.sub [0, 1] rfl) hK rfl hl.1 rfl (Nat.le_of_ble_eq_true rfl) ⟨Nat.le_of_ble_eq_true rfl, Nat.le_of_ble_eq_true rfl⟩ dL_law_1073 (fun r_1 h_2 => ?_)
  obtain rfl := h_2
  refine lv_aload_n hx hb dL_law_1076 rfl (lv_at hl 2 rfl) ?_
  refine lv_aload_n hx hb dL_law_1077 rfl (lv_at hl 0 rfl) ?_
  refine lv_iload_n hx hb dL_law_1078 rfl (lv_at hl 3 rfl) ?_
  refine lv_iconst (v := 1) hx hb dL_law_1079 (by decide) ?_
  refine z_iadd (v := 1) hx hb dL_law_1080 (by decide) ?_
  refine va_sld hx hb hX hbl hbA hS (by unfold vp_in; decide) dL_law_1081 ?_
  refine W.eq (g2 := F0 m 1082 ls [.int (xs 1), .ref m0, .int (-2)]) rfl ?_
  refine roi (As := [.int (xs 1)]) (rest := [.int (-2)]) ⟨hx, hb, hml, hown, hts⟩ (km_far l D cB cI cJ cZ cS cT m0 m_world m_images m_hasImage m_tape m_five m_fresh m_spokenAt m_heardAt m_lastAt m_answerAt m_heardNow m_seenAt m_fewest m_costNow m_costThen m_lawsOf m_heardBy m_placesOf m_sentIn m_lostBy m_many m_width m_numbers m_moving (xs 1) ) (cvB (n := 1) (inr47 _ (List.mem_of_getElem? (i := 19) rfl)) (inr47 _ (List.mem_of_getElem? (i := 20) rfl)) (inr47 _ (List.mem_of_getElem? (i := 21) rfl)) (inr1 _ (List.mem_of_getElem? (i := 5) rfl)) (inr47 _ (List.mem_of_getElem? (i := 22) rfl)) (by decide +kernel) hts rfl rfl ⟨Nat.le_of_ble_eq_true rfl, Nat.le_of_ble_eq_true rfl⟩) 0 12 rfl rfl rfl (hP.sub [2, 3] rfl) hK rfl hl.1 rfl (Nat.le_of_ble_eq_true rfl) ⟨Nat.le_of_ble_eq_true rfl, Nat.le_of_ble_eq_true rfl⟩ dL_law_1082 (fun r_3 h_4 => ?_)
  obtain rfl := h_4
  refine lv_icmp_eq (tgt := 2116) hx hb dL_law_1085 (by decide) (fun _ => ?_) (fun c0 => absurd c0 (by decide))
  exact law_end C0 hK hN (Nat.le_of_ble_eq_true rfl) (Nat.le_of_ble_eq_true rfl) hS (lv_sub hl [0, 1, 2, 3] rfl)

set_option maxHeartbeats 4000000 in
set_option maxRecDepth 100000 in
theorem law_36 {p : Program} {l : Launch} {e : Env} {s : State} {m : MethodId} {below : List Frame} {meth : Method} {c : Code} {D : va_G} {cB cI cJ cZ cS cT : ClassId} {b : Nat} {xs : Nat → Int32} (C0 : lw_At p s m meth c b 6 xs) (hK : va_K D vwCl (tyL cB cI cJ cZ cS cT) s) (hN : kN s) {H : Heap} {locs : List Loc} {x0 : Nat} {m0 : Nat} {r_tape : Nat} {r_reader : Nat} {r_now : Nat} {r_trial : Nat} {r_images : Nat} {r_kept : Nat} {r_slots : Nat} {r_night : Nat} {r_other : Nat} {r_circle : Nat} {r_words : Nat} {r_law : Nat} {r_place : Nat} {r_drawn : Nat} {n_signs : Nat} {n_posts : Nat} {n_acts : Nat} {m_world : Nat} {m_images : Nat} {m_hasImage : Nat} {m_tape : Nat} {m_five : Nat} {m_fresh : Nat} {m_spokenAt : Nat} {m_heardAt : Nat} {m_lastAt : Nat} {m_answerAt : Nat} {m_heardNow : Nat} {m_seenAt : Nat} {m_fewest : Nat} {m_costNow : Nat} {m_costThen : Nat} {m_lawsOf : Nat} {m_heardBy : Nat} {m_placesOf : Nat} {m_sentIn : Nat} {m_lostBy : Nat} {m_many : Nat} {m_width : Nat} {m_numbers : Nat} {m_moving : Nat} (hP : va_P D vwCl [(x0, .inr (11, [.ref r_tape, .ref r_reader, .ref r_now, .ref r_trial, .ref r_images, .ref r_kept, .ref r_slots, .ref r_night, .ref r_other, .ref r_circle, .ref r_words, .ref r_law, .ref r_place, .ref r_drawn])), (r_now, .inr (8, [.int 0, .int 0, .int 0, .int 0, .int 0, .int 0, .int 0, .ref n_signs, .int 0, .ref n_posts, .int 0, .ref n_acts])), (m0, .inr (12, [.int 0, .ref m_world, .ref m_images, .ref m_hasImage, .ref m_tape, .int 0, .ref m_five, .int 0, .int 0, .int 0, .int 0, .int 0, .int 0, .int (-1), .ref m_fresh, .ref m_spokenAt, .ref m_heardAt, .ref m_lastAt, .ref m_answerAt, .int 0, .int 0, .int 0, .long 0, .int 0, .int 0, .ref m_heardNow, .ref m_seenAt, .int 0, .int 0, .int 0, .int 0, .int 0, .ref m_fewest, .ref m_costNow, .ref m_costThen, .ref m_lawsOf, .ref m_heardBy, .int 0, .int 0, .ref m_placesOf, .ref m_sentIn, .int 0, .int 0, .ref m_lostBy, .ref m_many, .ref m_width, .ref m_numbers, .ref m_moving])), (m_world, .inl (cI, 53, .inl (fun _ => 0)))] H) (hD : va_D (fun q : Nat => s.heap.size ≤ q) [(x0, .inr (11, [.ref r_tape, .ref r_reader, .ref r_now, .ref r_trial, .ref r_images, .ref r_kept, .ref r_slots, .ref r_night, .ref r_other, .ref r_circle, .ref r_words, .ref r_law, .ref r_place, .ref r_drawn])), (r_now, .inr (8, [.int 0, .int 0, .int 0, .int 0, .int 0, .int 0, .int 0, .ref n_signs, .int 0, .ref n_posts, .int 0, .ref n_acts])), (m0, .inr (12, [.int 0, .ref m_world, .ref m_images, .ref m_hasImage, .ref m_tape, .int 0, .ref m_five, .int 0, .int 0, .int 0, .int 0, .int 0, .int 0, .int (-1), .ref m_fresh, .ref m_spokenAt, .ref m_heardAt, .ref m_lastAt, .ref m_answerAt, .int 0, .int 0, .int 0, .long 0, .int 0, .int 0, .ref m_heardNow, .ref m_seenAt, .int 0, .int 0, .int 0, .int 0, .int 0, .ref m_fewest, .ref m_costNow, .ref m_costThen, .ref m_lawsOf, .ref m_heardBy, .int 0, .int 0, .ref m_placesOf, .ref m_sentIn, .int 0, .int 0, .ref m_lostBy, .ref m_many, .ref m_width, .ref m_numbers, .ref m_moving])), (m_world, .inl (cI, 53, .inl (fun _ => 0)))]) (hS : va_S (fun q : Nat => s.heap.size ≤ q) s.heap H locs) {ls : Array Slot} (hl : lv_has ls 4 [(0, .ref b), (1, .ref x0), (2, .ref m0), (3, .int 0)]) : W p l e room_1 s m #[Value.ref b] below meth c H locs 118 60870 (lw_Z below #[Value.ref b] s) (F0 m 1090 ls []) := by
  obtain ⟨hx, hb, hr, hml, hown, hts0, hX, hbl, hlocks, hgv⟩ := id C0
  have hts : ∀ w ∈ wsL_law, w.before #[Value.ref b] s = true := fun w h => hts0 w (wsL_law_in w h)
  have hA : ∀ q : Nat, s.heap.size ≤ q → (fun q : Nat => s.heap.size ≤ q) q := fun _ h => h
  have hbA : ¬ (fun q : Nat => s.heap.size ≤ q) b := Nat.not_le.mpr hbl
  refine lv_aload_n hx hb dL_law_1090 rfl (lv_at hl 1 rfl) ?_
  refine lv_aload_n hx hb dL_law_1091 rfl (lv_at hl 0 rfl) ?_
  refine lv_iload_n hx hb dL_law_1092 rfl (lv_at hl 3 rfl) ?_
  refine lv_iconst (v := 1) hx hb dL_law_1093 (by decide) ?_
  refine z_iadd (v := 1) hx hb dL_law_1094 (by decide) ?_
  refine va_sld hx hb hX hbl hbA hS (by unfold vp_in; decide) dL_law_1095 ?_
  refine W.eq (g2 := F0 m 1096 ls [.int (xs 1), .ref x0]) rfl ?_
  refine lv_aload_n hx hb dL_law_1096 rfl (lv_at hl 0 rfl) ?_
  refine lv_iload_n hx hb dL_law_1097 rfl (lv_at hl 3 rfl) ?_
  refine lv_iconst (v := 2) hx hb dL_law_1098 (by decide) ?_
  refine z_iadd (v := 2) hx hb dL_law_1099 (by decide) ?_
  refine va_sld hx hb hX hbl hbA hS (by unfold vp_in; decide) dL_law_1100 ?_
  refine W.eq (g2 := F0 m 1101 ls [.int (xs 2), .int (xs 1), .ref x0]) rfl ?_
  refine roi (As := [.int (xs 1), .int (xs 2)]) (rest := []) ⟨hx, hb, hml, hown, hts⟩ (kx_needs l D cB cI cJ cZ cS cT x0 r_tape r_reader r_now r_trial r_images r_kept r_slots r_night r_other r_circle r_words r_law r_place r_drawn n_signs n_posts n_acts (xs 1) (xs 2) ) (cvB (n := 2) (inr48 _ (List.mem_of_getElem? (i := 0) rfl)) (inr48 _ (List.mem_of_getElem? (i := 1) rfl)) (inr48 _ (List.mem_of_getElem? (i := 2) rfl)) (inr1 _ (List.mem_of_getElem? (i := 2) rfl)) (inr48 _ (List.mem_of_getElem? (i := 3) rfl)) (by decide +kernel) hts rfl rfl ⟨Nat.le_of_ble_eq_true rfl, Nat.le_of_ble_eq_true rfl⟩) 0 11 rfl rfl rfl (hP.sub [0, 1] rfl) hK rfl hl.1 rfl (Nat.le_of_ble_eq_true rfl) ⟨Nat.le_of_ble_eq_true rfl, Nat.le_of_ble_eq_true rfl⟩ dL_law_1101 (fun r_1 h_2 => ?_)
  obtain rfl := h_2
  refine lv_aload_n hx hb dL_law_1104 rfl (lv_at hl 2 rfl) ?_
  refine lv_aload_n hx hb dL_law_1105 rfl (lv_at hl 0 rfl) ?_
  refine lv_iload_n hx hb dL_law_1106 rfl (lv_at hl 3 rfl) ?_
  refine lv_iconst (v := 1) hx hb dL_law_1107 (by decide) ?_
  refine z_iadd (v := 1) hx hb dL_law_1108 (by decide) ?_
  refine va_sld hx hb hX hbl hbA hS (by unfold vp_in; decide) dL_law_1109 ?_
  refine W.eq (g2 := F0 m 1110 ls [.int (xs 1), .ref m0, .int (-2)]) rfl ?_
  refine lv_aload_n hx hb dL_law_1110 rfl (lv_at hl 0 rfl) ?_
  refine lv_iload_n hx hb dL_law_1111 rfl (lv_at hl 3 rfl) ?_
  refine lv_iconst (v := 2) hx hb dL_law_1112 (by decide) ?_
  refine z_iadd (v := 2) hx hb dL_law_1113 (by decide) ?_
  refine va_sld hx hb hX hbl hbA hS (by unfold vp_in; decide) dL_law_1114 ?_
  refine W.eq (g2 := F0 m 1115 ls [.int (xs 2), .int (xs 1), .ref m0, .int (-2)]) rfl ?_
  refine roi (As := [.int (xs 1), .int (xs 2)]) (rest := [.int (-2)]) ⟨hx, hb, hml, hown, hts⟩ (km_needs l D cB cI cJ cZ cS cT m0 m_world m_images m_hasImage m_tape m_five m_fresh m_spokenAt m_heardAt m_lastAt m_answerAt m_heardNow m_seenAt m_fewest m_costNow m_costThen m_lawsOf m_heardBy m_placesOf m_sentIn m_lostBy m_many m_width m_numbers m_moving (xs 1) (xs 2) ) (cvB (n := 2) (inr48 _ (List.mem_of_getElem? (i := 8) rfl)) (inr48 _ (List.mem_of_getElem? (i := 9) rfl)) (inr48 _ (List.mem_of_getElem? (i := 10) rfl)) (inr1 _ (List.mem_of_getElem? (i := 5) rfl)) (inr48 _ (List.mem_of_getElem? (i := 11) rfl)) (by decide +kernel) hts rfl rfl ⟨Nat.le_of_ble_eq_true rfl, Nat.le_of_ble_eq_true rfl⟩) 0 12 rfl rfl rfl (hP.sub [2, 3] rfl) hK rfl hl.1 rfl (Nat.le_of_ble_eq_true rfl) ⟨Nat.le_of_ble_eq_true rfl, Nat.le_of_ble_eq_true rfl⟩ dL_law_1115 (fun r_3 h_4 => ?_)
  obtain rfl := h_4
  refine lv_icmp_eq (tgt := 2116) hx hb dL_law_1118 (by decide) (fun _ => ?_) (fun c0 => absurd c0 (by decide))
  exact law_end C0 hK hN (Nat.le_of_ble_eq_true rfl) (Nat.le_of_ble_eq_true rfl) hS (lv_sub hl [0, 1, 2, 3] rfl)

set_option maxHeartbeats 4000000 in
set_option maxRecDepth 100000 in
theorem law_37 {p : Program} {l : Launch} {e : Env} {s : State} {m : MethodId} {below : List Frame} {meth : Method} {c : Code} {D : va_G} {cB cI cJ cZ cS cT : ClassId} {b : Nat} {xs : Nat → Int32} (C0 : lw_At p s m meth c b 6 xs) (hK : va_K D vwCl (tyL cB cI cJ cZ cS cT) s) (hN : kN s) {H : Heap} {locs : List Loc} {x0 : Nat} {m0 : Nat} {r_tape : Nat} {r_reader : Nat} {r_now : Nat} {r_trial : Nat} {r_images : Nat} {r_kept : Nat} {r_slots : Nat} {r_night : Nat} {r_other : Nat} {r_circle : Nat} {r_words : Nat} {r_law : Nat} {r_place : Nat} {r_drawn : Nat} {n_signs : Nat} {n_posts : Nat} {n_acts : Nat} {m_world : Nat} {m_images : Nat} {m_hasImage : Nat} {m_tape : Nat} {m_five : Nat} {m_fresh : Nat} {m_spokenAt : Nat} {m_heardAt : Nat} {m_lastAt : Nat} {m_answerAt : Nat} {m_heardNow : Nat} {m_seenAt : Nat} {m_fewest : Nat} {m_costNow : Nat} {m_costThen : Nat} {m_lawsOf : Nat} {m_heardBy : Nat} {m_placesOf : Nat} {m_sentIn : Nat} {m_lostBy : Nat} {m_many : Nat} {m_width : Nat} {m_numbers : Nat} {m_moving : Nat} (hP : va_P D vwCl [(x0, .inr (11, [.ref r_tape, .ref r_reader, .ref r_now, .ref r_trial, .ref r_images, .ref r_kept, .ref r_slots, .ref r_night, .ref r_other, .ref r_circle, .ref r_words, .ref r_law, .ref r_place, .ref r_drawn])), (r_now, .inr (8, [.int 0, .int 0, .int 0, .int 0, .int 0, .int 0, .int 0, .ref n_signs, .int 0, .ref n_posts, .int 0, .ref n_acts])), (m0, .inr (12, [.int 0, .ref m_world, .ref m_images, .ref m_hasImage, .ref m_tape, .int 0, .ref m_five, .int 0, .int 0, .int 0, .int 0, .int 0, .int 0, .int (-1), .ref m_fresh, .ref m_spokenAt, .ref m_heardAt, .ref m_lastAt, .ref m_answerAt, .int 0, .int 0, .int 0, .long 0, .int 0, .int 0, .ref m_heardNow, .ref m_seenAt, .int 0, .int 0, .int 0, .int 0, .int 0, .ref m_fewest, .ref m_costNow, .ref m_costThen, .ref m_lawsOf, .ref m_heardBy, .int 0, .int 0, .ref m_placesOf, .ref m_sentIn, .int 0, .int 0, .ref m_lostBy, .ref m_many, .ref m_width, .ref m_numbers, .ref m_moving])), (m_world, .inl (cI, 53, .inl (fun _ => 0)))] H) (hD : va_D (fun q : Nat => s.heap.size ≤ q) [(x0, .inr (11, [.ref r_tape, .ref r_reader, .ref r_now, .ref r_trial, .ref r_images, .ref r_kept, .ref r_slots, .ref r_night, .ref r_other, .ref r_circle, .ref r_words, .ref r_law, .ref r_place, .ref r_drawn])), (r_now, .inr (8, [.int 0, .int 0, .int 0, .int 0, .int 0, .int 0, .int 0, .ref n_signs, .int 0, .ref n_posts, .int 0, .ref n_acts])), (m0, .inr (12, [.int 0, .ref m_world, .ref m_images, .ref m_hasImage, .ref m_tape, .int 0, .ref m_five, .int 0, .int 0, .int 0, .int 0, .int 0, .int 0, .int (-1), .ref m_fresh, .ref m_spokenAt, .ref m_heardAt, .ref m_lastAt, .ref m_answerAt, .int 0, .int 0, .int 0, .long 0, .int 0, .int 0, .ref m_heardNow, .ref m_seenAt, .int 0, .int 0, .int 0, .int 0, .int 0, .ref m_fewest, .ref m_costNow, .ref m_costThen, .ref m_lawsOf, .ref m_heardBy, .int 0, .int 0, .ref m_placesOf, .ref m_sentIn, .int 0, .int 0, .ref m_lostBy, .ref m_many, .ref m_width, .ref m_numbers, .ref m_moving])), (m_world, .inl (cI, 53, .inl (fun _ => 0)))]) (hS : va_S (fun q : Nat => s.heap.size ≤ q) s.heap H locs) {ls : Array Slot} (hl : lv_has ls 4 [(0, .ref b), (1, .ref x0), (2, .ref m0), (3, .int 0)]) : W p l e room_1 s m #[Value.ref b] below meth c H locs 118 60870 (lw_Z below #[Value.ref b] s) (F0 m 1123 ls []) := by
  obtain ⟨hx, hb, hr, hml, hown, hts0, hX, hbl, hlocks, hgv⟩ := id C0
  have hts : ∀ w ∈ wsL_law, w.before #[Value.ref b] s = true := fun w h => hts0 w (wsL_law_in w h)
  have hA : ∀ q : Nat, s.heap.size ≤ q → (fun q : Nat => s.heap.size ≤ q) q := fun _ h => h
  have hbA : ¬ (fun q : Nat => s.heap.size ≤ q) b := Nat.not_le.mpr hbl
  refine lv_aload_n hx hb dL_law_1123 rfl (lv_at hl 1 rfl) ?_
  refine lv_aload_n hx hb dL_law_1124 rfl (lv_at hl 0 rfl) ?_
  refine lv_iload_n hx hb dL_law_1125 rfl (lv_at hl 3 rfl) ?_
  refine lv_iconst (v := 1) hx hb dL_law_1126 (by decide) ?_
  refine z_iadd (v := 1) hx hb dL_law_1127 (by decide) ?_
  refine va_sld hx hb hX hbl hbA hS (by unfold vp_in; decide) dL_law_1128 ?_
  refine W.eq (g2 := F0 m 1129 ls [.int (xs 1), .ref x0]) rfl ?_
  refine lv_aload_n hx hb dL_law_1129 rfl (lv_at hl 0 rfl) ?_
  refine lv_iload_n hx hb dL_law_1130 rfl (lv_at hl 3 rfl) ?_
  refine lv_iconst (v := 2) hx hb dL_law_1131 (by decide) ?_
  refine z_iadd (v := 2) hx hb dL_law_1132 (by decide) ?_
  refine va_sld hx hb hX hbl hbA hS (by unfold vp_in; decide) dL_law_1133 ?_
  refine W.eq (g2 := F0 m 1134 ls [.int (xs 2), .int (xs 1), .ref x0]) rfl ?_
  refine lv_aload_n hx hb dL_law_1134 rfl (lv_at hl 0 rfl) ?_
  refine lv_iload_n hx hb dL_law_1135 rfl (lv_at hl 3 rfl) ?_
  refine lv_iconst (v := 3) hx hb dL_law_1136 (by decide) ?_
  refine z_iadd (v := 3) hx hb dL_law_1137 (by decide) ?_
  refine va_sld hx hb hX hbl hbA hS (by unfold vp_in; decide) dL_law_1138 ?_
  refine W.eq (g2 := F0 m 1139 ls [.int (xs 3), .int (xs 2), .int (xs 1), .ref x0]) rfl ?_
  refine roi (As := [.int (xs 1), .int (xs 2), .int (xs 3)]) (rest := []) ⟨hx, hb, hml, hown, hts⟩ (kx_plan l D cB cI cJ cZ cS cT x0 r_tape r_reader r_now r_trial r_images r_kept r_slots r_night r_other r_circle r_words r_law r_place r_drawn n_signs n_posts n_acts (xs 1) (xs 2) (xs 3) ) (cvB (n := 3) (inr48 _ (List.mem_of_getElem? (i := 16) rfl)) (inr48 _ (List.mem_of_getElem? (i := 17) rfl)) (inr48 _ (List.mem_of_getElem? (i := 18) rfl)) (inr1 _ (List.mem_of_getElem? (i := 2) rfl)) (inr48 _ (List.mem_of_getElem? (i := 19) rfl)) (by decide +kernel) hts rfl rfl ⟨Nat.le_of_ble_eq_true rfl, Nat.le_of_ble_eq_true rfl⟩) 0 11 rfl rfl rfl (hP.sub [0, 1] rfl) hK rfl hl.1 rfl (Nat.le_of_ble_eq_true rfl) ⟨Nat.le_of_ble_eq_true rfl, Nat.le_of_ble_eq_true rfl⟩ dL_law_1139 (fun r_1 h_2 => ?_)
  obtain rfl := h_2
  refine lv_aload_n hx hb dL_law_1142 rfl (lv_at hl 2 rfl) ?_
  refine lv_aload_n hx hb dL_law_1143 rfl (lv_at hl 0 rfl) ?_
  refine lv_iload_n hx hb dL_law_1144 rfl (lv_at hl 3 rfl) ?_
  refine lv_iconst (v := 1) hx hb dL_law_1145 (by decide) ?_
  refine z_iadd (v := 1) hx hb dL_law_1146 (by decide) ?_
  refine va_sld hx hb hX hbl hbA hS (by unfold vp_in; decide) dL_law_1147 ?_
  refine W.eq (g2 := F0 m 1148 ls [.int (xs 1), .ref m0, .int (-2)]) rfl ?_
  refine lv_aload_n hx hb dL_law_1148 rfl (lv_at hl 0 rfl) ?_
  refine lv_iload_n hx hb dL_law_1149 rfl (lv_at hl 3 rfl) ?_
  refine lv_iconst (v := 2) hx hb dL_law_1150 (by decide) ?_
  refine z_iadd (v := 2) hx hb dL_law_1151 (by decide) ?_
  refine va_sld hx hb hX hbl hbA hS (by unfold vp_in; decide) dL_law_1152 ?_
  refine W.eq (g2 := F0 m 1153 ls [.int (xs 2), .int (xs 1), .ref m0, .int (-2)]) rfl ?_
  refine lv_aload_n hx hb dL_law_1153 rfl (lv_at hl 0 rfl) ?_
  refine lv_iload_n hx hb dL_law_1154 rfl (lv_at hl 3 rfl) ?_
  refine lv_iconst (v := 3) hx hb dL_law_1155 (by decide) ?_
  refine z_iadd (v := 3) hx hb dL_law_1156 (by decide) ?_
  refine va_sld hx hb hX hbl hbA hS (by unfold vp_in; decide) dL_law_1157 ?_
  refine W.eq (g2 := F0 m 1158 ls [.int (xs 3), .int (xs 2), .int (xs 1), .ref m0, .int (-2)]) rfl ?_
  refine roi (As := [.int (xs 1), .int (xs 2), .int (xs 3)]) (rest := [.int (-2)]) ⟨hx, hb, hml, hown, hts⟩ (km_plan l D cB cI cJ cZ cS cT m0 m_world m_images m_hasImage m_tape m_five m_fresh m_spokenAt m_heardAt m_lastAt m_answerAt m_heardNow m_seenAt m_fewest m_costNow m_costThen m_lawsOf m_heardBy m_placesOf m_sentIn m_lostBy m_many m_width m_numbers m_moving (xs 1) (xs 2) (xs 3) ) (cvB (n := 3) (inr49 _ (List.mem_of_getElem? (i := 16) rfl)) (inr49 _ (List.mem_of_getElem? (i := 17) rfl)) (inr49 _ (List.mem_of_getElem? (i := 18) rfl)) (inr1 _ (List.mem_of_getElem? (i := 5) rfl)) (inr49 _ (List.mem_of_getElem? (i := 19) rfl)) (by decide +kernel) hts rfl rfl ⟨Nat.le_of_ble_eq_true rfl, Nat.le_of_ble_eq_true rfl⟩) 0 12 rfl rfl rfl (hP.sub [2, 3] rfl) hK rfl hl.1 rfl (Nat.le_of_ble_eq_true rfl) ⟨Nat.le_of_ble_eq_true rfl, Nat.le_of_ble_eq_true rfl⟩ dL_law_1158 (fun r_3 h_4 => ?_)
  obtain rfl := h_4
  refine lv_icmp_eq (tgt := 2116) hx hb dL_law_1161 (by decide) (fun _ => ?_) (fun c0 => absurd c0 (by decide))
  exact law_end C0 hK hN (Nat.le_of_ble_eq_true rfl) (Nat.le_of_ble_eq_true rfl) hS (lv_sub hl [0, 1, 2, 3] rfl)

set_option maxHeartbeats 4000000 in
set_option maxRecDepth 100000 in
theorem law_38 {p : Program} {l : Launch} {e : Env} {s : State} {m : MethodId} {below : List Frame} {meth : Method} {c : Code} {D : va_G} {cB cI cJ cZ cS cT : ClassId} {b : Nat} {xs : Nat → Int32} (C0 : lw_At p s m meth c b 6 xs) (hK : va_K D vwCl (tyL cB cI cJ cZ cS cT) s) (hN : kN s) {H : Heap} {locs : List Loc} {x0 : Nat} {m0 : Nat} {r_tape : Nat} {r_reader : Nat} {r_now : Nat} {r_trial : Nat} {r_images : Nat} {r_kept : Nat} {r_slots : Nat} {r_night : Nat} {r_other : Nat} {r_circle : Nat} {r_words : Nat} {r_law : Nat} {r_place : Nat} {r_drawn : Nat} {n_signs : Nat} {n_posts : Nat} {n_acts : Nat} {m_world : Nat} {m_images : Nat} {m_hasImage : Nat} {m_tape : Nat} {m_five : Nat} {m_fresh : Nat} {m_spokenAt : Nat} {m_heardAt : Nat} {m_lastAt : Nat} {m_answerAt : Nat} {m_heardNow : Nat} {m_seenAt : Nat} {m_fewest : Nat} {m_costNow : Nat} {m_costThen : Nat} {m_lawsOf : Nat} {m_heardBy : Nat} {m_placesOf : Nat} {m_sentIn : Nat} {m_lostBy : Nat} {m_many : Nat} {m_width : Nat} {m_numbers : Nat} {m_moving : Nat} (hP : va_P D vwCl [(x0, .inr (11, [.ref r_tape, .ref r_reader, .ref r_now, .ref r_trial, .ref r_images, .ref r_kept, .ref r_slots, .ref r_night, .ref r_other, .ref r_circle, .ref r_words, .ref r_law, .ref r_place, .ref r_drawn])), (r_now, .inr (8, [.int 0, .int 0, .int 0, .int 0, .int 0, .int 0, .int 0, .ref n_signs, .int 0, .ref n_posts, .int 0, .ref n_acts])), (m0, .inr (12, [.int 0, .ref m_world, .ref m_images, .ref m_hasImage, .ref m_tape, .int 0, .ref m_five, .int 0, .int 0, .int 0, .int 0, .int 0, .int 0, .int (-1), .ref m_fresh, .ref m_spokenAt, .ref m_heardAt, .ref m_lastAt, .ref m_answerAt, .int 0, .int 0, .int 0, .long 0, .int 0, .int 0, .ref m_heardNow, .ref m_seenAt, .int 0, .int 0, .int 0, .int 0, .int 0, .ref m_fewest, .ref m_costNow, .ref m_costThen, .ref m_lawsOf, .ref m_heardBy, .int 0, .int 0, .ref m_placesOf, .ref m_sentIn, .int 0, .int 0, .ref m_lostBy, .ref m_many, .ref m_width, .ref m_numbers, .ref m_moving])), (m_world, .inl (cI, 53, .inl (fun _ => 0)))] H) (hD : va_D (fun q : Nat => s.heap.size ≤ q) [(x0, .inr (11, [.ref r_tape, .ref r_reader, .ref r_now, .ref r_trial, .ref r_images, .ref r_kept, .ref r_slots, .ref r_night, .ref r_other, .ref r_circle, .ref r_words, .ref r_law, .ref r_place, .ref r_drawn])), (r_now, .inr (8, [.int 0, .int 0, .int 0, .int 0, .int 0, .int 0, .int 0, .ref n_signs, .int 0, .ref n_posts, .int 0, .ref n_acts])), (m0, .inr (12, [.int 0, .ref m_world, .ref m_images, .ref m_hasImage, .ref m_tape, .int 0, .ref m_five, .int 0, .int 0, .int 0, .int 0, .int 0, .int 0, .int (-1), .ref m_fresh, .ref m_spokenAt, .ref m_heardAt, .ref m_lastAt, .ref m_answerAt, .int 0, .int 0, .int 0, .long 0, .int 0, .int 0, .ref m_heardNow, .ref m_seenAt, .int 0, .int 0, .int 0, .int 0, .int 0, .ref m_fewest, .ref m_costNow, .ref m_costThen, .ref m_lawsOf, .ref m_heardBy, .int 0, .int 0, .ref m_placesOf, .ref m_sentIn, .int 0, .int 0, .ref m_lostBy, .ref m_many, .ref m_width, .ref m_numbers, .ref m_moving])), (m_world, .inl (cI, 53, .inl (fun _ => 0)))]) (hS : va_S (fun q : Nat => s.heap.size ≤ q) s.heap H locs) {ls : Array Slot} (hl : lv_has ls 4 [(0, .ref b), (1, .ref x0), (2, .ref m0), (3, .int 0)]) : W p l e room_1 s m #[Value.ref b] below meth c H locs 118 60870 (lw_Z below #[Value.ref b] s) (F0 m 1166 ls []) := by
  obtain ⟨hx, hb, hr, hml, hown, hts0, hX, hbl, hlocks, hgv⟩ := id C0
  have hts : ∀ w ∈ wsL_law, w.before #[Value.ref b] s = true := fun w h => hts0 w (wsL_law_in w h)
  have hA : ∀ q : Nat, s.heap.size ≤ q → (fun q : Nat => s.heap.size ≤ q) q := fun _ h => h
  have hbA : ¬ (fun q : Nat => s.heap.size ≤ q) b := Nat.not_le.mpr hbl
  refine lv_aload_n hx hb dL_law_1166 rfl (lv_at hl 1 rfl) ?_
  refine lv_aload_n hx hb dL_law_1167 rfl (lv_at hl 0 rfl) ?_
  refine lv_iload_n hx hb dL_law_1168 rfl (lv_at hl 3 rfl) ?_
  refine lv_iconst (v := 1) hx hb dL_law_1169 (by decide) ?_
  refine z_iadd (v := 1) hx hb dL_law_1170 (by decide) ?_
  refine va_sld hx hb hX hbl hbA hS (by unfold vp_in; decide) dL_law_1171 ?_
  refine W.eq (g2 := F0 m 1172 ls [.int (xs 1), .ref x0]) rfl ?_
  refine lv_aload_n hx hb dL_law_1172 rfl (lv_at hl 0 rfl) ?_
  refine lv_iload_n hx hb dL_law_1173 rfl (lv_at hl 3 rfl) ?_
  refine lv_iconst (v := 2) hx hb dL_law_1174 (by decide) ?_
  refine z_iadd (v := 2) hx hb dL_law_1175 (by decide) ?_
  refine va_sld hx hb hX hbl hbA hS (by unfold vp_in; decide) dL_law_1176 ?_
  refine W.eq (g2 := F0 m 1177 ls [.int (xs 2), .int (xs 1), .ref x0]) rfl ?_
  refine roi (As := [.int (xs 1), .int (xs 2)]) (rest := []) ⟨hx, hb, hml, hown, hts⟩ (kx_quietly l D cB cI cJ cZ cS cT x0 r_tape r_reader r_now r_trial r_images r_kept r_slots r_night r_other r_circle r_words r_law r_place r_drawn n_signs n_posts n_acts (xs 1) (xs 2) ) (cvB (n := 2) (inr49 _ (List.mem_of_getElem? (i := 20) rfl)) (inr49 _ (List.mem_of_getElem? (i := 21) rfl)) (inr49 _ (List.mem_of_getElem? (i := 22) rfl)) (inr1 _ (List.mem_of_getElem? (i := 2) rfl)) (inr49 _ (List.mem_of_getElem? (i := 23) rfl)) (by decide +kernel) hts rfl rfl ⟨Nat.le_of_ble_eq_true rfl, Nat.le_of_ble_eq_true rfl⟩) 0 11 rfl rfl rfl (hP.sub [0, 1] rfl) hK rfl hl.1 rfl (Nat.le_of_ble_eq_true rfl) ⟨Nat.le_of_ble_eq_true rfl, Nat.le_of_ble_eq_true rfl⟩ dL_law_1177 (fun r_1 h_2 => ?_)
  obtain rfl := h_2
  refine lv_aload_n hx hb dL_law_1180 rfl (lv_at hl 2 rfl) ?_
  refine lv_aload_n hx hb dL_law_1181 rfl (lv_at hl 0 rfl) ?_
  refine lv_iload_n hx hb dL_law_1182 rfl (lv_at hl 3 rfl) ?_
  refine lv_iconst (v := 1) hx hb dL_law_1183 (by decide) ?_
  refine z_iadd (v := 1) hx hb dL_law_1184 (by decide) ?_
  refine va_sld hx hb hX hbl hbA hS (by unfold vp_in; decide) dL_law_1185 ?_
  refine W.eq (g2 := F0 m 1186 ls [.int (xs 1), .ref m0, .int (-2)]) rfl ?_
  refine lv_aload_n hx hb dL_law_1186 rfl (lv_at hl 0 rfl) ?_
  refine lv_iload_n hx hb dL_law_1187 rfl (lv_at hl 3 rfl) ?_
  refine lv_iconst (v := 2) hx hb dL_law_1188 (by decide) ?_
  refine z_iadd (v := 2) hx hb dL_law_1189 (by decide) ?_
  refine va_sld hx hb hX hbl hbA hS (by unfold vp_in; decide) dL_law_1190 ?_
  refine W.eq (g2 := F0 m 1191 ls [.int (xs 2), .int (xs 1), .ref m0, .int (-2)]) rfl ?_
  refine roi (As := [.int (xs 1), .int (xs 2)]) (rest := [.int (-2)]) ⟨hx, hb, hml, hown, hts⟩ (km_quietly l D cB cI cJ cZ cS cT m0 m_world m_images m_hasImage m_tape m_five m_fresh m_spokenAt m_heardAt m_lastAt m_answerAt m_heardNow m_seenAt m_fewest m_costNow m_costThen m_lawsOf m_heardBy m_placesOf m_sentIn m_lostBy m_many m_width m_numbers m_moving (xs 1) (xs 2) ) (cvB (n := 2) (inr50 _ (List.mem_of_getElem? (i := 0) rfl)) (inr50 _ (List.mem_of_getElem? (i := 1) rfl)) (inr50 _ (List.mem_of_getElem? (i := 2) rfl)) (inr1 _ (List.mem_of_getElem? (i := 5) rfl)) (inr50 _ (List.mem_of_getElem? (i := 3) rfl)) (by decide +kernel) hts rfl rfl ⟨Nat.le_of_ble_eq_true rfl, Nat.le_of_ble_eq_true rfl⟩) 0 12 rfl rfl rfl (hP.sub [2, 3] rfl) hK rfl hl.1 rfl (Nat.le_of_ble_eq_true rfl) ⟨Nat.le_of_ble_eq_true rfl, Nat.le_of_ble_eq_true rfl⟩ dL_law_1191 (fun r_3 h_4 => ?_)
  obtain rfl := h_4
  refine lv_icmp_eq (tgt := 2116) hx hb dL_law_1194 (by decide) (fun _ => ?_) (fun c0 => absurd c0 (by decide))
  exact law_end C0 hK hN (Nat.le_of_ble_eq_true rfl) (Nat.le_of_ble_eq_true rfl) hS (lv_sub hl [0, 1, 2, 3] rfl)

set_option maxHeartbeats 4000000 in
set_option maxRecDepth 100000 in
theorem law_39 {p : Program} {l : Launch} {e : Env} {s : State} {m : MethodId} {below : List Frame} {meth : Method} {c : Code} {D : va_G} {cB cI cJ cZ cS cT : ClassId} {b : Nat} {xs : Nat → Int32} (C0 : lw_At p s m meth c b 6 xs) (hK : va_K D vwCl (tyL cB cI cJ cZ cS cT) s) (hN : kN s) {H : Heap} {locs : List Loc} {x0 : Nat} {m0 : Nat} {r_tape : Nat} {r_reader : Nat} {r_now : Nat} {r_trial : Nat} {r_images : Nat} {r_kept : Nat} {r_slots : Nat} {r_night : Nat} {r_other : Nat} {r_circle : Nat} {r_words : Nat} {r_law : Nat} {r_place : Nat} {r_drawn : Nat} {n_signs : Nat} {n_posts : Nat} {n_acts : Nat} {m_world : Nat} {m_images : Nat} {m_hasImage : Nat} {m_tape : Nat} {m_five : Nat} {m_fresh : Nat} {m_spokenAt : Nat} {m_heardAt : Nat} {m_lastAt : Nat} {m_answerAt : Nat} {m_heardNow : Nat} {m_seenAt : Nat} {m_fewest : Nat} {m_costNow : Nat} {m_costThen : Nat} {m_lawsOf : Nat} {m_heardBy : Nat} {m_placesOf : Nat} {m_sentIn : Nat} {m_lostBy : Nat} {m_many : Nat} {m_width : Nat} {m_numbers : Nat} {m_moving : Nat} (hP : va_P D vwCl [(x0, .inr (11, [.ref r_tape, .ref r_reader, .ref r_now, .ref r_trial, .ref r_images, .ref r_kept, .ref r_slots, .ref r_night, .ref r_other, .ref r_circle, .ref r_words, .ref r_law, .ref r_place, .ref r_drawn])), (r_now, .inr (8, [.int 0, .int 0, .int 0, .int 0, .int 0, .int 0, .int 0, .ref n_signs, .int 0, .ref n_posts, .int 0, .ref n_acts])), (m0, .inr (12, [.int 0, .ref m_world, .ref m_images, .ref m_hasImage, .ref m_tape, .int 0, .ref m_five, .int 0, .int 0, .int 0, .int 0, .int 0, .int 0, .int (-1), .ref m_fresh, .ref m_spokenAt, .ref m_heardAt, .ref m_lastAt, .ref m_answerAt, .int 0, .int 0, .int 0, .long 0, .int 0, .int 0, .ref m_heardNow, .ref m_seenAt, .int 0, .int 0, .int 0, .int 0, .int 0, .ref m_fewest, .ref m_costNow, .ref m_costThen, .ref m_lawsOf, .ref m_heardBy, .int 0, .int 0, .ref m_placesOf, .ref m_sentIn, .int 0, .int 0, .ref m_lostBy, .ref m_many, .ref m_width, .ref m_numbers, .ref m_moving])), (m_world, .inl (cI, 53, .inl (fun _ => 0))), (m_spokenAt, .inl (cI, 61, .inl (fun _ => 0)))] H) (hD : va_D (fun q : Nat => s.heap.size ≤ q) [(x0, .inr (11, [.ref r_tape, .ref r_reader, .ref r_now, .ref r_trial, .ref r_images, .ref r_kept, .ref r_slots, .ref r_night, .ref r_other, .ref r_circle, .ref r_words, .ref r_law, .ref r_place, .ref r_drawn])), (r_now, .inr (8, [.int 0, .int 0, .int 0, .int 0, .int 0, .int 0, .int 0, .ref n_signs, .int 0, .ref n_posts, .int 0, .ref n_acts])), (m0, .inr (12, [.int 0, .ref m_world, .ref m_images, .ref m_hasImage, .ref m_tape, .int 0, .ref m_five, .int 0, .int 0, .int 0, .int 0, .int 0, .int 0, .int (-1), .ref m_fresh, .ref m_spokenAt, .ref m_heardAt, .ref m_lastAt, .ref m_answerAt, .int 0, .int 0, .int 0, .long 0, .int 0, .int 0, .ref m_heardNow, .ref m_seenAt, .int 0, .int 0, .int 0, .int 0, .int 0, .ref m_fewest, .ref m_costNow, .ref m_costThen, .ref m_lawsOf, .ref m_heardBy, .int 0, .int 0, .ref m_placesOf, .ref m_sentIn, .int 0, .int 0, .ref m_lostBy, .ref m_many, .ref m_width, .ref m_numbers, .ref m_moving])), (m_world, .inl (cI, 53, .inl (fun _ => 0))), (m_spokenAt, .inl (cI, 61, .inl (fun _ => 0)))]) (hS : va_S (fun q : Nat => s.heap.size ≤ q) s.heap H locs) {ls : Array Slot} (hl : lv_has ls 4 [(0, .ref b), (1, .ref x0), (2, .ref m0), (3, .int 0)]) : W p l e room_1 s m #[Value.ref b] below meth c H locs 118 60870 (lw_Z below #[Value.ref b] s) (F0 m 1199 ls []) := by
  obtain ⟨hx, hb, hr, hml, hown, hts0, hX, hbl, hlocks, hgv⟩ := id C0
  have hts : ∀ w ∈ wsL_law, w.before #[Value.ref b] s = true := fun w h => hts0 w (wsL_law_in w h)
  have hA : ∀ q : Nat, s.heap.size ≤ q → (fun q : Nat => s.heap.size ≤ q) q := fun _ h => h
  have hbA : ¬ (fun q : Nat => s.heap.size ≤ q) b := Nat.not_le.mpr hbl
  refine lv_aload_n hx hb dL_law_1199 rfl (lv_at hl 1 rfl) ?_
  refine lv_aload_n hx hb dL_law_1200 rfl (lv_at hl 0 rfl) ?_
  refine lv_iload_n hx hb dL_law_1201 rfl (lv_at hl 3 rfl) ?_
  refine lv_iconst (v := 1) hx hb dL_law_1202 (by decide) ?_
  refine z_iadd (v := 1) hx hb dL_law_1203 (by decide) ?_
  refine va_sld hx hb hX hbl hbA hS (by unfold vp_in; decide) dL_law_1204 ?_
  refine W.eq (g2 := F0 m 1205 ls [.int (xs 1), .ref x0]) rfl ?_
  refine lv_aload_n hx hb dL_law_1205 rfl (lv_at hl 0 rfl) ?_
  refine lv_iload_n hx hb dL_law_1206 rfl (lv_at hl 3 rfl) ?_
  refine lv_iconst (v := 2) hx hb dL_law_1207 (by decide) ?_
  refine z_iadd (v := 2) hx hb dL_law_1208 (by decide) ?_
  refine va_sld hx hb hX hbl hbA hS (by unfold vp_in; decide) dL_law_1209 ?_
  refine W.eq (g2 := F0 m 1210 ls [.int (xs 2), .int (xs 1), .ref x0]) rfl ?_
  refine roi (As := [.int (xs 1), .int (xs 2)]) (rest := []) ⟨hx, hb, hml, hown, hts⟩ (kx_sooner l D cB cI cJ cZ cS cT x0 r_tape r_reader r_now r_trial r_images r_kept r_slots r_night r_other r_circle r_words r_law r_place r_drawn n_signs n_posts n_acts (xs 1) (xs 2) ) (cvB (n := 2) (inr50 _ (List.mem_of_getElem? (i := 4) rfl)) (inr50 _ (List.mem_of_getElem? (i := 5) rfl)) (inr50 _ (List.mem_of_getElem? (i := 6) rfl)) (inr1 _ (List.mem_of_getElem? (i := 2) rfl)) (inr50 _ (List.mem_of_getElem? (i := 7) rfl)) (by decide +kernel) hts rfl rfl ⟨Nat.le_of_ble_eq_true rfl, Nat.le_of_ble_eq_true rfl⟩) 0 11 rfl rfl rfl (hP.sub [0, 1] rfl) hK rfl hl.1 rfl (Nat.le_of_ble_eq_true rfl) ⟨Nat.le_of_ble_eq_true rfl, Nat.le_of_ble_eq_true rfl⟩ dL_law_1210 (fun r_1 h_2 => ?_)
  obtain rfl := h_2
  refine lv_aload_n hx hb dL_law_1213 rfl (lv_at hl 2 rfl) ?_
  refine lv_aload_n hx hb dL_law_1214 rfl (lv_at hl 0 rfl) ?_
  refine lv_iload_n hx hb dL_law_1215 rfl (lv_at hl 3 rfl) ?_
  refine lv_iconst (v := 1) hx hb dL_law_1216 (by decide) ?_
  refine z_iadd (v := 1) hx hb dL_law_1217 (by decide) ?_
  refine va_sld hx hb hX hbl hbA hS (by unfold vp_in; decide) dL_law_1218 ?_
  refine W.eq (g2 := F0 m 1219 ls [.int (xs 1), .ref m0, .int (-2)]) rfl ?_
  refine lv_aload_n hx hb dL_law_1219 rfl (lv_at hl 0 rfl) ?_
  refine lv_iload_n hx hb dL_law_1220 rfl (lv_at hl 3 rfl) ?_
  refine lv_iconst (v := 2) hx hb dL_law_1221 (by decide) ?_
  refine z_iadd (v := 2) hx hb dL_law_1222 (by decide) ?_
  refine va_sld hx hb hX hbl hbA hS (by unfold vp_in; decide) dL_law_1223 ?_
  refine W.eq (g2 := F0 m 1224 ls [.int (xs 2), .int (xs 1), .ref m0, .int (-2)]) rfl ?_
  refine wrVi (As := [.int (xs 1), .int (xs 2)]) (rest := [.int (-2)]) (wr := [(x0, .inr (11, [.ref r_tape, .ref r_reader, .ref r_now, .ref r_trial, .ref r_images, .ref r_kept, .ref r_slots, .ref r_night, .ref r_other, .ref r_circle, .ref r_words, .ref r_law, .ref r_place, .ref r_drawn])), (r_now, .inr (8, [.int 0, .int 0, .int 0, .int 0, .int 0, .int 0, .int 0, .ref n_signs, .int 0, .ref n_posts, .int 0, .ref n_acts]))]) ⟨hx, hb, hml, hown, hts⟩ (km_sooner l D cB cI cJ cZ cS cT H.size m0 m_world m_images m_hasImage m_tape m_five m_fresh m_spokenAt m_heardAt m_lastAt m_answerAt m_heardNow m_seenAt m_fewest m_costNow m_costThen m_lawsOf m_heardBy m_placesOf m_sentIn m_lostBy m_many m_width m_numbers m_moving (fun _ => 0) (xs 1) (xs 2) ) hP hD hS hA hK hN [2, 3, 4] [0, 1] rfl rfl (by decide) (by decide) (by decide) (cvB (n := 2) (inr50 _ (List.mem_of_getElem? (i := 8) rfl)) (inr50 _ (List.mem_of_getElem? (i := 9) rfl)) (inr50 _ (List.mem_of_getElem? (i := 10) rfl)) (inr1 _ (List.mem_of_getElem? (i := 5) rfl)) (inr50 _ (List.mem_of_getElem? (i := 11) rfl)) (by decide +kernel) hts rfl rfl ⟨Nat.le_of_ble_eq_true rfl, Nat.le_of_ble_eq_true rfl⟩) 0 12 rfl rfl rfl rfl hl.1 rfl (Nat.le_of_ble_eq_true rfl) ⟨Nat.le_of_ble_eq_true rfl, Nat.le_of_ble_eq_true rfl⟩ dL_law_1224 (fun r_3 x9 H locs h_4 hP hD hS => ?_)
  have hP : va_P D vwCl [(x0, .inr (11, [.ref r_tape, .ref r_reader, .ref r_now, .ref r_trial, .ref r_images, .ref r_kept, .ref r_slots, .ref r_night, .ref r_other, .ref r_circle, .ref r_words, .ref r_law, .ref r_place, .ref r_drawn])), (r_now, .inr (8, [.int 0, .int 0, .int 0, .int 0, .int 0, .int 0, .int 0, .ref n_signs, .int 0, .ref n_posts, .int 0, .ref n_acts]))] H := hP
  have hD : va_D (fun q : Nat => s.heap.size ≤ q) [(x0, .inr (11, [.ref r_tape, .ref r_reader, .ref r_now, .ref r_trial, .ref r_images, .ref r_kept, .ref r_slots, .ref r_night, .ref r_other, .ref r_circle, .ref r_words, .ref r_law, .ref r_place, .ref r_drawn])), (r_now, .inr (8, [.int 0, .int 0, .int 0, .int 0, .int 0, .int 0, .int 0, .ref n_signs, .int 0, .ref n_posts, .int 0, .ref n_acts]))] := hD
  obtain rfl := h_4
  refine lv_icmp_eq (tgt := 2116) hx hb dL_law_1227 (by decide) (fun _ => ?_) (fun c0 => absurd c0 (by decide))
  exact law_end C0 hK hN (Nat.le_of_ble_eq_true rfl) (Nat.le_of_ble_eq_true rfl) hS (lv_sub hl [0, 1, 2, 3] rfl)

set_option maxHeartbeats 4000000 in
set_option maxRecDepth 100000 in
theorem law_40 {p : Program} {l : Launch} {e : Env} {s : State} {m : MethodId} {below : List Frame} {meth : Method} {c : Code} {D : va_G} {cB cI cJ cZ cS cT : ClassId} {b : Nat} {xs : Nat → Int32} (C0 : lw_At p s m meth c b 6 xs) (hK : va_K D vwCl (tyL cB cI cJ cZ cS cT) s) (hN : kN s) {H : Heap} {locs : List Loc} {x0 : Nat} {m0 : Nat} {r_tape : Nat} {r_reader : Nat} {r_now : Nat} {r_trial : Nat} {r_images : Nat} {r_kept : Nat} {r_slots : Nat} {r_night : Nat} {r_other : Nat} {r_circle : Nat} {r_words : Nat} {r_law : Nat} {r_place : Nat} {r_drawn : Nat} {n_signs : Nat} {n_posts : Nat} {n_acts : Nat} {m_world : Nat} {m_images : Nat} {m_hasImage : Nat} {m_tape : Nat} {m_five : Nat} {m_fresh : Nat} {m_spokenAt : Nat} {m_heardAt : Nat} {m_lastAt : Nat} {m_answerAt : Nat} {m_heardNow : Nat} {m_seenAt : Nat} {m_fewest : Nat} {m_costNow : Nat} {m_costThen : Nat} {m_lawsOf : Nat} {m_heardBy : Nat} {m_placesOf : Nat} {m_sentIn : Nat} {m_lostBy : Nat} {m_many : Nat} {m_width : Nat} {m_numbers : Nat} {m_moving : Nat} (hP : va_P D vwCl [(x0, .inr (11, [.ref r_tape, .ref r_reader, .ref r_now, .ref r_trial, .ref r_images, .ref r_kept, .ref r_slots, .ref r_night, .ref r_other, .ref r_circle, .ref r_words, .ref r_law, .ref r_place, .ref r_drawn])), (r_now, .inr (8, [.int 0, .int 0, .int 0, .int 0, .int 0, .int 0, .int 0, .ref n_signs, .int 0, .ref n_posts, .int 0, .ref n_acts])), (m0, .inr (12, [.int 0, .ref m_world, .ref m_images, .ref m_hasImage, .ref m_tape, .int 0, .ref m_five, .int 0, .int 0, .int 0, .int 0, .int 0, .int 0, .int (-1), .ref m_fresh, .ref m_spokenAt, .ref m_heardAt, .ref m_lastAt, .ref m_answerAt, .int 0, .int 0, .int 0, .long 0, .int 0, .int 0, .ref m_heardNow, .ref m_seenAt, .int 0, .int 0, .int 0, .int 0, .int 0, .ref m_fewest, .ref m_costNow, .ref m_costThen, .ref m_lawsOf, .ref m_heardBy, .int 0, .int 0, .ref m_placesOf, .ref m_sentIn, .int 0, .int 0, .ref m_lostBy, .ref m_many, .ref m_width, .ref m_numbers, .ref m_moving])), (m_world, .inl (cI, 53, .inl (fun _ => 0)))] H) (hD : va_D (fun q : Nat => s.heap.size ≤ q) [(x0, .inr (11, [.ref r_tape, .ref r_reader, .ref r_now, .ref r_trial, .ref r_images, .ref r_kept, .ref r_slots, .ref r_night, .ref r_other, .ref r_circle, .ref r_words, .ref r_law, .ref r_place, .ref r_drawn])), (r_now, .inr (8, [.int 0, .int 0, .int 0, .int 0, .int 0, .int 0, .int 0, .ref n_signs, .int 0, .ref n_posts, .int 0, .ref n_acts])), (m0, .inr (12, [.int 0, .ref m_world, .ref m_images, .ref m_hasImage, .ref m_tape, .int 0, .ref m_five, .int 0, .int 0, .int 0, .int 0, .int 0, .int 0, .int (-1), .ref m_fresh, .ref m_spokenAt, .ref m_heardAt, .ref m_lastAt, .ref m_answerAt, .int 0, .int 0, .int 0, .long 0, .int 0, .int 0, .ref m_heardNow, .ref m_seenAt, .int 0, .int 0, .int 0, .int 0, .int 0, .ref m_fewest, .ref m_costNow, .ref m_costThen, .ref m_lawsOf, .ref m_heardBy, .int 0, .int 0, .ref m_placesOf, .ref m_sentIn, .int 0, .int 0, .ref m_lostBy, .ref m_many, .ref m_width, .ref m_numbers, .ref m_moving])), (m_world, .inl (cI, 53, .inl (fun _ => 0)))]) (hS : va_S (fun q : Nat => s.heap.size ≤ q) s.heap H locs) {ls : Array Slot} (hl : lv_has ls 4 [(0, .ref b), (1, .ref x0), (2, .ref m0), (3, .int 0)]) : W p l e room_1 s m #[Value.ref b] below meth c H locs 118 60870 (lw_Z below #[Value.ref b] s) (F0 m 1232 ls []) := by
  obtain ⟨hx, hb, hr, hml, hown, hts0, hX, hbl, hlocks, hgv⟩ := id C0
  have hts : ∀ w ∈ wsL_law, w.before #[Value.ref b] s = true := fun w h => hts0 w (wsL_law_in w h)
  have hA : ∀ q : Nat, s.heap.size ≤ q → (fun q : Nat => s.heap.size ≤ q) q := fun _ h => h
  have hbA : ¬ (fun q : Nat => s.heap.size ≤ q) b := Nat.not_le.mpr hbl
  refine lv_aload_n hx hb dL_law_1232 rfl (lv_at hl 1 rfl) ?_
  refine lv_aload_n hx hb dL_law_1233 rfl (lv_at hl 0 rfl) ?_
  refine lv_iload_n hx hb dL_law_1234 rfl (lv_at hl 3 rfl) ?_
  refine lv_iconst (v := 1) hx hb dL_law_1235 (by decide) ?_
  refine z_iadd (v := 1) hx hb dL_law_1236 (by decide) ?_
  refine va_sld hx hb hX hbl hbA hS (by unfold vp_in; decide) dL_law_1237 ?_
  refine W.eq (g2 := F0 m 1238 ls [.int (xs 1), .ref x0]) rfl ?_
  refine lv_aload_n hx hb dL_law_1238 rfl (lv_at hl 0 rfl) ?_
  refine lv_iload_n hx hb dL_law_1239 rfl (lv_at hl 3 rfl) ?_
  refine lv_iconst (v := 2) hx hb dL_law_1240 (by decide) ?_
  refine z_iadd (v := 2) hx hb dL_law_1241 (by decide) ?_
  refine va_sld hx hb hX hbl hbA hS (by unfold vp_in; decide) dL_law_1242 ?_
  refine W.eq (g2 := F0 m 1243 ls [.int (xs 2), .int (xs 1), .ref x0]) rfl ?_
  refine roi (As := [.int (xs 1), .int (xs 2)]) (rest := []) ⟨hx, hb, hml, hown, hts⟩ (kx_mend l D cB cI cJ cZ cS cT x0 r_tape r_reader r_now r_trial r_images r_kept r_slots r_night r_other r_circle r_words r_law r_place r_drawn n_signs n_posts n_acts (xs 1) (xs 2) ) (cvB (n := 2) (inr50 _ (List.mem_of_getElem? (i := 12) rfl)) (inr50 _ (List.mem_of_getElem? (i := 13) rfl)) (inr50 _ (List.mem_of_getElem? (i := 14) rfl)) (inr1 _ (List.mem_of_getElem? (i := 2) rfl)) (inr50 _ (List.mem_of_getElem? (i := 15) rfl)) (by decide +kernel) hts rfl rfl ⟨Nat.le_of_ble_eq_true rfl, Nat.le_of_ble_eq_true rfl⟩) 0 11 rfl rfl rfl (hP.sub [0, 1] rfl) hK rfl hl.1 rfl (Nat.le_of_ble_eq_true rfl) ⟨Nat.le_of_ble_eq_true rfl, Nat.le_of_ble_eq_true rfl⟩ dL_law_1243 (fun r_1 h_2 => ?_)
  obtain rfl := h_2
  refine lv_aload_n hx hb dL_law_1246 rfl (lv_at hl 2 rfl) ?_
  refine lv_aload_n hx hb dL_law_1247 rfl (lv_at hl 0 rfl) ?_
  refine lv_iload_n hx hb dL_law_1248 rfl (lv_at hl 3 rfl) ?_
  refine lv_iconst (v := 1) hx hb dL_law_1249 (by decide) ?_
  refine z_iadd (v := 1) hx hb dL_law_1250 (by decide) ?_
  refine va_sld hx hb hX hbl hbA hS (by unfold vp_in; decide) dL_law_1251 ?_
  refine W.eq (g2 := F0 m 1252 ls [.int (xs 1), .ref m0, .int (-2)]) rfl ?_
  refine lv_aload_n hx hb dL_law_1252 rfl (lv_at hl 0 rfl) ?_
  refine lv_iload_n hx hb dL_law_1253 rfl (lv_at hl 3 rfl) ?_
  refine lv_iconst (v := 2) hx hb dL_law_1254 (by decide) ?_
  refine z_iadd (v := 2) hx hb dL_law_1255 (by decide) ?_
  refine va_sld hx hb hX hbl hbA hS (by unfold vp_in; decide) dL_law_1256 ?_
  refine W.eq (g2 := F0 m 1257 ls [.int (xs 2), .int (xs 1), .ref m0, .int (-2)]) rfl ?_
  refine roi (As := [.int (xs 1), .int (xs 2)]) (rest := [.int (-2)]) ⟨hx, hb, hml, hown, hts⟩ (km_mend l D cB cI cJ cZ cS cT m0 m_world m_images m_hasImage m_tape m_five m_fresh m_spokenAt m_heardAt m_lastAt m_answerAt m_heardNow m_seenAt m_fewest m_costNow m_costThen m_lawsOf m_heardBy m_placesOf m_sentIn m_lostBy m_many m_width m_numbers m_moving (xs 1) (xs 2) ) (cvB (n := 2) (inr50 _ (List.mem_of_getElem? (i := 23) rfl)) (inr51 _ (List.mem_of_getElem? (i := 0) rfl)) (inr51 _ (List.mem_of_getElem? (i := 1) rfl)) (inr1 _ (List.mem_of_getElem? (i := 5) rfl)) (inr51 _ (List.mem_of_getElem? (i := 2) rfl)) (by decide +kernel) hts rfl rfl ⟨Nat.le_of_ble_eq_true rfl, Nat.le_of_ble_eq_true rfl⟩) 0 12 rfl rfl rfl (hP.sub [2, 3] rfl) hK rfl hl.1 rfl (Nat.le_of_ble_eq_true rfl) ⟨Nat.le_of_ble_eq_true rfl, Nat.le_of_ble_eq_true rfl⟩ dL_law_1257 (fun r_3 h_4 => ?_)
  obtain rfl := h_4
  refine lv_icmp_eq (tgt := 2116) hx hb dL_law_1260 (by decide) (fun _ => ?_) (fun c0 => absurd c0 (by decide))
  exact law_end C0 hK hN (Nat.le_of_ble_eq_true rfl) (Nat.le_of_ble_eq_true rfl) hS (lv_sub hl [0, 1, 2, 3] rfl)

set_option maxHeartbeats 4000000 in
set_option maxRecDepth 100000 in
theorem law_41 {p : Program} {l : Launch} {e : Env} {s : State} {m : MethodId} {below : List Frame} {meth : Method} {c : Code} {D : va_G} {cB cI cJ cZ cS cT : ClassId} {b : Nat} {xs : Nat → Int32} (C0 : lw_At p s m meth c b 6 xs) (hK : va_K D vwCl (tyL cB cI cJ cZ cS cT) s) (hN : kN s) {H : Heap} {locs : List Loc} {x0 : Nat} {m0 : Nat} {r_tape : Nat} {r_reader : Nat} {r_now : Nat} {r_trial : Nat} {r_images : Nat} {r_kept : Nat} {r_slots : Nat} {r_night : Nat} {r_other : Nat} {r_circle : Nat} {r_words : Nat} {r_law : Nat} {r_place : Nat} {r_drawn : Nat} {n_signs : Nat} {n_posts : Nat} {n_acts : Nat} {m_world : Nat} {m_images : Nat} {m_hasImage : Nat} {m_tape : Nat} {m_five : Nat} {m_fresh : Nat} {m_spokenAt : Nat} {m_heardAt : Nat} {m_lastAt : Nat} {m_answerAt : Nat} {m_heardNow : Nat} {m_seenAt : Nat} {m_fewest : Nat} {m_costNow : Nat} {m_costThen : Nat} {m_lawsOf : Nat} {m_heardBy : Nat} {m_placesOf : Nat} {m_sentIn : Nat} {m_lostBy : Nat} {m_many : Nat} {m_width : Nat} {m_numbers : Nat} {m_moving : Nat} (hP : va_P D vwCl [(x0, .inr (11, [.ref r_tape, .ref r_reader, .ref r_now, .ref r_trial, .ref r_images, .ref r_kept, .ref r_slots, .ref r_night, .ref r_other, .ref r_circle, .ref r_words, .ref r_law, .ref r_place, .ref r_drawn])), (r_now, .inr (8, [.int 0, .int 0, .int 0, .int 0, .int 0, .int 0, .int 0, .ref n_signs, .int 0, .ref n_posts, .int 0, .ref n_acts])), (m0, .inr (12, [.int 0, .ref m_world, .ref m_images, .ref m_hasImage, .ref m_tape, .int 0, .ref m_five, .int 0, .int 0, .int 0, .int 0, .int 0, .int 0, .int (-1), .ref m_fresh, .ref m_spokenAt, .ref m_heardAt, .ref m_lastAt, .ref m_answerAt, .int 0, .int 0, .int 0, .long 0, .int 0, .int 0, .ref m_heardNow, .ref m_seenAt, .int 0, .int 0, .int 0, .int 0, .int 0, .ref m_fewest, .ref m_costNow, .ref m_costThen, .ref m_lawsOf, .ref m_heardBy, .int 0, .int 0, .ref m_placesOf, .ref m_sentIn, .int 0, .int 0, .ref m_lostBy, .ref m_many, .ref m_width, .ref m_numbers, .ref m_moving])), (m_world, .inl (cI, 53, .inl (fun _ => 0)))] H) (hD : va_D (fun q : Nat => s.heap.size ≤ q) [(x0, .inr (11, [.ref r_tape, .ref r_reader, .ref r_now, .ref r_trial, .ref r_images, .ref r_kept, .ref r_slots, .ref r_night, .ref r_other, .ref r_circle, .ref r_words, .ref r_law, .ref r_place, .ref r_drawn])), (r_now, .inr (8, [.int 0, .int 0, .int 0, .int 0, .int 0, .int 0, .int 0, .ref n_signs, .int 0, .ref n_posts, .int 0, .ref n_acts])), (m0, .inr (12, [.int 0, .ref m_world, .ref m_images, .ref m_hasImage, .ref m_tape, .int 0, .ref m_five, .int 0, .int 0, .int 0, .int 0, .int 0, .int 0, .int (-1), .ref m_fresh, .ref m_spokenAt, .ref m_heardAt, .ref m_lastAt, .ref m_answerAt, .int 0, .int 0, .int 0, .long 0, .int 0, .int 0, .ref m_heardNow, .ref m_seenAt, .int 0, .int 0, .int 0, .int 0, .int 0, .ref m_fewest, .ref m_costNow, .ref m_costThen, .ref m_lawsOf, .ref m_heardBy, .int 0, .int 0, .ref m_placesOf, .ref m_sentIn, .int 0, .int 0, .ref m_lostBy, .ref m_many, .ref m_width, .ref m_numbers, .ref m_moving])), (m_world, .inl (cI, 53, .inl (fun _ => 0)))]) (hS : va_S (fun q : Nat => s.heap.size ≤ q) s.heap H locs) {ls : Array Slot} (hl : lv_has ls 4 [(0, .ref b), (1, .ref x0), (2, .ref m0), (3, .int 0)]) : W p l e room_1 s m #[Value.ref b] below meth c H locs 118 60870 (lw_Z below #[Value.ref b] s) (F0 m 1265 ls []) := by
  obtain ⟨hx, hb, hr, hml, hown, hts0, hX, hbl, hlocks, hgv⟩ := id C0
  have hts : ∀ w ∈ wsL_law, w.before #[Value.ref b] s = true := fun w h => hts0 w (wsL_law_in w h)
  have hA : ∀ q : Nat, s.heap.size ≤ q → (fun q : Nat => s.heap.size ≤ q) q := fun _ h => h
  have hbA : ¬ (fun q : Nat => s.heap.size ≤ q) b := Nat.not_le.mpr hbl
  refine lv_aload_n hx hb dL_law_1265 rfl (lv_at hl 1 rfl) ?_
  refine lv_aload_n hx hb dL_law_1266 rfl (lv_at hl 0 rfl) ?_
  refine lv_iload_n hx hb dL_law_1267 rfl (lv_at hl 3 rfl) ?_
  refine lv_iconst (v := 1) hx hb dL_law_1268 (by decide) ?_
  refine z_iadd (v := 1) hx hb dL_law_1269 (by decide) ?_
  refine va_sld hx hb hX hbl hbA hS (by unfold vp_in; decide) dL_law_1270 ?_
  refine W.eq (g2 := F0 m 1271 ls [.int (xs 1), .ref x0]) rfl ?_
  refine roi (As := [.int (xs 1)]) (rest := []) ⟨hx, hb, hml, hown, hts⟩ (kx_laws l D cB cI cJ cZ cS cT x0 r_tape r_reader r_now r_trial r_images r_kept r_slots r_night r_other r_circle r_words r_law r_place r_drawn n_signs n_posts n_acts (xs 1) ) (cvB (n := 1) (inr51 _ (List.mem_of_getElem? (i := 7) rfl)) (inr51 _ (List.mem_of_getElem? (i := 8) rfl)) (inr51 _ (List.mem_of_getElem? (i := 9) rfl)) (inr1 _ (List.mem_of_getElem? (i := 2) rfl)) (inr51 _ (List.mem_of_getElem? (i := 10) rfl)) (by decide +kernel) hts rfl rfl ⟨Nat.le_of_ble_eq_true rfl, Nat.le_of_ble_eq_true rfl⟩) 0 11 rfl rfl rfl (hP.sub [0, 1] rfl) hK rfl hl.1 rfl (Nat.le_of_ble_eq_true rfl) ⟨Nat.le_of_ble_eq_true rfl, Nat.le_of_ble_eq_true rfl⟩ dL_law_1271 (fun r_1 h_2 => ?_)
  obtain rfl := h_2
  refine lv_aload_n hx hb dL_law_1274 rfl (lv_at hl 2 rfl) ?_
  refine lv_aload_n hx hb dL_law_1275 rfl (lv_at hl 0 rfl) ?_
  refine lv_iload_n hx hb dL_law_1276 rfl (lv_at hl 3 rfl) ?_
  refine lv_iconst (v := 1) hx hb dL_law_1277 (by decide) ?_
  refine z_iadd (v := 1) hx hb dL_law_1278 (by decide) ?_
  refine va_sld hx hb hX hbl hbA hS (by unfold vp_in; decide) dL_law_1279 ?_
  refine W.eq (g2 := F0 m 1280 ls [.int (xs 1), .ref m0, .int (-2)]) rfl ?_
  refine roi (As := [.int (xs 1)]) (rest := [.int (-2)]) ⟨hx, hb, hml, hown, hts⟩ (km_laws l D cB cI cJ cZ cS cT m0 m_world m_images m_hasImage m_tape m_five m_fresh m_spokenAt m_heardAt m_lastAt m_answerAt m_heardNow m_seenAt m_fewest m_costNow m_costThen m_lawsOf m_heardBy m_placesOf m_sentIn m_lostBy m_many m_width m_numbers m_moving (xs 1) ) (cvB (n := 1) (inr53 _ (List.mem_of_getElem? (i := 19) rfl)) (inr53 _ (List.mem_of_getElem? (i := 20) rfl)) (inr53 _ (List.mem_of_getElem? (i := 21) rfl)) (inr1 _ (List.mem_of_getElem? (i := 5) rfl)) (inr53 _ (List.mem_of_getElem? (i := 22) rfl)) (by decide +kernel) hts rfl rfl ⟨Nat.le_of_ble_eq_true rfl, Nat.le_of_ble_eq_true rfl⟩) 0 12 rfl rfl rfl (hP.sub [2, 3] rfl) hK rfl hl.1 rfl (Nat.le_of_ble_eq_true rfl) ⟨Nat.le_of_ble_eq_true rfl, Nat.le_of_ble_eq_true rfl⟩ dL_law_1280 (fun r_3 h_4 => ?_)
  obtain rfl := h_4
  refine lv_icmp_eq (tgt := 2116) hx hb dL_law_1283 (by decide) (fun _ => ?_) (fun c0 => absurd c0 (by decide))
  exact law_end C0 hK hN (Nat.le_of_ble_eq_true rfl) (Nat.le_of_ble_eq_true rfl) hS (lv_sub hl [0, 1, 2, 3] rfl)

set_option maxHeartbeats 4000000 in
set_option maxRecDepth 100000 in
theorem law_42 {p : Program} {l : Launch} {e : Env} {s : State} {m : MethodId} {below : List Frame} {meth : Method} {c : Code} {D : va_G} {cB cI cJ cZ cS cT : ClassId} {b : Nat} {xs : Nat → Int32} (C0 : lw_At p s m meth c b 6 xs) (hK : va_K D vwCl (tyL cB cI cJ cZ cS cT) s) (hN : kN s) {H : Heap} {locs : List Loc} {x0 : Nat} {m0 : Nat} {r_tape : Nat} {r_reader : Nat} {r_now : Nat} {r_trial : Nat} {r_images : Nat} {r_kept : Nat} {r_slots : Nat} {r_night : Nat} {r_other : Nat} {r_circle : Nat} {r_words : Nat} {r_law : Nat} {r_place : Nat} {r_drawn : Nat} {n_signs : Nat} {n_posts : Nat} {n_acts : Nat} {m_world : Nat} {m_images : Nat} {m_hasImage : Nat} {m_tape : Nat} {m_five : Nat} {m_fresh : Nat} {m_spokenAt : Nat} {m_heardAt : Nat} {m_lastAt : Nat} {m_answerAt : Nat} {m_heardNow : Nat} {m_seenAt : Nat} {m_fewest : Nat} {m_costNow : Nat} {m_costThen : Nat} {m_lawsOf : Nat} {m_heardBy : Nat} {m_placesOf : Nat} {m_sentIn : Nat} {m_lostBy : Nat} {m_many : Nat} {m_width : Nat} {m_numbers : Nat} {m_moving : Nat} (hP : va_P D vwCl [(x0, .inr (11, [.ref r_tape, .ref r_reader, .ref r_now, .ref r_trial, .ref r_images, .ref r_kept, .ref r_slots, .ref r_night, .ref r_other, .ref r_circle, .ref r_words, .ref r_law, .ref r_place, .ref r_drawn])), (r_now, .inr (8, [.int 0, .int 0, .int 0, .int 0, .int 0, .int 0, .int 0, .ref n_signs, .int 0, .ref n_posts, .int 0, .ref n_acts])), (m0, .inr (12, [.int 0, .ref m_world, .ref m_images, .ref m_hasImage, .ref m_tape, .int 0, .ref m_five, .int 0, .int 0, .int 0, .int 0, .int 0, .int 0, .int (-1), .ref m_fresh, .ref m_spokenAt, .ref m_heardAt, .ref m_lastAt, .ref m_answerAt, .int 0, .int 0, .int 0, .long 0, .int 0, .int 0, .ref m_heardNow, .ref m_seenAt, .int 0, .int 0, .int 0, .int 0, .int 0, .ref m_fewest, .ref m_costNow, .ref m_costThen, .ref m_lawsOf, .ref m_heardBy, .int 0, .int 0, .ref m_placesOf, .ref m_sentIn, .int 0, .int 0, .ref m_lostBy, .ref m_many, .ref m_width, .ref m_numbers, .ref m_moving])), (m_world, .inl (cI, 53, .inl (fun _ => 0)))] H) (hD : va_D (fun q : Nat => s.heap.size ≤ q) [(x0, .inr (11, [.ref r_tape, .ref r_reader, .ref r_now, .ref r_trial, .ref r_images, .ref r_kept, .ref r_slots, .ref r_night, .ref r_other, .ref r_circle, .ref r_words, .ref r_law, .ref r_place, .ref r_drawn])), (r_now, .inr (8, [.int 0, .int 0, .int 0, .int 0, .int 0, .int 0, .int 0, .ref n_signs, .int 0, .ref n_posts, .int 0, .ref n_acts])), (m0, .inr (12, [.int 0, .ref m_world, .ref m_images, .ref m_hasImage, .ref m_tape, .int 0, .ref m_five, .int 0, .int 0, .int 0, .int 0, .int 0, .int 0, .int (-1), .ref m_fresh, .ref m_spokenAt, .ref m_heardAt, .ref m_lastAt, .ref m_answerAt, .int 0, .int 0, .int 0, .long 0, .int 0, .int 0, .ref m_heardNow, .ref m_seenAt, .int 0, .int 0, .int 0, .int 0, .int 0, .ref m_fewest, .ref m_costNow, .ref m_costThen, .ref m_lawsOf, .ref m_heardBy, .int 0, .int 0, .ref m_placesOf, .ref m_sentIn, .int 0, .int 0, .ref m_lostBy, .ref m_many, .ref m_width, .ref m_numbers, .ref m_moving])), (m_world, .inl (cI, 53, .inl (fun _ => 0)))]) (hS : va_S (fun q : Nat => s.heap.size ≤ q) s.heap H locs) {ls : Array Slot} (hl : lv_has ls 4 [(0, .ref b), (1, .ref x0), (2, .ref m0), (3, .int 0)]) : W p l e room_1 s m #[Value.ref b] below meth c H locs 118 60870 (lw_Z below #[Value.ref b] s) (F0 m 1288 ls []) := by
  obtain ⟨hx, hb, hr, hml, hown, hts0, hX, hbl, hlocks, hgv⟩ := id C0
  have hts : ∀ w ∈ wsL_law, w.before #[Value.ref b] s = true := fun w h => hts0 w (wsL_law_in w h)
  have hA : ∀ q : Nat, s.heap.size ≤ q → (fun q : Nat => s.heap.size ≤ q) q := fun _ h => h
  have hbA : ¬ (fun q : Nat => s.heap.size ≤ q) b := Nat.not_le.mpr hbl
  refine lv_aload_n hx hb dL_law_1288 rfl (lv_at hl 1 rfl) ?_
  refine lv_aload_n hx hb dL_law_1289 rfl (lv_at hl 0 rfl) ?_
  refine lv_iload_n hx hb dL_law_1290 rfl (lv_at hl 3 rfl) ?_
  refine lv_iconst (v := 1) hx hb dL_law_1291 (by decide) ?_
  refine z_iadd (v := 1) hx hb dL_law_1292 (by decide) ?_
  refine va_sld hx hb hX hbl hbA hS (by unfold vp_in; decide) dL_law_1293 ?_
  refine W.eq (g2 := F0 m 1294 ls [.int (xs 1), .ref x0]) rfl ?_
  refine roi (As := [.int (xs 1)]) (rest := []) ⟨hx, hb, hml, hown, hts⟩ (kx_law l D cB cI cJ cZ cS cT x0 r_tape r_reader r_now r_trial r_images r_kept r_slots r_night r_other r_circle r_words r_law r_place r_drawn n_signs n_posts n_acts (xs 1) ) (cvB (n := 1) (inr54 _ (List.mem_of_getElem? (i := 16) rfl)) (inr54 _ (List.mem_of_getElem? (i := 17) rfl)) (inr54 _ (List.mem_of_getElem? (i := 18) rfl)) (inr1 _ (List.mem_of_getElem? (i := 2) rfl)) (inr54 _ (List.mem_of_getElem? (i := 19) rfl)) (by decide +kernel) hts rfl rfl ⟨Nat.le_of_ble_eq_true rfl, Nat.le_of_ble_eq_true rfl⟩) 0 11 rfl rfl rfl (hP.sub [0, 1] rfl) hK rfl hl.1 rfl (Nat.le_of_ble_eq_true rfl) ⟨Nat.le_of_ble_eq_true rfl, Nat.le_of_ble_eq_true rfl⟩ dL_law_1294 (fun r_1 h_2 => ?_)
  obtain rfl := h_2
  refine lv_aload_n hx hb dL_law_1297 rfl (lv_at hl 2 rfl) ?_
  refine lv_aload_n hx hb dL_law_1298 rfl (lv_at hl 0 rfl) ?_
  refine lv_iload_n hx hb dL_law_1299 rfl (lv_at hl 3 rfl) ?_
  refine lv_iconst (v := 1) hx hb dL_law_1300 (by decide) ?_
  refine z_iadd (v := 1) hx hb dL_law_1301 (by decide) ?_
  refine va_sld hx hb hX hbl hbA hS (by unfold vp_in; decide) dL_law_1302 ?_
  refine W.eq (g2 := F0 m 1303 ls [.int (xs 1), .ref m0, .int (-2)]) rfl ?_
  refine roi (As := [.int (xs 1)]) (rest := [.int (-2)]) ⟨hx, hb, hml, hown, hts⟩ (km_law l D cB cI cJ cZ cS cT m0 m_world m_images m_hasImage m_tape m_five m_fresh m_spokenAt m_heardAt m_lastAt m_answerAt m_heardNow m_seenAt m_fewest m_costNow m_costThen m_lawsOf m_heardBy m_placesOf m_sentIn m_lostBy m_many m_width m_numbers m_moving (xs 1) ) (cvB (n := 1) (inr55 _ (List.mem_of_getElem? (i := 0) rfl)) (inr55 _ (List.mem_of_getElem? (i := 1) rfl)) (inr55 _ (List.mem_of_getElem? (i := 2) rfl)) (inr1 _ (List.mem_of_getElem? (i := 5) rfl)) (inr55 _ (List.mem_of_getElem? (i := 3) rfl)) (by decide +kernel) hts rfl rfl ⟨Nat.le_of_ble_eq_true rfl, Nat.le_of_ble_eq_true rfl⟩) 0 12 rfl rfl rfl (hP.sub [2, 3] rfl) hK rfl hl.1 rfl (Nat.le_of_ble_eq_true rfl) ⟨Nat.le_of_ble_eq_true rfl, Nat.le_of_ble_eq_true rfl⟩ dL_law_1303 (fun r_3 h_4 => ?_)
  obtain rfl := h_4
  refine lv_icmp_eq (tgt := 2116) hx hb dL_law_1306 (by decide) (fun _ => ?_) (fun c0 => absurd c0 (by decide))
  exact law_end C0 hK hN (Nat.le_of_ble_eq_true rfl) (Nat.le_of_ble_eq_true rfl) hS (lv_sub hl [0, 1, 2, 3] rfl)

set_option maxHeartbeats 4000000 in
set_option maxRecDepth 100000 in
theorem law_43 {p : Program} {l : Launch} {e : Env} {s : State} {m : MethodId} {below : List Frame} {meth : Method} {c : Code} {D : va_G} {cB cI cJ cZ cS cT : ClassId} {b : Nat} {xs : Nat → Int32} (C0 : lw_At p s m meth c b 6 xs) (hK : va_K D vwCl (tyL cB cI cJ cZ cS cT) s) (hN : kN s) {H : Heap} {locs : List Loc} {x0 : Nat} {m0 : Nat} {r_tape : Nat} {r_reader : Nat} {r_now : Nat} {r_trial : Nat} {r_images : Nat} {r_kept : Nat} {r_slots : Nat} {r_night : Nat} {r_other : Nat} {r_circle : Nat} {r_words : Nat} {r_law : Nat} {r_place : Nat} {r_drawn : Nat} {n_signs : Nat} {n_posts : Nat} {n_acts : Nat} {m_world : Nat} {m_images : Nat} {m_hasImage : Nat} {m_tape : Nat} {m_five : Nat} {m_fresh : Nat} {m_spokenAt : Nat} {m_heardAt : Nat} {m_lastAt : Nat} {m_answerAt : Nat} {m_heardNow : Nat} {m_seenAt : Nat} {m_fewest : Nat} {m_costNow : Nat} {m_costThen : Nat} {m_lawsOf : Nat} {m_heardBy : Nat} {m_placesOf : Nat} {m_sentIn : Nat} {m_lostBy : Nat} {m_many : Nat} {m_width : Nat} {m_numbers : Nat} {m_moving : Nat} (hP : va_P D vwCl [(x0, .inr (11, [.ref r_tape, .ref r_reader, .ref r_now, .ref r_trial, .ref r_images, .ref r_kept, .ref r_slots, .ref r_night, .ref r_other, .ref r_circle, .ref r_words, .ref r_law, .ref r_place, .ref r_drawn])), (r_now, .inr (8, [.int 0, .int 0, .int 0, .int 0, .int 0, .int 0, .int 0, .ref n_signs, .int 0, .ref n_posts, .int 0, .ref n_acts])), (m0, .inr (12, [.int 0, .ref m_world, .ref m_images, .ref m_hasImage, .ref m_tape, .int 0, .ref m_five, .int 0, .int 0, .int 0, .int 0, .int 0, .int 0, .int (-1), .ref m_fresh, .ref m_spokenAt, .ref m_heardAt, .ref m_lastAt, .ref m_answerAt, .int 0, .int 0, .int 0, .long 0, .int 0, .int 0, .ref m_heardNow, .ref m_seenAt, .int 0, .int 0, .int 0, .int 0, .int 0, .ref m_fewest, .ref m_costNow, .ref m_costThen, .ref m_lawsOf, .ref m_heardBy, .int 0, .int 0, .ref m_placesOf, .ref m_sentIn, .int 0, .int 0, .ref m_lostBy, .ref m_many, .ref m_width, .ref m_numbers, .ref m_moving])), (m_world, .inl (cI, 53, .inl (fun _ => 0)))] H) (hD : va_D (fun q : Nat => s.heap.size ≤ q) [(x0, .inr (11, [.ref r_tape, .ref r_reader, .ref r_now, .ref r_trial, .ref r_images, .ref r_kept, .ref r_slots, .ref r_night, .ref r_other, .ref r_circle, .ref r_words, .ref r_law, .ref r_place, .ref r_drawn])), (r_now, .inr (8, [.int 0, .int 0, .int 0, .int 0, .int 0, .int 0, .int 0, .ref n_signs, .int 0, .ref n_posts, .int 0, .ref n_acts])), (m0, .inr (12, [.int 0, .ref m_world, .ref m_images, .ref m_hasImage, .ref m_tape, .int 0, .ref m_five, .int 0, .int 0, .int 0, .int 0, .int 0, .int 0, .int (-1), .ref m_fresh, .ref m_spokenAt, .ref m_heardAt, .ref m_lastAt, .ref m_answerAt, .int 0, .int 0, .int 0, .long 0, .int 0, .int 0, .ref m_heardNow, .ref m_seenAt, .int 0, .int 0, .int 0, .int 0, .int 0, .ref m_fewest, .ref m_costNow, .ref m_costThen, .ref m_lawsOf, .ref m_heardBy, .int 0, .int 0, .ref m_placesOf, .ref m_sentIn, .int 0, .int 0, .ref m_lostBy, .ref m_many, .ref m_width, .ref m_numbers, .ref m_moving])), (m_world, .inl (cI, 53, .inl (fun _ => 0)))]) (hS : va_S (fun q : Nat => s.heap.size ≤ q) s.heap H locs) {ls : Array Slot} (hl : lv_has ls 4 [(0, .ref b), (1, .ref x0), (2, .ref m0), (3, .int 0)]) : W p l e room_1 s m #[Value.ref b] below meth c H locs 118 60870 (lw_Z below #[Value.ref b] s) (F0 m 1311 ls []) := by
  obtain ⟨hx, hb, hr, hml, hown, hts0, hX, hbl, hlocks, hgv⟩ := id C0
  have hts : ∀ w ∈ wsL_law, w.before #[Value.ref b] s = true := fun w h => hts0 w (wsL_law_in w h)
  have hA : ∀ q : Nat, s.heap.size ≤ q → (fun q : Nat => s.heap.size ≤ q) q := fun _ h => h
  have hbA : ¬ (fun q : Nat => s.heap.size ≤ q) b := Nat.not_le.mpr hbl
  refine lv_aload_n hx hb dL_law_1311 rfl (lv_at hl 1 rfl) ?_
  refine lv_aload_n hx hb dL_law_1312 rfl (lv_at hl 0 rfl) ?_
  refine lv_iload_n hx hb dL_law_1313 rfl (lv_at hl 3 rfl) ?_
  refine lv_iconst (v := 1) hx hb dL_law_1314 (by decide) ?_
  refine z_iadd (v := 1) hx hb dL_law_1315 (by decide) ?_
  refine va_sld hx hb hX hbl hbA hS (by unfold vp_in; decide) dL_law_1316 ?_
  refine W.eq (g2 := F0 m 1317 ls [.int (xs 1), .ref x0]) rfl ?_
  refine roi (As := [.int (xs 1)]) (rest := []) ⟨hx, hb, hml, hown, hts⟩ (kx_ask l D cB cI cJ cZ cS cT x0 r_tape r_reader r_now r_trial r_images r_kept r_slots r_night r_other r_circle r_words r_law r_place r_drawn n_signs n_posts n_acts (xs 1) ) (cvB (n := 1) (inr55 _ (List.mem_of_getElem? (i := 4) rfl)) (inr55 _ (List.mem_of_getElem? (i := 5) rfl)) (inr55 _ (List.mem_of_getElem? (i := 6) rfl)) (inr1 _ (List.mem_of_getElem? (i := 2) rfl)) (inr55 _ (List.mem_of_getElem? (i := 7) rfl)) (by decide +kernel) hts rfl rfl ⟨Nat.le_of_ble_eq_true rfl, Nat.le_of_ble_eq_true rfl⟩) 0 11 rfl rfl rfl (hP.sub [0, 1] rfl) hK rfl hl.1 rfl (Nat.le_of_ble_eq_true rfl) ⟨Nat.le_of_ble_eq_true rfl, Nat.le_of_ble_eq_true rfl⟩ dL_law_1317 (fun r_1 h_2 => ?_)
  obtain rfl := h_2
  refine lv_aload_n hx hb dL_law_1320 rfl (lv_at hl 2 rfl) ?_
  refine lv_aload_n hx hb dL_law_1321 rfl (lv_at hl 0 rfl) ?_
  refine lv_iload_n hx hb dL_law_1322 rfl (lv_at hl 3 rfl) ?_
  refine lv_iconst (v := 1) hx hb dL_law_1323 (by decide) ?_
  refine z_iadd (v := 1) hx hb dL_law_1324 (by decide) ?_
  refine va_sld hx hb hX hbl hbA hS (by unfold vp_in; decide) dL_law_1325 ?_
  refine W.eq (g2 := F0 m 1326 ls [.int (xs 1), .ref m0, .int (-2)]) rfl ?_
  refine roi (As := [.int (xs 1)]) (rest := [.int (-2)]) ⟨hx, hb, hml, hown, hts⟩ (km_ask l D cB cI cJ cZ cS cT m0 m_world m_images m_hasImage m_tape m_five m_fresh m_spokenAt m_heardAt m_lastAt m_answerAt m_heardNow m_seenAt m_fewest m_costNow m_costThen m_lawsOf m_heardBy m_placesOf m_sentIn m_lostBy m_many m_width m_numbers m_moving (xs 1) ) (cvB (n := 1) (inr55 _ (List.mem_of_getElem? (i := 16) rfl)) (inr55 _ (List.mem_of_getElem? (i := 17) rfl)) (inr55 _ (List.mem_of_getElem? (i := 18) rfl)) (inr1 _ (List.mem_of_getElem? (i := 5) rfl)) (inr55 _ (List.mem_of_getElem? (i := 19) rfl)) (by decide +kernel) hts rfl rfl ⟨Nat.le_of_ble_eq_true rfl, Nat.le_of_ble_eq_true rfl⟩) 0 12 rfl rfl rfl (hP.sub [2, 3] rfl) hK rfl hl.1 rfl (Nat.le_of_ble_eq_true rfl) ⟨Nat.le_of_ble_eq_true rfl, Nat.le_of_ble_eq_true rfl⟩ dL_law_1326 (fun r_3 h_4 => ?_)
  obtain rfl := h_4
  refine lv_icmp_eq (tgt := 2116) hx hb dL_law_1329 (by decide) (fun _ => ?_) (fun c0 => absurd c0 (by decide))
  exact law_end C0 hK hN (Nat.le_of_ble_eq_true rfl) (Nat.le_of_ble_eq_true rfl) hS (lv_sub hl [0, 1, 2, 3] rfl)

set_option maxHeartbeats 4000000 in
set_option maxRecDepth 100000 in
theorem law_44 {p : Program} {l : Launch} {e : Env} {s : State} {m : MethodId} {below : List Frame} {meth : Method} {c : Code} {D : va_G} {cB cI cJ cZ cS cT : ClassId} {b : Nat} {xs : Nat → Int32} (C0 : lw_At p s m meth c b 6 xs) (hK : va_K D vwCl (tyL cB cI cJ cZ cS cT) s) (hN : kN s) {H : Heap} {locs : List Loc} {x0 : Nat} {m0 : Nat} {r_tape : Nat} {r_reader : Nat} {r_now : Nat} {r_trial : Nat} {r_images : Nat} {r_kept : Nat} {r_slots : Nat} {r_night : Nat} {r_other : Nat} {r_circle : Nat} {r_words : Nat} {r_law : Nat} {r_place : Nat} {r_drawn : Nat} {n_signs : Nat} {n_posts : Nat} {n_acts : Nat} {m_world : Nat} {m_images : Nat} {m_hasImage : Nat} {m_tape : Nat} {m_five : Nat} {m_fresh : Nat} {m_spokenAt : Nat} {m_heardAt : Nat} {m_lastAt : Nat} {m_answerAt : Nat} {m_heardNow : Nat} {m_seenAt : Nat} {m_fewest : Nat} {m_costNow : Nat} {m_costThen : Nat} {m_lawsOf : Nat} {m_heardBy : Nat} {m_placesOf : Nat} {m_sentIn : Nat} {m_lostBy : Nat} {m_many : Nat} {m_width : Nat} {m_numbers : Nat} {m_moving : Nat} (hP : va_P D vwCl [(x0, .inr (11, [.ref r_tape, .ref r_reader, .ref r_now, .ref r_trial, .ref r_images, .ref r_kept, .ref r_slots, .ref r_night, .ref r_other, .ref r_circle, .ref r_words, .ref r_law, .ref r_place, .ref r_drawn])), (r_now, .inr (8, [.int 0, .int 0, .int 0, .int 0, .int 0, .int 0, .int 0, .ref n_signs, .int 0, .ref n_posts, .int 0, .ref n_acts])), (m0, .inr (12, [.int 0, .ref m_world, .ref m_images, .ref m_hasImage, .ref m_tape, .int 0, .ref m_five, .int 0, .int 0, .int 0, .int 0, .int 0, .int 0, .int (-1), .ref m_fresh, .ref m_spokenAt, .ref m_heardAt, .ref m_lastAt, .ref m_answerAt, .int 0, .int 0, .int 0, .long 0, .int 0, .int 0, .ref m_heardNow, .ref m_seenAt, .int 0, .int 0, .int 0, .int 0, .int 0, .ref m_fewest, .ref m_costNow, .ref m_costThen, .ref m_lawsOf, .ref m_heardBy, .int 0, .int 0, .ref m_placesOf, .ref m_sentIn, .int 0, .int 0, .ref m_lostBy, .ref m_many, .ref m_width, .ref m_numbers, .ref m_moving])), (m_world, .inl (cI, 53, .inl (fun _ => 0)))] H) (hD : va_D (fun q : Nat => s.heap.size ≤ q) [(x0, .inr (11, [.ref r_tape, .ref r_reader, .ref r_now, .ref r_trial, .ref r_images, .ref r_kept, .ref r_slots, .ref r_night, .ref r_other, .ref r_circle, .ref r_words, .ref r_law, .ref r_place, .ref r_drawn])), (r_now, .inr (8, [.int 0, .int 0, .int 0, .int 0, .int 0, .int 0, .int 0, .ref n_signs, .int 0, .ref n_posts, .int 0, .ref n_acts])), (m0, .inr (12, [.int 0, .ref m_world, .ref m_images, .ref m_hasImage, .ref m_tape, .int 0, .ref m_five, .int 0, .int 0, .int 0, .int 0, .int 0, .int 0, .int (-1), .ref m_fresh, .ref m_spokenAt, .ref m_heardAt, .ref m_lastAt, .ref m_answerAt, .int 0, .int 0, .int 0, .long 0, .int 0, .int 0, .ref m_heardNow, .ref m_seenAt, .int 0, .int 0, .int 0, .int 0, .int 0, .ref m_fewest, .ref m_costNow, .ref m_costThen, .ref m_lawsOf, .ref m_heardBy, .int 0, .int 0, .ref m_placesOf, .ref m_sentIn, .int 0, .int 0, .ref m_lostBy, .ref m_many, .ref m_width, .ref m_numbers, .ref m_moving])), (m_world, .inl (cI, 53, .inl (fun _ => 0)))]) (hS : va_S (fun q : Nat => s.heap.size ≤ q) s.heap H locs) {ls : Array Slot} (hl : lv_has ls 4 [(0, .ref b), (1, .ref x0), (2, .ref m0), (3, .int 0)]) : W p l e room_1 s m #[Value.ref b] below meth c H locs 118 60870 (lw_Z below #[Value.ref b] s) (F0 m 1334 ls []) := by
  obtain ⟨hx, hb, hr, hml, hown, hts0, hX, hbl, hlocks, hgv⟩ := id C0
  have hts : ∀ w ∈ wsL_law, w.before #[Value.ref b] s = true := fun w h => hts0 w (wsL_law_in w h)
  have hA : ∀ q : Nat, s.heap.size ≤ q → (fun q : Nat => s.heap.size ≤ q) q := fun _ h => h
  have hbA : ¬ (fun q : Nat => s.heap.size ≤ q) b := Nat.not_le.mpr hbl
  refine lv_aload_n hx hb dL_law_1334 rfl (lv_at hl 1 rfl) ?_
  refine lv_aload_n hx hb dL_law_1335 rfl (lv_at hl 0 rfl) ?_
  refine lv_iload_n hx hb dL_law_1336 rfl (lv_at hl 3 rfl) ?_
  refine lv_iconst (v := 1) hx hb dL_law_1337 (by decide) ?_
  refine z_iadd (v := 1) hx hb dL_law_1338 (by decide) ?_
  refine va_sld hx hb hX hbl hbA hS (by unfold vp_in; decide) dL_law_1339 ?_
  refine W.eq (g2 := F0 m 1340 ls [.int (xs 1), .ref x0]) rfl ?_
  refine roi (As := [.int (xs 1)]) (rest := []) ⟨hx, hb, hml, hown, hts⟩ (kx_leaves l D cB cI cJ cZ cS cT x0 r_tape r_reader r_now r_trial r_images r_kept r_slots r_night r_other r_circle r_words r_law r_place r_drawn n_signs n_posts n_acts (xs 1) ) (cvB (n := 1) (inr56 _ (List.mem_of_getElem? (i := 1) rfl)) (inr56 _ (List.mem_of_getElem? (i := 2) rfl)) (inr56 _ (List.mem_of_getElem? (i := 3) rfl)) (inr1 _ (List.mem_of_getElem? (i := 2) rfl)) (inr56 _ (List.mem_of_getElem? (i := 4) rfl)) (by decide +kernel) hts rfl rfl ⟨Nat.le_of_ble_eq_true rfl, Nat.le_of_ble_eq_true rfl⟩) 0 11 rfl rfl rfl (hP.sub [0, 1] rfl) hK rfl hl.1 rfl (Nat.le_of_ble_eq_true rfl) ⟨Nat.le_of_ble_eq_true rfl, Nat.le_of_ble_eq_true rfl⟩ dL_law_1340 (fun r_1 h_2 => ?_)
  obtain rfl := h_2
  refine lv_aload_n hx hb dL_law_1343 rfl (lv_at hl 2 rfl) ?_
  refine lv_aload_n hx hb dL_law_1344 rfl (lv_at hl 0 rfl) ?_
  refine lv_iload_n hx hb dL_law_1345 rfl (lv_at hl 3 rfl) ?_
  refine lv_iconst (v := 1) hx hb dL_law_1346 (by decide) ?_
  refine z_iadd (v := 1) hx hb dL_law_1347 (by decide) ?_
  refine va_sld hx hb hX hbl hbA hS (by unfold vp_in; decide) dL_law_1348 ?_
  refine W.eq (g2 := F0 m 1349 ls [.int (xs 1), .ref m0, .int (-2)]) rfl ?_
  refine roi (As := [.int (xs 1)]) (rest := [.int (-2)]) ⟨hx, hb, hml, hown, hts⟩ (km_leaves l D cB cI cJ cZ cS cT m0 m_world m_images m_hasImage m_tape m_five m_fresh m_spokenAt m_heardAt m_lastAt m_answerAt m_heardNow m_seenAt m_fewest m_costNow m_costThen m_lawsOf m_heardBy m_placesOf m_sentIn m_lostBy m_many m_width m_numbers m_moving (xs 1) ) (cvB (n := 1) (inr56 _ (List.mem_of_getElem? (i := 6) rfl)) (inr56 _ (List.mem_of_getElem? (i := 7) rfl)) (inr56 _ (List.mem_of_getElem? (i := 8) rfl)) (inr1 _ (List.mem_of_getElem? (i := 5) rfl)) (inr56 _ (List.mem_of_getElem? (i := 9) rfl)) (by decide +kernel) hts rfl rfl ⟨Nat.le_of_ble_eq_true rfl, Nat.le_of_ble_eq_true rfl⟩) 0 12 rfl rfl rfl (hP.sub [2, 3] rfl) hK rfl hl.1 rfl (Nat.le_of_ble_eq_true rfl) ⟨Nat.le_of_ble_eq_true rfl, Nat.le_of_ble_eq_true rfl⟩ dL_law_1349 (fun r_3 h_4 => ?_)
  obtain rfl := h_4
  refine lv_icmp_eq (tgt := 2116) hx hb dL_law_1352 (by decide) (fun _ => ?_) (fun c0 => absurd c0 (by decide))
  exact law_end C0 hK hN (Nat.le_of_ble_eq_true rfl) (Nat.le_of_ble_eq_true rfl) hS (lv_sub hl [0, 1, 2, 3] rfl)

set_option maxHeartbeats 4000000 in
set_option maxRecDepth 100000 in
theorem law_45 {p : Program} {l : Launch} {e : Env} {s : State} {m : MethodId} {below : List Frame} {meth : Method} {c : Code} {D : va_G} {cB cI cJ cZ cS cT : ClassId} {b : Nat} {xs : Nat → Int32} (C0 : lw_At p s m meth c b 6 xs) (hK : va_K D vwCl (tyL cB cI cJ cZ cS cT) s) (hN : kN s) {H : Heap} {locs : List Loc} {x0 : Nat} {m0 : Nat} {r_tape : Nat} {r_reader : Nat} {r_now : Nat} {r_trial : Nat} {r_images : Nat} {r_kept : Nat} {r_slots : Nat} {r_night : Nat} {r_other : Nat} {r_circle : Nat} {r_words : Nat} {r_law : Nat} {r_place : Nat} {r_drawn : Nat} {n_signs : Nat} {n_posts : Nat} {n_acts : Nat} {m_world : Nat} {m_images : Nat} {m_hasImage : Nat} {m_tape : Nat} {m_five : Nat} {m_fresh : Nat} {m_spokenAt : Nat} {m_heardAt : Nat} {m_lastAt : Nat} {m_answerAt : Nat} {m_heardNow : Nat} {m_seenAt : Nat} {m_fewest : Nat} {m_costNow : Nat} {m_costThen : Nat} {m_lawsOf : Nat} {m_heardBy : Nat} {m_placesOf : Nat} {m_sentIn : Nat} {m_lostBy : Nat} {m_many : Nat} {m_width : Nat} {m_numbers : Nat} {m_moving : Nat} (hP : va_P D vwCl [(x0, .inr (11, [.ref r_tape, .ref r_reader, .ref r_now, .ref r_trial, .ref r_images, .ref r_kept, .ref r_slots, .ref r_night, .ref r_other, .ref r_circle, .ref r_words, .ref r_law, .ref r_place, .ref r_drawn])), (r_now, .inr (8, [.int 0, .int 0, .int 0, .int 0, .int 0, .int 0, .int 0, .ref n_signs, .int 0, .ref n_posts, .int 0, .ref n_acts])), (m0, .inr (12, [.int 0, .ref m_world, .ref m_images, .ref m_hasImage, .ref m_tape, .int 0, .ref m_five, .int 0, .int 0, .int 0, .int 0, .int 0, .int 0, .int (-1), .ref m_fresh, .ref m_spokenAt, .ref m_heardAt, .ref m_lastAt, .ref m_answerAt, .int 0, .int 0, .int 0, .long 0, .int 0, .int 0, .ref m_heardNow, .ref m_seenAt, .int 0, .int 0, .int 0, .int 0, .int 0, .ref m_fewest, .ref m_costNow, .ref m_costThen, .ref m_lawsOf, .ref m_heardBy, .int 0, .int 0, .ref m_placesOf, .ref m_sentIn, .int 0, .int 0, .ref m_lostBy, .ref m_many, .ref m_width, .ref m_numbers, .ref m_moving])), (m_world, .inl (cI, 53, .inl (fun _ => 0)))] H) (hD : va_D (fun q : Nat => s.heap.size ≤ q) [(x0, .inr (11, [.ref r_tape, .ref r_reader, .ref r_now, .ref r_trial, .ref r_images, .ref r_kept, .ref r_slots, .ref r_night, .ref r_other, .ref r_circle, .ref r_words, .ref r_law, .ref r_place, .ref r_drawn])), (r_now, .inr (8, [.int 0, .int 0, .int 0, .int 0, .int 0, .int 0, .int 0, .ref n_signs, .int 0, .ref n_posts, .int 0, .ref n_acts])), (m0, .inr (12, [.int 0, .ref m_world, .ref m_images, .ref m_hasImage, .ref m_tape, .int 0, .ref m_five, .int 0, .int 0, .int 0, .int 0, .int 0, .int 0, .int (-1), .ref m_fresh, .ref m_spokenAt, .ref m_heardAt, .ref m_lastAt, .ref m_answerAt, .int 0, .int 0, .int 0, .long 0, .int 0, .int 0, .ref m_heardNow, .ref m_seenAt, .int 0, .int 0, .int 0, .int 0, .int 0, .ref m_fewest, .ref m_costNow, .ref m_costThen, .ref m_lawsOf, .ref m_heardBy, .int 0, .int 0, .ref m_placesOf, .ref m_sentIn, .int 0, .int 0, .ref m_lostBy, .ref m_many, .ref m_width, .ref m_numbers, .ref m_moving])), (m_world, .inl (cI, 53, .inl (fun _ => 0)))]) (hS : va_S (fun q : Nat => s.heap.size ≤ q) s.heap H locs) {ls : Array Slot} (hl : lv_has ls 4 [(0, .ref b), (1, .ref x0), (2, .ref m0), (3, .int 0)]) : W p l e room_1 s m #[Value.ref b] below meth c H locs 118 60870 (lw_Z below #[Value.ref b] s) (F0 m 1357 ls []) := by
  obtain ⟨hx, hb, hr, hml, hown, hts0, hX, hbl, hlocks, hgv⟩ := id C0
  have hts : ∀ w ∈ wsL_law, w.before #[Value.ref b] s = true := fun w h => hts0 w (wsL_law_in w h)
  have hA : ∀ q : Nat, s.heap.size ≤ q → (fun q : Nat => s.heap.size ≤ q) q := fun _ h => h
  have hbA : ¬ (fun q : Nat => s.heap.size ≤ q) b := Nat.not_le.mpr hbl
  refine lv_aload_n hx hb dL_law_1357 rfl (lv_at hl 1 rfl) ?_
  refine lv_aload_n hx hb dL_law_1358 rfl (lv_at hl 0 rfl) ?_
  refine lv_iload_n hx hb dL_law_1359 rfl (lv_at hl 3 rfl) ?_
  refine lv_iconst (v := 1) hx hb dL_law_1360 (by decide) ?_
  refine z_iadd (v := 1) hx hb dL_law_1361 (by decide) ?_
  refine va_sld hx hb hX hbl hbA hS (by unfold vp_in; decide) dL_law_1362 ?_
  refine W.eq (g2 := F0 m 1363 ls [.int (xs 1), .ref x0]) rfl ?_
  refine roi (As := [.int (xs 1)]) (rest := []) ⟨hx, hb, hml, hown, hts⟩ (kx_places l D cB cI cJ cZ cS cT x0 r_tape r_reader r_now r_trial r_images r_kept r_slots r_night r_other r_circle r_words r_law r_place r_drawn n_signs n_posts n_acts (xs 1) ) (cvB (n := 1) (inr56 _ (List.mem_of_getElem? (i := 10) rfl)) (inr56 _ (List.mem_of_getElem? (i := 11) rfl)) (inr56 _ (List.mem_of_getElem? (i := 12) rfl)) (inr1 _ (List.mem_of_getElem? (i := 2) rfl)) (inr56 _ (List.mem_of_getElem? (i := 13) rfl)) (by decide +kernel) hts rfl rfl ⟨Nat.le_of_ble_eq_true rfl, Nat.le_of_ble_eq_true rfl⟩) 0 11 rfl rfl rfl (hP.sub [0, 1] rfl) hK rfl hl.1 rfl (Nat.le_of_ble_eq_true rfl) ⟨Nat.le_of_ble_eq_true rfl, Nat.le_of_ble_eq_true rfl⟩ dL_law_1363 (fun r_1 h_2 => ?_)
  obtain rfl := h_2
  refine lv_aload_n hx hb dL_law_1366 rfl (lv_at hl 2 rfl) ?_
  refine lv_aload_n hx hb dL_law_1367 rfl (lv_at hl 0 rfl) ?_
  refine lv_iload_n hx hb dL_law_1368 rfl (lv_at hl 3 rfl) ?_
  refine lv_iconst (v := 1) hx hb dL_law_1369 (by decide) ?_
  refine z_iadd (v := 1) hx hb dL_law_1370 (by decide) ?_
  refine va_sld hx hb hX hbl hbA hS (by unfold vp_in; decide) dL_law_1371 ?_
  refine W.eq (g2 := F0 m 1372 ls [.int (xs 1), .ref m0, .int (-2)]) rfl ?_
  refine roi (As := [.int (xs 1)]) (rest := [.int (-2)]) ⟨hx, hb, hml, hown, hts⟩ (km_places l D cB cI cJ cZ cS cT m0 m_world m_images m_hasImage m_tape m_five m_fresh m_spokenAt m_heardAt m_lastAt m_answerAt m_heardNow m_seenAt m_fewest m_costNow m_costThen m_lawsOf m_heardBy m_placesOf m_sentIn m_lostBy m_many m_width m_numbers m_moving (xs 1) ) (cvB (n := 1) (inr57 _ (List.mem_of_getElem? (i := 11) rfl)) (inr57 _ (List.mem_of_getElem? (i := 12) rfl)) (inr57 _ (List.mem_of_getElem? (i := 13) rfl)) (inr1 _ (List.mem_of_getElem? (i := 5) rfl)) (inr57 _ (List.mem_of_getElem? (i := 14) rfl)) (by decide +kernel) hts rfl rfl ⟨Nat.le_of_ble_eq_true rfl, Nat.le_of_ble_eq_true rfl⟩) 0 12 rfl rfl rfl (hP.sub [2, 3] rfl) hK rfl hl.1 rfl (Nat.le_of_ble_eq_true rfl) ⟨Nat.le_of_ble_eq_true rfl, Nat.le_of_ble_eq_true rfl⟩ dL_law_1372 (fun r_3 h_4 => ?_)
  obtain rfl := h_4
  refine lv_icmp_eq (tgt := 2116) hx hb dL_law_1375 (by decide) (fun _ => ?_) (fun c0 => absurd c0 (by decide))
  exact law_end C0 hK hN (Nat.le_of_ble_eq_true rfl) (Nat.le_of_ble_eq_true rfl) hS (lv_sub hl [0, 1, 2, 3] rfl)

set_option maxHeartbeats 4000000 in
set_option maxRecDepth 100000 in
theorem law_46 {p : Program} {l : Launch} {e : Env} {s : State} {m : MethodId} {below : List Frame} {meth : Method} {c : Code} {D : va_G} {cB cI cJ cZ cS cT : ClassId} {b : Nat} {xs : Nat → Int32} (C0 : lw_At p s m meth c b 6 xs) (hK : va_K D vwCl (tyL cB cI cJ cZ cS cT) s) (hN : kN s) {H : Heap} {locs : List Loc} {x0 : Nat} {m0 : Nat} {r_tape : Nat} {r_reader : Nat} {r_now : Nat} {r_trial : Nat} {r_images : Nat} {r_kept : Nat} {r_slots : Nat} {r_night : Nat} {r_other : Nat} {r_circle : Nat} {r_words : Nat} {r_law : Nat} {r_place : Nat} {r_drawn : Nat} {n_signs : Nat} {n_posts : Nat} {n_acts : Nat} {m_world : Nat} {m_images : Nat} {m_hasImage : Nat} {m_tape : Nat} {m_five : Nat} {m_fresh : Nat} {m_spokenAt : Nat} {m_heardAt : Nat} {m_lastAt : Nat} {m_answerAt : Nat} {m_heardNow : Nat} {m_seenAt : Nat} {m_fewest : Nat} {m_costNow : Nat} {m_costThen : Nat} {m_lawsOf : Nat} {m_heardBy : Nat} {m_placesOf : Nat} {m_sentIn : Nat} {m_lostBy : Nat} {m_many : Nat} {m_width : Nat} {m_numbers : Nat} {m_moving : Nat} (hP : va_P D vwCl [(x0, .inr (11, [.ref r_tape, .ref r_reader, .ref r_now, .ref r_trial, .ref r_images, .ref r_kept, .ref r_slots, .ref r_night, .ref r_other, .ref r_circle, .ref r_words, .ref r_law, .ref r_place, .ref r_drawn])), (r_now, .inr (8, [.int 0, .int 0, .int 0, .int 0, .int 0, .int 0, .int 0, .ref n_signs, .int 0, .ref n_posts, .int 0, .ref n_acts])), (m0, .inr (12, [.int 0, .ref m_world, .ref m_images, .ref m_hasImage, .ref m_tape, .int 0, .ref m_five, .int 0, .int 0, .int 0, .int 0, .int 0, .int 0, .int (-1), .ref m_fresh, .ref m_spokenAt, .ref m_heardAt, .ref m_lastAt, .ref m_answerAt, .int 0, .int 0, .int 0, .long 0, .int 0, .int 0, .ref m_heardNow, .ref m_seenAt, .int 0, .int 0, .int 0, .int 0, .int 0, .ref m_fewest, .ref m_costNow, .ref m_costThen, .ref m_lawsOf, .ref m_heardBy, .int 0, .int 0, .ref m_placesOf, .ref m_sentIn, .int 0, .int 0, .ref m_lostBy, .ref m_many, .ref m_width, .ref m_numbers, .ref m_moving])), (m_world, .inl (cI, 53, .inl (fun _ => 0)))] H) (hD : va_D (fun q : Nat => s.heap.size ≤ q) [(x0, .inr (11, [.ref r_tape, .ref r_reader, .ref r_now, .ref r_trial, .ref r_images, .ref r_kept, .ref r_slots, .ref r_night, .ref r_other, .ref r_circle, .ref r_words, .ref r_law, .ref r_place, .ref r_drawn])), (r_now, .inr (8, [.int 0, .int 0, .int 0, .int 0, .int 0, .int 0, .int 0, .ref n_signs, .int 0, .ref n_posts, .int 0, .ref n_acts])), (m0, .inr (12, [.int 0, .ref m_world, .ref m_images, .ref m_hasImage, .ref m_tape, .int 0, .ref m_five, .int 0, .int 0, .int 0, .int 0, .int 0, .int 0, .int (-1), .ref m_fresh, .ref m_spokenAt, .ref m_heardAt, .ref m_lastAt, .ref m_answerAt, .int 0, .int 0, .int 0, .long 0, .int 0, .int 0, .ref m_heardNow, .ref m_seenAt, .int 0, .int 0, .int 0, .int 0, .int 0, .ref m_fewest, .ref m_costNow, .ref m_costThen, .ref m_lawsOf, .ref m_heardBy, .int 0, .int 0, .ref m_placesOf, .ref m_sentIn, .int 0, .int 0, .ref m_lostBy, .ref m_many, .ref m_width, .ref m_numbers, .ref m_moving])), (m_world, .inl (cI, 53, .inl (fun _ => 0)))]) (hS : va_S (fun q : Nat => s.heap.size ≤ q) s.heap H locs) {ls : Array Slot} (hl : lv_has ls 4 [(0, .ref b), (1, .ref x0), (2, .ref m0), (3, .int 0)]) : W p l e room_1 s m #[Value.ref b] below meth c H locs 118 60870 (lw_Z below #[Value.ref b] s) (F0 m 1380 ls []) := by
  obtain ⟨hx, hb, hr, hml, hown, hts0, hX, hbl, hlocks, hgv⟩ := id C0
  have hts : ∀ w ∈ wsL_law, w.before #[Value.ref b] s = true := fun w h => hts0 w (wsL_law_in w h)
  have hA : ∀ q : Nat, s.heap.size ≤ q → (fun q : Nat => s.heap.size ≤ q) q := fun _ h => h
  have hbA : ¬ (fun q : Nat => s.heap.size ≤ q) b := Nat.not_le.mpr hbl
  refine lv_aload_n hx hb dL_law_1380 rfl (lv_at hl 1 rfl) ?_
  refine lv_aload_n hx hb dL_law_1381 rfl (lv_at hl 0 rfl) ?_
  refine lv_iload_n hx hb dL_law_1382 rfl (lv_at hl 3 rfl) ?_
  refine lv_iconst (v := 1) hx hb dL_law_1383 (by decide) ?_
  refine z_iadd (v := 1) hx hb dL_law_1384 (by decide) ?_
  refine va_sld hx hb hX hbl hbA hS (by unfold vp_in; decide) dL_law_1385 ?_
  refine W.eq (g2 := F0 m 1386 ls [.int (xs 1), .ref x0]) rfl ?_
  refine roi (As := [.int (xs 1)]) (rest := []) ⟨hx, hb, hml, hown, hts⟩ (kx_place l D cB cI cJ cZ cS cT x0 r_tape r_reader r_now r_trial r_images r_kept r_slots r_night r_other r_circle r_words r_law r_place r_drawn n_signs n_posts n_acts (xs 1) ) (cvB (n := 1) (inr57 _ (List.mem_of_getElem? (i := 21) rfl)) (inr57 _ (List.mem_of_getElem? (i := 22) rfl)) (inr57 _ (List.mem_of_getElem? (i := 23) rfl)) (inr1 _ (List.mem_of_getElem? (i := 2) rfl)) (inr58 _ (List.mem_of_getElem? (i := 0) rfl)) (by decide +kernel) hts rfl rfl ⟨Nat.le_of_ble_eq_true rfl, Nat.le_of_ble_eq_true rfl⟩) 0 11 rfl rfl rfl (hP.sub [0, 1] rfl) hK rfl hl.1 rfl (Nat.le_of_ble_eq_true rfl) ⟨Nat.le_of_ble_eq_true rfl, Nat.le_of_ble_eq_true rfl⟩ dL_law_1386 (fun r_1 h_2 => ?_)
  obtain rfl := h_2
  refine lv_aload_n hx hb dL_law_1389 rfl (lv_at hl 2 rfl) ?_
  refine lv_aload_n hx hb dL_law_1390 rfl (lv_at hl 0 rfl) ?_
  refine lv_iload_n hx hb dL_law_1391 rfl (lv_at hl 3 rfl) ?_
  refine lv_iconst (v := 1) hx hb dL_law_1392 (by decide) ?_
  refine z_iadd (v := 1) hx hb dL_law_1393 (by decide) ?_
  refine va_sld hx hb hX hbl hbA hS (by unfold vp_in; decide) dL_law_1394 ?_
  refine W.eq (g2 := F0 m 1395 ls [.int (xs 1), .ref m0, .int (-2)]) rfl ?_
  refine roi (As := [.int (xs 1)]) (rest := [.int (-2)]) ⟨hx, hb, hml, hown, hts⟩ (km_place l D cB cI cJ cZ cS cT m0 m_world m_images m_hasImage m_tape m_five m_fresh m_spokenAt m_heardAt m_lastAt m_answerAt m_heardNow m_seenAt m_fewest m_costNow m_costThen m_lawsOf m_heardBy m_placesOf m_sentIn m_lostBy m_many m_width m_numbers m_moving (xs 1) ) (cvB (n := 1) (inr58 _ (List.mem_of_getElem? (i := 5) rfl)) (inr58 _ (List.mem_of_getElem? (i := 6) rfl)) (inr58 _ (List.mem_of_getElem? (i := 7) rfl)) (inr1 _ (List.mem_of_getElem? (i := 5) rfl)) (inr58 _ (List.mem_of_getElem? (i := 8) rfl)) (by decide +kernel) hts rfl rfl ⟨Nat.le_of_ble_eq_true rfl, Nat.le_of_ble_eq_true rfl⟩) 0 12 rfl rfl rfl (hP.sub [2, 3] rfl) hK rfl hl.1 rfl (Nat.le_of_ble_eq_true rfl) ⟨Nat.le_of_ble_eq_true rfl, Nat.le_of_ble_eq_true rfl⟩ dL_law_1395 (fun r_3 h_4 => ?_)
  obtain rfl := h_4
  refine lv_icmp_eq (tgt := 2116) hx hb dL_law_1398 (by decide) (fun _ => ?_) (fun c0 => absurd c0 (by decide))
  exact law_end C0 hK hN (Nat.le_of_ble_eq_true rfl) (Nat.le_of_ble_eq_true rfl) hS (lv_sub hl [0, 1, 2, 3] rfl)

set_option maxHeartbeats 4000000 in
set_option maxRecDepth 100000 in
theorem law_47 {p : Program} {l : Launch} {e : Env} {s : State} {m : MethodId} {below : List Frame} {meth : Method} {c : Code} {D : va_G} {cB cI cJ cZ cS cT : ClassId} {b : Nat} {xs : Nat → Int32} (C0 : lw_At p s m meth c b 6 xs) (hK : va_K D vwCl (tyL cB cI cJ cZ cS cT) s) (hN : kN s) {H : Heap} {locs : List Loc} {x0 : Nat} {m0 : Nat} {r_tape : Nat} {r_reader : Nat} {r_now : Nat} {r_trial : Nat} {r_images : Nat} {r_kept : Nat} {r_slots : Nat} {r_night : Nat} {r_other : Nat} {r_circle : Nat} {r_words : Nat} {r_law : Nat} {r_place : Nat} {r_drawn : Nat} {n_signs : Nat} {n_posts : Nat} {n_acts : Nat} {m_world : Nat} {m_images : Nat} {m_hasImage : Nat} {m_tape : Nat} {m_five : Nat} {m_fresh : Nat} {m_spokenAt : Nat} {m_heardAt : Nat} {m_lastAt : Nat} {m_answerAt : Nat} {m_heardNow : Nat} {m_seenAt : Nat} {m_fewest : Nat} {m_costNow : Nat} {m_costThen : Nat} {m_lawsOf : Nat} {m_heardBy : Nat} {m_placesOf : Nat} {m_sentIn : Nat} {m_lostBy : Nat} {m_many : Nat} {m_width : Nat} {m_numbers : Nat} {m_moving : Nat} (hP : va_P D vwCl [(x0, .inr (11, [.ref r_tape, .ref r_reader, .ref r_now, .ref r_trial, .ref r_images, .ref r_kept, .ref r_slots, .ref r_night, .ref r_other, .ref r_circle, .ref r_words, .ref r_law, .ref r_place, .ref r_drawn])), (r_now, .inr (8, [.int 0, .int 0, .int 0, .int 0, .int 0, .int 0, .int 0, .ref n_signs, .int 0, .ref n_posts, .int 0, .ref n_acts])), (m0, .inr (12, [.int 0, .ref m_world, .ref m_images, .ref m_hasImage, .ref m_tape, .int 0, .ref m_five, .int 0, .int 0, .int 0, .int 0, .int 0, .int 0, .int (-1), .ref m_fresh, .ref m_spokenAt, .ref m_heardAt, .ref m_lastAt, .ref m_answerAt, .int 0, .int 0, .int 0, .long 0, .int 0, .int 0, .ref m_heardNow, .ref m_seenAt, .int 0, .int 0, .int 0, .int 0, .int 0, .ref m_fewest, .ref m_costNow, .ref m_costThen, .ref m_lawsOf, .ref m_heardBy, .int 0, .int 0, .ref m_placesOf, .ref m_sentIn, .int 0, .int 0, .ref m_lostBy, .ref m_many, .ref m_width, .ref m_numbers, .ref m_moving])), (m_world, .inl (cI, 53, .inl (fun _ => 0)))] H) (hD : va_D (fun q : Nat => s.heap.size ≤ q) [(x0, .inr (11, [.ref r_tape, .ref r_reader, .ref r_now, .ref r_trial, .ref r_images, .ref r_kept, .ref r_slots, .ref r_night, .ref r_other, .ref r_circle, .ref r_words, .ref r_law, .ref r_place, .ref r_drawn])), (r_now, .inr (8, [.int 0, .int 0, .int 0, .int 0, .int 0, .int 0, .int 0, .ref n_signs, .int 0, .ref n_posts, .int 0, .ref n_acts])), (m0, .inr (12, [.int 0, .ref m_world, .ref m_images, .ref m_hasImage, .ref m_tape, .int 0, .ref m_five, .int 0, .int 0, .int 0, .int 0, .int 0, .int 0, .int (-1), .ref m_fresh, .ref m_spokenAt, .ref m_heardAt, .ref m_lastAt, .ref m_answerAt, .int 0, .int 0, .int 0, .long 0, .int 0, .int 0, .ref m_heardNow, .ref m_seenAt, .int 0, .int 0, .int 0, .int 0, .int 0, .ref m_fewest, .ref m_costNow, .ref m_costThen, .ref m_lawsOf, .ref m_heardBy, .int 0, .int 0, .ref m_placesOf, .ref m_sentIn, .int 0, .int 0, .ref m_lostBy, .ref m_many, .ref m_width, .ref m_numbers, .ref m_moving])), (m_world, .inl (cI, 53, .inl (fun _ => 0)))]) (hS : va_S (fun q : Nat => s.heap.size ≤ q) s.heap H locs) {ls : Array Slot} (hl : lv_has ls 4 [(0, .ref b), (1, .ref x0), (2, .ref m0), (3, .int 0)]) : W p l e room_1 s m #[Value.ref b] below meth c H locs 118 60870 (lw_Z below #[Value.ref b] s) (F0 m 1403 ls []) := by
  obtain ⟨hx, hb, hr, hml, hown, hts0, hX, hbl, hlocks, hgv⟩ := id C0
  have hts : ∀ w ∈ wsL_law, w.before #[Value.ref b] s = true := fun w h => hts0 w (wsL_law_in w h)
  have hA : ∀ q : Nat, s.heap.size ≤ q → (fun q : Nat => s.heap.size ≤ q) q := fun _ h => h
  have hbA : ¬ (fun q : Nat => s.heap.size ≤ q) b := Nat.not_le.mpr hbl
  refine lv_aload_n hx hb dL_law_1403 rfl (lv_at hl 1 rfl) ?_
  refine lv_aload_n hx hb dL_law_1404 rfl (lv_at hl 0 rfl) ?_
  refine lv_iload_n hx hb dL_law_1405 rfl (lv_at hl 3 rfl) ?_
  refine lv_iconst (v := 1) hx hb dL_law_1406 (by decide) ?_
  refine z_iadd (v := 1) hx hb dL_law_1407 (by decide) ?_
  refine va_sld hx hb hX hbl hbA hS (by unfold vp_in; decide) dL_law_1408 ?_
  refine W.eq (g2 := F0 m 1409 ls [.int (xs 1), .ref x0]) rfl ?_
  refine roi (As := [.int (xs 1)]) (rest := []) ⟨hx, hb, hml, hown, hts⟩ (kx_farther l D cB cI cJ cZ cS cT x0 r_tape r_reader r_now r_trial r_images r_kept r_slots r_night r_other r_circle r_words r_law r_place r_drawn n_signs n_posts n_acts (xs 1) ) (cvB (n := 1) (inr58 _ (List.mem_of_getElem? (i := 9) rfl)) (inr58 _ (List.mem_of_getElem? (i := 10) rfl)) (inr58 _ (List.mem_of_getElem? (i := 11) rfl)) (inr1 _ (List.mem_of_getElem? (i := 2) rfl)) (inr58 _ (List.mem_of_getElem? (i := 12) rfl)) (by decide +kernel) hts rfl rfl ⟨Nat.le_of_ble_eq_true rfl, Nat.le_of_ble_eq_true rfl⟩) 0 11 rfl rfl rfl (hP.sub [0, 1] rfl) hK rfl hl.1 rfl (Nat.le_of_ble_eq_true rfl) ⟨Nat.le_of_ble_eq_true rfl, Nat.le_of_ble_eq_true rfl⟩ dL_law_1409 (fun r_1 h_2 => ?_)
  obtain rfl := h_2
  refine lv_aload_n hx hb dL_law_1412 rfl (lv_at hl 2 rfl) ?_
  refine lv_aload_n hx hb dL_law_1413 rfl (lv_at hl 0 rfl) ?_
  refine lv_iload_n hx hb dL_law_1414 rfl (lv_at hl 3 rfl) ?_
  refine lv_iconst (v := 1) hx hb dL_law_1415 (by decide) ?_
  refine z_iadd (v := 1) hx hb dL_law_1416 (by decide) ?_
  refine va_sld hx hb hX hbl hbA hS (by unfold vp_in; decide) dL_law_1417 ?_
  refine W.eq (g2 := F0 m 1418 ls [.int (xs 1), .ref m0, .int (-2)]) rfl ?_
  refine roi (As := [.int (xs 1)]) (rest := [.int (-2)]) ⟨hx, hb, hml, hown, hts⟩ (km_farther l D cB cI cJ cZ cS cT m0 m_world m_images m_hasImage m_tape m_five m_fresh m_spokenAt m_heardAt m_lastAt m_answerAt m_heardNow m_seenAt m_fewest m_costNow m_costThen m_lawsOf m_heardBy m_placesOf m_sentIn m_lostBy m_many m_width m_numbers m_moving (xs 1) ) (cvB (n := 1) (inr58 _ (List.mem_of_getElem? (i := 17) rfl)) (inr58 _ (List.mem_of_getElem? (i := 18) rfl)) (inr58 _ (List.mem_of_getElem? (i := 19) rfl)) (inr1 _ (List.mem_of_getElem? (i := 5) rfl)) (inr58 _ (List.mem_of_getElem? (i := 20) rfl)) (by decide +kernel) hts rfl rfl ⟨Nat.le_of_ble_eq_true rfl, Nat.le_of_ble_eq_true rfl⟩) 0 12 rfl rfl rfl (hP.sub [2, 3] rfl) hK rfl hl.1 rfl (Nat.le_of_ble_eq_true rfl) ⟨Nat.le_of_ble_eq_true rfl, Nat.le_of_ble_eq_true rfl⟩ dL_law_1418 (fun r_3 h_4 => ?_)
  obtain rfl := h_4
  refine lv_icmp_eq (tgt := 2116) hx hb dL_law_1421 (by decide) (fun _ => ?_) (fun c0 => absurd c0 (by decide))
  exact law_end C0 hK hN (Nat.le_of_ble_eq_true rfl) (Nat.le_of_ble_eq_true rfl) hS (lv_sub hl [0, 1, 2, 3] rfl)

set_option maxHeartbeats 4000000 in
set_option maxRecDepth 100000 in
theorem law_48 {p : Program} {l : Launch} {e : Env} {s : State} {m : MethodId} {below : List Frame} {meth : Method} {c : Code} {D : va_G} {cB cI cJ cZ cS cT : ClassId} {b : Nat} {xs : Nat → Int32} (C0 : lw_At p s m meth c b 6 xs) (hK : va_K D vwCl (tyL cB cI cJ cZ cS cT) s) (hN : kN s) {H : Heap} {locs : List Loc} {x0 : Nat} {m0 : Nat} {r_tape : Nat} {r_reader : Nat} {r_now : Nat} {r_trial : Nat} {r_images : Nat} {r_kept : Nat} {r_slots : Nat} {r_night : Nat} {r_other : Nat} {r_circle : Nat} {r_words : Nat} {r_law : Nat} {r_place : Nat} {r_drawn : Nat} {n_signs : Nat} {n_posts : Nat} {n_acts : Nat} {m_world : Nat} {m_images : Nat} {m_hasImage : Nat} {m_tape : Nat} {m_five : Nat} {m_fresh : Nat} {m_spokenAt : Nat} {m_heardAt : Nat} {m_lastAt : Nat} {m_answerAt : Nat} {m_heardNow : Nat} {m_seenAt : Nat} {m_fewest : Nat} {m_costNow : Nat} {m_costThen : Nat} {m_lawsOf : Nat} {m_heardBy : Nat} {m_placesOf : Nat} {m_sentIn : Nat} {m_lostBy : Nat} {m_many : Nat} {m_width : Nat} {m_numbers : Nat} {m_moving : Nat} (hP : va_P D vwCl [(x0, .inr (11, [.ref r_tape, .ref r_reader, .ref r_now, .ref r_trial, .ref r_images, .ref r_kept, .ref r_slots, .ref r_night, .ref r_other, .ref r_circle, .ref r_words, .ref r_law, .ref r_place, .ref r_drawn])), (r_now, .inr (8, [.int 0, .int 0, .int 0, .int 0, .int 0, .int 0, .int 0, .ref n_signs, .int 0, .ref n_posts, .int 0, .ref n_acts])), (m0, .inr (12, [.int 0, .ref m_world, .ref m_images, .ref m_hasImage, .ref m_tape, .int 0, .ref m_five, .int 0, .int 0, .int 0, .int 0, .int 0, .int 0, .int (-1), .ref m_fresh, .ref m_spokenAt, .ref m_heardAt, .ref m_lastAt, .ref m_answerAt, .int 0, .int 0, .int 0, .long 0, .int 0, .int 0, .ref m_heardNow, .ref m_seenAt, .int 0, .int 0, .int 0, .int 0, .int 0, .ref m_fewest, .ref m_costNow, .ref m_costThen, .ref m_lawsOf, .ref m_heardBy, .int 0, .int 0, .ref m_placesOf, .ref m_sentIn, .int 0, .int 0, .ref m_lostBy, .ref m_many, .ref m_width, .ref m_numbers, .ref m_moving])), (m_world, .inl (cI, 53, .inl (fun _ => 0)))] H) (hD : va_D (fun q : Nat => s.heap.size ≤ q) [(x0, .inr (11, [.ref r_tape, .ref r_reader, .ref r_now, .ref r_trial, .ref r_images, .ref r_kept, .ref r_slots, .ref r_night, .ref r_other, .ref r_circle, .ref r_words, .ref r_law, .ref r_place, .ref r_drawn])), (r_now, .inr (8, [.int 0, .int 0, .int 0, .int 0, .int 0, .int 0, .int 0, .ref n_signs, .int 0, .ref n_posts, .int 0, .ref n_acts])), (m0, .inr (12, [.int 0, .ref m_world, .ref m_images, .ref m_hasImage, .ref m_tape, .int 0, .ref m_five, .int 0, .int 0, .int 0, .int 0, .int 0, .int 0, .int (-1), .ref m_fresh, .ref m_spokenAt, .ref m_heardAt, .ref m_lastAt, .ref m_answerAt, .int 0, .int 0, .int 0, .long 0, .int 0, .int 0, .ref m_heardNow, .ref m_seenAt, .int 0, .int 0, .int 0, .int 0, .int 0, .ref m_fewest, .ref m_costNow, .ref m_costThen, .ref m_lawsOf, .ref m_heardBy, .int 0, .int 0, .ref m_placesOf, .ref m_sentIn, .int 0, .int 0, .ref m_lostBy, .ref m_many, .ref m_width, .ref m_numbers, .ref m_moving])), (m_world, .inl (cI, 53, .inl (fun _ => 0)))]) (hS : va_S (fun q : Nat => s.heap.size ≤ q) s.heap H locs) {ls : Array Slot} (hl : lv_has ls 4 [(0, .ref b), (1, .ref x0), (2, .ref m0), (3, .int 0)]) : W p l e room_1 s m #[Value.ref b] below meth c H locs 118 60870 (lw_Z below #[Value.ref b] s) (F0 m 1426 ls []) := by
  obtain ⟨hx, hb, hr, hml, hown, hts0, hX, hbl, hlocks, hgv⟩ := id C0
  have hts : ∀ w ∈ wsL_law, w.before #[Value.ref b] s = true := fun w h => hts0 w (wsL_law_in w h)
  have hA : ∀ q : Nat, s.heap.size ≤ q → (fun q : Nat => s.heap.size ≤ q) q := fun _ h => h
  have hbA : ¬ (fun q : Nat => s.heap.size ≤ q) b := Nat.not_le.mpr hbl
  refine lv_aload_n hx hb dL_law_1426 rfl (lv_at hl 1 rfl) ?_
  refine lv_aload_n hx hb dL_law_1427 rfl (lv_at hl 0 rfl) ?_
  refine lv_iload_n hx hb dL_law_1428 rfl (lv_at hl 3 rfl) ?_
  refine lv_iconst (v := 1) hx hb dL_law_1429 (by decide) ?_
  refine z_iadd (v := 1) hx hb dL_law_1430 (by decide) ?_
  refine va_sld hx hb hX hbl hbA hS (by unfold vp_in; decide) dL_law_1431 ?_
  refine W.eq (g2 := F0 m 1432 ls [.int (xs 1), .ref x0]) rfl ?_
  refine roi (As := [.int (xs 1)]) (rest := []) ⟨hx, hb, hml, hown, hts⟩ (kx_set l D cB cI cJ cZ cS cT x0 r_tape r_reader r_now r_trial r_images r_kept r_slots r_night r_other r_circle r_words r_law r_place r_drawn n_signs n_posts n_acts (xs 1) ) (cvB (n := 1) (inr58 _ (List.mem_of_getElem? (i := 21) rfl)) (inr58 _ (List.mem_of_getElem? (i := 22) rfl)) (inr58 _ (List.mem_of_getElem? (i := 23) rfl)) (inr1 _ (List.mem_of_getElem? (i := 2) rfl)) (inr59 _ (List.mem_of_getElem? (i := 0) rfl)) (by decide +kernel) hts rfl rfl ⟨Nat.le_of_ble_eq_true rfl, Nat.le_of_ble_eq_true rfl⟩) 0 11 rfl rfl rfl (hP.sub [0, 1] rfl) hK rfl hl.1 rfl (Nat.le_of_ble_eq_true rfl) ⟨Nat.le_of_ble_eq_true rfl, Nat.le_of_ble_eq_true rfl⟩ dL_law_1432 (fun r_1 h_2 => ?_)
  obtain rfl := h_2
  refine lv_aload_n hx hb dL_law_1435 rfl (lv_at hl 2 rfl) ?_
  refine lv_aload_n hx hb dL_law_1436 rfl (lv_at hl 0 rfl) ?_
  refine lv_iload_n hx hb dL_law_1437 rfl (lv_at hl 3 rfl) ?_
  refine lv_iconst (v := 1) hx hb dL_law_1438 (by decide) ?_
  refine z_iadd (v := 1) hx hb dL_law_1439 (by decide) ?_
  refine va_sld hx hb hX hbl hbA hS (by unfold vp_in; decide) dL_law_1440 ?_
  refine W.eq (g2 := F0 m 1441 ls [.int (xs 1), .ref m0, .int (-2)]) rfl ?_
  refine roi (As := [.int (xs 1)]) (rest := [.int (-2)]) ⟨hx, hb, hml, hown, hts⟩ (km_set l D cB cI cJ cZ cS cT m0 m_world m_images m_hasImage m_tape m_five m_fresh m_spokenAt m_heardAt m_lastAt m_answerAt m_heardNow m_seenAt m_fewest m_costNow m_costThen m_lawsOf m_heardBy m_placesOf m_sentIn m_lostBy m_many m_width m_numbers m_moving (xs 1) ) (cvB (n := 1) (inr59 _ (List.mem_of_getElem? (i := 16) rfl)) (inr59 _ (List.mem_of_getElem? (i := 17) rfl)) (inr59 _ (List.mem_of_getElem? (i := 18) rfl)) (inr1 _ (List.mem_of_getElem? (i := 5) rfl)) (inr59 _ (List.mem_of_getElem? (i := 19) rfl)) (by decide +kernel) hts rfl rfl ⟨Nat.le_of_ble_eq_true rfl, Nat.le_of_ble_eq_true rfl⟩) 0 12 rfl rfl rfl (hP.sub [2, 3] rfl) hK rfl hl.1 rfl (Nat.le_of_ble_eq_true rfl) ⟨Nat.le_of_ble_eq_true rfl, Nat.le_of_ble_eq_true rfl⟩ dL_law_1441 (fun r_3 h_4 => ?_)
  obtain rfl := h_4
  refine lv_icmp_eq (tgt := 2116) hx hb dL_law_1444 (by decide) (fun _ => ?_) (fun c0 => absurd c0 (by decide))
  exact law_end C0 hK hN (Nat.le_of_ble_eq_true rfl) (Nat.le_of_ble_eq_true rfl) hS (lv_sub hl [0, 1, 2, 3] rfl)

set_option maxHeartbeats 4000000 in
set_option maxRecDepth 100000 in
theorem law_49 {p : Program} {l : Launch} {e : Env} {s : State} {m : MethodId} {below : List Frame} {meth : Method} {c : Code} {D : va_G} {cB cI cJ cZ cS cT : ClassId} {b : Nat} {xs : Nat → Int32} (C0 : lw_At p s m meth c b 6 xs) (hK : va_K D vwCl (tyL cB cI cJ cZ cS cT) s) (hN : kN s) {H : Heap} {locs : List Loc} {x0 : Nat} {m0 : Nat} {r_tape : Nat} {r_reader : Nat} {r_now : Nat} {r_trial : Nat} {r_images : Nat} {r_kept : Nat} {r_slots : Nat} {r_night : Nat} {r_other : Nat} {r_circle : Nat} {r_words : Nat} {r_law : Nat} {r_place : Nat} {r_drawn : Nat} {n_signs : Nat} {n_posts : Nat} {n_acts : Nat} {m_world : Nat} {m_images : Nat} {m_hasImage : Nat} {m_tape : Nat} {m_five : Nat} {m_fresh : Nat} {m_spokenAt : Nat} {m_heardAt : Nat} {m_lastAt : Nat} {m_answerAt : Nat} {m_heardNow : Nat} {m_seenAt : Nat} {m_fewest : Nat} {m_costNow : Nat} {m_costThen : Nat} {m_lawsOf : Nat} {m_heardBy : Nat} {m_placesOf : Nat} {m_sentIn : Nat} {m_lostBy : Nat} {m_many : Nat} {m_width : Nat} {m_numbers : Nat} {m_moving : Nat} (hP : va_P D vwCl [(x0, .inr (11, [.ref r_tape, .ref r_reader, .ref r_now, .ref r_trial, .ref r_images, .ref r_kept, .ref r_slots, .ref r_night, .ref r_other, .ref r_circle, .ref r_words, .ref r_law, .ref r_place, .ref r_drawn])), (r_now, .inr (8, [.int 0, .int 0, .int 0, .int 0, .int 0, .int 0, .int 0, .ref n_signs, .int 0, .ref n_posts, .int 0, .ref n_acts])), (m0, .inr (12, [.int 0, .ref m_world, .ref m_images, .ref m_hasImage, .ref m_tape, .int 0, .ref m_five, .int 0, .int 0, .int 0, .int 0, .int 0, .int 0, .int (-1), .ref m_fresh, .ref m_spokenAt, .ref m_heardAt, .ref m_lastAt, .ref m_answerAt, .int 0, .int 0, .int 0, .long 0, .int 0, .int 0, .ref m_heardNow, .ref m_seenAt, .int 0, .int 0, .int 0, .int 0, .int 0, .ref m_fewest, .ref m_costNow, .ref m_costThen, .ref m_lawsOf, .ref m_heardBy, .int 0, .int 0, .ref m_placesOf, .ref m_sentIn, .int 0, .int 0, .ref m_lostBy, .ref m_many, .ref m_width, .ref m_numbers, .ref m_moving])), (m_world, .inl (cI, 53, .inl (fun _ => 0)))] H) (hD : va_D (fun q : Nat => s.heap.size ≤ q) [(x0, .inr (11, [.ref r_tape, .ref r_reader, .ref r_now, .ref r_trial, .ref r_images, .ref r_kept, .ref r_slots, .ref r_night, .ref r_other, .ref r_circle, .ref r_words, .ref r_law, .ref r_place, .ref r_drawn])), (r_now, .inr (8, [.int 0, .int 0, .int 0, .int 0, .int 0, .int 0, .int 0, .ref n_signs, .int 0, .ref n_posts, .int 0, .ref n_acts])), (m0, .inr (12, [.int 0, .ref m_world, .ref m_images, .ref m_hasImage, .ref m_tape, .int 0, .ref m_five, .int 0, .int 0, .int 0, .int 0, .int 0, .int 0, .int (-1), .ref m_fresh, .ref m_spokenAt, .ref m_heardAt, .ref m_lastAt, .ref m_answerAt, .int 0, .int 0, .int 0, .long 0, .int 0, .int 0, .ref m_heardNow, .ref m_seenAt, .int 0, .int 0, .int 0, .int 0, .int 0, .ref m_fewest, .ref m_costNow, .ref m_costThen, .ref m_lawsOf, .ref m_heardBy, .int 0, .int 0, .ref m_placesOf, .ref m_sentIn, .int 0, .int 0, .ref m_lostBy, .ref m_many, .ref m_width, .ref m_numbers, .ref m_moving])), (m_world, .inl (cI, 53, .inl (fun _ => 0)))]) (hS : va_S (fun q : Nat => s.heap.size ≤ q) s.heap H locs) {ls : Array Slot} (hl : lv_has ls 4 [(0, .ref b), (1, .ref x0), (2, .ref m0), (3, .int 0)]) : W p l e room_1 s m #[Value.ref b] below meth c H locs 118 60870 (lw_Z below #[Value.ref b] s) (F0 m 1449 ls []) := by
  obtain ⟨hx, hb, hr, hml, hown, hts0, hX, hbl, hlocks, hgv⟩ := id C0
  have hts : ∀ w ∈ wsL_law, w.before #[Value.ref b] s = true := fun w h => hts0 w (wsL_law_in w h)
  have hA : ∀ q : Nat, s.heap.size ≤ q → (fun q : Nat => s.heap.size ≤ q) q := fun _ h => h
  have hbA : ¬ (fun q : Nat => s.heap.size ≤ q) b := Nat.not_le.mpr hbl
  refine lv_aload_n hx hb dL_law_1449 rfl (lv_at hl 1 rfl) ?_
  refine lv_aload_n hx hb dL_law_1450 rfl (lv_at hl 0 rfl) ?_
  refine lv_iload_n hx hb dL_law_1451 rfl (lv_at hl 3 rfl) ?_
  refine lv_iconst (v := 1) hx hb dL_law_1452 (by decide) ?_
  refine z_iadd (v := 1) hx hb dL_law_1453 (by decide) ?_
  refine va_sld hx hb hX hbl hbA hS (by unfold vp_in; decide) dL_law_1454 ?_
  refine W.eq (g2 := F0 m 1455 ls [.int (xs 1), .ref x0]) rfl ?_
  refine roi (As := [.int (xs 1)]) (rest := []) ⟨hx, hb, hml, hown, hts⟩ (kx_parents l D cB cI cJ cZ cS cT x0 r_tape r_reader r_now r_trial r_images r_kept r_slots r_night r_other r_circle r_words r_law r_place r_drawn n_signs n_posts n_acts (xs 1) ) (cvB (n := 1) (inr60 _ (List.mem_of_getElem? (i := 0) rfl)) (inr60 _ (List.mem_of_getElem? (i := 1) rfl)) (inr60 _ (List.mem_of_getElem? (i := 2) rfl)) (inr1 _ (List.mem_of_getElem? (i := 2) rfl)) (inr60 _ (List.mem_of_getElem? (i := 3) rfl)) (by decide +kernel) hts rfl rfl ⟨Nat.le_of_ble_eq_true rfl, Nat.le_of_ble_eq_true rfl⟩) 0 11 rfl rfl rfl (hP.sub [0, 1] rfl) hK rfl hl.1 rfl (Nat.le_of_ble_eq_true rfl) ⟨Nat.le_of_ble_eq_true rfl, Nat.le_of_ble_eq_true rfl⟩ dL_law_1455 (fun r_1 h_2 => ?_)
  obtain rfl := h_2
  refine lv_aload_n hx hb dL_law_1458 rfl (lv_at hl 2 rfl) ?_
  refine lv_aload_n hx hb dL_law_1459 rfl (lv_at hl 0 rfl) ?_
  refine lv_iload_n hx hb dL_law_1460 rfl (lv_at hl 3 rfl) ?_
  refine lv_iconst (v := 1) hx hb dL_law_1461 (by decide) ?_
  refine z_iadd (v := 1) hx hb dL_law_1462 (by decide) ?_
  refine va_sld hx hb hX hbl hbA hS (by unfold vp_in; decide) dL_law_1463 ?_
  refine W.eq (g2 := F0 m 1464 ls [.int (xs 1), .ref m0, .int (-2)]) rfl ?_
  refine roi (As := [.int (xs 1)]) (rest := [.int (-2)]) ⟨hx, hb, hml, hown, hts⟩ (km_parents l D cB cI cJ cZ cS cT m0 m_world m_images m_hasImage m_tape m_five m_fresh m_spokenAt m_heardAt m_lastAt m_answerAt m_heardNow m_seenAt m_fewest m_costNow m_costThen m_lawsOf m_heardBy m_placesOf m_sentIn m_lostBy m_many m_width m_numbers m_moving (xs 1) ) (cvB (n := 1) (inr60 _ (List.mem_of_getElem? (i := 9) rfl)) (inr60 _ (List.mem_of_getElem? (i := 10) rfl)) (inr60 _ (List.mem_of_getElem? (i := 11) rfl)) (inr1 _ (List.mem_of_getElem? (i := 5) rfl)) (inr60 _ (List.mem_of_getElem? (i := 12) rfl)) (by decide +kernel) hts rfl rfl ⟨Nat.le_of_ble_eq_true rfl, Nat.le_of_ble_eq_true rfl⟩) 0 12 rfl rfl rfl (hP.sub [2, 3] rfl) hK rfl hl.1 rfl (Nat.le_of_ble_eq_true rfl) ⟨Nat.le_of_ble_eq_true rfl, Nat.le_of_ble_eq_true rfl⟩ dL_law_1464 (fun r_3 h_4 => ?_)
  obtain rfl := h_4
  refine lv_icmp_eq (tgt := 2116) hx hb dL_law_1467 (by decide) (fun _ => ?_) (fun c0 => absurd c0 (by decide))
  exact law_end C0 hK hN (Nat.le_of_ble_eq_true rfl) (Nat.le_of_ble_eq_true rfl) hS (lv_sub hl [0, 1, 2, 3] rfl)

set_option maxHeartbeats 4000000 in
set_option maxRecDepth 100000 in
theorem law_50 {p : Program} {l : Launch} {e : Env} {s : State} {m : MethodId} {below : List Frame} {meth : Method} {c : Code} {D : va_G} {cB cI cJ cZ cS cT : ClassId} {b : Nat} {xs : Nat → Int32} (C0 : lw_At p s m meth c b 6 xs) (hK : va_K D vwCl (tyL cB cI cJ cZ cS cT) s) (hN : kN s) {H : Heap} {locs : List Loc} {x0 : Nat} {m0 : Nat} {r_tape : Nat} {r_reader : Nat} {r_now : Nat} {r_trial : Nat} {r_images : Nat} {r_kept : Nat} {r_slots : Nat} {r_night : Nat} {r_other : Nat} {r_circle : Nat} {r_words : Nat} {r_law : Nat} {r_place : Nat} {r_drawn : Nat} {n_signs : Nat} {n_posts : Nat} {n_acts : Nat} {m_world : Nat} {m_images : Nat} {m_hasImage : Nat} {m_tape : Nat} {m_five : Nat} {m_fresh : Nat} {m_spokenAt : Nat} {m_heardAt : Nat} {m_lastAt : Nat} {m_answerAt : Nat} {m_heardNow : Nat} {m_seenAt : Nat} {m_fewest : Nat} {m_costNow : Nat} {m_costThen : Nat} {m_lawsOf : Nat} {m_heardBy : Nat} {m_placesOf : Nat} {m_sentIn : Nat} {m_lostBy : Nat} {m_many : Nat} {m_width : Nat} {m_numbers : Nat} {m_moving : Nat} (hP : va_P D vwCl [(x0, .inr (11, [.ref r_tape, .ref r_reader, .ref r_now, .ref r_trial, .ref r_images, .ref r_kept, .ref r_slots, .ref r_night, .ref r_other, .ref r_circle, .ref r_words, .ref r_law, .ref r_place, .ref r_drawn])), (r_now, .inr (8, [.int 0, .int 0, .int 0, .int 0, .int 0, .int 0, .int 0, .ref n_signs, .int 0, .ref n_posts, .int 0, .ref n_acts])), (m0, .inr (12, [.int 0, .ref m_world, .ref m_images, .ref m_hasImage, .ref m_tape, .int 0, .ref m_five, .int 0, .int 0, .int 0, .int 0, .int 0, .int 0, .int (-1), .ref m_fresh, .ref m_spokenAt, .ref m_heardAt, .ref m_lastAt, .ref m_answerAt, .int 0, .int 0, .int 0, .long 0, .int 0, .int 0, .ref m_heardNow, .ref m_seenAt, .int 0, .int 0, .int 0, .int 0, .int 0, .ref m_fewest, .ref m_costNow, .ref m_costThen, .ref m_lawsOf, .ref m_heardBy, .int 0, .int 0, .ref m_placesOf, .ref m_sentIn, .int 0, .int 0, .ref m_lostBy, .ref m_many, .ref m_width, .ref m_numbers, .ref m_moving])), (m_world, .inl (cI, 53, .inl (fun _ => 0)))] H) (hD : va_D (fun q : Nat => s.heap.size ≤ q) [(x0, .inr (11, [.ref r_tape, .ref r_reader, .ref r_now, .ref r_trial, .ref r_images, .ref r_kept, .ref r_slots, .ref r_night, .ref r_other, .ref r_circle, .ref r_words, .ref r_law, .ref r_place, .ref r_drawn])), (r_now, .inr (8, [.int 0, .int 0, .int 0, .int 0, .int 0, .int 0, .int 0, .ref n_signs, .int 0, .ref n_posts, .int 0, .ref n_acts])), (m0, .inr (12, [.int 0, .ref m_world, .ref m_images, .ref m_hasImage, .ref m_tape, .int 0, .ref m_five, .int 0, .int 0, .int 0, .int 0, .int 0, .int 0, .int (-1), .ref m_fresh, .ref m_spokenAt, .ref m_heardAt, .ref m_lastAt, .ref m_answerAt, .int 0, .int 0, .int 0, .long 0, .int 0, .int 0, .ref m_heardNow, .ref m_seenAt, .int 0, .int 0, .int 0, .int 0, .int 0, .ref m_fewest, .ref m_costNow, .ref m_costThen, .ref m_lawsOf, .ref m_heardBy, .int 0, .int 0, .ref m_placesOf, .ref m_sentIn, .int 0, .int 0, .ref m_lostBy, .ref m_many, .ref m_width, .ref m_numbers, .ref m_moving])), (m_world, .inl (cI, 53, .inl (fun _ => 0)))]) (hS : va_S (fun q : Nat => s.heap.size ≤ q) s.heap H locs) {ls : Array Slot} (hl : lv_has ls 4 [(0, .ref b), (1, .ref x0), (2, .ref m0), (3, .int 0)]) : W p l e room_1 s m #[Value.ref b] below meth c H locs 118 60870 (lw_Z below #[Value.ref b] s) (F0 m 1472 ls []) := by
  obtain ⟨hx, hb, hr, hml, hown, hts0, hX, hbl, hlocks, hgv⟩ := id C0
  have hts : ∀ w ∈ wsL_law, w.before #[Value.ref b] s = true := fun w h => hts0 w (wsL_law_in w h)
  have hA : ∀ q : Nat, s.heap.size ≤ q → (fun q : Nat => s.heap.size ≤ q) q := fun _ h => h
  have hbA : ¬ (fun q : Nat => s.heap.size ≤ q) b := Nat.not_le.mpr hbl
  refine lv_aload_n hx hb dL_law_1472 rfl (lv_at hl 1 rfl) ?_
  refine lv_aload_n hx hb dL_law_1473 rfl (lv_at hl 0 rfl) ?_
  refine lv_iload_n hx hb dL_law_1474 rfl (lv_at hl 3 rfl) ?_
  refine lv_iconst (v := 1) hx hb dL_law_1475 (by decide) ?_
  refine z_iadd (v := 1) hx hb dL_law_1476 (by decide) ?_
  refine va_sld hx hb hX hbl hbA hS (by unfold vp_in; decide) dL_law_1477 ?_
  refine W.eq (g2 := F0 m 1478 ls [.int (xs 1), .ref x0]) rfl ?_
  refine roi (As := [.int (xs 1)]) (rest := []) ⟨hx, hb, hml, hown, hts⟩ (kx_parent l D cB cI cJ cZ cS cT x0 r_tape r_reader r_now r_trial r_images r_kept r_slots r_night r_other r_circle r_words r_law r_place r_drawn n_signs n_posts n_acts (xs 1) ) (cvB (n := 1) (inr60 _ (List.mem_of_getElem? (i := 18) rfl)) (inr60 _ (List.mem_of_getElem? (i := 19) rfl)) (inr60 _ (List.mem_of_getElem? (i := 20) rfl)) (inr1 _ (List.mem_of_getElem? (i := 2) rfl)) (inr60 _ (List.mem_of_getElem? (i := 21) rfl)) (by decide +kernel) hts rfl rfl ⟨Nat.le_of_ble_eq_true rfl, Nat.le_of_ble_eq_true rfl⟩) 0 11 rfl rfl rfl (hP.sub [0, 1] rfl) hK rfl hl.1 rfl (Nat.le_of_ble_eq_true rfl) ⟨Nat.le_of_ble_eq_true rfl, Nat.le_of_ble_eq_true rfl⟩ dL_law_1478 (fun r_1 h_2 => ?_)
  obtain rfl := h_2
  refine lv_aload_n hx hb dL_law_1481 rfl (lv_at hl 2 rfl) ?_
  refine lv_aload_n hx hb dL_law_1482 rfl (lv_at hl 0 rfl) ?_
  refine lv_iload_n hx hb dL_law_1483 rfl (lv_at hl 3 rfl) ?_
  refine lv_iconst (v := 1) hx hb dL_law_1484 (by decide) ?_
  refine z_iadd (v := 1) hx hb dL_law_1485 (by decide) ?_
  refine va_sld hx hb hX hbl hbA hS (by unfold vp_in; decide) dL_law_1486 ?_
  refine W.eq (g2 := F0 m 1487 ls [.int (xs 1), .ref m0, .int (-2)]) rfl ?_
  refine roi (As := [.int (xs 1)]) (rest := [.int (-2)]) ⟨hx, hb, hml, hown, hts⟩ (km_parent l D cB cI cJ cZ cS cT m0 m_world m_images m_hasImage m_tape m_five m_fresh m_spokenAt m_heardAt m_lastAt m_answerAt m_heardNow m_seenAt m_fewest m_costNow m_costThen m_lawsOf m_heardBy m_placesOf m_sentIn m_lostBy m_many m_width m_numbers m_moving (xs 1) ) (cvB (n := 1) (inr60 _ (List.mem_of_getElem? (i := 22) rfl)) (inr60 _ (List.mem_of_getElem? (i := 23) rfl)) (inr61 _ (List.mem_of_getElem? (i := 0) rfl)) (inr1 _ (List.mem_of_getElem? (i := 5) rfl)) (inr61 _ (List.mem_of_getElem? (i := 1) rfl)) (by decide +kernel) hts rfl rfl ⟨Nat.le_of_ble_eq_true rfl, Nat.le_of_ble_eq_true rfl⟩) 0 12 rfl rfl rfl (hP.sub [2, 3] rfl) hK rfl hl.1 rfl (Nat.le_of_ble_eq_true rfl) ⟨Nat.le_of_ble_eq_true rfl, Nat.le_of_ble_eq_true rfl⟩ dL_law_1487 (fun r_3 h_4 => ?_)
  obtain rfl := h_4
  refine lv_icmp_eq (tgt := 2116) hx hb dL_law_1490 (by decide) (fun _ => ?_) (fun c0 => absurd c0 (by decide))
  exact law_end C0 hK hN (Nat.le_of_ble_eq_true rfl) (Nat.le_of_ble_eq_true rfl) hS (lv_sub hl [0, 1, 2, 3] rfl)

set_option maxHeartbeats 4000000 in
set_option maxRecDepth 100000 in
theorem law_51 {p : Program} {l : Launch} {e : Env} {s : State} {m : MethodId} {below : List Frame} {meth : Method} {c : Code} {D : va_G} {cB cI cJ cZ cS cT : ClassId} {b : Nat} {xs : Nat → Int32} (C0 : lw_At p s m meth c b 6 xs) (hK : va_K D vwCl (tyL cB cI cJ cZ cS cT) s) (hN : kN s) {H : Heap} {locs : List Loc} {x0 : Nat} {m0 : Nat} {r_tape : Nat} {r_reader : Nat} {r_now : Nat} {r_trial : Nat} {r_images : Nat} {r_kept : Nat} {r_slots : Nat} {r_night : Nat} {r_other : Nat} {r_circle : Nat} {r_words : Nat} {r_law : Nat} {r_place : Nat} {r_drawn : Nat} {n_signs : Nat} {n_posts : Nat} {n_acts : Nat} {m_world : Nat} {m_images : Nat} {m_hasImage : Nat} {m_tape : Nat} {m_five : Nat} {m_fresh : Nat} {m_spokenAt : Nat} {m_heardAt : Nat} {m_lastAt : Nat} {m_answerAt : Nat} {m_heardNow : Nat} {m_seenAt : Nat} {m_fewest : Nat} {m_costNow : Nat} {m_costThen : Nat} {m_lawsOf : Nat} {m_heardBy : Nat} {m_placesOf : Nat} {m_sentIn : Nat} {m_lostBy : Nat} {m_many : Nat} {m_width : Nat} {m_numbers : Nat} {m_moving : Nat} (hP : va_P D vwCl [(x0, .inr (11, [.ref r_tape, .ref r_reader, .ref r_now, .ref r_trial, .ref r_images, .ref r_kept, .ref r_slots, .ref r_night, .ref r_other, .ref r_circle, .ref r_words, .ref r_law, .ref r_place, .ref r_drawn])), (r_now, .inr (8, [.int 0, .int 0, .int 0, .int 0, .int 0, .int 0, .int 0, .ref n_signs, .int 0, .ref n_posts, .int 0, .ref n_acts])), (m0, .inr (12, [.int 0, .ref m_world, .ref m_images, .ref m_hasImage, .ref m_tape, .int 0, .ref m_five, .int 0, .int 0, .int 0, .int 0, .int 0, .int 0, .int (-1), .ref m_fresh, .ref m_spokenAt, .ref m_heardAt, .ref m_lastAt, .ref m_answerAt, .int 0, .int 0, .int 0, .long 0, .int 0, .int 0, .ref m_heardNow, .ref m_seenAt, .int 0, .int 0, .int 0, .int 0, .int 0, .ref m_fewest, .ref m_costNow, .ref m_costThen, .ref m_lawsOf, .ref m_heardBy, .int 0, .int 0, .ref m_placesOf, .ref m_sentIn, .int 0, .int 0, .ref m_lostBy, .ref m_many, .ref m_width, .ref m_numbers, .ref m_moving])), (m_world, .inl (cI, 53, .inl (fun _ => 0))), (m_spokenAt, .inl (cI, 61, .inl (fun _ => 0)))] H) (hD : va_D (fun q : Nat => s.heap.size ≤ q) [(x0, .inr (11, [.ref r_tape, .ref r_reader, .ref r_now, .ref r_trial, .ref r_images, .ref r_kept, .ref r_slots, .ref r_night, .ref r_other, .ref r_circle, .ref r_words, .ref r_law, .ref r_place, .ref r_drawn])), (r_now, .inr (8, [.int 0, .int 0, .int 0, .int 0, .int 0, .int 0, .int 0, .ref n_signs, .int 0, .ref n_posts, .int 0, .ref n_acts])), (m0, .inr (12, [.int 0, .ref m_world, .ref m_images, .ref m_hasImage, .ref m_tape, .int 0, .ref m_five, .int 0, .int 0, .int 0, .int 0, .int 0, .int 0, .int (-1), .ref m_fresh, .ref m_spokenAt, .ref m_heardAt, .ref m_lastAt, .ref m_answerAt, .int 0, .int 0, .int 0, .long 0, .int 0, .int 0, .ref m_heardNow, .ref m_seenAt, .int 0, .int 0, .int 0, .int 0, .int 0, .ref m_fewest, .ref m_costNow, .ref m_costThen, .ref m_lawsOf, .ref m_heardBy, .int 0, .int 0, .ref m_placesOf, .ref m_sentIn, .int 0, .int 0, .ref m_lostBy, .ref m_many, .ref m_width, .ref m_numbers, .ref m_moving])), (m_world, .inl (cI, 53, .inl (fun _ => 0))), (m_spokenAt, .inl (cI, 61, .inl (fun _ => 0)))]) (hS : va_S (fun q : Nat => s.heap.size ≤ q) s.heap H locs) {ls : Array Slot} (hl : lv_has ls 4 [(0, .ref b), (1, .ref x0), (2, .ref m0), (3, .int 0)]) : W p l e room_1 s m #[Value.ref b] below meth c H locs 118 60870 (lw_Z below #[Value.ref b] s) (F0 m 1495 ls []) := by
  obtain ⟨hx, hb, hr, hml, hown, hts0, hX, hbl, hlocks, hgv⟩ := id C0
  have hts : ∀ w ∈ wsL_law, w.before #[Value.ref b] s = true := fun w h => hts0 w (wsL_law_in w h)
  have hA : ∀ q : Nat, s.heap.size ≤ q → (fun q : Nat => s.heap.size ≤ q) q := fun _ h => h
  have hbA : ¬ (fun q : Nat => s.heap.size ≤ q) b := Nat.not_le.mpr hbl
  refine lv_aload_n hx hb dL_law_1495 rfl (lv_at hl 1 rfl) ?_
  refine lv_aload_n hx hb dL_law_1496 rfl (lv_at hl 0 rfl) ?_
  refine lv_iload_n hx hb dL_law_1497 rfl (lv_at hl 3 rfl) ?_
  refine lv_iconst (v := 1) hx hb dL_law_1498 (by decide) ?_
  refine z_iadd (v := 1) hx hb dL_law_1499 (by decide) ?_
  refine va_sld hx hb hX hbl hbA hS (by unfold vp_in; decide) dL_law_1500 ?_
  refine W.eq (g2 := F0 m 1501 ls [.int (xs 1), .ref x0]) rfl ?_
  refine lv_aload_n hx hb dL_law_1501 rfl (lv_at hl 0 rfl) ?_
  refine lv_iload_n hx hb dL_law_1502 rfl (lv_at hl 3 rfl) ?_
  refine lv_iconst (v := 2) hx hb dL_law_1503 (by decide) ?_
  refine z_iadd (v := 2) hx hb dL_law_1504 (by decide) ?_
  refine va_sld hx hb hX hbl hbA hS (by unfold vp_in; decide) dL_law_1505 ?_
  refine W.eq (g2 := F0 m 1506 ls [.int (xs 2), .int (xs 1), .ref x0]) rfl ?_
  refine roi (As := [.int (xs 1), .int (xs 2)]) (rest := []) ⟨hx, hb, hml, hown, hts⟩ (kx_clock l D cB cI cJ cZ cS cT x0 r_tape r_reader r_now r_trial r_images r_kept r_slots r_night r_other r_circle r_words r_law r_place r_drawn n_signs n_posts n_acts (xs 1) (xs 2) ) (cvB (n := 2) (inr61 _ (List.mem_of_getElem? (i := 2) rfl)) (inr61 _ (List.mem_of_getElem? (i := 3) rfl)) (inr61 _ (List.mem_of_getElem? (i := 4) rfl)) (inr1 _ (List.mem_of_getElem? (i := 2) rfl)) (inr61 _ (List.mem_of_getElem? (i := 5) rfl)) (by decide +kernel) hts rfl rfl ⟨Nat.le_of_ble_eq_true rfl, Nat.le_of_ble_eq_true rfl⟩) 0 11 rfl rfl rfl (hP.sub [0, 1] rfl) hK rfl hl.1 rfl (Nat.le_of_ble_eq_true rfl) ⟨Nat.le_of_ble_eq_true rfl, Nat.le_of_ble_eq_true rfl⟩ dL_law_1506 (fun r_1 h_2 => ?_)
  obtain rfl := h_2
  refine lv_aload_n hx hb dL_law_1509 rfl (lv_at hl 2 rfl) ?_
  refine lv_aload_n hx hb dL_law_1510 rfl (lv_at hl 0 rfl) ?_
  refine lv_iload_n hx hb dL_law_1511 rfl (lv_at hl 3 rfl) ?_
  refine lv_iconst (v := 1) hx hb dL_law_1512 (by decide) ?_
  refine z_iadd (v := 1) hx hb dL_law_1513 (by decide) ?_
  refine va_sld hx hb hX hbl hbA hS (by unfold vp_in; decide) dL_law_1514 ?_
  refine W.eq (g2 := F0 m 1515 ls [.int (xs 1), .ref m0, .int (-1000000)]) rfl ?_
  refine lv_aload_n hx hb dL_law_1515 rfl (lv_at hl 0 rfl) ?_
  refine lv_iload_n hx hb dL_law_1516 rfl (lv_at hl 3 rfl) ?_
  refine lv_iconst (v := 2) hx hb dL_law_1517 (by decide) ?_
  refine z_iadd (v := 2) hx hb dL_law_1518 (by decide) ?_
  refine va_sld hx hb hX hbl hbA hS (by unfold vp_in; decide) dL_law_1519 ?_
  refine W.eq (g2 := F0 m 1520 ls [.int (xs 2), .int (xs 1), .ref m0, .int (-1000000)]) rfl ?_
  refine wrVi (As := [.int (xs 1), .int (xs 2)]) (rest := [.int (-1000000)]) (wr := [(x0, .inr (11, [.ref r_tape, .ref r_reader, .ref r_now, .ref r_trial, .ref r_images, .ref r_kept, .ref r_slots, .ref r_night, .ref r_other, .ref r_circle, .ref r_words, .ref r_law, .ref r_place, .ref r_drawn])), (r_now, .inr (8, [.int 0, .int 0, .int 0, .int 0, .int 0, .int 0, .int 0, .ref n_signs, .int 0, .ref n_posts, .int 0, .ref n_acts]))]) ⟨hx, hb, hml, hown, hts⟩ (km_clock l D cB cI cJ cZ cS cT H.size m0 m_world m_images m_hasImage m_tape m_five m_fresh m_spokenAt m_heardAt m_lastAt m_answerAt m_heardNow m_seenAt m_fewest m_costNow m_costThen m_lawsOf m_heardBy m_placesOf m_sentIn m_lostBy m_many m_width m_numbers m_moving (fun _ => 0) (xs 1) (xs 2) ) hP hD hS hA hK hN [2, 3, 4] [0, 1] rfl rfl (by decide) (by decide) (by decide) (cvB (n := 2) (inr61 _ (List.mem_of_getElem? (i := 14) rfl)) (inr61 _ (List.mem_of_getElem? (i := 15) rfl)) (inr61 _ (List.mem_of_getElem? (i := 16) rfl)) (inr1 _ (List.mem_of_getElem? (i := 5) rfl)) (inr61 _ (List.mem_of_getElem? (i := 17) rfl)) (by decide +kernel) hts rfl rfl ⟨Nat.le_of_ble_eq_true rfl, Nat.le_of_ble_eq_true rfl⟩) 0 12 rfl rfl rfl rfl hl.1 rfl (Nat.le_of_ble_eq_true rfl) ⟨Nat.le_of_ble_eq_true rfl, Nat.le_of_ble_eq_true rfl⟩ dL_law_1520 (fun r_3 x9 H locs h_4 hP hD hS => ?_)
  have hP : va_P D vwCl [(x0, .inr (11, [.ref r_tape, .ref r_reader, .ref r_now, .ref r_trial, .ref r_images, .ref r_kept, .ref r_slots, .ref r_night, .ref r_other, .ref r_circle, .ref r_words, .ref r_law, .ref r_place, .ref r_drawn])), (r_now, .inr (8, [.int 0, .int 0, .int 0, .int 0, .int 0, .int 0, .int 0, .ref n_signs, .int 0, .ref n_posts, .int 0, .ref n_acts]))] H := hP
  have hD : va_D (fun q : Nat => s.heap.size ≤ q) [(x0, .inr (11, [.ref r_tape, .ref r_reader, .ref r_now, .ref r_trial, .ref r_images, .ref r_kept, .ref r_slots, .ref r_night, .ref r_other, .ref r_circle, .ref r_words, .ref r_law, .ref r_place, .ref r_drawn])), (r_now, .inr (8, [.int 0, .int 0, .int 0, .int 0, .int 0, .int 0, .int 0, .ref n_signs, .int 0, .ref n_posts, .int 0, .ref n_acts]))] := hD
  obtain rfl := h_4
  refine lv_icmp_eq (tgt := 2116) hx hb dL_law_1523 (by decide) (fun _ => ?_) (fun c0 => absurd c0 (by decide))
  exact law_end C0 hK hN (Nat.le_of_ble_eq_true rfl) (Nat.le_of_ble_eq_true rfl) hS (lv_sub hl [0, 1, 2, 3] rfl)

set_option maxHeartbeats 4000000 in
set_option maxRecDepth 100000 in
theorem law_52 {p : Program} {l : Launch} {e : Env} {s : State} {m : MethodId} {below : List Frame} {meth : Method} {c : Code} {D : va_G} {cB cI cJ cZ cS cT : ClassId} {b : Nat} {xs : Nat → Int32} (C0 : lw_At p s m meth c b 6 xs) (hK : va_K D vwCl (tyL cB cI cJ cZ cS cT) s) (hN : kN s) {H : Heap} {locs : List Loc} {x0 : Nat} {m0 : Nat} {r_tape : Nat} {r_reader : Nat} {r_now : Nat} {r_trial : Nat} {r_images : Nat} {r_kept : Nat} {r_slots : Nat} {r_night : Nat} {r_other : Nat} {r_circle : Nat} {r_words : Nat} {r_law : Nat} {r_place : Nat} {r_drawn : Nat} {n_signs : Nat} {n_posts : Nat} {n_acts : Nat} {m_world : Nat} {m_images : Nat} {m_hasImage : Nat} {m_tape : Nat} {m_five : Nat} {m_fresh : Nat} {m_spokenAt : Nat} {m_heardAt : Nat} {m_lastAt : Nat} {m_answerAt : Nat} {m_heardNow : Nat} {m_seenAt : Nat} {m_fewest : Nat} {m_costNow : Nat} {m_costThen : Nat} {m_lawsOf : Nat} {m_heardBy : Nat} {m_placesOf : Nat} {m_sentIn : Nat} {m_lostBy : Nat} {m_many : Nat} {m_width : Nat} {m_numbers : Nat} {m_moving : Nat} (hP : va_P D vwCl [(x0, .inr (11, [.ref r_tape, .ref r_reader, .ref r_now, .ref r_trial, .ref r_images, .ref r_kept, .ref r_slots, .ref r_night, .ref r_other, .ref r_circle, .ref r_words, .ref r_law, .ref r_place, .ref r_drawn])), (r_now, .inr (8, [.int 0, .int 0, .int 0, .int 0, .int 0, .int 0, .int 0, .ref n_signs, .int 0, .ref n_posts, .int 0, .ref n_acts])), (m0, .inr (12, [.int 0, .ref m_world, .ref m_images, .ref m_hasImage, .ref m_tape, .int 0, .ref m_five, .int 0, .int 0, .int 0, .int 0, .int 0, .int 0, .int (-1), .ref m_fresh, .ref m_spokenAt, .ref m_heardAt, .ref m_lastAt, .ref m_answerAt, .int 0, .int 0, .int 0, .long 0, .int 0, .int 0, .ref m_heardNow, .ref m_seenAt, .int 0, .int 0, .int 0, .int 0, .int 0, .ref m_fewest, .ref m_costNow, .ref m_costThen, .ref m_lawsOf, .ref m_heardBy, .int 0, .int 0, .ref m_placesOf, .ref m_sentIn, .int 0, .int 0, .ref m_lostBy, .ref m_many, .ref m_width, .ref m_numbers, .ref m_moving])), (m_world, .inl (cI, 53, .inl (fun _ => 0))), (m_spokenAt, .inl (cI, 61, .inl (fun _ => 0)))] H) (hD : va_D (fun q : Nat => s.heap.size ≤ q) [(x0, .inr (11, [.ref r_tape, .ref r_reader, .ref r_now, .ref r_trial, .ref r_images, .ref r_kept, .ref r_slots, .ref r_night, .ref r_other, .ref r_circle, .ref r_words, .ref r_law, .ref r_place, .ref r_drawn])), (r_now, .inr (8, [.int 0, .int 0, .int 0, .int 0, .int 0, .int 0, .int 0, .ref n_signs, .int 0, .ref n_posts, .int 0, .ref n_acts])), (m0, .inr (12, [.int 0, .ref m_world, .ref m_images, .ref m_hasImage, .ref m_tape, .int 0, .ref m_five, .int 0, .int 0, .int 0, .int 0, .int 0, .int 0, .int (-1), .ref m_fresh, .ref m_spokenAt, .ref m_heardAt, .ref m_lastAt, .ref m_answerAt, .int 0, .int 0, .int 0, .long 0, .int 0, .int 0, .ref m_heardNow, .ref m_seenAt, .int 0, .int 0, .int 0, .int 0, .int 0, .ref m_fewest, .ref m_costNow, .ref m_costThen, .ref m_lawsOf, .ref m_heardBy, .int 0, .int 0, .ref m_placesOf, .ref m_sentIn, .int 0, .int 0, .ref m_lostBy, .ref m_many, .ref m_width, .ref m_numbers, .ref m_moving])), (m_world, .inl (cI, 53, .inl (fun _ => 0))), (m_spokenAt, .inl (cI, 61, .inl (fun _ => 0)))]) (hS : va_S (fun q : Nat => s.heap.size ≤ q) s.heap H locs) {ls : Array Slot} (hl : lv_has ls 4 [(0, .ref b), (1, .ref x0), (2, .ref m0), (3, .int 0)]) : W p l e room_1 s m #[Value.ref b] below meth c H locs 118 60870 (lw_Z below #[Value.ref b] s) (F0 m 1528 ls []) := by
  obtain ⟨hx, hb, hr, hml, hown, hts0, hX, hbl, hlocks, hgv⟩ := id C0
  have hts : ∀ w ∈ wsL_law, w.before #[Value.ref b] s = true := fun w h => hts0 w (wsL_law_in w h)
  have hA : ∀ q : Nat, s.heap.size ≤ q → (fun q : Nat => s.heap.size ≤ q) q := fun _ h => h
  have hbA : ¬ (fun q : Nat => s.heap.size ≤ q) b := Nat.not_le.mpr hbl
  refine lv_aload_n hx hb dL_law_1528 rfl (lv_at hl 1 rfl) ?_
  refine roi (As := []) (rest := []) ⟨hx, hb, hml, hown, hts⟩ (kx_cool l D cB cI cJ cZ cS cT x0 r_tape r_reader r_now r_trial r_images r_kept r_slots r_night r_other r_circle r_words r_law r_place r_drawn n_signs n_posts n_acts ) (cvB (n := 0) (inr61 _ (List.mem_of_getElem? (i := 21) rfl)) (inr61 _ (List.mem_of_getElem? (i := 22) rfl)) (inr61 _ (List.mem_of_getElem? (i := 23) rfl)) (inr1 _ (List.mem_of_getElem? (i := 2) rfl)) (inr62 _ (List.mem_of_getElem? (i := 0) rfl)) (by decide +kernel) hts rfl rfl ⟨Nat.le_of_ble_eq_true rfl, Nat.le_of_ble_eq_true rfl⟩) 0 11 rfl rfl rfl (hP.sub [0, 1] rfl) hK rfl hl.1 rfl (Nat.le_of_ble_eq_true rfl) ⟨Nat.le_of_ble_eq_true rfl, Nat.le_of_ble_eq_true rfl⟩ dL_law_1529 (fun r_1 h_2 => ?_)
  obtain rfl := h_2
  refine lv_aload_n hx hb dL_law_1532 rfl (lv_at hl 2 rfl) ?_
  refine wrVi (As := []) (rest := [.int (-2)]) (wr := [(x0, .inr (11, [.ref r_tape, .ref r_reader, .ref r_now, .ref r_trial, .ref r_images, .ref r_kept, .ref r_slots, .ref r_night, .ref r_other, .ref r_circle, .ref r_words, .ref r_law, .ref r_place, .ref r_drawn])), (r_now, .inr (8, [.int 0, .int 0, .int 0, .int 0, .int 0, .int 0, .int 0, .ref n_signs, .int 0, .ref n_posts, .int 0, .ref n_acts]))]) ⟨hx, hb, hml, hown, hts⟩ (km_cool l D cB cI cJ cZ cS cT H.size m0 m_world m_images m_hasImage m_tape m_five m_fresh m_spokenAt m_heardAt m_lastAt m_answerAt m_heardNow m_seenAt m_fewest m_costNow m_costThen m_lawsOf m_heardBy m_placesOf m_sentIn m_lostBy m_many m_width m_numbers m_moving (fun _ => 0) ) hP hD hS hA hK hN [2, 3, 4] [0, 1] rfl rfl (by decide) (by decide) (by decide) (cvB (n := 0) (inr62 _ (List.mem_of_getElem? (i := 5) rfl)) (inr62 _ (List.mem_of_getElem? (i := 6) rfl)) (inr62 _ (List.mem_of_getElem? (i := 7) rfl)) (inr1 _ (List.mem_of_getElem? (i := 5) rfl)) (inr62 _ (List.mem_of_getElem? (i := 8) rfl)) (by decide +kernel) hts rfl rfl ⟨Nat.le_of_ble_eq_true rfl, Nat.le_of_ble_eq_true rfl⟩) 0 12 rfl rfl rfl rfl hl.1 rfl (Nat.le_of_ble_eq_true rfl) ⟨Nat.le_of_ble_eq_true rfl, Nat.le_of_ble_eq_true rfl⟩ dL_law_1533 (fun r_3 x9 H locs h_4 hP hD hS => ?_)
  have hP : va_P D vwCl [(x0, .inr (11, [.ref r_tape, .ref r_reader, .ref r_now, .ref r_trial, .ref r_images, .ref r_kept, .ref r_slots, .ref r_night, .ref r_other, .ref r_circle, .ref r_words, .ref r_law, .ref r_place, .ref r_drawn])), (r_now, .inr (8, [.int 0, .int 0, .int 0, .int 0, .int 0, .int 0, .int 0, .ref n_signs, .int 0, .ref n_posts, .int 0, .ref n_acts]))] H := hP
  have hD : va_D (fun q : Nat => s.heap.size ≤ q) [(x0, .inr (11, [.ref r_tape, .ref r_reader, .ref r_now, .ref r_trial, .ref r_images, .ref r_kept, .ref r_slots, .ref r_night, .ref r_other, .ref r_circle, .ref r_words, .ref r_law, .ref r_place, .ref r_drawn])), (r_now, .inr (8, [.int 0, .int 0, .int 0, .int 0, .int 0, .int 0, .int 0, .ref n_signs, .int 0, .ref n_posts, .int 0, .ref n_acts]))] := hD
  obtain rfl := h_4
  refine lv_icmp_eq (tgt := 2116) hx hb dL_law_1536 (by decide) (fun _ => ?_) (fun c0 => absurd c0 (by decide))
  exact law_end C0 hK hN (Nat.le_of_ble_eq_true rfl) (Nat.le_of_ble_eq_true rfl) hS (lv_sub hl [0, 1, 2, 3] rfl)

set_option maxHeartbeats 4000000 in
set_option maxRecDepth 100000 in
theorem law_53 {p : Program} {l : Launch} {e : Env} {s : State} {m : MethodId} {below : List Frame} {meth : Method} {c : Code} {D : va_G} {cB cI cJ cZ cS cT : ClassId} {b : Nat} {xs : Nat → Int32} (C0 : lw_At p s m meth c b 6 xs) (hK : va_K D vwCl (tyL cB cI cJ cZ cS cT) s) (hN : kN s) {H : Heap} {locs : List Loc} {x0 : Nat} {m0 : Nat} {r_tape : Nat} {r_reader : Nat} {r_now : Nat} {r_trial : Nat} {r_images : Nat} {r_kept : Nat} {r_slots : Nat} {r_night : Nat} {r_other : Nat} {r_circle : Nat} {r_words : Nat} {r_law : Nat} {r_place : Nat} {r_drawn : Nat} {m_world : Nat} {m_images : Nat} {m_hasImage : Nat} {m_tape : Nat} {m_five : Nat} {m_fresh : Nat} {m_spokenAt : Nat} {m_heardAt : Nat} {m_lastAt : Nat} {m_answerAt : Nat} {m_heardNow : Nat} {m_seenAt : Nat} {m_fewest : Nat} {m_costNow : Nat} {m_costThen : Nat} {m_lawsOf : Nat} {m_heardBy : Nat} {m_placesOf : Nat} {m_sentIn : Nat} {m_lostBy : Nat} {m_many : Nat} {m_width : Nat} {m_numbers : Nat} {m_moving : Nat} (hP : va_P D vwCl [(x0, .inr (11, [.ref r_tape, .ref r_reader, .ref r_now, .ref r_trial, .ref r_images, .ref r_kept, .ref r_slots, .ref r_night, .ref r_other, .ref r_circle, .ref r_words, .ref r_law, .ref r_place, .ref r_drawn])), (m0, .inr (12, [.int 0, .ref m_world, .ref m_images, .ref m_hasImage, .ref m_tape, .int 0, .ref m_five, .int 0, .int 0, .int 0, .int 0, .int 0, .int 0, .int (-1), .ref m_fresh, .ref m_spokenAt, .ref m_heardAt, .ref m_lastAt, .ref m_answerAt, .int 0, .int 0, .int 0, .long 0, .int 0, .int 0, .ref m_heardNow, .ref m_seenAt, .int 0, .int 0, .int 0, .int 0, .int 0, .ref m_fewest, .ref m_costNow, .ref m_costThen, .ref m_lawsOf, .ref m_heardBy, .int 0, .int 0, .ref m_placesOf, .ref m_sentIn, .int 0, .int 0, .ref m_lostBy, .ref m_many, .ref m_width, .ref m_numbers, .ref m_moving]))] H) (hD : va_D (fun q : Nat => s.heap.size ≤ q) [(x0, .inr (11, [.ref r_tape, .ref r_reader, .ref r_now, .ref r_trial, .ref r_images, .ref r_kept, .ref r_slots, .ref r_night, .ref r_other, .ref r_circle, .ref r_words, .ref r_law, .ref r_place, .ref r_drawn])), (m0, .inr (12, [.int 0, .ref m_world, .ref m_images, .ref m_hasImage, .ref m_tape, .int 0, .ref m_five, .int 0, .int 0, .int 0, .int 0, .int 0, .int 0, .int (-1), .ref m_fresh, .ref m_spokenAt, .ref m_heardAt, .ref m_lastAt, .ref m_answerAt, .int 0, .int 0, .int 0, .long 0, .int 0, .int 0, .ref m_heardNow, .ref m_seenAt, .int 0, .int 0, .int 0, .int 0, .int 0, .ref m_fewest, .ref m_costNow, .ref m_costThen, .ref m_lawsOf, .ref m_heardBy, .int 0, .int 0, .ref m_placesOf, .ref m_sentIn, .int 0, .int 0, .ref m_lostBy, .ref m_many, .ref m_width, .ref m_numbers, .ref m_moving]))]) (hS : va_S (fun q : Nat => s.heap.size ≤ q) s.heap H locs) {ls : Array Slot} (hl : lv_has ls 4 [(0, .ref b), (1, .ref x0), (2, .ref m0), (3, .int 0)]) : W p l e room_1 s m #[Value.ref b] below meth c H locs 118 60870 (lw_Z below #[Value.ref b] s) (F0 m 1541 ls []) := by
  obtain ⟨hx, hb, hr, hml, hown, hts0, hX, hbl, hlocks, hgv⟩ := id C0
  have hts : ∀ w ∈ wsL_law, w.before #[Value.ref b] s = true := fun w h => hts0 w (wsL_law_in w h)
  have hA : ∀ q : Nat, s.heap.size ≤ q → (fun q : Nat => s.heap.size ≤ q) q := fun _ h => h
  have hbA : ¬ (fun q : Nat => s.heap.size ≤ q) b := Nat.not_le.mpr hbl
  refine lv_aload_n hx hb dL_law_1541 rfl (lv_at hl 1 rfl) ?_
  refine roi (As := []) (rest := []) ⟨hx, hb, hml, hown, hts⟩ (kx_rests l D cB cI cJ cZ cS cT x0 r_tape r_reader r_now r_trial r_images r_kept r_slots r_night r_other r_circle r_words r_law r_place r_drawn ) (cvB (n := 0) (inr62 _ (List.mem_of_getElem? (i := 9) rfl)) (inr62 _ (List.mem_of_getElem? (i := 10) rfl)) (inr62 _ (List.mem_of_getElem? (i := 11) rfl)) (inr1 _ (List.mem_of_getElem? (i := 2) rfl)) (inr62 _ (List.mem_of_getElem? (i := 12) rfl)) (by decide +kernel) hts rfl rfl ⟨Nat.le_of_ble_eq_true rfl, Nat.le_of_ble_eq_true rfl⟩) 0 11 rfl rfl rfl (hP.sub [0] rfl) hK rfl hl.1 rfl (Nat.le_of_ble_eq_true rfl) ⟨Nat.le_of_ble_eq_true rfl, Nat.le_of_ble_eq_true rfl⟩ dL_law_1542 (fun r_1 h_2 => ?_)
  obtain rfl := h_2
  refine lv_aload_n hx hb dL_law_1545 rfl (lv_at hl 2 rfl) ?_
  refine roi (As := []) (rest := [.int 0]) ⟨hx, hb, hml, hown, hts⟩ (km_rests l D cB cI cJ cZ cS cT m0 m_world m_images m_hasImage m_tape m_five m_fresh m_spokenAt m_heardAt m_lastAt m_answerAt m_heardNow m_seenAt m_fewest m_costNow m_costThen m_lawsOf m_heardBy m_placesOf m_sentIn m_lostBy m_many m_width m_numbers m_moving ) (cvB (n := 0) (inr62 _ (List.mem_of_getElem? (i := 19) rfl)) (inr62 _ (List.mem_of_getElem? (i := 20) rfl)) (inr62 _ (List.mem_of_getElem? (i := 21) rfl)) (inr1 _ (List.mem_of_getElem? (i := 5) rfl)) (inr62 _ (List.mem_of_getElem? (i := 22) rfl)) (by decide +kernel) hts rfl rfl ⟨Nat.le_of_ble_eq_true rfl, Nat.le_of_ble_eq_true rfl⟩) 0 12 rfl rfl rfl (hP.sub [1] rfl) hK rfl hl.1 rfl (Nat.le_of_ble_eq_true rfl) ⟨Nat.le_of_ble_eq_true rfl, Nat.le_of_ble_eq_true rfl⟩ dL_law_1546 (fun r_3 h_4 => ?_)
  obtain rfl := h_4
  refine lv_icmp_eq (tgt := 2116) hx hb dL_law_1549 (by decide) (fun _ => ?_) (fun c0 => absurd c0 (by decide))
  exact law_end C0 hK hN (Nat.le_of_ble_eq_true rfl) (Nat.le_of_ble_eq_true rfl) hS (lv_sub hl [0, 1, 2, 3] rfl)

set_option maxHeartbeats 4000000 in
set_option maxRecDepth 100000 in
theorem law_54 {p : Program} {l : Launch} {e : Env} {s : State} {m : MethodId} {below : List Frame} {meth : Method} {c : Code} {D : va_G} {cB cI cJ cZ cS cT : ClassId} {b : Nat} {xs : Nat → Int32} (C0 : lw_At p s m meth c b 6 xs) (hK : va_K D vwCl (tyL cB cI cJ cZ cS cT) s) (hN : kN s) {H : Heap} {locs : List Loc} {x0 : Nat} {m0 : Nat} {r_tape : Nat} {r_reader : Nat} {r_now : Nat} {r_trial : Nat} {r_images : Nat} {r_kept : Nat} {r_slots : Nat} {r_night : Nat} {r_other : Nat} {r_circle : Nat} {r_words : Nat} {r_law : Nat} {r_place : Nat} {r_drawn : Nat} {m_world : Nat} {m_images : Nat} {m_hasImage : Nat} {m_tape : Nat} {m_five : Nat} {m_fresh : Nat} {m_spokenAt : Nat} {m_heardAt : Nat} {m_lastAt : Nat} {m_answerAt : Nat} {m_heardNow : Nat} {m_seenAt : Nat} {m_fewest : Nat} {m_costNow : Nat} {m_costThen : Nat} {m_lawsOf : Nat} {m_heardBy : Nat} {m_placesOf : Nat} {m_sentIn : Nat} {m_lostBy : Nat} {m_many : Nat} {m_width : Nat} {m_numbers : Nat} {m_moving : Nat} (hP : va_P D vwCl [(x0, .inr (11, [.ref r_tape, .ref r_reader, .ref r_now, .ref r_trial, .ref r_images, .ref r_kept, .ref r_slots, .ref r_night, .ref r_other, .ref r_circle, .ref r_words, .ref r_law, .ref r_place, .ref r_drawn])), (m0, .inr (12, [.int 0, .ref m_world, .ref m_images, .ref m_hasImage, .ref m_tape, .int 0, .ref m_five, .int 0, .int 0, .int 0, .int 0, .int 0, .int 0, .int (-1), .ref m_fresh, .ref m_spokenAt, .ref m_heardAt, .ref m_lastAt, .ref m_answerAt, .int 0, .int 0, .int 0, .long 0, .int 0, .int 0, .ref m_heardNow, .ref m_seenAt, .int 0, .int 0, .int 0, .int 0, .int 0, .ref m_fewest, .ref m_costNow, .ref m_costThen, .ref m_lawsOf, .ref m_heardBy, .int 0, .int 0, .ref m_placesOf, .ref m_sentIn, .int 0, .int 0, .ref m_lostBy, .ref m_many, .ref m_width, .ref m_numbers, .ref m_moving]))] H) (hD : va_D (fun q : Nat => s.heap.size ≤ q) [(x0, .inr (11, [.ref r_tape, .ref r_reader, .ref r_now, .ref r_trial, .ref r_images, .ref r_kept, .ref r_slots, .ref r_night, .ref r_other, .ref r_circle, .ref r_words, .ref r_law, .ref r_place, .ref r_drawn])), (m0, .inr (12, [.int 0, .ref m_world, .ref m_images, .ref m_hasImage, .ref m_tape, .int 0, .ref m_five, .int 0, .int 0, .int 0, .int 0, .int 0, .int 0, .int (-1), .ref m_fresh, .ref m_spokenAt, .ref m_heardAt, .ref m_lastAt, .ref m_answerAt, .int 0, .int 0, .int 0, .long 0, .int 0, .int 0, .ref m_heardNow, .ref m_seenAt, .int 0, .int 0, .int 0, .int 0, .int 0, .ref m_fewest, .ref m_costNow, .ref m_costThen, .ref m_lawsOf, .ref m_heardBy, .int 0, .int 0, .ref m_placesOf, .ref m_sentIn, .int 0, .int 0, .ref m_lostBy, .ref m_many, .ref m_width, .ref m_numbers, .ref m_moving]))]) (hS : va_S (fun q : Nat => s.heap.size ≤ q) s.heap H locs) {ls : Array Slot} (hl : lv_has ls 4 [(0, .ref b), (1, .ref x0), (2, .ref m0), (3, .int 0)]) : W p l e room_1 s m #[Value.ref b] below meth c H locs 118 60870 (lw_Z below #[Value.ref b] s) (F0 m 1554 ls []) := by
  obtain ⟨hx, hb, hr, hml, hown, hts0, hX, hbl, hlocks, hgv⟩ := id C0
  have hts : ∀ w ∈ wsL_law, w.before #[Value.ref b] s = true := fun w h => hts0 w (wsL_law_in w h)
  have hA : ∀ q : Nat, s.heap.size ≤ q → (fun q : Nat => s.heap.size ≤ q) q := fun _ h => h
  have hbA : ¬ (fun q : Nat => s.heap.size ≤ q) b := Nat.not_le.mpr hbl
  refine lv_aload_n hx hb dL_law_1554 rfl (lv_at hl 1 rfl) ?_
  refine lv_aload_n hx hb dL_law_1555 rfl (lv_at hl 0 rfl) ?_
  refine lv_iload_n hx hb dL_law_1556 rfl (lv_at hl 3 rfl) ?_
  refine lv_iconst (v := 1) hx hb dL_law_1557 (by decide) ?_
  refine z_iadd (v := 1) hx hb dL_law_1558 (by decide) ?_
  refine va_sld hx hb hX hbl hbA hS (by unfold vp_in; decide) dL_law_1559 ?_
  refine W.eq (g2 := F0 m 1560 ls [.int (xs 1), .ref x0]) rfl ?_
  refine lv_aload_n hx hb dL_law_1560 rfl (lv_at hl 0 rfl) ?_
  refine lv_iload_n hx hb dL_law_1561 rfl (lv_at hl 3 rfl) ?_
  refine lv_iconst (v := 2) hx hb dL_law_1562 (by decide) ?_
  refine z_iadd (v := 2) hx hb dL_law_1563 (by decide) ?_
  refine va_sld hx hb hX hbl hbA hS (by unfold vp_in; decide) dL_law_1564 ?_
  refine W.eq (g2 := F0 m 1565 ls [.int (xs 2), .int (xs 1), .ref x0]) rfl ?_
  refine roi (As := [.int (xs 1), .int (xs 2)]) (rest := []) ⟨hx, hb, hml, hown, hts⟩ (kx_sounds l D cB cI cJ cZ cS cT x0 r_tape r_reader r_now r_trial r_images r_kept r_slots r_night r_other r_circle r_words r_law r_place r_drawn (xs 1) (xs 2) ) (cvB (n := 2) (inr63 _ (List.mem_of_getElem? (i := 5) rfl)) (inr63 _ (List.mem_of_getElem? (i := 6) rfl)) (inr63 _ (List.mem_of_getElem? (i := 7) rfl)) (inr1 _ (List.mem_of_getElem? (i := 2) rfl)) (inr63 _ (List.mem_of_getElem? (i := 8) rfl)) (by decide +kernel) hts rfl rfl ⟨Nat.le_of_ble_eq_true rfl, Nat.le_of_ble_eq_true rfl⟩) 0 11 rfl rfl rfl (hP.sub [0] rfl) hK rfl hl.1 rfl (Nat.le_of_ble_eq_true rfl) ⟨Nat.le_of_ble_eq_true rfl, Nat.le_of_ble_eq_true rfl⟩ dL_law_1565 (fun r_1 h_2 => ?_)
  refine lv_aload_n hx hb dL_law_1568 rfl (lv_at hl 2 rfl) ?_
  refine lv_aload_n hx hb dL_law_1569 rfl (lv_at hl 0 rfl) ?_
  refine lv_iload_n hx hb dL_law_1570 rfl (lv_at hl 3 rfl) ?_
  refine lv_iconst (v := 1) hx hb dL_law_1571 (by decide) ?_
  refine z_iadd (v := 1) hx hb dL_law_1572 (by decide) ?_
  refine va_sld hx hb hX hbl hbA hS (by unfold vp_in; decide) dL_law_1573 ?_
  refine W.eq (g2 := F0 m 1574 ls [.int (xs 1), .ref m0, .int r_1]) rfl ?_
  refine lv_aload_n hx hb dL_law_1574 rfl (lv_at hl 0 rfl) ?_
  refine lv_iload_n hx hb dL_law_1575 rfl (lv_at hl 3 rfl) ?_
  refine lv_iconst (v := 2) hx hb dL_law_1576 (by decide) ?_
  refine z_iadd (v := 2) hx hb dL_law_1577 (by decide) ?_
  refine va_sld hx hb hX hbl hbA hS (by unfold vp_in; decide) dL_law_1578 ?_
  refine W.eq (g2 := F0 m 1579 ls [.int (xs 2), .int (xs 1), .ref m0, .int r_1]) rfl ?_
  refine roi (As := [.int (xs 1), .int (xs 2)]) (rest := [.int r_1]) ⟨hx, hb, hml, hown, hts⟩ (km_sounds l D cB cI cJ cZ cS cT m0 m_world m_images m_hasImage m_tape m_five m_fresh m_spokenAt m_heardAt m_lastAt m_answerAt m_heardNow m_seenAt m_fewest m_costNow m_costThen m_lawsOf m_heardBy m_placesOf m_sentIn m_lostBy m_many m_width m_numbers m_moving (xs 1) (xs 2) ) (cvB (n := 2) (inr63 _ (List.mem_of_getElem? (i := 9) rfl)) (inr63 _ (List.mem_of_getElem? (i := 10) rfl)) (inr63 _ (List.mem_of_getElem? (i := 11) rfl)) (inr1 _ (List.mem_of_getElem? (i := 5) rfl)) (inr63 _ (List.mem_of_getElem? (i := 12) rfl)) (by decide +kernel) hts rfl rfl ⟨Nat.le_of_ble_eq_true rfl, Nat.le_of_ble_eq_true rfl⟩) 0 12 rfl rfl rfl (hP.sub [1] rfl) hK rfl hl.1 rfl (Nat.le_of_ble_eq_true rfl) ⟨Nat.le_of_ble_eq_true rfl, Nat.le_of_ble_eq_true rfl⟩ dL_law_1579 (fun r_3 h_4 => ?_)
  refine lv_icmp_eq (tgt := 2116) hx hb dL_law_1582 (by decide) (fun _ => ?_) (fun c0 => absurd (h_2.trans h_4.symm) c0)
  exact law_end C0 hK hN (Nat.le_of_ble_eq_true rfl) (Nat.le_of_ble_eq_true rfl) hS (lv_sub hl [0, 1, 2, 3] rfl)

set_option maxHeartbeats 4000000 in
set_option maxRecDepth 100000 in
theorem law_55 {p : Program} {l : Launch} {e : Env} {s : State} {m : MethodId} {below : List Frame} {meth : Method} {c : Code} {D : va_G} {cB cI cJ cZ cS cT : ClassId} {b : Nat} {xs : Nat → Int32} (C0 : lw_At p s m meth c b 6 xs) (hK : va_K D vwCl (tyL cB cI cJ cZ cS cT) s) (hN : kN s) {H : Heap} {locs : List Loc} {x0 : Nat} {m0 : Nat} {r_tape : Nat} {r_reader : Nat} {r_now : Nat} {r_trial : Nat} {r_images : Nat} {r_kept : Nat} {r_slots : Nat} {r_night : Nat} {r_other : Nat} {r_circle : Nat} {r_words : Nat} {r_law : Nat} {r_place : Nat} {r_drawn : Nat} {m_world : Nat} {m_images : Nat} {m_hasImage : Nat} {m_tape : Nat} {m_five : Nat} {m_fresh : Nat} {m_spokenAt : Nat} {m_heardAt : Nat} {m_lastAt : Nat} {m_answerAt : Nat} {m_heardNow : Nat} {m_seenAt : Nat} {m_fewest : Nat} {m_costNow : Nat} {m_costThen : Nat} {m_lawsOf : Nat} {m_heardBy : Nat} {m_placesOf : Nat} {m_sentIn : Nat} {m_lostBy : Nat} {m_many : Nat} {m_width : Nat} {m_numbers : Nat} {m_moving : Nat} (hP : va_P D vwCl [(x0, .inr (11, [.ref r_tape, .ref r_reader, .ref r_now, .ref r_trial, .ref r_images, .ref r_kept, .ref r_slots, .ref r_night, .ref r_other, .ref r_circle, .ref r_words, .ref r_law, .ref r_place, .ref r_drawn])), (m0, .inr (12, [.int 0, .ref m_world, .ref m_images, .ref m_hasImage, .ref m_tape, .int 0, .ref m_five, .int 0, .int 0, .int 0, .int 0, .int 0, .int 0, .int (-1), .ref m_fresh, .ref m_spokenAt, .ref m_heardAt, .ref m_lastAt, .ref m_answerAt, .int 0, .int 0, .int 0, .long 0, .int 0, .int 0, .ref m_heardNow, .ref m_seenAt, .int 0, .int 0, .int 0, .int 0, .int 0, .ref m_fewest, .ref m_costNow, .ref m_costThen, .ref m_lawsOf, .ref m_heardBy, .int 0, .int 0, .ref m_placesOf, .ref m_sentIn, .int 0, .int 0, .ref m_lostBy, .ref m_many, .ref m_width, .ref m_numbers, .ref m_moving]))] H) (hD : va_D (fun q : Nat => s.heap.size ≤ q) [(x0, .inr (11, [.ref r_tape, .ref r_reader, .ref r_now, .ref r_trial, .ref r_images, .ref r_kept, .ref r_slots, .ref r_night, .ref r_other, .ref r_circle, .ref r_words, .ref r_law, .ref r_place, .ref r_drawn])), (m0, .inr (12, [.int 0, .ref m_world, .ref m_images, .ref m_hasImage, .ref m_tape, .int 0, .ref m_five, .int 0, .int 0, .int 0, .int 0, .int 0, .int 0, .int (-1), .ref m_fresh, .ref m_spokenAt, .ref m_heardAt, .ref m_lastAt, .ref m_answerAt, .int 0, .int 0, .int 0, .long 0, .int 0, .int 0, .ref m_heardNow, .ref m_seenAt, .int 0, .int 0, .int 0, .int 0, .int 0, .ref m_fewest, .ref m_costNow, .ref m_costThen, .ref m_lawsOf, .ref m_heardBy, .int 0, .int 0, .ref m_placesOf, .ref m_sentIn, .int 0, .int 0, .ref m_lostBy, .ref m_many, .ref m_width, .ref m_numbers, .ref m_moving]))]) (hS : va_S (fun q : Nat => s.heap.size ≤ q) s.heap H locs) {ls : Array Slot} (hl : lv_has ls 4 [(0, .ref b), (1, .ref x0), (2, .ref m0), (3, .int 0)]) : W p l e room_1 s m #[Value.ref b] below meth c H locs 118 60870 (lw_Z below #[Value.ref b] s) (F0 m 1587 ls []) := by
  obtain ⟨hx, hb, hr, hml, hown, hts0, hX, hbl, hlocks, hgv⟩ := id C0
  have hts : ∀ w ∈ wsL_law, w.before #[Value.ref b] s = true := fun w h => hts0 w (wsL_law_in w h)
  have hA : ∀ q : Nat, s.heap.size ≤ q → (fun q : Nat => s.heap.size ≤ q) q := fun _ h => h
  have hbA : ¬ (fun q : Nat => s.heap.size ≤ q) b := Nat.not_le.mpr hbl
  refine lv_aload_n hx hb dL_law_1587 rfl (lv_at hl 1 rfl) ?_
  refine lv_aload_n hx hb dL_law_1588 rfl (lv_at hl 0 rfl) ?_
  refine lv_iload_n hx hb dL_law_1589 rfl (lv_at hl 3 rfl) ?_
  refine lv_iconst (v := 1) hx hb dL_law_1590 (by decide) ?_
  refine z_iadd (v := 1) hx hb dL_law_1591 (by decide) ?_
  refine va_sld hx hb hX hbl hbA hS (by unfold vp_in; decide) dL_law_1592 ?_
  refine W.eq (g2 := F0 m 1593 ls [.int (xs 1), .ref x0]) rfl ?_
  refine roi (As := [.int (xs 1)]) (rest := []) ⟨hx, hb, hml, hown, hts⟩ (kx_best l D cB cI cJ cZ cS cT x0 r_tape r_reader r_now r_trial r_images r_kept r_slots r_night r_other r_circle r_words r_law r_place r_drawn (xs 1) ) (cvB (n := 1) (inr63 _ (List.mem_of_getElem? (i := 13) rfl)) (inr63 _ (List.mem_of_getElem? (i := 14) rfl)) (inr63 _ (List.mem_of_getElem? (i := 15) rfl)) (inr1 _ (List.mem_of_getElem? (i := 2) rfl)) (inr63 _ (List.mem_of_getElem? (i := 16) rfl)) (by decide +kernel) hts rfl rfl ⟨Nat.le_of_ble_eq_true rfl, Nat.le_of_ble_eq_true rfl⟩) 0 11 rfl rfl rfl (hP.sub [0] rfl) hK rfl hl.1 rfl (Nat.le_of_ble_eq_true rfl) ⟨Nat.le_of_ble_eq_true rfl, Nat.le_of_ble_eq_true rfl⟩ dL_law_1593 (fun r_1 h_2 => ?_)
  refine lv_aload_n hx hb dL_law_1596 rfl (lv_at hl 2 rfl) ?_
  refine lv_aload_n hx hb dL_law_1597 rfl (lv_at hl 0 rfl) ?_
  refine lv_iload_n hx hb dL_law_1598 rfl (lv_at hl 3 rfl) ?_
  refine lv_iconst (v := 1) hx hb dL_law_1599 (by decide) ?_
  refine z_iadd (v := 1) hx hb dL_law_1600 (by decide) ?_
  refine va_sld hx hb hX hbl hbA hS (by unfold vp_in; decide) dL_law_1601 ?_
  refine W.eq (g2 := F0 m 1602 ls [.int (xs 1), .ref m0, .int r_1]) rfl ?_
  refine roi (As := [.int (xs 1)]) (rest := [.int r_1]) ⟨hx, hb, hml, hown, hts⟩ (km_best l D cB cI cJ cZ cS cT m0 m_world m_images m_hasImage m_tape m_five m_fresh m_spokenAt m_heardAt m_lastAt m_answerAt m_heardNow m_seenAt m_fewest m_costNow m_costThen m_lawsOf m_heardBy m_placesOf m_sentIn m_lostBy m_many m_width m_numbers m_moving (xs 1) ) (cvB (n := 1) (inr63 _ (List.mem_of_getElem? (i := 17) rfl)) (inr63 _ (List.mem_of_getElem? (i := 18) rfl)) (inr63 _ (List.mem_of_getElem? (i := 19) rfl)) (inr1 _ (List.mem_of_getElem? (i := 5) rfl)) (inr63 _ (List.mem_of_getElem? (i := 20) rfl)) (by decide +kernel) hts rfl rfl ⟨Nat.le_of_ble_eq_true rfl, Nat.le_of_ble_eq_true rfl⟩) 0 12 rfl rfl rfl (hP.sub [1] rfl) hK rfl hl.1 rfl (Nat.le_of_ble_eq_true rfl) ⟨Nat.le_of_ble_eq_true rfl, Nat.le_of_ble_eq_true rfl⟩ dL_law_1602 (fun r_3 h_4 => ?_)
  refine lv_icmp_eq (tgt := 2116) hx hb dL_law_1605 (by decide) (fun _ => ?_) (fun c0 => absurd (h_2.trans h_4.symm) c0)
  exact law_end C0 hK hN (Nat.le_of_ble_eq_true rfl) (Nat.le_of_ble_eq_true rfl) hS (lv_sub hl [0, 1, 2, 3] rfl)

set_option maxHeartbeats 4000000 in
set_option maxRecDepth 100000 in
theorem law_56 {p : Program} {l : Launch} {e : Env} {s : State} {m : MethodId} {below : List Frame} {meth : Method} {c : Code} {D : va_G} {cB cI cJ cZ cS cT : ClassId} {b : Nat} {xs : Nat → Int32} (C0 : lw_At p s m meth c b 6 xs) (hK : va_K D vwCl (tyL cB cI cJ cZ cS cT) s) (hN : kN s) {H : Heap} {locs : List Loc} {x0 : Nat} {m0 : Nat} {r_tape : Nat} {r_reader : Nat} {r_now : Nat} {r_trial : Nat} {r_images : Nat} {r_kept : Nat} {r_slots : Nat} {r_night : Nat} {r_other : Nat} {r_circle : Nat} {r_words : Nat} {r_law : Nat} {r_place : Nat} {r_drawn : Nat} {n_signs : Nat} {n_posts : Nat} {n_acts : Nat} {m_world : Nat} {m_images : Nat} {m_hasImage : Nat} {m_tape : Nat} {m_five : Nat} {m_fresh : Nat} {m_spokenAt : Nat} {m_heardAt : Nat} {m_lastAt : Nat} {m_answerAt : Nat} {m_heardNow : Nat} {m_seenAt : Nat} {m_fewest : Nat} {m_costNow : Nat} {m_costThen : Nat} {m_lawsOf : Nat} {m_heardBy : Nat} {m_placesOf : Nat} {m_sentIn : Nat} {m_lostBy : Nat} {m_many : Nat} {m_width : Nat} {m_numbers : Nat} {m_moving : Nat} (hP : va_P D vwCl [(x0, .inr (11, [.ref r_tape, .ref r_reader, .ref r_now, .ref r_trial, .ref r_images, .ref r_kept, .ref r_slots, .ref r_night, .ref r_other, .ref r_circle, .ref r_words, .ref r_law, .ref r_place, .ref r_drawn])), (r_now, .inr (8, [.int 0, .int 0, .int 0, .int 0, .int 0, .int 0, .int 0, .ref n_signs, .int 0, .ref n_posts, .int 0, .ref n_acts])), (m0, .inr (12, [.int 0, .ref m_world, .ref m_images, .ref m_hasImage, .ref m_tape, .int 0, .ref m_five, .int 0, .int 0, .int 0, .int 0, .int 0, .int 0, .int (-1), .ref m_fresh, .ref m_spokenAt, .ref m_heardAt, .ref m_lastAt, .ref m_answerAt, .int 0, .int 0, .int 0, .long 0, .int 0, .int 0, .ref m_heardNow, .ref m_seenAt, .int 0, .int 0, .int 0, .int 0, .int 0, .ref m_fewest, .ref m_costNow, .ref m_costThen, .ref m_lawsOf, .ref m_heardBy, .int 0, .int 0, .ref m_placesOf, .ref m_sentIn, .int 0, .int 0, .ref m_lostBy, .ref m_many, .ref m_width, .ref m_numbers, .ref m_moving])), (m_world, .inl (cI, 53, .inl (fun _ => 0))), (m_spokenAt, .inl (cI, 61, .inl (fun _ => 0)))] H) (hD : va_D (fun q : Nat => s.heap.size ≤ q) [(x0, .inr (11, [.ref r_tape, .ref r_reader, .ref r_now, .ref r_trial, .ref r_images, .ref r_kept, .ref r_slots, .ref r_night, .ref r_other, .ref r_circle, .ref r_words, .ref r_law, .ref r_place, .ref r_drawn])), (r_now, .inr (8, [.int 0, .int 0, .int 0, .int 0, .int 0, .int 0, .int 0, .ref n_signs, .int 0, .ref n_posts, .int 0, .ref n_acts])), (m0, .inr (12, [.int 0, .ref m_world, .ref m_images, .ref m_hasImage, .ref m_tape, .int 0, .ref m_five, .int 0, .int 0, .int 0, .int 0, .int 0, .int 0, .int (-1), .ref m_fresh, .ref m_spokenAt, .ref m_heardAt, .ref m_lastAt, .ref m_answerAt, .int 0, .int 0, .int 0, .long 0, .int 0, .int 0, .ref m_heardNow, .ref m_seenAt, .int 0, .int 0, .int 0, .int 0, .int 0, .ref m_fewest, .ref m_costNow, .ref m_costThen, .ref m_lawsOf, .ref m_heardBy, .int 0, .int 0, .ref m_placesOf, .ref m_sentIn, .int 0, .int 0, .ref m_lostBy, .ref m_many, .ref m_width, .ref m_numbers, .ref m_moving])), (m_world, .inl (cI, 53, .inl (fun _ => 0))), (m_spokenAt, .inl (cI, 61, .inl (fun _ => 0)))]) (hS : va_S (fun q : Nat => s.heap.size ≤ q) s.heap H locs) {ls : Array Slot} (hl : lv_has ls 4 [(0, .ref b), (1, .ref x0), (2, .ref m0), (3, .int 0)]) : W p l e room_1 s m #[Value.ref b] below meth c H locs 118 60870 (lw_Z below #[Value.ref b] s) (F0 m 1610 ls []) := by
  obtain ⟨hx, hb, hr, hml, hown, hts0, hX, hbl, hlocks, hgv⟩ := id C0
  have hts : ∀ w ∈ wsL_law, w.before #[Value.ref b] s = true := fun w h => hts0 w (wsL_law_in w h)
  have hA : ∀ q : Nat, s.heap.size ≤ q → (fun q : Nat => s.heap.size ≤ q) q := fun _ h => h
  have hbA : ¬ (fun q : Nat => s.heap.size ≤ q) b := Nat.not_le.mpr hbl
  refine lv_aload_n hx hb dL_law_1610 rfl (lv_at hl 1 rfl) ?_
  refine lv_aload_n hx hb dL_law_1611 rfl (lv_at hl 0 rfl) ?_
  refine lv_iload_n hx hb dL_law_1612 rfl (lv_at hl 3 rfl) ?_
  refine lv_iconst (v := 1) hx hb dL_law_1613 (by decide) ?_
  refine z_iadd (v := 1) hx hb dL_law_1614 (by decide) ?_
  refine va_sld hx hb hX hbl hbA hS (by unfold vp_in; decide) dL_law_1615 ?_
  refine W.eq (g2 := F0 m 1616 ls [.int (xs 1), .ref x0]) rfl ?_
  refine lv_aload_n hx hb dL_law_1616 rfl (lv_at hl 0 rfl) ?_
  refine lv_iload_n hx hb dL_law_1617 rfl (lv_at hl 3 rfl) ?_
  refine lv_iconst (v := 2) hx hb dL_law_1618 (by decide) ?_
  refine z_iadd (v := 2) hx hb dL_law_1619 (by decide) ?_
  refine va_sld hx hb hX hbl hbA hS (by unfold vp_in; decide) dL_law_1620 ?_
  refine W.eq (g2 := F0 m 1621 ls [.int (xs 2), .int (xs 1), .ref x0]) rfl ?_
  refine rol (As := [.int (xs 1), .int (xs 2)]) (rest := []) ⟨hx, hb, hml, hown, hts⟩ (kx_chance l D cB cI cJ cZ cS cT x0 r_tape r_reader r_now r_trial r_images r_kept r_slots r_night r_other r_circle r_words r_law r_place r_drawn n_signs n_posts n_acts (xs 1) (xs 2) ) (cvB (n := 2) (inr63 _ (List.mem_of_getElem? (i := 21) rfl)) (inr63 _ (List.mem_of_getElem? (i := 22) rfl)) (inr63 _ (List.mem_of_getElem? (i := 23) rfl)) (inr1 _ (List.mem_of_getElem? (i := 2) rfl)) (inr64 _ (List.mem_of_getElem? (i := 0) rfl)) (by decide +kernel) hts rfl rfl ⟨Nat.le_of_ble_eq_true rfl, Nat.le_of_ble_eq_true rfl⟩) 0 11 rfl rfl rfl (hP.sub [0, 1] rfl) hK rfl hl.1 rfl (Nat.le_of_ble_eq_true rfl) ⟨Nat.le_of_ble_eq_true rfl, Nat.le_of_ble_eq_true rfl⟩ dL_law_1621 (fun r_1 h_2 => ?_)
  obtain rfl := h_2
  refine lv_aload_n hx hb dL_law_1624 rfl (lv_at hl 2 rfl) ?_
  refine lv_aload_n hx hb dL_law_1625 rfl (lv_at hl 0 rfl) ?_
  refine lv_iload_n hx hb dL_law_1626 rfl (lv_at hl 3 rfl) ?_
  refine lv_iconst (v := 1) hx hb dL_law_1627 (by decide) ?_
  refine z_iadd (v := 1) hx hb dL_law_1628 (by decide) ?_
  refine va_sld hx hb hX hbl hbA hS (by unfold vp_in; decide) dL_law_1629 ?_
  refine W.eq (g2 := F0 m 1630 ls [.int (xs 1), .ref m0, .long (-2)]) rfl ?_
  refine lv_aload_n hx hb dL_law_1630 rfl (lv_at hl 0 rfl) ?_
  refine lv_iload_n hx hb dL_law_1631 rfl (lv_at hl 3 rfl) ?_
  refine lv_iconst (v := 2) hx hb dL_law_1632 (by decide) ?_
  refine z_iadd (v := 2) hx hb dL_law_1633 (by decide) ?_
  refine va_sld hx hb hX hbl hbA hS (by unfold vp_in; decide) dL_law_1634 ?_
  refine W.eq (g2 := F0 m 1635 ls [.int (xs 2), .int (xs 1), .ref m0, .long (-2)]) rfl ?_
  refine wrVl (As := [.int (xs 1), .int (xs 2)]) (rest := [.long (-2)]) (wr := [(x0, .inr (11, [.ref r_tape, .ref r_reader, .ref r_now, .ref r_trial, .ref r_images, .ref r_kept, .ref r_slots, .ref r_night, .ref r_other, .ref r_circle, .ref r_words, .ref r_law, .ref r_place, .ref r_drawn])), (r_now, .inr (8, [.int 0, .int 0, .int 0, .int 0, .int 0, .int 0, .int 0, .ref n_signs, .int 0, .ref n_posts, .int 0, .ref n_acts]))]) ⟨hx, hb, hml, hown, hts⟩ (km_chance l D cB cI cJ cZ cS cT H.size m0 m_world m_images m_hasImage m_tape m_five m_fresh m_spokenAt m_heardAt m_lastAt m_answerAt m_heardNow m_seenAt m_fewest m_costNow m_costThen m_lawsOf m_heardBy m_placesOf m_sentIn m_lostBy m_many m_width m_numbers m_moving (fun _ => 0) (xs 1) (xs 2) ) hP hD hS hA hK hN [2, 3, 4] [0, 1] rfl rfl (by decide) (by decide) (by decide) (cvB (n := 2) (inr64 _ (List.mem_of_getElem? (i := 18) rfl)) (inr64 _ (List.mem_of_getElem? (i := 19) rfl)) (inr64 _ (List.mem_of_getElem? (i := 20) rfl)) (inr1 _ (List.mem_of_getElem? (i := 5) rfl)) (inr64 _ (List.mem_of_getElem? (i := 21) rfl)) (by decide +kernel) hts rfl rfl ⟨Nat.le_of_ble_eq_true rfl, Nat.le_of_ble_eq_true rfl⟩) 0 12 rfl rfl rfl rfl hl.1 rfl (Nat.le_of_ble_eq_true rfl) ⟨Nat.le_of_ble_eq_true rfl, Nat.le_of_ble_eq_true rfl⟩ dL_law_1635 (fun r_3 x9 H locs h_4 hP hD hS => ?_)
  have hP : va_P D vwCl [(x0, .inr (11, [.ref r_tape, .ref r_reader, .ref r_now, .ref r_trial, .ref r_images, .ref r_kept, .ref r_slots, .ref r_night, .ref r_other, .ref r_circle, .ref r_words, .ref r_law, .ref r_place, .ref r_drawn])), (r_now, .inr (8, [.int 0, .int 0, .int 0, .int 0, .int 0, .int 0, .int 0, .ref n_signs, .int 0, .ref n_posts, .int 0, .ref n_acts]))] H := hP
  have hD : va_D (fun q : Nat => s.heap.size ≤ q) [(x0, .inr (11, [.ref r_tape, .ref r_reader, .ref r_now, .ref r_trial, .ref r_images, .ref r_kept, .ref r_slots, .ref r_night, .ref r_other, .ref r_circle, .ref r_words, .ref r_law, .ref r_place, .ref r_drawn])), (r_now, .inr (8, [.int 0, .int 0, .int 0, .int 0, .int 0, .int 0, .int 0, .ref n_signs, .int 0, .ref n_posts, .int 0, .ref n_acts]))] := hD
  obtain rfl := h_4
  refine z_lcmp (v := 0) hx hb dL_law_1638 (by decide) ?_
  refine lv_if_eq (tgt := 2116) hx hb dL_law_1639 (by decide) (fun _ => ?_) (fun c0 => absurd c0 (by decide))
  exact law_end C0 hK hN (Nat.le_of_ble_eq_true rfl) (Nat.le_of_ble_eq_true rfl) hS (lv_sub hl [0, 1, 2, 3] rfl)

set_option maxHeartbeats 4000000 in
set_option maxRecDepth 100000 in
theorem law_57 {p : Program} {l : Launch} {e : Env} {s : State} {m : MethodId} {below : List Frame} {meth : Method} {c : Code} {D : va_G} {cB cI cJ cZ cS cT : ClassId} {b : Nat} {xs : Nat → Int32} (C0 : lw_At p s m meth c b 6 xs) (hK : va_K D vwCl (tyL cB cI cJ cZ cS cT) s) (hN : kN s) {H : Heap} {locs : List Loc} {x0 : Nat} {m0 : Nat} {r_tape : Nat} {r_reader : Nat} {r_now : Nat} {r_trial : Nat} {r_images : Nat} {r_kept : Nat} {r_slots : Nat} {r_night : Nat} {r_other : Nat} {r_circle : Nat} {r_words : Nat} {r_law : Nat} {r_place : Nat} {r_drawn : Nat} {n_signs : Nat} {n_posts : Nat} {n_acts : Nat} {m_world : Nat} {m_images : Nat} {m_hasImage : Nat} {m_tape : Nat} {m_five : Nat} {m_fresh : Nat} {m_spokenAt : Nat} {m_heardAt : Nat} {m_lastAt : Nat} {m_answerAt : Nat} {m_heardNow : Nat} {m_seenAt : Nat} {m_fewest : Nat} {m_costNow : Nat} {m_costThen : Nat} {m_lawsOf : Nat} {m_heardBy : Nat} {m_placesOf : Nat} {m_sentIn : Nat} {m_lostBy : Nat} {m_many : Nat} {m_width : Nat} {m_numbers : Nat} {m_moving : Nat} (hP : va_P D vwCl [(x0, .inr (11, [.ref r_tape, .ref r_reader, .ref r_now, .ref r_trial, .ref r_images, .ref r_kept, .ref r_slots, .ref r_night, .ref r_other, .ref r_circle, .ref r_words, .ref r_law, .ref r_place, .ref r_drawn])), (r_now, .inr (8, [.int 0, .int 0, .int 0, .int 0, .int 0, .int 0, .int 0, .ref n_signs, .int 0, .ref n_posts, .int 0, .ref n_acts])), (m0, .inr (12, [.int 0, .ref m_world, .ref m_images, .ref m_hasImage, .ref m_tape, .int 0, .ref m_five, .int 0, .int 0, .int 0, .int 0, .int 0, .int 0, .int (-1), .ref m_fresh, .ref m_spokenAt, .ref m_heardAt, .ref m_lastAt, .ref m_answerAt, .int 0, .int 0, .int 0, .long 0, .int 0, .int 0, .ref m_heardNow, .ref m_seenAt, .int 0, .int 0, .int 0, .int 0, .int 0, .ref m_fewest, .ref m_costNow, .ref m_costThen, .ref m_lawsOf, .ref m_heardBy, .int 0, .int 0, .ref m_placesOf, .ref m_sentIn, .int 0, .int 0, .ref m_lostBy, .ref m_many, .ref m_width, .ref m_numbers, .ref m_moving])), (m_world, .inl (cI, 53, .inl (fun _ => 0))), (m_spokenAt, .inl (cI, 61, .inl (fun _ => 0)))] H) (hD : va_D (fun q : Nat => s.heap.size ≤ q) [(x0, .inr (11, [.ref r_tape, .ref r_reader, .ref r_now, .ref r_trial, .ref r_images, .ref r_kept, .ref r_slots, .ref r_night, .ref r_other, .ref r_circle, .ref r_words, .ref r_law, .ref r_place, .ref r_drawn])), (r_now, .inr (8, [.int 0, .int 0, .int 0, .int 0, .int 0, .int 0, .int 0, .ref n_signs, .int 0, .ref n_posts, .int 0, .ref n_acts])), (m0, .inr (12, [.int 0, .ref m_world, .ref m_images, .ref m_hasImage, .ref m_tape, .int 0, .ref m_five, .int 0, .int 0, .int 0, .int 0, .int 0, .int 0, .int (-1), .ref m_fresh, .ref m_spokenAt, .ref m_heardAt, .ref m_lastAt, .ref m_answerAt, .int 0, .int 0, .int 0, .long 0, .int 0, .int 0, .ref m_heardNow, .ref m_seenAt, .int 0, .int 0, .int 0, .int 0, .int 0, .ref m_fewest, .ref m_costNow, .ref m_costThen, .ref m_lawsOf, .ref m_heardBy, .int 0, .int 0, .ref m_placesOf, .ref m_sentIn, .int 0, .int 0, .ref m_lostBy, .ref m_many, .ref m_width, .ref m_numbers, .ref m_moving])), (m_world, .inl (cI, 53, .inl (fun _ => 0))), (m_spokenAt, .inl (cI, 61, .inl (fun _ => 0)))]) (hS : va_S (fun q : Nat => s.heap.size ≤ q) s.heap H locs) {ls : Array Slot} (hl : lv_has ls 4 [(0, .ref b), (1, .ref x0), (2, .ref m0), (3, .int 0)]) : W p l e room_1 s m #[Value.ref b] below meth c H locs 118 60870 (lw_Z below #[Value.ref b] s) (F0 m 1644 ls []) := by
  obtain ⟨hx, hb, hr, hml, hown, hts0, hX, hbl, hlocks, hgv⟩ := id C0
  have hts : ∀ w ∈ wsL_law, w.before #[Value.ref b] s = true := fun w h => hts0 w (wsL_law_in w h)
  have hA : ∀ q : Nat, s.heap.size ≤ q → (fun q : Nat => s.heap.size ≤ q) q := fun _ h => h
  have hbA : ¬ (fun q : Nat => s.heap.size ≤ q) b := Nat.not_le.mpr hbl
  refine lv_aload_n hx hb dL_law_1644 rfl (lv_at hl 1 rfl) ?_
  refine lv_aload_n hx hb dL_law_1645 rfl (lv_at hl 0 rfl) ?_
  refine lv_iload_n hx hb dL_law_1646 rfl (lv_at hl 3 rfl) ?_
  refine lv_iconst (v := 1) hx hb dL_law_1647 (by decide) ?_
  refine z_iadd (v := 1) hx hb dL_law_1648 (by decide) ?_
  refine va_sld hx hb hX hbl hbA hS (by unfold vp_in; decide) dL_law_1649 ?_
  refine W.eq (g2 := F0 m 1650 ls [.int (xs 1), .ref x0]) rfl ?_
  refine roi (As := [.int (xs 1)]) (rest := []) ⟨hx, hb, hml, hown, hts⟩ (kx_sure l D cB cI cJ cZ cS cT x0 r_tape r_reader r_now r_trial r_images r_kept r_slots r_night r_other r_circle r_words r_law r_place r_drawn n_signs n_posts n_acts (xs 1) ) (cvB (n := 1) (inr65 _ (List.mem_of_getElem? (i := 10) rfl)) (inr65 _ (List.mem_of_getElem? (i := 11) rfl)) (inr65 _ (List.mem_of_getElem? (i := 12) rfl)) (inr1 _ (List.mem_of_getElem? (i := 2) rfl)) (inr65 _ (List.mem_of_getElem? (i := 13) rfl)) (by decide +kernel) hts rfl rfl ⟨Nat.le_of_ble_eq_true rfl, Nat.le_of_ble_eq_true rfl⟩) 0 11 rfl rfl rfl (hP.sub [0, 1] rfl) hK rfl hl.1 rfl (Nat.le_of_ble_eq_true rfl) ⟨Nat.le_of_ble_eq_true rfl, Nat.le_of_ble_eq_true rfl⟩ dL_law_1650 (fun r_1 h_2 => ?_)
  obtain rfl := h_2
  refine lv_aload_n hx hb dL_law_1653 rfl (lv_at hl 2 rfl) ?_
  refine lv_aload_n hx hb dL_law_1654 rfl (lv_at hl 0 rfl) ?_
  refine lv_iload_n hx hb dL_law_1655 rfl (lv_at hl 3 rfl) ?_
  refine lv_iconst (v := 1) hx hb dL_law_1656 (by decide) ?_
  refine z_iadd (v := 1) hx hb dL_law_1657 (by decide) ?_
  refine va_sld hx hb hX hbl hbA hS (by unfold vp_in; decide) dL_law_1658 ?_
  refine W.eq (g2 := F0 m 1659 ls [.int (xs 1), .ref m0, .int (-2)]) rfl ?_
  refine wrVi (As := [.int (xs 1)]) (rest := [.int (-2)]) (wr := [(x0, .inr (11, [.ref r_tape, .ref r_reader, .ref r_now, .ref r_trial, .ref r_images, .ref r_kept, .ref r_slots, .ref r_night, .ref r_other, .ref r_circle, .ref r_words, .ref r_law, .ref r_place, .ref r_drawn])), (r_now, .inr (8, [.int 0, .int 0, .int 0, .int 0, .int 0, .int 0, .int 0, .ref n_signs, .int 0, .ref n_posts, .int 0, .ref n_acts]))]) ⟨hx, hb, hml, hown, hts⟩ (km_sure l D cB cI cJ cZ cS cT H.size m0 m_world m_images m_hasImage m_tape m_five m_fresh m_spokenAt m_heardAt m_lastAt m_answerAt m_heardNow m_seenAt m_fewest m_costNow m_costThen m_lawsOf m_heardBy m_placesOf m_sentIn m_lostBy m_many m_width m_numbers m_moving (fun _ => 0) (xs 1) ) hP hD hS hA hK hN [2, 3, 4] [0, 1] rfl rfl (by decide) (by decide) (by decide) (cvB (n := 1) (inr65 _ (List.mem_of_getElem? (i := 19) rfl)) (inr65 _ (List.mem_of_getElem? (i := 20) rfl)) (inr65 _ (List.mem_of_getElem? (i := 21) rfl)) (inr1 _ (List.mem_of_getElem? (i := 5) rfl)) (inr65 _ (List.mem_of_getElem? (i := 22) rfl)) (by decide +kernel) hts rfl rfl ⟨Nat.le_of_ble_eq_true rfl, Nat.le_of_ble_eq_true rfl⟩) 0 12 rfl rfl rfl rfl hl.1 rfl (Nat.le_of_ble_eq_true rfl) ⟨Nat.le_of_ble_eq_true rfl, Nat.le_of_ble_eq_true rfl⟩ dL_law_1659 (fun r_3 x9 H locs h_4 hP hD hS => ?_)
  have hP : va_P D vwCl [(x0, .inr (11, [.ref r_tape, .ref r_reader, .ref r_now, .ref r_trial, .ref r_images, .ref r_kept, .ref r_slots, .ref r_night, .ref r_other, .ref r_circle, .ref r_words, .ref r_law, .ref r_place, .ref r_drawn])), (r_now, .inr (8, [.int 0, .int 0, .int 0, .int 0, .int 0, .int 0, .int 0, .ref n_signs, .int 0, .ref n_posts, .int 0, .ref n_acts]))] H := hP
  have hD : va_D (fun q : Nat => s.heap.size ≤ q) [(x0, .inr (11, [.ref r_tape, .ref r_reader, .ref r_now, .ref r_trial, .ref r_images, .ref r_kept, .ref r_slots, .ref r_night, .ref r_other, .ref r_circle, .ref r_words, .ref r_law, .ref r_place, .ref r_drawn])), (r_now, .inr (8, [.int 0, .int 0, .int 0, .int 0, .int 0, .int 0, .int 0, .ref n_signs, .int 0, .ref n_posts, .int 0, .ref n_acts]))] := hD
  obtain rfl := h_4
  refine lv_icmp_eq (tgt := 2116) hx hb dL_law_1662 (by decide) (fun _ => ?_) (fun c0 => absurd c0 (by decide))
  exact law_end C0 hK hN (Nat.le_of_ble_eq_true rfl) (Nat.le_of_ble_eq_true rfl) hS (lv_sub hl [0, 1, 2, 3] rfl)

set_option maxHeartbeats 4000000 in
set_option maxRecDepth 100000 in
theorem law_58 {p : Program} {l : Launch} {e : Env} {s : State} {m : MethodId} {below : List Frame} {meth : Method} {c : Code} {D : va_G} {cB cI cJ cZ cS cT : ClassId} {b : Nat} {xs : Nat → Int32} (C0 : lw_At p s m meth c b 6 xs) (hK : va_K D vwCl (tyL cB cI cJ cZ cS cT) s) (hN : kN s) {H : Heap} {locs : List Loc} {x0 : Nat} {m0 : Nat} {r_tape : Nat} {r_reader : Nat} {r_now : Nat} {r_trial : Nat} {r_images : Nat} {r_kept : Nat} {r_slots : Nat} {r_night : Nat} {r_other : Nat} {r_circle : Nat} {r_words : Nat} {r_law : Nat} {r_place : Nat} {r_drawn : Nat} {n_signs : Nat} {n_posts : Nat} {n_acts : Nat} {m_world : Nat} {m_images : Nat} {m_hasImage : Nat} {m_tape : Nat} {m_five : Nat} {m_fresh : Nat} {m_spokenAt : Nat} {m_heardAt : Nat} {m_lastAt : Nat} {m_answerAt : Nat} {m_heardNow : Nat} {m_seenAt : Nat} {m_fewest : Nat} {m_costNow : Nat} {m_costThen : Nat} {m_lawsOf : Nat} {m_heardBy : Nat} {m_placesOf : Nat} {m_sentIn : Nat} {m_lostBy : Nat} {m_many : Nat} {m_width : Nat} {m_numbers : Nat} {m_moving : Nat} (hP : va_P D vwCl [(x0, .inr (11, [.ref r_tape, .ref r_reader, .ref r_now, .ref r_trial, .ref r_images, .ref r_kept, .ref r_slots, .ref r_night, .ref r_other, .ref r_circle, .ref r_words, .ref r_law, .ref r_place, .ref r_drawn])), (r_now, .inr (8, [.int 0, .int 0, .int 0, .int 0, .int 0, .int 0, .int 0, .ref n_signs, .int 0, .ref n_posts, .int 0, .ref n_acts])), (m0, .inr (12, [.int 0, .ref m_world, .ref m_images, .ref m_hasImage, .ref m_tape, .int 0, .ref m_five, .int 0, .int 0, .int 0, .int 0, .int 0, .int 0, .int (-1), .ref m_fresh, .ref m_spokenAt, .ref m_heardAt, .ref m_lastAt, .ref m_answerAt, .int 0, .int 0, .int 0, .long 0, .int 0, .int 0, .ref m_heardNow, .ref m_seenAt, .int 0, .int 0, .int 0, .int 0, .int 0, .ref m_fewest, .ref m_costNow, .ref m_costThen, .ref m_lawsOf, .ref m_heardBy, .int 0, .int 0, .ref m_placesOf, .ref m_sentIn, .int 0, .int 0, .ref m_lostBy, .ref m_many, .ref m_width, .ref m_numbers, .ref m_moving])), (m_world, .inl (cI, 53, .inl (fun _ => 0)))] H) (hD : va_D (fun q : Nat => s.heap.size ≤ q) [(x0, .inr (11, [.ref r_tape, .ref r_reader, .ref r_now, .ref r_trial, .ref r_images, .ref r_kept, .ref r_slots, .ref r_night, .ref r_other, .ref r_circle, .ref r_words, .ref r_law, .ref r_place, .ref r_drawn])), (r_now, .inr (8, [.int 0, .int 0, .int 0, .int 0, .int 0, .int 0, .int 0, .ref n_signs, .int 0, .ref n_posts, .int 0, .ref n_acts])), (m0, .inr (12, [.int 0, .ref m_world, .ref m_images, .ref m_hasImage, .ref m_tape, .int 0, .ref m_five, .int 0, .int 0, .int 0, .int 0, .int 0, .int 0, .int (-1), .ref m_fresh, .ref m_spokenAt, .ref m_heardAt, .ref m_lastAt, .ref m_answerAt, .int 0, .int 0, .int 0, .long 0, .int 0, .int 0, .ref m_heardNow, .ref m_seenAt, .int 0, .int 0, .int 0, .int 0, .int 0, .ref m_fewest, .ref m_costNow, .ref m_costThen, .ref m_lawsOf, .ref m_heardBy, .int 0, .int 0, .ref m_placesOf, .ref m_sentIn, .int 0, .int 0, .ref m_lostBy, .ref m_many, .ref m_width, .ref m_numbers, .ref m_moving])), (m_world, .inl (cI, 53, .inl (fun _ => 0)))]) (hS : va_S (fun q : Nat => s.heap.size ≤ q) s.heap H locs) {ls : Array Slot} (hl : lv_has ls 4 [(0, .ref b), (1, .ref x0), (2, .ref m0), (3, .int 0)]) : W p l e room_1 s m #[Value.ref b] below meth c H locs 118 60870 (lw_Z below #[Value.ref b] s) (F0 m 1667 ls []) := by
  obtain ⟨hx, hb, hr, hml, hown, hts0, hX, hbl, hlocks, hgv⟩ := id C0
  have hts : ∀ w ∈ wsL_law, w.before #[Value.ref b] s = true := fun w h => hts0 w (wsL_law_in w h)
  have hA : ∀ q : Nat, s.heap.size ≤ q → (fun q : Nat => s.heap.size ≤ q) q := fun _ h => h
  have hbA : ¬ (fun q : Nat => s.heap.size ≤ q) b := Nat.not_le.mpr hbl
  refine lv_aload_n hx hb dL_law_1667 rfl (lv_at hl 1 rfl) ?_
  refine lv_aload_n hx hb dL_law_1668 rfl (lv_at hl 0 rfl) ?_
  refine lv_iload_n hx hb dL_law_1669 rfl (lv_at hl 3 rfl) ?_
  refine lv_iconst (v := 1) hx hb dL_law_1670 (by decide) ?_
  refine z_iadd (v := 1) hx hb dL_law_1671 (by decide) ?_
  refine va_sld hx hb hX hbl hbA hS (by unfold vp_in; decide) dL_law_1672 ?_
  refine W.eq (g2 := F0 m 1673 ls [.int (xs 1), .ref x0]) rfl ?_
  refine lv_aload_n hx hb dL_law_1673 rfl (lv_at hl 0 rfl) ?_
  refine lv_iload_n hx hb dL_law_1674 rfl (lv_at hl 3 rfl) ?_
  refine lv_iconst (v := 2) hx hb dL_law_1675 (by decide) ?_
  refine z_iadd (v := 2) hx hb dL_law_1676 (by decide) ?_
  refine va_sld hx hb hX hbl hbA hS (by unfold vp_in; decide) dL_law_1677 ?_
  refine W.eq (g2 := F0 m 1678 ls [.int (xs 2), .int (xs 1), .ref x0]) rfl ?_
  refine roi (As := [.int (xs 1), .int (xs 2)]) (rest := []) ⟨hx, hb, hml, hown, hts⟩ (kx_speak l D cB cI cJ cZ cS cT x0 r_tape r_reader r_now r_trial r_images r_kept r_slots r_night r_other r_circle r_words r_law r_place r_drawn n_signs n_posts n_acts (xs 1) (xs 2) ) (cvB (n := 2) (inr66 _ (List.mem_of_getElem? (i := 4) rfl)) (inr66 _ (List.mem_of_getElem? (i := 5) rfl)) (inr66 _ (List.mem_of_getElem? (i := 6) rfl)) (inr1 _ (List.mem_of_getElem? (i := 2) rfl)) (inr66 _ (List.mem_of_getElem? (i := 7) rfl)) (by decide +kernel) hts rfl rfl ⟨Nat.le_of_ble_eq_true rfl, Nat.le_of_ble_eq_true rfl⟩) 0 11 rfl rfl rfl (hP.sub [0, 1] rfl) hK rfl hl.1 rfl (Nat.le_of_ble_eq_true rfl) ⟨Nat.le_of_ble_eq_true rfl, Nat.le_of_ble_eq_true rfl⟩ dL_law_1678 (fun r_1 h_2 => ?_)
  obtain rfl := h_2
  refine lv_aload_n hx hb dL_law_1681 rfl (lv_at hl 2 rfl) ?_
  refine lv_aload_n hx hb dL_law_1682 rfl (lv_at hl 0 rfl) ?_
  refine lv_iload_n hx hb dL_law_1683 rfl (lv_at hl 3 rfl) ?_
  refine lv_iconst (v := 1) hx hb dL_law_1684 (by decide) ?_
  refine z_iadd (v := 1) hx hb dL_law_1685 (by decide) ?_
  refine va_sld hx hb hX hbl hbA hS (by unfold vp_in; decide) dL_law_1686 ?_
  refine W.eq (g2 := F0 m 1687 ls [.int (xs 1), .ref m0, .int (-2)]) rfl ?_
  refine lv_aload_n hx hb dL_law_1687 rfl (lv_at hl 0 rfl) ?_
  refine lv_iload_n hx hb dL_law_1688 rfl (lv_at hl 3 rfl) ?_
  refine lv_iconst (v := 2) hx hb dL_law_1689 (by decide) ?_
  refine z_iadd (v := 2) hx hb dL_law_1690 (by decide) ?_
  refine va_sld hx hb hX hbl hbA hS (by unfold vp_in; decide) dL_law_1691 ?_
  refine W.eq (g2 := F0 m 1692 ls [.int (xs 2), .int (xs 1), .ref m0, .int (-2)]) rfl ?_
  refine roi (As := [.int (xs 1), .int (xs 2)]) (rest := [.int (-2)]) ⟨hx, hb, hml, hown, hts⟩ (km_speak l D cB cI cJ cZ cS cT m0 m_world m_images m_hasImage m_tape m_five m_fresh m_spokenAt m_heardAt m_lastAt m_answerAt m_heardNow m_seenAt m_fewest m_costNow m_costThen m_lawsOf m_heardBy m_placesOf m_sentIn m_lostBy m_many m_width m_numbers m_moving (xs 1) (xs 2) ) (cvB (n := 2) (inr66 _ (List.mem_of_getElem? (i := 19) rfl)) (inr66 _ (List.mem_of_getElem? (i := 20) rfl)) (inr66 _ (List.mem_of_getElem? (i := 21) rfl)) (inr1 _ (List.mem_of_getElem? (i := 5) rfl)) (inr66 _ (List.mem_of_getElem? (i := 22) rfl)) (by decide +kernel) hts rfl rfl ⟨Nat.le_of_ble_eq_true rfl, Nat.le_of_ble_eq_true rfl⟩) 0 12 rfl rfl rfl (hP.sub [2, 3] rfl) hK rfl hl.1 rfl (Nat.le_of_ble_eq_true rfl) ⟨Nat.le_of_ble_eq_true rfl, Nat.le_of_ble_eq_true rfl⟩ dL_law_1692 (fun r_3 h_4 => ?_)
  obtain rfl := h_4
  refine lv_icmp_eq (tgt := 2116) hx hb dL_law_1695 (by decide) (fun _ => ?_) (fun c0 => absurd c0 (by decide))
  exact law_end C0 hK hN (Nat.le_of_ble_eq_true rfl) (Nat.le_of_ble_eq_true rfl) hS (lv_sub hl [0, 1, 2, 3] rfl)

set_option maxHeartbeats 4000000 in
set_option maxRecDepth 100000 in
theorem law_59 {p : Program} {l : Launch} {e : Env} {s : State} {m : MethodId} {below : List Frame} {meth : Method} {c : Code} {D : va_G} {cB cI cJ cZ cS cT : ClassId} {b : Nat} {xs : Nat → Int32} (C0 : lw_At p s m meth c b 6 xs) (hK : va_K D vwCl (tyL cB cI cJ cZ cS cT) s) (hN : kN s) {H : Heap} {locs : List Loc} {x0 : Nat} {m0 : Nat} {r_tape : Nat} {r_reader : Nat} {r_now : Nat} {r_trial : Nat} {r_images : Nat} {r_kept : Nat} {r_slots : Nat} {r_night : Nat} {r_other : Nat} {r_circle : Nat} {r_words : Nat} {r_law : Nat} {r_place : Nat} {r_drawn : Nat} {n_signs : Nat} {n_posts : Nat} {n_acts : Nat} {m_world : Nat} {m_images : Nat} {m_hasImage : Nat} {m_tape : Nat} {m_five : Nat} {m_fresh : Nat} {m_spokenAt : Nat} {m_heardAt : Nat} {m_lastAt : Nat} {m_answerAt : Nat} {m_heardNow : Nat} {m_seenAt : Nat} {m_fewest : Nat} {m_costNow : Nat} {m_costThen : Nat} {m_lawsOf : Nat} {m_heardBy : Nat} {m_placesOf : Nat} {m_sentIn : Nat} {m_lostBy : Nat} {m_many : Nat} {m_width : Nat} {m_numbers : Nat} {m_moving : Nat} (hP : va_P D vwCl [(x0, .inr (11, [.ref r_tape, .ref r_reader, .ref r_now, .ref r_trial, .ref r_images, .ref r_kept, .ref r_slots, .ref r_night, .ref r_other, .ref r_circle, .ref r_words, .ref r_law, .ref r_place, .ref r_drawn])), (r_now, .inr (8, [.int 0, .int 0, .int 0, .int 0, .int 0, .int 0, .int 0, .ref n_signs, .int 0, .ref n_posts, .int 0, .ref n_acts])), (m0, .inr (12, [.int 0, .ref m_world, .ref m_images, .ref m_hasImage, .ref m_tape, .int 0, .ref m_five, .int 0, .int 0, .int 0, .int 0, .int 0, .int 0, .int (-1), .ref m_fresh, .ref m_spokenAt, .ref m_heardAt, .ref m_lastAt, .ref m_answerAt, .int 0, .int 0, .int 0, .long 0, .int 0, .int 0, .ref m_heardNow, .ref m_seenAt, .int 0, .int 0, .int 0, .int 0, .int 0, .ref m_fewest, .ref m_costNow, .ref m_costThen, .ref m_lawsOf, .ref m_heardBy, .int 0, .int 0, .ref m_placesOf, .ref m_sentIn, .int 0, .int 0, .ref m_lostBy, .ref m_many, .ref m_width, .ref m_numbers, .ref m_moving])), (m_world, .inl (cI, 53, .inl (fun _ => 0))), (m_spokenAt, .inl (cI, 61, .inl (fun _ => 0)))] H) (hD : va_D (fun q : Nat => s.heap.size ≤ q) [(x0, .inr (11, [.ref r_tape, .ref r_reader, .ref r_now, .ref r_trial, .ref r_images, .ref r_kept, .ref r_slots, .ref r_night, .ref r_other, .ref r_circle, .ref r_words, .ref r_law, .ref r_place, .ref r_drawn])), (r_now, .inr (8, [.int 0, .int 0, .int 0, .int 0, .int 0, .int 0, .int 0, .ref n_signs, .int 0, .ref n_posts, .int 0, .ref n_acts])), (m0, .inr (12, [.int 0, .ref m_world, .ref m_images, .ref m_hasImage, .ref m_tape, .int 0, .ref m_five, .int 0, .int 0, .int 0, .int 0, .int 0, .int 0, .int (-1), .ref m_fresh, .ref m_spokenAt, .ref m_heardAt, .ref m_lastAt, .ref m_answerAt, .int 0, .int 0, .int 0, .long 0, .int 0, .int 0, .ref m_heardNow, .ref m_seenAt, .int 0, .int 0, .int 0, .int 0, .int 0, .ref m_fewest, .ref m_costNow, .ref m_costThen, .ref m_lawsOf, .ref m_heardBy, .int 0, .int 0, .ref m_placesOf, .ref m_sentIn, .int 0, .int 0, .ref m_lostBy, .ref m_many, .ref m_width, .ref m_numbers, .ref m_moving])), (m_world, .inl (cI, 53, .inl (fun _ => 0))), (m_spokenAt, .inl (cI, 61, .inl (fun _ => 0)))]) (hS : va_S (fun q : Nat => s.heap.size ≤ q) s.heap H locs) {ls : Array Slot} (hl : lv_has ls 4 [(0, .ref b), (1, .ref x0), (2, .ref m0), (3, .int 0)]) : W p l e room_1 s m #[Value.ref b] below meth c H locs 118 60870 (lw_Z below #[Value.ref b] s) (F0 m 1700 ls []) := by
  obtain ⟨hx, hb, hr, hml, hown, hts0, hX, hbl, hlocks, hgv⟩ := id C0
  have hts : ∀ w ∈ wsL_law, w.before #[Value.ref b] s = true := fun w h => hts0 w (wsL_law_in w h)
  have hA : ∀ q : Nat, s.heap.size ≤ q → (fun q : Nat => s.heap.size ≤ q) q := fun _ h => h
  have hbA : ¬ (fun q : Nat => s.heap.size ≤ q) b := Nat.not_le.mpr hbl
  refine lv_aload_n hx hb dL_law_1700 rfl (lv_at hl 1 rfl) ?_
  refine lv_aload_n hx hb dL_law_1701 rfl (lv_at hl 0 rfl) ?_
  refine lv_iload_n hx hb dL_law_1702 rfl (lv_at hl 3 rfl) ?_
  refine lv_iconst (v := 1) hx hb dL_law_1703 (by decide) ?_
  refine z_iadd (v := 1) hx hb dL_law_1704 (by decide) ?_
  refine va_sld hx hb hX hbl hbA hS (by unfold vp_in; decide) dL_law_1705 ?_
  refine W.eq (g2 := F0 m 1706 ls [.int (xs 1), .ref x0]) rfl ?_
  refine roi (As := [.int (xs 1)]) (rest := []) ⟨hx, hb, hml, hown, hts⟩ (kx_spoken l D cB cI cJ cZ cS cT x0 r_tape r_reader r_now r_trial r_images r_kept r_slots r_night r_other r_circle r_words r_law r_place r_drawn n_signs n_posts n_acts (xs 1) ) (cvB (n := 1) (inr66 _ (List.mem_of_getElem? (i := 23) rfl)) (inr67 _ (List.mem_of_getElem? (i := 0) rfl)) (inr67 _ (List.mem_of_getElem? (i := 1) rfl)) (inr1 _ (List.mem_of_getElem? (i := 2) rfl)) (inr67 _ (List.mem_of_getElem? (i := 2) rfl)) (by decide +kernel) hts rfl rfl ⟨Nat.le_of_ble_eq_true rfl, Nat.le_of_ble_eq_true rfl⟩) 0 11 rfl rfl rfl (hP.sub [0, 1] rfl) hK rfl hl.1 rfl (Nat.le_of_ble_eq_true rfl) ⟨Nat.le_of_ble_eq_true rfl, Nat.le_of_ble_eq_true rfl⟩ dL_law_1706 (fun r_1 h_2 => ?_)
  obtain rfl := h_2
  refine lv_aload_n hx hb dL_law_1709 rfl (lv_at hl 2 rfl) ?_
  refine lv_aload_n hx hb dL_law_1710 rfl (lv_at hl 0 rfl) ?_
  refine lv_iload_n hx hb dL_law_1711 rfl (lv_at hl 3 rfl) ?_
  refine lv_iconst (v := 1) hx hb dL_law_1712 (by decide) ?_
  refine z_iadd (v := 1) hx hb dL_law_1713 (by decide) ?_
  refine va_sld hx hb hX hbl hbA hS (by unfold vp_in; decide) dL_law_1714 ?_
  refine W.eq (g2 := F0 m 1715 ls [.int (xs 1), .ref m0, .int (-2)]) rfl ?_
  refine wrVi (As := [.int (xs 1)]) (rest := [.int (-2)]) (wr := [(x0, .inr (11, [.ref r_tape, .ref r_reader, .ref r_now, .ref r_trial, .ref r_images, .ref r_kept, .ref r_slots, .ref r_night, .ref r_other, .ref r_circle, .ref r_words, .ref r_law, .ref r_place, .ref r_drawn])), (r_now, .inr (8, [.int 0, .int 0, .int 0, .int 0, .int 0, .int 0, .int 0, .ref n_signs, .int 0, .ref n_posts, .int 0, .ref n_acts]))]) ⟨hx, hb, hml, hown, hts⟩ (km_spoken l D cB cI cJ cZ cS cT H.size m0 m_world m_images m_hasImage m_tape m_five m_fresh m_spokenAt m_heardAt m_lastAt m_answerAt m_heardNow m_seenAt m_fewest m_costNow m_costThen m_lawsOf m_heardBy m_placesOf m_sentIn m_lostBy m_many m_width m_numbers m_moving (fun _ => 0) (xs 1) ) hP hD hS hA hK hN [2, 3, 4] [0, 1] rfl rfl (by decide) (by decide) (by decide) (cvB (n := 1) (inr67 _ (List.mem_of_getElem? (i := 3) rfl)) (inr67 _ (List.mem_of_getElem? (i := 4) rfl)) (inr67 _ (List.mem_of_getElem? (i := 5) rfl)) (inr1 _ (List.mem_of_getElem? (i := 5) rfl)) (inr67 _ (List.mem_of_getElem? (i := 6) rfl)) (by decide +kernel) hts rfl rfl ⟨Nat.le_of_ble_eq_true rfl, Nat.le_of_ble_eq_true rfl⟩) 0 12 rfl rfl rfl rfl hl.1 rfl (Nat.le_of_ble_eq_true rfl) ⟨Nat.le_of_ble_eq_true rfl, Nat.le_of_ble_eq_true rfl⟩ dL_law_1715 (fun r_3 x9 H locs h_4 hP hD hS => ?_)
  have hP : va_P D vwCl [(x0, .inr (11, [.ref r_tape, .ref r_reader, .ref r_now, .ref r_trial, .ref r_images, .ref r_kept, .ref r_slots, .ref r_night, .ref r_other, .ref r_circle, .ref r_words, .ref r_law, .ref r_place, .ref r_drawn])), (r_now, .inr (8, [.int 0, .int 0, .int 0, .int 0, .int 0, .int 0, .int 0, .ref n_signs, .int 0, .ref n_posts, .int 0, .ref n_acts]))] H := hP
  have hD : va_D (fun q : Nat => s.heap.size ≤ q) [(x0, .inr (11, [.ref r_tape, .ref r_reader, .ref r_now, .ref r_trial, .ref r_images, .ref r_kept, .ref r_slots, .ref r_night, .ref r_other, .ref r_circle, .ref r_words, .ref r_law, .ref r_place, .ref r_drawn])), (r_now, .inr (8, [.int 0, .int 0, .int 0, .int 0, .int 0, .int 0, .int 0, .ref n_signs, .int 0, .ref n_posts, .int 0, .ref n_acts]))] := hD
  obtain rfl := h_4
  refine lv_icmp_eq (tgt := 2116) hx hb dL_law_1718 (by decide) (fun _ => ?_) (fun c0 => absurd c0 (by decide))
  exact law_end C0 hK hN (Nat.le_of_ble_eq_true rfl) (Nat.le_of_ble_eq_true rfl) hS (lv_sub hl [0, 1, 2, 3] rfl)

set_option maxHeartbeats 4000000 in
set_option maxRecDepth 100000 in
theorem law_60 {p : Program} {l : Launch} {e : Env} {s : State} {m : MethodId} {below : List Frame} {meth : Method} {c : Code} {D : va_G} {cB cI cJ cZ cS cT : ClassId} {b : Nat} {xs : Nat → Int32} (C0 : lw_At p s m meth c b 6 xs) (hK : va_K D vwCl (tyL cB cI cJ cZ cS cT) s) (hN : kN s) {H : Heap} {locs : List Loc} {x0 : Nat} {m0 : Nat} {r_tape : Nat} {r_reader : Nat} {r_now : Nat} {r_trial : Nat} {r_images : Nat} {r_kept : Nat} {r_slots : Nat} {r_night : Nat} {r_other : Nat} {r_circle : Nat} {r_words : Nat} {r_law : Nat} {r_place : Nat} {r_drawn : Nat} {n_signs : Nat} {n_posts : Nat} {n_acts : Nat} {m_world : Nat} {m_images : Nat} {m_hasImage : Nat} {m_tape : Nat} {m_five : Nat} {m_fresh : Nat} {m_spokenAt : Nat} {m_heardAt : Nat} {m_lastAt : Nat} {m_answerAt : Nat} {m_heardNow : Nat} {m_seenAt : Nat} {m_fewest : Nat} {m_costNow : Nat} {m_costThen : Nat} {m_lawsOf : Nat} {m_heardBy : Nat} {m_placesOf : Nat} {m_sentIn : Nat} {m_lostBy : Nat} {m_many : Nat} {m_width : Nat} {m_numbers : Nat} {m_moving : Nat} (hP : va_P D vwCl [(x0, .inr (11, [.ref r_tape, .ref r_reader, .ref r_now, .ref r_trial, .ref r_images, .ref r_kept, .ref r_slots, .ref r_night, .ref r_other, .ref r_circle, .ref r_words, .ref r_law, .ref r_place, .ref r_drawn])), (r_now, .inr (8, [.int 0, .int 0, .int 0, .int 0, .int 0, .int 0, .int 0, .ref n_signs, .int 0, .ref n_posts, .int 0, .ref n_acts])), (m0, .inr (12, [.int 0, .ref m_world, .ref m_images, .ref m_hasImage, .ref m_tape, .int 0, .ref m_five, .int 0, .int 0, .int 0, .int 0, .int 0, .int 0, .int (-1), .ref m_fresh, .ref m_spokenAt, .ref m_heardAt, .ref m_lastAt, .ref m_answerAt, .int 0, .int 0, .int 0, .long 0, .int 0, .int 0, .ref m_heardNow, .ref m_seenAt, .int 0, .int 0, .int 0, .int 0, .int 0, .ref m_fewest, .ref m_costNow, .ref m_costThen, .ref m_lawsOf, .ref m_heardBy, .int 0, .int 0, .ref m_placesOf, .ref m_sentIn, .int 0, .int 0, .ref m_lostBy, .ref m_many, .ref m_width, .ref m_numbers, .ref m_moving])), (m_world, .inl (cI, 53, .inl (fun _ => 0)))] H) (hD : va_D (fun q : Nat => s.heap.size ≤ q) [(x0, .inr (11, [.ref r_tape, .ref r_reader, .ref r_now, .ref r_trial, .ref r_images, .ref r_kept, .ref r_slots, .ref r_night, .ref r_other, .ref r_circle, .ref r_words, .ref r_law, .ref r_place, .ref r_drawn])), (r_now, .inr (8, [.int 0, .int 0, .int 0, .int 0, .int 0, .int 0, .int 0, .ref n_signs, .int 0, .ref n_posts, .int 0, .ref n_acts])), (m0, .inr (12, [.int 0, .ref m_world, .ref m_images, .ref m_hasImage, .ref m_tape, .int 0, .ref m_five, .int 0, .int 0, .int 0, .int 0, .int 0, .int 0, .int (-1), .ref m_fresh, .ref m_spokenAt, .ref m_heardAt, .ref m_lastAt, .ref m_answerAt, .int 0, .int 0, .int 0, .long 0, .int 0, .int 0, .ref m_heardNow, .ref m_seenAt, .int 0, .int 0, .int 0, .int 0, .int 0, .ref m_fewest, .ref m_costNow, .ref m_costThen, .ref m_lawsOf, .ref m_heardBy, .int 0, .int 0, .ref m_placesOf, .ref m_sentIn, .int 0, .int 0, .ref m_lostBy, .ref m_many, .ref m_width, .ref m_numbers, .ref m_moving])), (m_world, .inl (cI, 53, .inl (fun _ => 0)))]) (hS : va_S (fun q : Nat => s.heap.size ≤ q) s.heap H locs) {ls : Array Slot} (hl : lv_has ls 4 [(0, .ref b), (1, .ref x0), (2, .ref m0), (3, .int 0)]) : W p l e room_1 s m #[Value.ref b] below meth c H locs 118 60870 (lw_Z below #[Value.ref b] s) (F0 m 1723 ls []) := by
  obtain ⟨hx, hb, hr, hml, hown, hts0, hX, hbl, hlocks, hgv⟩ := id C0
  have hts : ∀ w ∈ wsL_law, w.before #[Value.ref b] s = true := fun w h => hts0 w (wsL_law_in w h)
  have hA : ∀ q : Nat, s.heap.size ≤ q → (fun q : Nat => s.heap.size ≤ q) q := fun _ h => h
  have hbA : ¬ (fun q : Nat => s.heap.size ≤ q) b := Nat.not_le.mpr hbl
  refine lv_aload_n hx hb dL_law_1723 rfl (lv_at hl 1 rfl) ?_
  refine roi (As := []) (rest := []) ⟨hx, hb, hml, hown, hts⟩ (kx_undo l D cB cI cJ cZ cS cT x0 r_tape r_reader r_now r_trial r_images r_kept r_slots r_night r_other r_circle r_words r_law r_place r_drawn n_signs n_posts n_acts ) (cvB (n := 0) (inr67 _ (List.mem_of_getElem? (i := 7) rfl)) (inr67 _ (List.mem_of_getElem? (i := 8) rfl)) (inr67 _ (List.mem_of_getElem? (i := 9) rfl)) (inr1 _ (List.mem_of_getElem? (i := 2) rfl)) (inr67 _ (List.mem_of_getElem? (i := 10) rfl)) (by decide +kernel) hts rfl rfl ⟨Nat.le_of_ble_eq_true rfl, Nat.le_of_ble_eq_true rfl⟩) 0 11 rfl rfl rfl (hP.sub [0, 1] rfl) hK rfl hl.1 rfl (Nat.le_of_ble_eq_true rfl) ⟨Nat.le_of_ble_eq_true rfl, Nat.le_of_ble_eq_true rfl⟩ dL_law_1724 (fun r_1 h_2 => ?_)
  obtain rfl := h_2
  refine lv_aload_n hx hb dL_law_1727 rfl (lv_at hl 2 rfl) ?_
  refine roi (As := []) (rest := [.int (-2)]) ⟨hx, hb, hml, hown, hts⟩ (km_undo l D cB cI cJ cZ cS cT m0 m_world m_images m_hasImage m_tape m_five m_fresh m_spokenAt m_heardAt m_lastAt m_answerAt m_heardNow m_seenAt m_fewest m_costNow m_costThen m_lawsOf m_heardBy m_placesOf m_sentIn m_lostBy m_many m_width m_numbers m_moving ) (cvB (n := 0) (inr67 _ (List.mem_of_getElem? (i := 15) rfl)) (inr67 _ (List.mem_of_getElem? (i := 16) rfl)) (inr67 _ (List.mem_of_getElem? (i := 17) rfl)) (inr1 _ (List.mem_of_getElem? (i := 5) rfl)) (inr67 _ (List.mem_of_getElem? (i := 18) rfl)) (by decide +kernel) hts rfl rfl ⟨Nat.le_of_ble_eq_true rfl, Nat.le_of_ble_eq_true rfl⟩) 0 12 rfl rfl rfl (hP.sub [2, 3] rfl) hK rfl hl.1 rfl (Nat.le_of_ble_eq_true rfl) ⟨Nat.le_of_ble_eq_true rfl, Nat.le_of_ble_eq_true rfl⟩ dL_law_1728 (fun r_3 h_4 => ?_)
  obtain rfl := h_4
  refine lv_icmp_eq (tgt := 2116) hx hb dL_law_1731 (by decide) (fun _ => ?_) (fun c0 => absurd c0 (by decide))
  exact law_end C0 hK hN (Nat.le_of_ble_eq_true rfl) (Nat.le_of_ble_eq_true rfl) hS (lv_sub hl [0, 1, 2, 3] rfl)

set_option maxHeartbeats 4000000 in
set_option maxRecDepth 100000 in
theorem law_61 {p : Program} {l : Launch} {e : Env} {s : State} {m : MethodId} {below : List Frame} {meth : Method} {c : Code} {D : va_G} {cB cI cJ cZ cS cT : ClassId} {b : Nat} {xs : Nat → Int32} (C0 : lw_At p s m meth c b 6 xs) (hK : va_K D vwCl (tyL cB cI cJ cZ cS cT) s) (hN : kN s) {H : Heap} {locs : List Loc} {x0 : Nat} {m0 : Nat} {r_tape : Nat} {r_reader : Nat} {r_now : Nat} {r_trial : Nat} {r_images : Nat} {r_kept : Nat} {r_slots : Nat} {r_night : Nat} {r_other : Nat} {r_circle : Nat} {r_words : Nat} {r_law : Nat} {r_place : Nat} {r_drawn : Nat} {n_signs : Nat} {n_posts : Nat} {n_acts : Nat} {m_world : Nat} {m_images : Nat} {m_hasImage : Nat} {m_tape : Nat} {m_five : Nat} {m_fresh : Nat} {m_spokenAt : Nat} {m_heardAt : Nat} {m_lastAt : Nat} {m_answerAt : Nat} {m_heardNow : Nat} {m_seenAt : Nat} {m_fewest : Nat} {m_costNow : Nat} {m_costThen : Nat} {m_lawsOf : Nat} {m_heardBy : Nat} {m_placesOf : Nat} {m_sentIn : Nat} {m_lostBy : Nat} {m_many : Nat} {m_width : Nat} {m_numbers : Nat} {m_moving : Nat} (hP : va_P D vwCl [(x0, .inr (11, [.ref r_tape, .ref r_reader, .ref r_now, .ref r_trial, .ref r_images, .ref r_kept, .ref r_slots, .ref r_night, .ref r_other, .ref r_circle, .ref r_words, .ref r_law, .ref r_place, .ref r_drawn])), (r_now, .inr (8, [.int 0, .int 0, .int 0, .int 0, .int 0, .int 0, .int 0, .ref n_signs, .int 0, .ref n_posts, .int 0, .ref n_acts])), (m0, .inr (12, [.int 0, .ref m_world, .ref m_images, .ref m_hasImage, .ref m_tape, .int 0, .ref m_five, .int 0, .int 0, .int 0, .int 0, .int 0, .int 0, .int (-1), .ref m_fresh, .ref m_spokenAt, .ref m_heardAt, .ref m_lastAt, .ref m_answerAt, .int 0, .int 0, .int 0, .long 0, .int 0, .int 0, .ref m_heardNow, .ref m_seenAt, .int 0, .int 0, .int 0, .int 0, .int 0, .ref m_fewest, .ref m_costNow, .ref m_costThen, .ref m_lawsOf, .ref m_heardBy, .int 0, .int 0, .ref m_placesOf, .ref m_sentIn, .int 0, .int 0, .ref m_lostBy, .ref m_many, .ref m_width, .ref m_numbers, .ref m_moving])), (m_world, .inl (cI, 53, .inl (fun _ => 0)))] H) (hD : va_D (fun q : Nat => s.heap.size ≤ q) [(x0, .inr (11, [.ref r_tape, .ref r_reader, .ref r_now, .ref r_trial, .ref r_images, .ref r_kept, .ref r_slots, .ref r_night, .ref r_other, .ref r_circle, .ref r_words, .ref r_law, .ref r_place, .ref r_drawn])), (r_now, .inr (8, [.int 0, .int 0, .int 0, .int 0, .int 0, .int 0, .int 0, .ref n_signs, .int 0, .ref n_posts, .int 0, .ref n_acts])), (m0, .inr (12, [.int 0, .ref m_world, .ref m_images, .ref m_hasImage, .ref m_tape, .int 0, .ref m_five, .int 0, .int 0, .int 0, .int 0, .int 0, .int 0, .int (-1), .ref m_fresh, .ref m_spokenAt, .ref m_heardAt, .ref m_lastAt, .ref m_answerAt, .int 0, .int 0, .int 0, .long 0, .int 0, .int 0, .ref m_heardNow, .ref m_seenAt, .int 0, .int 0, .int 0, .int 0, .int 0, .ref m_fewest, .ref m_costNow, .ref m_costThen, .ref m_lawsOf, .ref m_heardBy, .int 0, .int 0, .ref m_placesOf, .ref m_sentIn, .int 0, .int 0, .ref m_lostBy, .ref m_many, .ref m_width, .ref m_numbers, .ref m_moving])), (m_world, .inl (cI, 53, .inl (fun _ => 0)))]) (hS : va_S (fun q : Nat => s.heap.size ≤ q) s.heap H locs) {ls : Array Slot} (hl : lv_has ls 4 [(0, .ref b), (1, .ref x0), (2, .ref m0), (3, .int 0)]) : W p l e room_1 s m #[Value.ref b] below meth c H locs 118 60870 (lw_Z below #[Value.ref b] s) (F0 m 1736 ls []) := by
  obtain ⟨hx, hb, hr, hml, hown, hts0, hX, hbl, hlocks, hgv⟩ := id C0
  have hts : ∀ w ∈ wsL_law, w.before #[Value.ref b] s = true := fun w h => hts0 w (wsL_law_in w h)
  have hA : ∀ q : Nat, s.heap.size ≤ q → (fun q : Nat => s.heap.size ≤ q) q := fun _ h => h
  have hbA : ¬ (fun q : Nat => s.heap.size ≤ q) b := Nat.not_le.mpr hbl
  refine lv_aload_n hx hb dL_law_1736 rfl (lv_at hl 1 rfl) ?_
  refine roi (As := []) (rest := []) ⟨hx, hb, hml, hown, hts⟩ (kx_anew l D cB cI cJ cZ cS cT x0 r_tape r_reader r_now r_trial r_images r_kept r_slots r_night r_other r_circle r_words r_law r_place r_drawn n_signs n_posts n_acts ) (cvB (n := 0) (inr67 _ (List.mem_of_getElem? (i := 19) rfl)) (inr67 _ (List.mem_of_getElem? (i := 20) rfl)) (inr67 _ (List.mem_of_getElem? (i := 21) rfl)) (inr1 _ (List.mem_of_getElem? (i := 2) rfl)) (inr67 _ (List.mem_of_getElem? (i := 22) rfl)) (by decide +kernel) hts rfl rfl ⟨Nat.le_of_ble_eq_true rfl, Nat.le_of_ble_eq_true rfl⟩) 0 11 rfl rfl rfl (hP.sub [0, 1] rfl) hK rfl hl.1 rfl (Nat.le_of_ble_eq_true rfl) ⟨Nat.le_of_ble_eq_true rfl, Nat.le_of_ble_eq_true rfl⟩ dL_law_1737 (fun r_1 h_2 => ?_)
  obtain rfl := h_2
  refine lv_aload_n hx hb dL_law_1740 rfl (lv_at hl 2 rfl) ?_
  refine roi (As := []) (rest := [.int (-2)]) ⟨hx, hb, hml, hown, hts⟩ (km_anew l D cB cI cJ cZ cS cT m0 m_world m_images m_hasImage m_tape m_five m_fresh m_spokenAt m_heardAt m_lastAt m_answerAt m_heardNow m_seenAt m_fewest m_costNow m_costThen m_lawsOf m_heardBy m_placesOf m_sentIn m_lostBy m_many m_width m_numbers m_moving ) (cvB (n := 0) (inr67 _ (List.mem_of_getElem? (i := 23) rfl)) (inr68 _ (List.mem_of_getElem? (i := 0) rfl)) (inr68 _ (List.mem_of_getElem? (i := 1) rfl)) (inr1 _ (List.mem_of_getElem? (i := 5) rfl)) (inr68 _ (List.mem_of_getElem? (i := 2) rfl)) (by decide +kernel) hts rfl rfl ⟨Nat.le_of_ble_eq_true rfl, Nat.le_of_ble_eq_true rfl⟩) 0 12 rfl rfl rfl (hP.sub [2, 3] rfl) hK rfl hl.1 rfl (Nat.le_of_ble_eq_true rfl) ⟨Nat.le_of_ble_eq_true rfl, Nat.le_of_ble_eq_true rfl⟩ dL_law_1741 (fun r_3 h_4 => ?_)
  obtain rfl := h_4
  refine lv_icmp_eq (tgt := 2116) hx hb dL_law_1744 (by decide) (fun _ => ?_) (fun c0 => absurd c0 (by decide))
  exact law_end C0 hK hN (Nat.le_of_ble_eq_true rfl) (Nat.le_of_ble_eq_true rfl) hS (lv_sub hl [0, 1, 2, 3] rfl)

set_option maxHeartbeats 4000000 in
set_option maxRecDepth 100000 in
theorem law_62 {p : Program} {l : Launch} {e : Env} {s : State} {m : MethodId} {below : List Frame} {meth : Method} {c : Code} {D : va_G} {cB cI cJ cZ cS cT : ClassId} {b : Nat} {xs : Nat → Int32} (C0 : lw_At p s m meth c b 6 xs) (hK : va_K D vwCl (tyL cB cI cJ cZ cS cT) s) (hN : kN s) {H : Heap} {locs : List Loc} {x0 : Nat} {m0 : Nat} {r_tape : Nat} {r_reader : Nat} {r_now : Nat} {r_trial : Nat} {r_images : Nat} {r_kept : Nat} {r_slots : Nat} {r_night : Nat} {r_other : Nat} {r_circle : Nat} {r_words : Nat} {r_law : Nat} {r_place : Nat} {r_drawn : Nat} {n_signs : Nat} {n_posts : Nat} {n_acts : Nat} {m_world : Nat} {m_images : Nat} {m_hasImage : Nat} {m_tape : Nat} {m_five : Nat} {m_fresh : Nat} {m_spokenAt : Nat} {m_heardAt : Nat} {m_lastAt : Nat} {m_answerAt : Nat} {m_heardNow : Nat} {m_seenAt : Nat} {m_fewest : Nat} {m_costNow : Nat} {m_costThen : Nat} {m_lawsOf : Nat} {m_heardBy : Nat} {m_placesOf : Nat} {m_sentIn : Nat} {m_lostBy : Nat} {m_many : Nat} {m_width : Nat} {m_numbers : Nat} {m_moving : Nat} (hP : va_P D vwCl [(x0, .inr (11, [.ref r_tape, .ref r_reader, .ref r_now, .ref r_trial, .ref r_images, .ref r_kept, .ref r_slots, .ref r_night, .ref r_other, .ref r_circle, .ref r_words, .ref r_law, .ref r_place, .ref r_drawn])), (r_now, .inr (8, [.int 0, .int 0, .int 0, .int 0, .int 0, .int 0, .int 0, .ref n_signs, .int 0, .ref n_posts, .int 0, .ref n_acts])), (m0, .inr (12, [.int 0, .ref m_world, .ref m_images, .ref m_hasImage, .ref m_tape, .int 0, .ref m_five, .int 0, .int 0, .int 0, .int 0, .int 0, .int 0, .int (-1), .ref m_fresh, .ref m_spokenAt, .ref m_heardAt, .ref m_lastAt, .ref m_answerAt, .int 0, .int 0, .int 0, .long 0, .int 0, .int 0, .ref m_heardNow, .ref m_seenAt, .int 0, .int 0, .int 0, .int 0, .int 0, .ref m_fewest, .ref m_costNow, .ref m_costThen, .ref m_lawsOf, .ref m_heardBy, .int 0, .int 0, .ref m_placesOf, .ref m_sentIn, .int 0, .int 0, .ref m_lostBy, .ref m_many, .ref m_width, .ref m_numbers, .ref m_moving])), (m_world, .inl (cI, 53, .inl (fun _ => 0)))] H) (hD : va_D (fun q : Nat => s.heap.size ≤ q) [(x0, .inr (11, [.ref r_tape, .ref r_reader, .ref r_now, .ref r_trial, .ref r_images, .ref r_kept, .ref r_slots, .ref r_night, .ref r_other, .ref r_circle, .ref r_words, .ref r_law, .ref r_place, .ref r_drawn])), (r_now, .inr (8, [.int 0, .int 0, .int 0, .int 0, .int 0, .int 0, .int 0, .ref n_signs, .int 0, .ref n_posts, .int 0, .ref n_acts])), (m0, .inr (12, [.int 0, .ref m_world, .ref m_images, .ref m_hasImage, .ref m_tape, .int 0, .ref m_five, .int 0, .int 0, .int 0, .int 0, .int 0, .int 0, .int (-1), .ref m_fresh, .ref m_spokenAt, .ref m_heardAt, .ref m_lastAt, .ref m_answerAt, .int 0, .int 0, .int 0, .long 0, .int 0, .int 0, .ref m_heardNow, .ref m_seenAt, .int 0, .int 0, .int 0, .int 0, .int 0, .ref m_fewest, .ref m_costNow, .ref m_costThen, .ref m_lawsOf, .ref m_heardBy, .int 0, .int 0, .ref m_placesOf, .ref m_sentIn, .int 0, .int 0, .ref m_lostBy, .ref m_many, .ref m_width, .ref m_numbers, .ref m_moving])), (m_world, .inl (cI, 53, .inl (fun _ => 0)))]) (hS : va_S (fun q : Nat => s.heap.size ≤ q) s.heap H locs) {ls : Array Slot} (hl : lv_has ls 4 [(0, .ref b), (1, .ref x0), (2, .ref m0), (3, .int 0)]) : W p l e room_1 s m #[Value.ref b] below meth c H locs 118 60870 (lw_Z below #[Value.ref b] s) (F0 m 1749 ls []) := by
  obtain ⟨hx, hb, hr, hml, hown, hts0, hX, hbl, hlocks, hgv⟩ := id C0
  have hts : ∀ w ∈ wsL_law, w.before #[Value.ref b] s = true := fun w h => hts0 w (wsL_law_in w h)
  have hA : ∀ q : Nat, s.heap.size ≤ q → (fun q : Nat => s.heap.size ≤ q) q := fun _ h => h
  have hbA : ¬ (fun q : Nat => s.heap.size ≤ q) b := Nat.not_le.mpr hbl
  refine lv_aload_n hx hb dL_law_1749 rfl (lv_at hl 1 rfl) ?_
  refine lv_aload_n hx hb dL_law_1750 rfl (lv_at hl 0 rfl) ?_
  refine lv_iload_n hx hb dL_law_1751 rfl (lv_at hl 3 rfl) ?_
  refine lv_iconst (v := 1) hx hb dL_law_1752 (by decide) ?_
  refine z_iadd (v := 1) hx hb dL_law_1753 (by decide) ?_
  refine va_sld hx hb hX hbl hbA hS (by unfold vp_in; decide) dL_law_1754 ?_
  refine W.eq (g2 := F0 m 1755 ls [.int (xs 1), .ref x0]) rfl ?_
  refine lv_aload_n hx hb dL_law_1755 rfl (lv_at hl 0 rfl) ?_
  refine lv_iload_n hx hb dL_law_1756 rfl (lv_at hl 3 rfl) ?_
  refine lv_iconst (v := 2) hx hb dL_law_1757 (by decide) ?_
  refine z_iadd (v := 2) hx hb dL_law_1758 (by decide) ?_
  refine va_sld hx hb hX hbl hbA hS (by unfold vp_in; decide) dL_law_1759 ?_
  refine W.eq (g2 := F0 m 1760 ls [.int (xs 2), .int (xs 1), .ref x0]) rfl ?_
  refine lv_aload_n hx hb dL_law_1760 rfl (lv_at hl 0 rfl) ?_
  refine lv_iload_n hx hb dL_law_1761 rfl (lv_at hl 3 rfl) ?_
  refine lv_iconst (v := 3) hx hb dL_law_1762 (by decide) ?_
  refine z_iadd (v := 3) hx hb dL_law_1763 (by decide) ?_
  refine va_sld hx hb hX hbl hbA hS (by unfold vp_in; decide) dL_law_1764 ?_
  refine W.eq (g2 := F0 m 1765 ls [.int (xs 3), .int (xs 2), .int (xs 1), .ref x0]) rfl ?_
  refine roi (As := [.int (xs 1), .int (xs 2), .int (xs 3)]) (rest := []) ⟨hx, hb, hml, hown, hts⟩ (kx_drawn l D cB cI cJ cZ cS cT x0 r_tape r_reader r_now r_trial r_images r_kept r_slots r_night r_other r_circle r_words r_law r_place r_drawn n_signs n_posts n_acts (xs 1) (xs 2) (xs 3) ) (cvB (n := 3) (inr68 _ (List.mem_of_getElem? (i := 3) rfl)) (inr68 _ (List.mem_of_getElem? (i := 4) rfl)) (inr68 _ (List.mem_of_getElem? (i := 5) rfl)) (inr1 _ (List.mem_of_getElem? (i := 2) rfl)) (inr68 _ (List.mem_of_getElem? (i := 6) rfl)) (by decide +kernel) hts rfl rfl ⟨Nat.le_of_ble_eq_true rfl, Nat.le_of_ble_eq_true rfl⟩) 0 11 rfl rfl rfl (hP.sub [0, 1] rfl) hK rfl hl.1 rfl (Nat.le_of_ble_eq_true rfl) ⟨Nat.le_of_ble_eq_true rfl, Nat.le_of_ble_eq_true rfl⟩ dL_law_1765 (fun r_1 h_2 => ?_)
  obtain rfl := h_2
  refine lv_aload_n hx hb dL_law_1768 rfl (lv_at hl 2 rfl) ?_
  refine lv_aload_n hx hb dL_law_1769 rfl (lv_at hl 0 rfl) ?_
  refine lv_iload_n hx hb dL_law_1770 rfl (lv_at hl 3 rfl) ?_
  refine lv_iconst (v := 1) hx hb dL_law_1771 (by decide) ?_
  refine z_iadd (v := 1) hx hb dL_law_1772 (by decide) ?_
  refine va_sld hx hb hX hbl hbA hS (by unfold vp_in; decide) dL_law_1773 ?_
  refine W.eq (g2 := F0 m 1774 ls [.int (xs 1), .ref m0, .int (-2)]) rfl ?_
  refine lv_aload_n hx hb dL_law_1774 rfl (lv_at hl 0 rfl) ?_
  refine lv_iload_n hx hb dL_law_1775 rfl (lv_at hl 3 rfl) ?_
  refine lv_iconst (v := 2) hx hb dL_law_1776 (by decide) ?_
  refine z_iadd (v := 2) hx hb dL_law_1777 (by decide) ?_
  refine va_sld hx hb hX hbl hbA hS (by unfold vp_in; decide) dL_law_1778 ?_
  refine W.eq (g2 := F0 m 1779 ls [.int (xs 2), .int (xs 1), .ref m0, .int (-2)]) rfl ?_
  refine lv_aload_n hx hb dL_law_1779 rfl (lv_at hl 0 rfl) ?_
  refine lv_iload_n hx hb dL_law_1780 rfl (lv_at hl 3 rfl) ?_
  refine lv_iconst (v := 3) hx hb dL_law_1781 (by decide) ?_
  refine z_iadd (v := 3) hx hb dL_law_1782 (by decide) ?_
  refine va_sld hx hb hX hbl hbA hS (by unfold vp_in; decide) dL_law_1783 ?_
  refine W.eq (g2 := F0 m 1784 ls [.int (xs 3), .int (xs 2), .int (xs 1), .ref m0, .int (-2)]) rfl ?_
  refine roi (As := [.int (xs 1), .int (xs 2), .int (xs 3)]) (rest := [.int (-2)]) ⟨hx, hb, hml, hown, hts⟩ (km_drawn l D cB cI cJ cZ cS cT m0 m_world m_images m_hasImage m_tape m_five m_fresh m_spokenAt m_heardAt m_lastAt m_answerAt m_heardNow m_seenAt m_fewest m_costNow m_costThen m_lawsOf m_heardBy m_placesOf m_sentIn m_lostBy m_many m_width m_numbers m_moving (xs 1) (xs 2) (xs 3) ) (cvB (n := 3) (inr69 _ (List.mem_of_getElem? (i := 22) rfl)) (inr69 _ (List.mem_of_getElem? (i := 23) rfl)) (inr70 _ (List.mem_of_getElem? (i := 0) rfl)) (inr1 _ (List.mem_of_getElem? (i := 5) rfl)) (inr70 _ (List.mem_of_getElem? (i := 1) rfl)) (by decide +kernel) hts rfl rfl ⟨Nat.le_of_ble_eq_true rfl, Nat.le_of_ble_eq_true rfl⟩) 0 12 rfl rfl rfl (hP.sub [2, 3] rfl) hK rfl hl.1 rfl (Nat.le_of_ble_eq_true rfl) ⟨Nat.le_of_ble_eq_true rfl, Nat.le_of_ble_eq_true rfl⟩ dL_law_1784 (fun r_3 h_4 => ?_)
  obtain rfl := h_4
  refine lv_icmp_eq (tgt := 2116) hx hb dL_law_1787 (by decide) (fun _ => ?_) (fun c0 => absurd c0 (by decide))
  exact law_end C0 hK hN (Nat.le_of_ble_eq_true rfl) (Nat.le_of_ble_eq_true rfl) hS (lv_sub hl [0, 1, 2, 3] rfl)

set_option maxHeartbeats 4000000 in
set_option maxRecDepth 100000 in
theorem law_63 {p : Program} {l : Launch} {e : Env} {s : State} {m : MethodId} {below : List Frame} {meth : Method} {c : Code} {D : va_G} {cB cI cJ cZ cS cT : ClassId} {b : Nat} {xs : Nat → Int32} (C0 : lw_At p s m meth c b 6 xs) (hK : va_K D vwCl (tyL cB cI cJ cZ cS cT) s) (hN : kN s) {H : Heap} {locs : List Loc} {x0 : Nat} {m0 : Nat} {r_tape : Nat} {r_reader : Nat} {r_now : Nat} {r_trial : Nat} {r_images : Nat} {r_kept : Nat} {r_slots : Nat} {r_night : Nat} {r_other : Nat} {r_circle : Nat} {r_words : Nat} {r_law : Nat} {r_place : Nat} {r_drawn : Nat} {n_signs : Nat} {n_posts : Nat} {n_acts : Nat} {m_world : Nat} {m_images : Nat} {m_hasImage : Nat} {m_tape : Nat} {m_five : Nat} {m_fresh : Nat} {m_spokenAt : Nat} {m_heardAt : Nat} {m_lastAt : Nat} {m_answerAt : Nat} {m_heardNow : Nat} {m_seenAt : Nat} {m_fewest : Nat} {m_costNow : Nat} {m_costThen : Nat} {m_lawsOf : Nat} {m_heardBy : Nat} {m_placesOf : Nat} {m_sentIn : Nat} {m_lostBy : Nat} {m_many : Nat} {m_width : Nat} {m_numbers : Nat} {m_moving : Nat} (hP : va_P D vwCl [(x0, .inr (11, [.ref r_tape, .ref r_reader, .ref r_now, .ref r_trial, .ref r_images, .ref r_kept, .ref r_slots, .ref r_night, .ref r_other, .ref r_circle, .ref r_words, .ref r_law, .ref r_place, .ref r_drawn])), (r_now, .inr (8, [.int 0, .int 0, .int 0, .int 0, .int 0, .int 0, .int 0, .ref n_signs, .int 0, .ref n_posts, .int 0, .ref n_acts])), (m0, .inr (12, [.int 0, .ref m_world, .ref m_images, .ref m_hasImage, .ref m_tape, .int 0, .ref m_five, .int 0, .int 0, .int 0, .int 0, .int 0, .int 0, .int (-1), .ref m_fresh, .ref m_spokenAt, .ref m_heardAt, .ref m_lastAt, .ref m_answerAt, .int 0, .int 0, .int 0, .long 0, .int 0, .int 0, .ref m_heardNow, .ref m_seenAt, .int 0, .int 0, .int 0, .int 0, .int 0, .ref m_fewest, .ref m_costNow, .ref m_costThen, .ref m_lawsOf, .ref m_heardBy, .int 0, .int 0, .ref m_placesOf, .ref m_sentIn, .int 0, .int 0, .ref m_lostBy, .ref m_many, .ref m_width, .ref m_numbers, .ref m_moving])), (m_world, .inl (cI, 53, .inl (fun _ => 0)))] H) (hD : va_D (fun q : Nat => s.heap.size ≤ q) [(x0, .inr (11, [.ref r_tape, .ref r_reader, .ref r_now, .ref r_trial, .ref r_images, .ref r_kept, .ref r_slots, .ref r_night, .ref r_other, .ref r_circle, .ref r_words, .ref r_law, .ref r_place, .ref r_drawn])), (r_now, .inr (8, [.int 0, .int 0, .int 0, .int 0, .int 0, .int 0, .int 0, .ref n_signs, .int 0, .ref n_posts, .int 0, .ref n_acts])), (m0, .inr (12, [.int 0, .ref m_world, .ref m_images, .ref m_hasImage, .ref m_tape, .int 0, .ref m_five, .int 0, .int 0, .int 0, .int 0, .int 0, .int 0, .int (-1), .ref m_fresh, .ref m_spokenAt, .ref m_heardAt, .ref m_lastAt, .ref m_answerAt, .int 0, .int 0, .int 0, .long 0, .int 0, .int 0, .ref m_heardNow, .ref m_seenAt, .int 0, .int 0, .int 0, .int 0, .int 0, .ref m_fewest, .ref m_costNow, .ref m_costThen, .ref m_lawsOf, .ref m_heardBy, .int 0, .int 0, .ref m_placesOf, .ref m_sentIn, .int 0, .int 0, .ref m_lostBy, .ref m_many, .ref m_width, .ref m_numbers, .ref m_moving])), (m_world, .inl (cI, 53, .inl (fun _ => 0)))]) (hS : va_S (fun q : Nat => s.heap.size ≤ q) s.heap H locs) {ls : Array Slot} (hl : lv_has ls 4 [(0, .ref b), (1, .ref x0), (2, .ref m0), (3, .int 0)]) : W p l e room_1 s m #[Value.ref b] below meth c H locs 118 60870 (lw_Z below #[Value.ref b] s) (F0 m 1792 ls []) := by
  obtain ⟨hx, hb, hr, hml, hown, hts0, hX, hbl, hlocks, hgv⟩ := id C0
  have hts : ∀ w ∈ wsL_law, w.before #[Value.ref b] s = true := fun w h => hts0 w (wsL_law_in w h)
  have hA : ∀ q : Nat, s.heap.size ≤ q → (fun q : Nat => s.heap.size ≤ q) q := fun _ h => h
  have hbA : ¬ (fun q : Nat => s.heap.size ≤ q) b := Nat.not_le.mpr hbl
  refine lv_aload_n hx hb dL_law_1792 rfl (lv_at hl 1 rfl) ?_
  refine lv_aload_n hx hb dL_law_1793 rfl (lv_at hl 0 rfl) ?_
  refine lv_iload_n hx hb dL_law_1794 rfl (lv_at hl 3 rfl) ?_
  refine lv_iconst (v := 1) hx hb dL_law_1795 (by decide) ?_
  refine z_iadd (v := 1) hx hb dL_law_1796 (by decide) ?_
  refine va_sld hx hb hX hbl hbA hS (by unfold vp_in; decide) dL_law_1797 ?_
  refine W.eq (g2 := F0 m 1798 ls [.int (xs 1), .ref x0]) rfl ?_
  refine lv_aload_n hx hb dL_law_1798 rfl (lv_at hl 0 rfl) ?_
  refine lv_iload_n hx hb dL_law_1799 rfl (lv_at hl 3 rfl) ?_
  refine lv_iconst (v := 2) hx hb dL_law_1800 (by decide) ?_
  refine z_iadd (v := 2) hx hb dL_law_1801 (by decide) ?_
  refine va_sld hx hb hX hbl hbA hS (by unfold vp_in; decide) dL_law_1802 ?_
  refine W.eq (g2 := F0 m 1803 ls [.int (xs 2), .int (xs 1), .ref x0]) rfl ?_
  refine lv_aload_n hx hb dL_law_1803 rfl (lv_at hl 0 rfl) ?_
  refine lv_iload_n hx hb dL_law_1804 rfl (lv_at hl 3 rfl) ?_
  refine lv_iconst (v := 3) hx hb dL_law_1805 (by decide) ?_
  refine z_iadd (v := 3) hx hb dL_law_1806 (by decide) ?_
  refine va_sld hx hb hX hbl hbA hS (by unfold vp_in; decide) dL_law_1807 ?_
  refine W.eq (g2 := F0 m 1808 ls [.int (xs 3), .int (xs 2), .int (xs 1), .ref x0]) rfl ?_
  refine lv_aload_n hx hb dL_law_1808 rfl (lv_at hl 0 rfl) ?_
  refine lv_iload_n hx hb dL_law_1809 rfl (lv_at hl 3 rfl) ?_
  refine lv_iconst (v := 4) hx hb dL_law_1810 (by decide) ?_
  refine z_iadd (v := 4) hx hb dL_law_1811 (by decide) ?_
  refine va_sld hx hb hX hbl hbA hS (by unfold vp_in; decide) dL_law_1812 ?_
  refine W.eq (g2 := F0 m 1813 ls [.int (xs 4), .int (xs 3), .int (xs 2), .int (xs 1), .ref x0]) rfl ?_
  refine roi (As := [.int (xs 1), .int (xs 2), .int (xs 3), .int (xs 4)]) (rest := []) ⟨hx, hb, hml, hown, hts⟩ (kx_luck l D cB cI cJ cZ cS cT x0 r_tape r_reader r_now r_trial r_images r_kept r_slots r_night r_other r_circle r_words r_law r_place r_drawn n_signs n_posts n_acts (xs 1) (xs 2) (xs 3) (xs 4) ) (cvB (n := 4) (inr70 _ (List.mem_of_getElem? (i := 10) rfl)) (inr70 _ (List.mem_of_getElem? (i := 11) rfl)) (inr70 _ (List.mem_of_getElem? (i := 12) rfl)) (inr1 _ (List.mem_of_getElem? (i := 2) rfl)) (inr70 _ (List.mem_of_getElem? (i := 13) rfl)) (by decide +kernel) hts rfl rfl ⟨Nat.le_of_ble_eq_true rfl, Nat.le_of_ble_eq_true rfl⟩) 0 11 rfl rfl rfl (hP.sub [0, 1] rfl) hK rfl hl.1 rfl (Nat.le_of_ble_eq_true rfl) ⟨Nat.le_of_ble_eq_true rfl, Nat.le_of_ble_eq_true rfl⟩ dL_law_1813 (fun r_1 h_2 => ?_)
  obtain rfl := h_2
  refine lv_aload_n hx hb dL_law_1816 rfl (lv_at hl 2 rfl) ?_
  refine lv_aload_n hx hb dL_law_1817 rfl (lv_at hl 0 rfl) ?_
  refine lv_iload_n hx hb dL_law_1818 rfl (lv_at hl 3 rfl) ?_
  refine lv_iconst (v := 1) hx hb dL_law_1819 (by decide) ?_
  refine z_iadd (v := 1) hx hb dL_law_1820 (by decide) ?_
  refine va_sld hx hb hX hbl hbA hS (by unfold vp_in; decide) dL_law_1821 ?_
  refine W.eq (g2 := F0 m 1822 ls [.int (xs 1), .ref m0, .int (-2)]) rfl ?_
  refine lv_aload_n hx hb dL_law_1822 rfl (lv_at hl 0 rfl) ?_
  refine lv_iload_n hx hb dL_law_1823 rfl (lv_at hl 3 rfl) ?_
  refine lv_iconst (v := 2) hx hb dL_law_1824 (by decide) ?_
  refine z_iadd (v := 2) hx hb dL_law_1825 (by decide) ?_
  refine va_sld hx hb hX hbl hbA hS (by unfold vp_in; decide) dL_law_1826 ?_
  refine W.eq (g2 := F0 m 1827 ls [.int (xs 2), .int (xs 1), .ref m0, .int (-2)]) rfl ?_
  refine lv_aload_n hx hb dL_law_1827 rfl (lv_at hl 0 rfl) ?_
  refine lv_iload_n hx hb dL_law_1828 rfl (lv_at hl 3 rfl) ?_
  refine lv_iconst (v := 3) hx hb dL_law_1829 (by decide) ?_
  refine z_iadd (v := 3) hx hb dL_law_1830 (by decide) ?_
  refine va_sld hx hb hX hbl hbA hS (by unfold vp_in; decide) dL_law_1831 ?_
  refine W.eq (g2 := F0 m 1832 ls [.int (xs 3), .int (xs 2), .int (xs 1), .ref m0, .int (-2)]) rfl ?_
  refine lv_aload_n hx hb dL_law_1832 rfl (lv_at hl 0 rfl) ?_
  refine lv_iload_n hx hb dL_law_1833 rfl (lv_at hl 3 rfl) ?_
  refine lv_iconst (v := 4) hx hb dL_law_1834 (by decide) ?_
  refine z_iadd (v := 4) hx hb dL_law_1835 (by decide) ?_
  refine va_sld hx hb hX hbl hbA hS (by unfold vp_in; decide) dL_law_1836 ?_
  refine W.eq (g2 := F0 m 1837 ls [.int (xs 4), .int (xs 3), .int (xs 2), .int (xs 1), .ref m0, .int (-2)]) rfl ?_
  refine roi (As := [.int (xs 1), .int (xs 2), .int (xs 3), .int (xs 4)]) (rest := [.int (-2)]) ⟨hx, hb, hml, hown, hts⟩ (km_luck l D cB cI cJ cZ cS cT m0 m_world m_images m_hasImage m_tape m_five m_fresh m_spokenAt m_heardAt m_lastAt m_answerAt m_heardNow m_seenAt m_fewest m_costNow m_costThen m_lawsOf m_heardBy m_placesOf m_sentIn m_lostBy m_many m_width m_numbers m_moving (xs 1) (xs 2) (xs 3) (xs 4) ) (cvB (n := 4) (inr70 _ (List.mem_of_getElem? (i := 15) rfl)) (inr70 _ (List.mem_of_getElem? (i := 16) rfl)) (inr70 _ (List.mem_of_getElem? (i := 17) rfl)) (inr1 _ (List.mem_of_getElem? (i := 5) rfl)) (inr70 _ (List.mem_of_getElem? (i := 18) rfl)) (by decide +kernel) hts rfl rfl ⟨Nat.le_of_ble_eq_true rfl, Nat.le_of_ble_eq_true rfl⟩) 0 12 rfl rfl rfl (hP.sub [2, 3] rfl) hK rfl hl.1 rfl (Nat.le_of_ble_eq_true rfl) ⟨Nat.le_of_ble_eq_true rfl, Nat.le_of_ble_eq_true rfl⟩ dL_law_1837 (fun r_3 h_4 => ?_)
  obtain rfl := h_4
  refine lv_icmp_eq (tgt := 2116) hx hb dL_law_1840 (by decide) (fun _ => ?_) (fun c0 => absurd c0 (by decide))
  exact law_end C0 hK hN (Nat.le_of_ble_eq_true rfl) (Nat.le_of_ble_eq_true rfl) hS (lv_sub hl [0, 1, 2, 3] rfl)

set_option maxHeartbeats 4000000 in
set_option maxRecDepth 100000 in
theorem law_64 {p : Program} {l : Launch} {e : Env} {s : State} {m : MethodId} {below : List Frame} {meth : Method} {c : Code} {D : va_G} {cB cI cJ cZ cS cT : ClassId} {b : Nat} {xs : Nat → Int32} (C0 : lw_At p s m meth c b 6 xs) (hK : va_K D vwCl (tyL cB cI cJ cZ cS cT) s) (hN : kN s) {H : Heap} {locs : List Loc} {x0 : Nat} {m0 : Nat} {r_tape : Nat} {r_reader : Nat} {r_now : Nat} {r_trial : Nat} {r_images : Nat} {r_kept : Nat} {r_slots : Nat} {r_night : Nat} {r_other : Nat} {r_circle : Nat} {r_words : Nat} {r_law : Nat} {r_place : Nat} {r_drawn : Nat} {n_signs : Nat} {n_posts : Nat} {n_acts : Nat} {m_world : Nat} {m_images : Nat} {m_hasImage : Nat} {m_tape : Nat} {m_five : Nat} {m_fresh : Nat} {m_spokenAt : Nat} {m_heardAt : Nat} {m_lastAt : Nat} {m_answerAt : Nat} {m_heardNow : Nat} {m_seenAt : Nat} {m_fewest : Nat} {m_costNow : Nat} {m_costThen : Nat} {m_lawsOf : Nat} {m_heardBy : Nat} {m_placesOf : Nat} {m_sentIn : Nat} {m_lostBy : Nat} {m_many : Nat} {m_width : Nat} {m_numbers : Nat} {m_moving : Nat} (hP : va_P D vwCl [(x0, .inr (11, [.ref r_tape, .ref r_reader, .ref r_now, .ref r_trial, .ref r_images, .ref r_kept, .ref r_slots, .ref r_night, .ref r_other, .ref r_circle, .ref r_words, .ref r_law, .ref r_place, .ref r_drawn])), (r_now, .inr (8, [.int 0, .int 0, .int 0, .int 0, .int 0, .int 0, .int 0, .ref n_signs, .int 0, .ref n_posts, .int 0, .ref n_acts])), (m0, .inr (12, [.int 0, .ref m_world, .ref m_images, .ref m_hasImage, .ref m_tape, .int 0, .ref m_five, .int 0, .int 0, .int 0, .int 0, .int 0, .int 0, .int (-1), .ref m_fresh, .ref m_spokenAt, .ref m_heardAt, .ref m_lastAt, .ref m_answerAt, .int 0, .int 0, .int 0, .long 0, .int 0, .int 0, .ref m_heardNow, .ref m_seenAt, .int 0, .int 0, .int 0, .int 0, .int 0, .ref m_fewest, .ref m_costNow, .ref m_costThen, .ref m_lawsOf, .ref m_heardBy, .int 0, .int 0, .ref m_placesOf, .ref m_sentIn, .int 0, .int 0, .ref m_lostBy, .ref m_many, .ref m_width, .ref m_numbers, .ref m_moving])), (m_world, .inl (cI, 53, .inl (fun _ => 0)))] H) (hD : va_D (fun q : Nat => s.heap.size ≤ q) [(x0, .inr (11, [.ref r_tape, .ref r_reader, .ref r_now, .ref r_trial, .ref r_images, .ref r_kept, .ref r_slots, .ref r_night, .ref r_other, .ref r_circle, .ref r_words, .ref r_law, .ref r_place, .ref r_drawn])), (r_now, .inr (8, [.int 0, .int 0, .int 0, .int 0, .int 0, .int 0, .int 0, .ref n_signs, .int 0, .ref n_posts, .int 0, .ref n_acts])), (m0, .inr (12, [.int 0, .ref m_world, .ref m_images, .ref m_hasImage, .ref m_tape, .int 0, .ref m_five, .int 0, .int 0, .int 0, .int 0, .int 0, .int 0, .int (-1), .ref m_fresh, .ref m_spokenAt, .ref m_heardAt, .ref m_lastAt, .ref m_answerAt, .int 0, .int 0, .int 0, .long 0, .int 0, .int 0, .ref m_heardNow, .ref m_seenAt, .int 0, .int 0, .int 0, .int 0, .int 0, .ref m_fewest, .ref m_costNow, .ref m_costThen, .ref m_lawsOf, .ref m_heardBy, .int 0, .int 0, .ref m_placesOf, .ref m_sentIn, .int 0, .int 0, .ref m_lostBy, .ref m_many, .ref m_width, .ref m_numbers, .ref m_moving])), (m_world, .inl (cI, 53, .inl (fun _ => 0)))]) (hS : va_S (fun q : Nat => s.heap.size ≤ q) s.heap H locs) {ls : Array Slot} (hl : lv_has ls 4 [(0, .ref b), (1, .ref x0), (2, .ref m0), (3, .int 0)]) : W p l e room_1 s m #[Value.ref b] below meth c H locs 118 60870 (lw_Z below #[Value.ref b] s) (F0 m 1845 ls []) := by
  obtain ⟨hx, hb, hr, hml, hown, hts0, hX, hbl, hlocks, hgv⟩ := id C0
  have hts : ∀ w ∈ wsL_law, w.before #[Value.ref b] s = true := fun w h => hts0 w (wsL_law_in w h)
  have hA : ∀ q : Nat, s.heap.size ≤ q → (fun q : Nat => s.heap.size ≤ q) q := fun _ h => h
  have hbA : ¬ (fun q : Nat => s.heap.size ≤ q) b := Nat.not_le.mpr hbl
  refine lv_aload_n hx hb dL_law_1845 rfl (lv_at hl 1 rfl) ?_
  refine lv_aload_n hx hb dL_law_1846 rfl (lv_at hl 0 rfl) ?_
  refine lv_iload_n hx hb dL_law_1847 rfl (lv_at hl 3 rfl) ?_
  refine lv_iconst (v := 1) hx hb dL_law_1848 (by decide) ?_
  refine z_iadd (v := 1) hx hb dL_law_1849 (by decide) ?_
  refine va_sld hx hb hX hbl hbA hS (by unfold vp_in; decide) dL_law_1850 ?_
  refine W.eq (g2 := F0 m 1851 ls [.int (xs 1), .ref x0]) rfl ?_
  refine roi (As := [.int (xs 1)]) (rest := []) ⟨hx, hb, hml, hown, hts⟩ (kx_tune l D cB cI cJ cZ cS cT x0 r_tape r_reader r_now r_trial r_images r_kept r_slots r_night r_other r_circle r_words r_law r_place r_drawn n_signs n_posts n_acts (xs 1) ) (cvB (n := 1) (inr70 _ (List.mem_of_getElem? (i := 20) rfl)) (inr70 _ (List.mem_of_getElem? (i := 21) rfl)) (inr70 _ (List.mem_of_getElem? (i := 22) rfl)) (inr1 _ (List.mem_of_getElem? (i := 2) rfl)) (inr70 _ (List.mem_of_getElem? (i := 23) rfl)) (by decide +kernel) hts rfl rfl ⟨Nat.le_of_ble_eq_true rfl, Nat.le_of_ble_eq_true rfl⟩) 0 11 rfl rfl rfl (hP.sub [0, 1] rfl) hK rfl hl.1 rfl (Nat.le_of_ble_eq_true rfl) ⟨Nat.le_of_ble_eq_true rfl, Nat.le_of_ble_eq_true rfl⟩ dL_law_1851 (fun r_1 h_2 => ?_)
  obtain rfl := h_2
  refine lv_aload_n hx hb dL_law_1854 rfl (lv_at hl 2 rfl) ?_
  refine lv_aload_n hx hb dL_law_1855 rfl (lv_at hl 0 rfl) ?_
  refine lv_iload_n hx hb dL_law_1856 rfl (lv_at hl 3 rfl) ?_
  refine lv_iconst (v := 1) hx hb dL_law_1857 (by decide) ?_
  refine z_iadd (v := 1) hx hb dL_law_1858 (by decide) ?_
  refine va_sld hx hb hX hbl hbA hS (by unfold vp_in; decide) dL_law_1859 ?_
  refine W.eq (g2 := F0 m 1860 ls [.int (xs 1), .ref m0, .int (-2)]) rfl ?_
  refine roi (As := [.int (xs 1)]) (rest := [.int (-2)]) ⟨hx, hb, hml, hown, hts⟩ (km_tune l D cB cI cJ cZ cS cT m0 m_world m_images m_hasImage m_tape m_five m_fresh m_spokenAt m_heardAt m_lastAt m_answerAt m_heardNow m_seenAt m_fewest m_costNow m_costThen m_lawsOf m_heardBy m_placesOf m_sentIn m_lostBy m_many m_width m_numbers m_moving (xs 1) ) (cvB (n := 1) (inr71 _ (List.mem_of_getElem? (i := 4) rfl)) (inr71 _ (List.mem_of_getElem? (i := 5) rfl)) (inr71 _ (List.mem_of_getElem? (i := 6) rfl)) (inr1 _ (List.mem_of_getElem? (i := 5) rfl)) (inr71 _ (List.mem_of_getElem? (i := 7) rfl)) (by decide +kernel) hts rfl rfl ⟨Nat.le_of_ble_eq_true rfl, Nat.le_of_ble_eq_true rfl⟩) 0 12 rfl rfl rfl (hP.sub [2, 3] rfl) hK rfl hl.1 rfl (Nat.le_of_ble_eq_true rfl) ⟨Nat.le_of_ble_eq_true rfl, Nat.le_of_ble_eq_true rfl⟩ dL_law_1860 (fun r_3 h_4 => ?_)
  obtain rfl := h_4
  refine lv_icmp_eq (tgt := 2116) hx hb dL_law_1863 (by decide) (fun _ => ?_) (fun c0 => absurd c0 (by decide))
  exact law_end C0 hK hN (Nat.le_of_ble_eq_true rfl) (Nat.le_of_ble_eq_true rfl) hS (lv_sub hl [0, 1, 2, 3] rfl)

set_option maxHeartbeats 4000000 in
set_option maxRecDepth 100000 in
theorem law_65 {p : Program} {l : Launch} {e : Env} {s : State} {m : MethodId} {below : List Frame} {meth : Method} {c : Code} {D : va_G} {cB cI cJ cZ cS cT : ClassId} {b : Nat} {xs : Nat → Int32} (C0 : lw_At p s m meth c b 6 xs) (hK : va_K D vwCl (tyL cB cI cJ cZ cS cT) s) (hN : kN s) {H : Heap} {locs : List Loc} {x0 : Nat} {m0 : Nat} {r_tape : Nat} {r_reader : Nat} {r_now : Nat} {r_trial : Nat} {r_images : Nat} {r_kept : Nat} {r_slots : Nat} {r_night : Nat} {r_other : Nat} {r_circle : Nat} {r_words : Nat} {r_law : Nat} {r_place : Nat} {r_drawn : Nat} {t_by : Nat} {n_signs : Nat} {n_posts : Nat} {n_acts : Nat} {n_over : Nat} {n_steps : Nat} {n_before : Nat} {sl0 : Nat} {nb0 : Nat} {sl1 : Nat} {nb1 : Nat} {sl2 : Nat} {nb2 : Nat} {sl3 : Nat} {nb3 : Nat} {m_world : Nat} {m_images : Nat} {m_hasImage : Nat} {m_tape : Nat} {m_five : Nat} {m_fresh : Nat} {m_spokenAt : Nat} {m_heardAt : Nat} {m_lastAt : Nat} {m_answerAt : Nat} {m_heardNow : Nat} {m_seenAt : Nat} {m_fewest : Nat} {m_costNow : Nat} {m_costThen : Nat} {m_lawsOf : Nat} {m_heardBy : Nat} {m_placesOf : Nat} {m_sentIn : Nat} {m_lostBy : Nat} {m_many : Nat} {m_width : Nat} {m_numbers : Nat} {m_moving : Nat} (hP : va_P D vwCl [(x0, .inr (11, [.ref r_tape, .ref r_reader, .ref r_now, .ref r_trial, .ref r_images, .ref r_kept, .ref r_slots, .ref r_night, .ref r_other, .ref r_circle, .ref r_words, .ref r_law, .ref r_place, .ref r_drawn])), (r_now, .inr (8, [.int 0, .int 0, .int 0, .int 0, .int 0, .int 0, .int 0, .ref n_signs, .int 0, .ref n_posts, .int 0, .ref n_acts])), (n_acts, .inr (0, [.ref n_over, .ref n_steps, .ref n_before, .int 0])), (r_tape, .inr (9, [.ref t_by, .int 0])), (r_slots, .inl (cS, 4, .inr (.inr (.inr (.inr (va_up (va_up (va_up (va_up (fun _ => none) 0 (some sl0)) 1 (some sl1)) 2 (some sl2)) 3 (some sl3))))))), (sl0, .inr (7, [.ref nb0, .int 0, .int 0, .int 0])), (sl1, .inr (7, [.ref nb1, .int 0, .int 0, .int 0])), (sl2, .inr (7, [.ref nb2, .int 0, .int 0, .int 0])), (sl3, .inr (7, [.ref nb3, .int 0, .int 0, .int 0])), (m0, .inr (12, [.int 0, .ref m_world, .ref m_images, .ref m_hasImage, .ref m_tape, .int 0, .ref m_five, .int 0, .int 0, .int 0, .int 0, .int 0, .int 0, .int (-1), .ref m_fresh, .ref m_spokenAt, .ref m_heardAt, .ref m_lastAt, .ref m_answerAt, .int 0, .int 0, .int 0, .long 0, .int 0, .int 0, .ref m_heardNow, .ref m_seenAt, .int 0, .int 0, .int 0, .int 0, .int 0, .ref m_fewest, .ref m_costNow, .ref m_costThen, .ref m_lawsOf, .ref m_heardBy, .int 0, .int 0, .ref m_placesOf, .ref m_sentIn, .int 0, .int 0, .ref m_lostBy, .ref m_many, .ref m_width, .ref m_numbers, .ref m_moving])), (m_world, .inl (cI, 53, .inl (fun _ => 0))), (m_many, .inl (cI, 4, .inl (upd (upd (upd (upd (fun _ => 0) 0 (-1)) 1 (-1)) 2 (-1)) 3 (-1))))] H) (hD : va_D (fun q : Nat => s.heap.size ≤ q) [(x0, .inr (11, [.ref r_tape, .ref r_reader, .ref r_now, .ref r_trial, .ref r_images, .ref r_kept, .ref r_slots, .ref r_night, .ref r_other, .ref r_circle, .ref r_words, .ref r_law, .ref r_place, .ref r_drawn])), (r_now, .inr (8, [.int 0, .int 0, .int 0, .int 0, .int 0, .int 0, .int 0, .ref n_signs, .int 0, .ref n_posts, .int 0, .ref n_acts])), (n_acts, .inr (0, [.ref n_over, .ref n_steps, .ref n_before, .int 0])), (r_tape, .inr (9, [.ref t_by, .int 0])), (r_slots, .inl (cS, 4, .inr (.inr (.inr (.inr (va_up (va_up (va_up (va_up (fun _ => none) 0 (some sl0)) 1 (some sl1)) 2 (some sl2)) 3 (some sl3))))))), (sl0, .inr (7, [.ref nb0, .int 0, .int 0, .int 0])), (sl1, .inr (7, [.ref nb1, .int 0, .int 0, .int 0])), (sl2, .inr (7, [.ref nb2, .int 0, .int 0, .int 0])), (sl3, .inr (7, [.ref nb3, .int 0, .int 0, .int 0])), (m0, .inr (12, [.int 0, .ref m_world, .ref m_images, .ref m_hasImage, .ref m_tape, .int 0, .ref m_five, .int 0, .int 0, .int 0, .int 0, .int 0, .int 0, .int (-1), .ref m_fresh, .ref m_spokenAt, .ref m_heardAt, .ref m_lastAt, .ref m_answerAt, .int 0, .int 0, .int 0, .long 0, .int 0, .int 0, .ref m_heardNow, .ref m_seenAt, .int 0, .int 0, .int 0, .int 0, .int 0, .ref m_fewest, .ref m_costNow, .ref m_costThen, .ref m_lawsOf, .ref m_heardBy, .int 0, .int 0, .ref m_placesOf, .ref m_sentIn, .int 0, .int 0, .ref m_lostBy, .ref m_many, .ref m_width, .ref m_numbers, .ref m_moving])), (m_world, .inl (cI, 53, .inl (fun _ => 0))), (m_many, .inl (cI, 4, .inl (upd (upd (upd (upd (fun _ => 0) 0 (-1)) 1 (-1)) 2 (-1)) 3 (-1))))]) (hS : va_S (fun q : Nat => s.heap.size ≤ q) s.heap H locs) {ls : Array Slot} (hl : lv_has ls 4 [(0, .ref b), (1, .ref x0), (2, .ref m0), (3, .int 0)]) : W p l e room_1 s m #[Value.ref b] below meth c H locs 118 60870 (lw_Z below #[Value.ref b] s) (F0 m 1868 ls []) := by
  obtain ⟨hx, hb, hr, hml, hown, hts0, hX, hbl, hlocks, hgv⟩ := id C0
  have hts : ∀ w ∈ wsL_law, w.before #[Value.ref b] s = true := fun w h => hts0 w (wsL_law_in w h)
  have hA : ∀ q : Nat, s.heap.size ≤ q → (fun q : Nat => s.heap.size ≤ q) q := fun _ h => h
  have hbA : ¬ (fun q : Nat => s.heap.size ≤ q) b := Nat.not_le.mpr hbl
  refine lv_aload_n hx hb dL_law_1868 rfl (lv_at hl 1 rfl) ?_
  refine lv_aload_n hx hb dL_law_1869 rfl (lv_at hl 0 rfl) ?_
  refine lv_iload_n hx hb dL_law_1870 rfl (lv_at hl 3 rfl) ?_
  refine lv_iconst (v := 1) hx hb dL_law_1871 (by decide) ?_
  refine z_iadd (v := 1) hx hb dL_law_1872 (by decide) ?_
  refine va_sld hx hb hX hbl hbA hS (by unfold vp_in; decide) dL_law_1873 ?_
  refine W.eq (g2 := F0 m 1874 ls [.int (xs 1), .ref x0]) rfl ?_
  refine roi (As := [.int (xs 1)]) (rest := []) ⟨hx, hb, hml, hown, hts⟩ (kx_count l D cB cI cJ cZ cS cT x0 r_tape r_reader r_now r_trial r_images r_kept r_slots r_night r_other r_circle r_words r_law r_place r_drawn n_signs n_posts n_acts n_over n_steps n_before t_by sl0 sl1 sl2 sl3 nb0 nb1 nb2 nb3 (xs 1) ) (cvB (n := 1) (inr71 _ (List.mem_of_getElem? (i := 8) rfl)) (inr71 _ (List.mem_of_getElem? (i := 9) rfl)) (inr71 _ (List.mem_of_getElem? (i := 10) rfl)) (inr1 _ (List.mem_of_getElem? (i := 2) rfl)) (inr71 _ (List.mem_of_getElem? (i := 11) rfl)) (by decide +kernel) hts rfl rfl ⟨Nat.le_of_ble_eq_true rfl, Nat.le_of_ble_eq_true rfl⟩) 0 11 rfl rfl rfl (hP.sub [0, 1, 2, 3, 4, 5, 6, 7, 8] rfl) hK rfl hl.1 rfl (Nat.le_of_ble_eq_true rfl) ⟨Nat.le_of_ble_eq_true rfl, Nat.le_of_ble_eq_true rfl⟩ dL_law_1874 (fun r_1 h_2 => ?_)
  refine lv_aload_n hx hb dL_law_1877 rfl (lv_at hl 2 rfl) ?_
  refine lv_aload_n hx hb dL_law_1878 rfl (lv_at hl 0 rfl) ?_
  refine lv_iload_n hx hb dL_law_1879 rfl (lv_at hl 3 rfl) ?_
  refine lv_iconst (v := 1) hx hb dL_law_1880 (by decide) ?_
  refine z_iadd (v := 1) hx hb dL_law_1881 (by decide) ?_
  refine va_sld hx hb hX hbl hbA hS (by unfold vp_in; decide) dL_law_1882 ?_
  refine W.eq (g2 := F0 m 1883 ls [.int (xs 1), .ref m0, .int r_1]) rfl ?_
  refine roi (As := [.int (xs 1)]) (rest := [.int r_1]) ⟨hx, hb, hml, hown, hts⟩ (km_count l D cB cI cJ cZ cS cT m0 m_world m_images m_hasImage m_tape m_five m_fresh m_spokenAt m_heardAt m_lastAt m_answerAt m_heardNow m_seenAt m_fewest m_costNow m_costThen m_lawsOf m_heardBy m_placesOf m_sentIn m_lostBy m_many m_width m_numbers m_moving (xs 1) ) (cvB (n := 1) (inr72 _ (List.mem_of_getElem? (i := 4) rfl)) (inr72 _ (List.mem_of_getElem? (i := 5) rfl)) (inr72 _ (List.mem_of_getElem? (i := 6) rfl)) (inr1 _ (List.mem_of_getElem? (i := 5) rfl)) (inr72 _ (List.mem_of_getElem? (i := 7) rfl)) (by decide +kernel) hts rfl rfl ⟨Nat.le_of_ble_eq_true rfl, Nat.le_of_ble_eq_true rfl⟩) 0 12 rfl rfl rfl (hP.sub [9, 10, 11] rfl) hK rfl hl.1 rfl (Nat.le_of_ble_eq_true rfl) ⟨Nat.le_of_ble_eq_true rfl, Nat.le_of_ble_eq_true rfl⟩ dL_law_1883 (fun r_3 h_4 => ?_)
  refine lv_icmp_eq (tgt := 2116) hx hb dL_law_1886 (by decide) (fun _ => ?_) (fun c0 => absurd (h_2.trans h_4.symm) c0)
  exact law_end C0 hK hN (Nat.le_of_ble_eq_true rfl) (Nat.le_of_ble_eq_true rfl) hS (lv_sub hl [0, 1, 2, 3] rfl)

set_option maxHeartbeats 4000000 in
set_option maxRecDepth 100000 in
theorem law_66 {p : Program} {l : Launch} {e : Env} {s : State} {m : MethodId} {below : List Frame} {meth : Method} {c : Code} {D : va_G} {cB cI cJ cZ cS cT : ClassId} {b : Nat} {xs : Nat → Int32} (C0 : lw_At p s m meth c b 6 xs) (hK : va_K D vwCl (tyL cB cI cJ cZ cS cT) s) (hN : kN s) {H : Heap} {locs : List Loc} {x0 : Nat} {m0 : Nat} {r_tape : Nat} {r_reader : Nat} {r_now : Nat} {r_trial : Nat} {r_images : Nat} {r_kept : Nat} {r_slots : Nat} {r_night : Nat} {r_other : Nat} {r_circle : Nat} {r_words : Nat} {r_law : Nat} {r_place : Nat} {r_drawn : Nat} {n_signs : Nat} {n_posts : Nat} {n_acts : Nat} {n_over : Nat} {n_steps : Nat} {n_before : Nat} {n_gov : Nat → Int32} {im0 : Nat} {m0_signs : Nat} {m0_posts : Nat} {m0_acts : Nat} {m0_over : Nat} {m0_steps : Nat} {m0_before : Nat} {m0_gov : Nat → Int32} {im1 : Nat} {m1_signs : Nat} {m1_posts : Nat} {m1_acts : Nat} {m1_over : Nat} {m1_steps : Nat} {m1_before : Nat} {m1_gov : Nat → Int32} {im2 : Nat} {m2_signs : Nat} {m2_posts : Nat} {m2_acts : Nat} {m2_over : Nat} {m2_steps : Nat} {m2_before : Nat} {m2_gov : Nat → Int32} {m_world : Nat} {m_images : Nat} {m_hasImage : Nat} {m_tape : Nat} {m_five : Nat} {m_fresh : Nat} {m_spokenAt : Nat} {m_heardAt : Nat} {m_lastAt : Nat} {m_answerAt : Nat} {m_heardNow : Nat} {m_seenAt : Nat} {m_fewest : Nat} {m_costNow : Nat} {m_costThen : Nat} {m_lawsOf : Nat} {m_heardBy : Nat} {m_placesOf : Nat} {m_sentIn : Nat} {m_lostBy : Nat} {m_many : Nat} {m_width : Nat} {m_numbers : Nat} {m_moving : Nat} (hP : va_P D vwCl [(x0, .inr (11, [.ref r_tape, .ref r_reader, .ref r_now, .ref r_trial, .ref r_images, .ref r_kept, .ref r_slots, .ref r_night, .ref r_other, .ref r_circle, .ref r_words, .ref r_law, .ref r_place, .ref r_drawn])), (r_images, .inl (cT, 3, .inr (.inr (.inr (.inr (va_up (va_up (va_up (fun _ => none) 0 (some im0)) 1 (some im1)) 2 (some im2))))))), (im0, .inr (8, [.int 0, .int 0, .int 0, .int 0, .int 0, .int 0, .int 0, .ref m0_signs, .int 0, .ref m0_posts, .int 0, .ref m0_acts])), (m0_signs, .inl (cI, 8, .inl (fun _ => 0))), (m0_posts, .inl (cI, 5, .inl (fun _ => 0))), (m0_acts, .inr (0, [.ref m0_over, .ref m0_steps, .ref m0_before, .int 0])), (m0_over, .inl (cI, 61, .inl m0_gov)), (m0_steps, .inl (cI, 30, .inl (fun _ => 0))), (m0_before, .inl (cI, 30, .inl (fun _ => 0))), (im1, .inr (8, [.int 0, .int 0, .int 0, .int 0, .int 0, .int 0, .int 0, .ref m1_signs, .int 0, .ref m1_posts, .int 0, .ref m1_acts])), (m1_signs, .inl (cI, 8, .inl (fun _ => 0))), (m1_posts, .inl (cI, 5, .inl (fun _ => 0))), (m1_acts, .inr (0, [.ref m1_over, .ref m1_steps, .ref m1_before, .int 0])), (m1_over, .inl (cI, 61, .inl m1_gov)), (m1_steps, .inl (cI, 30, .inl (fun _ => 0))), (m1_before, .inl (cI, 30, .inl (fun _ => 0))), (im2, .inr (8, [.int 0, .int 0, .int 0, .int 0, .int 0, .int 0, .int 0, .ref m2_signs, .int 0, .ref m2_posts, .int 0, .ref m2_acts])), (m2_signs, .inl (cI, 8, .inl (fun _ => 0))), (m2_posts, .inl (cI, 5, .inl (fun _ => 0))), (m2_acts, .inr (0, [.ref m2_over, .ref m2_steps, .ref m2_before, .int 0])), (m2_over, .inl (cI, 61, .inl m2_gov)), (m2_steps, .inl (cI, 30, .inl (fun _ => 0))), (m2_before, .inl (cI, 30, .inl (fun _ => 0))), (r_now, .inr (8, [.int 0, .int 0, .int 0, .int 0, .int 0, .int 0, .int 0, .ref n_signs, .int 0, .ref n_posts, .int 0, .ref n_acts])), (n_signs, .inl (cI, 8, .inl (fun _ => 0))), (n_posts, .inl (cI, 5, .inl (fun _ => 0))), (n_acts, .inr (0, [.ref n_over, .ref n_steps, .ref n_before, .int 0])), (n_over, .inl (cI, 61, .inl n_gov)), (n_steps, .inl (cI, 30, .inl (fun _ => 0))), (n_before, .inl (cI, 30, .inl (fun _ => 0))), (r_kept, .inl (cZ, 3, .inl (fun _ => 0))), (m0, .inr (12, [.int 0, .ref m_world, .ref m_images, .ref m_hasImage, .ref m_tape, .int 0, .ref m_five, .int 0, .int 0, .int 0, .int 0, .int 0, .int 0, .int (-1), .ref m_fresh, .ref m_spokenAt, .ref m_heardAt, .ref m_lastAt, .ref m_answerAt, .int 0, .int 0, .int 0, .long 0, .int 0, .int 0, .ref m_heardNow, .ref m_seenAt, .int 0, .int 0, .int 0, .int 0, .int 0, .ref m_fewest, .ref m_costNow, .ref m_costThen, .ref m_lawsOf, .ref m_heardBy, .int 0, .int 0, .ref m_placesOf, .ref m_sentIn, .int 0, .int 0, .ref m_lostBy, .ref m_many, .ref m_width, .ref m_numbers, .ref m_moving])), (m_world, .inl (cI, 53, .inl (fun _ => 0))), (m_images, .inl (cI, 159, .inl (fun _ => 0))), (m_hasImage, .inl (cZ, 3, .inl (fun _ => 0)))] H) (hD : va_D (fun q : Nat => s.heap.size ≤ q) [(x0, .inr (11, [.ref r_tape, .ref r_reader, .ref r_now, .ref r_trial, .ref r_images, .ref r_kept, .ref r_slots, .ref r_night, .ref r_other, .ref r_circle, .ref r_words, .ref r_law, .ref r_place, .ref r_drawn])), (r_images, .inl (cT, 3, .inr (.inr (.inr (.inr (va_up (va_up (va_up (fun _ => none) 0 (some im0)) 1 (some im1)) 2 (some im2))))))), (im0, .inr (8, [.int 0, .int 0, .int 0, .int 0, .int 0, .int 0, .int 0, .ref m0_signs, .int 0, .ref m0_posts, .int 0, .ref m0_acts])), (m0_signs, .inl (cI, 8, .inl (fun _ => 0))), (m0_posts, .inl (cI, 5, .inl (fun _ => 0))), (m0_acts, .inr (0, [.ref m0_over, .ref m0_steps, .ref m0_before, .int 0])), (m0_over, .inl (cI, 61, .inl m0_gov)), (m0_steps, .inl (cI, 30, .inl (fun _ => 0))), (m0_before, .inl (cI, 30, .inl (fun _ => 0))), (im1, .inr (8, [.int 0, .int 0, .int 0, .int 0, .int 0, .int 0, .int 0, .ref m1_signs, .int 0, .ref m1_posts, .int 0, .ref m1_acts])), (m1_signs, .inl (cI, 8, .inl (fun _ => 0))), (m1_posts, .inl (cI, 5, .inl (fun _ => 0))), (m1_acts, .inr (0, [.ref m1_over, .ref m1_steps, .ref m1_before, .int 0])), (m1_over, .inl (cI, 61, .inl m1_gov)), (m1_steps, .inl (cI, 30, .inl (fun _ => 0))), (m1_before, .inl (cI, 30, .inl (fun _ => 0))), (im2, .inr (8, [.int 0, .int 0, .int 0, .int 0, .int 0, .int 0, .int 0, .ref m2_signs, .int 0, .ref m2_posts, .int 0, .ref m2_acts])), (m2_signs, .inl (cI, 8, .inl (fun _ => 0))), (m2_posts, .inl (cI, 5, .inl (fun _ => 0))), (m2_acts, .inr (0, [.ref m2_over, .ref m2_steps, .ref m2_before, .int 0])), (m2_over, .inl (cI, 61, .inl m2_gov)), (m2_steps, .inl (cI, 30, .inl (fun _ => 0))), (m2_before, .inl (cI, 30, .inl (fun _ => 0))), (r_now, .inr (8, [.int 0, .int 0, .int 0, .int 0, .int 0, .int 0, .int 0, .ref n_signs, .int 0, .ref n_posts, .int 0, .ref n_acts])), (n_signs, .inl (cI, 8, .inl (fun _ => 0))), (n_posts, .inl (cI, 5, .inl (fun _ => 0))), (n_acts, .inr (0, [.ref n_over, .ref n_steps, .ref n_before, .int 0])), (n_over, .inl (cI, 61, .inl n_gov)), (n_steps, .inl (cI, 30, .inl (fun _ => 0))), (n_before, .inl (cI, 30, .inl (fun _ => 0))), (r_kept, .inl (cZ, 3, .inl (fun _ => 0))), (m0, .inr (12, [.int 0, .ref m_world, .ref m_images, .ref m_hasImage, .ref m_tape, .int 0, .ref m_five, .int 0, .int 0, .int 0, .int 0, .int 0, .int 0, .int (-1), .ref m_fresh, .ref m_spokenAt, .ref m_heardAt, .ref m_lastAt, .ref m_answerAt, .int 0, .int 0, .int 0, .long 0, .int 0, .int 0, .ref m_heardNow, .ref m_seenAt, .int 0, .int 0, .int 0, .int 0, .int 0, .ref m_fewest, .ref m_costNow, .ref m_costThen, .ref m_lawsOf, .ref m_heardBy, .int 0, .int 0, .ref m_placesOf, .ref m_sentIn, .int 0, .int 0, .ref m_lostBy, .ref m_many, .ref m_width, .ref m_numbers, .ref m_moving])), (m_world, .inl (cI, 53, .inl (fun _ => 0))), (m_images, .inl (cI, 159, .inl (fun _ => 0))), (m_hasImage, .inl (cZ, 3, .inl (fun _ => 0)))]) (hS : va_S (fun q : Nat => s.heap.size ≤ q) s.heap H locs) {ls : Array Slot} (hl : lv_has ls 4 [(0, .ref b), (1, .ref x0), (2, .ref m0), (3, .int 0)]) : W p l e room_1 s m #[Value.ref b] below meth c H locs 118 60870 (lw_Z below #[Value.ref b] s) (F0 m 1891 ls []) := by
  obtain ⟨hx, hb, hr, hml, hown, hts0, hX, hbl, hlocks, hgv⟩ := id C0
  have hts : ∀ w ∈ wsL_law, w.before #[Value.ref b] s = true := fun w h => hts0 w (wsL_law_in w h)
  have hA : ∀ q : Nat, s.heap.size ≤ q → (fun q : Nat => s.heap.size ≤ q) q := fun _ h => h
  have hbA : ¬ (fun q : Nat => s.heap.size ≤ q) b := Nat.not_le.mpr hbl
  refine lv_aload_n hx hb dL_law_1891 rfl (lv_at hl 1 rfl) ?_
  refine lv_aload_n hx hb dL_law_1892 rfl (lv_at hl 0 rfl) ?_
  refine lv_iload_n hx hb dL_law_1893 rfl (lv_at hl 3 rfl) ?_
  refine lv_iconst (v := 1) hx hb dL_law_1894 (by decide) ?_
  refine z_iadd (v := 1) hx hb dL_law_1895 (by decide) ?_
  refine va_sld hx hb hX hbl hbA hS (by unfold vp_in; decide) dL_law_1896 ?_
  refine W.eq (g2 := F0 m 1897 ls [.int (xs 1), .ref x0]) rfl ?_
  refine wrVi (As := [.int (xs 1)]) (rest := []) (wr := [(m0, .inr (12, [.int 0, .ref m_world, .ref m_images, .ref m_hasImage, .ref m_tape, .int 0, .ref m_five, .int 0, .int 0, .int 0, .int 0, .int 0, .int 0, .int (-1), .ref m_fresh, .ref m_spokenAt, .ref m_heardAt, .ref m_lastAt, .ref m_answerAt, .int 0, .int 0, .int 0, .long 0, .int 0, .int 0, .ref m_heardNow, .ref m_seenAt, .int 0, .int 0, .int 0, .int 0, .int 0, .ref m_fewest, .ref m_costNow, .ref m_costThen, .ref m_lawsOf, .ref m_heardBy, .int 0, .int 0, .ref m_placesOf, .ref m_sentIn, .int 0, .int 0, .ref m_lostBy, .ref m_many, .ref m_width, .ref m_numbers, .ref m_moving])), (m_world, .inl (cI, 53, .inl (fun _ => 0))), (m_images, .inl (cI, 159, .inl (fun _ => 0))), (m_hasImage, .inl (cZ, 3, .inl (fun _ => 0)))]) ⟨hx, hb, hml, hown, hts⟩ (kx_image l D cB cI cJ cZ cS cT H.size x0 r_tape r_reader r_now r_trial r_images r_kept r_slots r_night r_other r_circle r_words r_law r_place r_drawn im0 im1 im2 m0_signs m0_posts m0_acts m0_over m0_steps m0_before m0_gov m1_signs m1_posts m1_acts m1_over m1_steps m1_before m1_gov m2_signs m2_posts m2_acts m2_over m2_steps m2_before m2_gov n_signs n_posts n_acts n_over n_steps n_before n_gov (xs 1) ) hP hD hS hA hK hN [0, 1, 2, 3, 4, 5, 6, 7, 8, 9, 10, 11, 12, 13, 14, 15, 16, 17, 18, 19, 20, 21, 22, 23, 24, 25, 26, 27, 28, 29, 30] [31, 32, 33, 34] rfl rfl (by decide) (by decide) (by decide) (cvB (n := 1) (inr72 _ (List.mem_of_getElem? (i := 9) rfl)) (inr72 _ (List.mem_of_getElem? (i := 10) rfl)) (inr72 _ (List.mem_of_getElem? (i := 11) rfl)) (inr1 _ (List.mem_of_getElem? (i := 2) rfl)) (inr72 _ (List.mem_of_getElem? (i := 12) rfl)) (by decide +kernel) hts rfl rfl ⟨Nat.le_of_ble_eq_true rfl, Nat.le_of_ble_eq_true rfl⟩) 0 11 rfl rfl rfl rfl hl.1 rfl (Nat.le_of_ble_eq_true rfl) ⟨Nat.le_of_ble_eq_true rfl, Nat.le_of_ble_eq_true rfl⟩ dL_law_1897 (fun r_1 x9 H locs h_2 hP hD hS => ?_)
  have hP : va_P D vwCl [(m0, .inr (12, [.int 0, .ref m_world, .ref m_images, .ref m_hasImage, .ref m_tape, .int 0, .ref m_five, .int 0, .int 0, .int 0, .int 0, .int 0, .int 0, .int (-1), .ref m_fresh, .ref m_spokenAt, .ref m_heardAt, .ref m_lastAt, .ref m_answerAt, .int 0, .int 0, .int 0, .long 0, .int 0, .int 0, .ref m_heardNow, .ref m_seenAt, .int 0, .int 0, .int 0, .int 0, .int 0, .ref m_fewest, .ref m_costNow, .ref m_costThen, .ref m_lawsOf, .ref m_heardBy, .int 0, .int 0, .ref m_placesOf, .ref m_sentIn, .int 0, .int 0, .ref m_lostBy, .ref m_many, .ref m_width, .ref m_numbers, .ref m_moving])), (m_world, .inl (cI, 53, .inl (fun _ => 0))), (m_images, .inl (cI, 159, .inl (fun _ => 0))), (m_hasImage, .inl (cZ, 3, .inl (fun _ => 0)))] H := hP
  have hD : va_D (fun q : Nat => s.heap.size ≤ q) [(m0, .inr (12, [.int 0, .ref m_world, .ref m_images, .ref m_hasImage, .ref m_tape, .int 0, .ref m_five, .int 0, .int 0, .int 0, .int 0, .int 0, .int 0, .int (-1), .ref m_fresh, .ref m_spokenAt, .ref m_heardAt, .ref m_lastAt, .ref m_answerAt, .int 0, .int 0, .int 0, .long 0, .int 0, .int 0, .ref m_heardNow, .ref m_seenAt, .int 0, .int 0, .int 0, .int 0, .int 0, .ref m_fewest, .ref m_costNow, .ref m_costThen, .ref m_lawsOf, .ref m_heardBy, .int 0, .int 0, .ref m_placesOf, .ref m_sentIn, .int 0, .int 0, .ref m_lostBy, .ref m_many, .ref m_width, .ref m_numbers, .ref m_moving])), (m_world, .inl (cI, 53, .inl (fun _ => 0))), (m_images, .inl (cI, 159, .inl (fun _ => 0))), (m_hasImage, .inl (cZ, 3, .inl (fun _ => 0)))] := hD
  refine lv_aload_n hx hb dL_law_1900 rfl (lv_at hl 2 rfl) ?_
  refine lv_aload_n hx hb dL_law_1901 rfl (lv_at hl 0 rfl) ?_
  refine lv_iload_n hx hb dL_law_1902 rfl (lv_at hl 3 rfl) ?_
  refine lv_iconst (v := 1) hx hb dL_law_1903 (by decide) ?_
  refine z_iadd (v := 1) hx hb dL_law_1904 (by decide) ?_
  refine va_sld hx hb hX hbl hbA hS (by unfold vp_in; decide) dL_law_1905 ?_
  refine W.eq (g2 := F0 m 1906 ls [.int (xs 1), .ref m0, .int r_1]) rfl ?_
  refine wrVi (As := [.int (xs 1)]) (rest := [.int r_1]) (wr := []) ⟨hx, hb, hml, hown, hts⟩ (km_image l D cB cI cJ cZ cS cT H.size m0 m_world m_images m_hasImage m_tape m_five m_fresh m_spokenAt m_heardAt m_lastAt m_answerAt m_heardNow m_seenAt m_fewest m_costNow m_costThen m_lawsOf m_heardBy m_placesOf m_sentIn m_lostBy m_many m_width m_numbers m_moving (xs 1) ) hP hD hS hA hK hN [0, 1, 2, 3] [] rfl rfl (by decide) (by decide) (by decide) (cvB (n := 1) (inr72 _ (List.mem_of_getElem? (i := 13) rfl)) (inr72 _ (List.mem_of_getElem? (i := 14) rfl)) (inr72 _ (List.mem_of_getElem? (i := 15) rfl)) (inr1 _ (List.mem_of_getElem? (i := 5) rfl)) (inr72 _ (List.mem_of_getElem? (i := 16) rfl)) (by decide +kernel) hts rfl rfl ⟨Nat.le_of_ble_eq_true rfl, Nat.le_of_ble_eq_true rfl⟩) 0 12 rfl rfl rfl rfl hl.1 rfl (Nat.le_of_ble_eq_true rfl) ⟨Nat.le_of_ble_eq_true rfl, Nat.le_of_ble_eq_true rfl⟩ dL_law_1906 (fun r_3 x9 H locs h_4 hP hD hS => ?_)
  have hP : va_P D vwCl [] H := hP
  have hD : va_D (fun q : Nat => s.heap.size ≤ q) [] := hD
  refine lv_icmp_eq (tgt := 2116) hx hb dL_law_1909 (by decide) (fun _ => ?_) (fun c0 => absurd (h_2.trans h_4.symm) c0)
  exact law_end C0 hK hN (Nat.le_of_ble_eq_true rfl) (Nat.le_of_ble_eq_true rfl) hS (lv_sub hl [0, 1, 2, 3] rfl)

set_option maxHeartbeats 4000000 in
set_option maxRecDepth 100000 in
theorem law_67 {p : Program} {l : Launch} {e : Env} {s : State} {m : MethodId} {below : List Frame} {meth : Method} {c : Code} {D : va_G} {cB cI cJ cZ cS cT : ClassId} {b : Nat} {xs : Nat → Int32} (C0 : lw_At p s m meth c b 6 xs) (hK : va_K D vwCl (tyL cB cI cJ cZ cS cT) s) (hN : kN s) {H : Heap} {locs : List Loc} {x0 : Nat} {m0 : Nat} {r_tape : Nat} {r_reader : Nat} {r_now : Nat} {r_trial : Nat} {r_images : Nat} {r_kept : Nat} {r_slots : Nat} {r_night : Nat} {r_other : Nat} {r_circle : Nat} {r_words : Nat} {r_law : Nat} {r_place : Nat} {r_drawn : Nat} {m_world : Nat} {m_images : Nat} {m_hasImage : Nat} {m_tape : Nat} {m_five : Nat} {m_fresh : Nat} {m_spokenAt : Nat} {m_heardAt : Nat} {m_lastAt : Nat} {m_answerAt : Nat} {m_heardNow : Nat} {m_seenAt : Nat} {m_fewest : Nat} {m_costNow : Nat} {m_costThen : Nat} {m_lawsOf : Nat} {m_heardBy : Nat} {m_placesOf : Nat} {m_sentIn : Nat} {m_lostBy : Nat} {m_many : Nat} {m_width : Nat} {m_numbers : Nat} {m_moving : Nat} (hP : va_P D vwCl [(x0, .inr (11, [.ref r_tape, .ref r_reader, .ref r_now, .ref r_trial, .ref r_images, .ref r_kept, .ref r_slots, .ref r_night, .ref r_other, .ref r_circle, .ref r_words, .ref r_law, .ref r_place, .ref r_drawn])), (r_kept, .inl (cZ, 3, .inl (fun _ => 0))), (m0, .inr (12, [.int 0, .ref m_world, .ref m_images, .ref m_hasImage, .ref m_tape, .int 0, .ref m_five, .int 0, .int 0, .int 0, .int 0, .int 0, .int 0, .int (-1), .ref m_fresh, .ref m_spokenAt, .ref m_heardAt, .ref m_lastAt, .ref m_answerAt, .int 0, .int 0, .int 0, .long 0, .int 0, .int 0, .ref m_heardNow, .ref m_seenAt, .int 0, .int 0, .int 0, .int 0, .int 0, .ref m_fewest, .ref m_costNow, .ref m_costThen, .ref m_lawsOf, .ref m_heardBy, .int 0, .int 0, .ref m_placesOf, .ref m_sentIn, .int 0, .int 0, .ref m_lostBy, .ref m_many, .ref m_width, .ref m_numbers, .ref m_moving])), (m_hasImage, .inl (cZ, 3, .inl (fun _ => 0)))] H) (hD : va_D (fun q : Nat => s.heap.size ≤ q) [(x0, .inr (11, [.ref r_tape, .ref r_reader, .ref r_now, .ref r_trial, .ref r_images, .ref r_kept, .ref r_slots, .ref r_night, .ref r_other, .ref r_circle, .ref r_words, .ref r_law, .ref r_place, .ref r_drawn])), (r_kept, .inl (cZ, 3, .inl (fun _ => 0))), (m0, .inr (12, [.int 0, .ref m_world, .ref m_images, .ref m_hasImage, .ref m_tape, .int 0, .ref m_five, .int 0, .int 0, .int 0, .int 0, .int 0, .int 0, .int (-1), .ref m_fresh, .ref m_spokenAt, .ref m_heardAt, .ref m_lastAt, .ref m_answerAt, .int 0, .int 0, .int 0, .long 0, .int 0, .int 0, .ref m_heardNow, .ref m_seenAt, .int 0, .int 0, .int 0, .int 0, .int 0, .ref m_fewest, .ref m_costNow, .ref m_costThen, .ref m_lawsOf, .ref m_heardBy, .int 0, .int 0, .ref m_placesOf, .ref m_sentIn, .int 0, .int 0, .ref m_lostBy, .ref m_many, .ref m_width, .ref m_numbers, .ref m_moving])), (m_hasImage, .inl (cZ, 3, .inl (fun _ => 0)))]) (hS : va_S (fun q : Nat => s.heap.size ≤ q) s.heap H locs) {ls : Array Slot} (hl : lv_has ls 4 [(0, .ref b), (1, .ref x0), (2, .ref m0), (3, .int 0)]) : W p l e room_1 s m #[Value.ref b] below meth c H locs 118 60870 (lw_Z below #[Value.ref b] s) (F0 m 1914 ls []) := by
  obtain ⟨hx, hb, hr, hml, hown, hts0, hX, hbl, hlocks, hgv⟩ := id C0
  have hts : ∀ w ∈ wsL_law, w.before #[Value.ref b] s = true := fun w h => hts0 w (wsL_law_in w h)
  have hA : ∀ q : Nat, s.heap.size ≤ q → (fun q : Nat => s.heap.size ≤ q) q := fun _ h => h
  have hbA : ¬ (fun q : Nat => s.heap.size ≤ q) b := Nat.not_le.mpr hbl
  refine lv_aload_n hx hb dL_law_1914 rfl (lv_at hl 1 rfl) ?_
  refine lv_aload_n hx hb dL_law_1915 rfl (lv_at hl 0 rfl) ?_
  refine lv_iload_n hx hb dL_law_1916 rfl (lv_at hl 3 rfl) ?_
  refine lv_iconst (v := 1) hx hb dL_law_1917 (by decide) ?_
  refine z_iadd (v := 1) hx hb dL_law_1918 (by decide) ?_
  refine va_sld hx hb hX hbl hbA hS (by unfold vp_in; decide) dL_law_1919 ?_
  refine W.eq (g2 := F0 m 1920 ls [.int (xs 1), .ref x0]) rfl ?_
  refine roi (As := [.int (xs 1)]) (rest := []) ⟨hx, hb, hml, hown, hts⟩ (kx_back l D cB cI cJ cZ cS cT x0 r_tape r_reader r_now r_trial r_images r_kept r_slots r_night r_other r_circle r_words r_law r_place r_drawn (xs 1) ) (cvB (n := 1) (inr72 _ (List.mem_of_getElem? (i := 17) rfl)) (inr72 _ (List.mem_of_getElem? (i := 18) rfl)) (inr72 _ (List.mem_of_getElem? (i := 19) rfl)) (inr1 _ (List.mem_of_getElem? (i := 2) rfl)) (inr72 _ (List.mem_of_getElem? (i := 20) rfl)) (by decide +kernel) hts rfl rfl ⟨Nat.le_of_ble_eq_true rfl, Nat.le_of_ble_eq_true rfl⟩) 0 11 rfl rfl rfl (hP.sub [0, 1] rfl) hK rfl hl.1 rfl (Nat.le_of_ble_eq_true rfl) ⟨Nat.le_of_ble_eq_true rfl, Nat.le_of_ble_eq_true rfl⟩ dL_law_1920 (fun r_1 h_2 => ?_)
  refine lv_aload_n hx hb dL_law_1923 rfl (lv_at hl 2 rfl) ?_
  refine lv_aload_n hx hb dL_law_1924 rfl (lv_at hl 0 rfl) ?_
  refine lv_iload_n hx hb dL_law_1925 rfl (lv_at hl 3 rfl) ?_
  refine lv_iconst (v := 1) hx hb dL_law_1926 (by decide) ?_
  refine z_iadd (v := 1) hx hb dL_law_1927 (by decide) ?_
  refine va_sld hx hb hX hbl hbA hS (by unfold vp_in; decide) dL_law_1928 ?_
  refine W.eq (g2 := F0 m 1929 ls [.int (xs 1), .ref m0, .int r_1]) rfl ?_
  refine roi (As := [.int (xs 1)]) (rest := [.int r_1]) ⟨hx, hb, hml, hown, hts⟩ (km_back l D cB cI cJ cZ cS cT m0 m_world m_images m_hasImage m_tape m_five m_fresh m_spokenAt m_heardAt m_lastAt m_answerAt m_heardNow m_seenAt m_fewest m_costNow m_costThen m_lawsOf m_heardBy m_placesOf m_sentIn m_lostBy m_many m_width m_numbers m_moving (xs 1) ) (cvB (n := 1) (inr72 _ (List.mem_of_getElem? (i := 21) rfl)) (inr72 _ (List.mem_of_getElem? (i := 22) rfl)) (inr72 _ (List.mem_of_getElem? (i := 23) rfl)) (inr1 _ (List.mem_of_getElem? (i := 5) rfl)) (inr73 _ (List.mem_of_getElem? (i := 0) rfl)) (by decide +kernel) hts rfl rfl ⟨Nat.le_of_ble_eq_true rfl, Nat.le_of_ble_eq_true rfl⟩) 0 12 rfl rfl rfl (hP.sub [2, 3] rfl) hK rfl hl.1 rfl (Nat.le_of_ble_eq_true rfl) ⟨Nat.le_of_ble_eq_true rfl, Nat.le_of_ble_eq_true rfl⟩ dL_law_1929 (fun r_3 h_4 => ?_)
  refine lv_icmp_eq (tgt := 2116) hx hb dL_law_1932 (by decide) (fun _ => ?_) (fun c0 => absurd (h_2.trans h_4.symm) c0)
  exact law_end C0 hK hN (Nat.le_of_ble_eq_true rfl) (Nat.le_of_ble_eq_true rfl) hS (lv_sub hl [0, 1, 2, 3] rfl)

set_option maxHeartbeats 4000000 in
set_option maxRecDepth 100000 in
theorem law_68 {p : Program} {l : Launch} {e : Env} {s : State} {m : MethodId} {below : List Frame} {meth : Method} {c : Code} {D : va_G} {cB cI cJ cZ cS cT : ClassId} {b : Nat} {xs : Nat → Int32} (C0 : lw_At p s m meth c b 6 xs) (hK : va_K D vwCl (tyL cB cI cJ cZ cS cT) s) (hN : kN s) {H : Heap} {locs : List Loc} {x0 : Nat} {m0 : Nat} {r_tape : Nat} {r_reader : Nat} {r_now : Nat} {r_trial : Nat} {r_images : Nat} {r_kept : Nat} {r_slots : Nat} {r_night : Nat} {r_other : Nat} {r_circle : Nat} {r_words : Nat} {r_law : Nat} {r_place : Nat} {r_drawn : Nat} {sl0 : Nat} {nb0 : Nat} {sl1 : Nat} {nb1 : Nat} {sl2 : Nat} {nb2 : Nat} {sl3 : Nat} {nb3 : Nat} {m_world : Nat} {m_images : Nat} {m_hasImage : Nat} {m_tape : Nat} {m_five : Nat} {m_fresh : Nat} {m_spokenAt : Nat} {m_heardAt : Nat} {m_lastAt : Nat} {m_answerAt : Nat} {m_heardNow : Nat} {m_seenAt : Nat} {m_fewest : Nat} {m_costNow : Nat} {m_costThen : Nat} {m_lawsOf : Nat} {m_heardBy : Nat} {m_placesOf : Nat} {m_sentIn : Nat} {m_lostBy : Nat} {m_many : Nat} {m_width : Nat} {m_numbers : Nat} {m_moving : Nat} (hP : va_P D vwCl [(x0, .inr (11, [.ref r_tape, .ref r_reader, .ref r_now, .ref r_trial, .ref r_images, .ref r_kept, .ref r_slots, .ref r_night, .ref r_other, .ref r_circle, .ref r_words, .ref r_law, .ref r_place, .ref r_drawn])), (r_slots, .inl (cS, 4, .inr (.inr (.inr (.inr (va_up (va_up (va_up (va_up (fun _ => none) 0 (some sl0)) 1 (some sl1)) 2 (some sl2)) 3 (some sl3))))))), (sl0, .inr (7, [.ref nb0, .int 0, .int 0, .int 0])), (sl1, .inr (7, [.ref nb1, .int 0, .int 0, .int 0])), (sl2, .inr (7, [.ref nb2, .int 0, .int 0, .int 0])), (sl3, .inr (7, [.ref nb3, .int 0, .int 0, .int 0])), (nb0, .inl (cJ, 60, .inr (.inl (fun _ => 0)))), (nb1, .inl (cJ, 60, .inr (.inl (fun _ => 0)))), (nb2, .inl (cJ, 60, .inr (.inl (fun _ => 0)))), (nb3, .inl (cJ, 60, .inr (.inl (fun _ => 0)))), (m0, .inr (12, [.int 0, .ref m_world, .ref m_images, .ref m_hasImage, .ref m_tape, .int 0, .ref m_five, .int 0, .int 0, .int 0, .int 0, .int 0, .int 0, .int (-1), .ref m_fresh, .ref m_spokenAt, .ref m_heardAt, .ref m_lastAt, .ref m_answerAt, .int 0, .int 0, .int 0, .long 0, .int 0, .int 0, .ref m_heardNow, .ref m_seenAt, .int 0, .int 0, .int 0, .int 0, .int 0, .ref m_fewest, .ref m_costNow, .ref m_costThen, .ref m_lawsOf, .ref m_heardBy, .int 0, .int 0, .ref m_placesOf, .ref m_sentIn, .int 0, .int 0, .ref m_lostBy, .ref m_many, .ref m_width, .ref m_numbers, .ref m_moving])), (m_many, .inl (cI, 4, .inl (upd (upd (upd (upd (fun _ => 0) 0 (-1)) 1 (-1)) 2 (-1)) 3 (-1)))), (m_width, .inl (cI, 4, .inl (fun _ => 0))), (m_numbers, .inl (cJ, 240, .inr (.inl (fun _ => 0))))] H) (hD : va_D (fun q : Nat => s.heap.size ≤ q) [(x0, .inr (11, [.ref r_tape, .ref r_reader, .ref r_now, .ref r_trial, .ref r_images, .ref r_kept, .ref r_slots, .ref r_night, .ref r_other, .ref r_circle, .ref r_words, .ref r_law, .ref r_place, .ref r_drawn])), (r_slots, .inl (cS, 4, .inr (.inr (.inr (.inr (va_up (va_up (va_up (va_up (fun _ => none) 0 (some sl0)) 1 (some sl1)) 2 (some sl2)) 3 (some sl3))))))), (sl0, .inr (7, [.ref nb0, .int 0, .int 0, .int 0])), (sl1, .inr (7, [.ref nb1, .int 0, .int 0, .int 0])), (sl2, .inr (7, [.ref nb2, .int 0, .int 0, .int 0])), (sl3, .inr (7, [.ref nb3, .int 0, .int 0, .int 0])), (nb0, .inl (cJ, 60, .inr (.inl (fun _ => 0)))), (nb1, .inl (cJ, 60, .inr (.inl (fun _ => 0)))), (nb2, .inl (cJ, 60, .inr (.inl (fun _ => 0)))), (nb3, .inl (cJ, 60, .inr (.inl (fun _ => 0)))), (m0, .inr (12, [.int 0, .ref m_world, .ref m_images, .ref m_hasImage, .ref m_tape, .int 0, .ref m_five, .int 0, .int 0, .int 0, .int 0, .int 0, .int 0, .int (-1), .ref m_fresh, .ref m_spokenAt, .ref m_heardAt, .ref m_lastAt, .ref m_answerAt, .int 0, .int 0, .int 0, .long 0, .int 0, .int 0, .ref m_heardNow, .ref m_seenAt, .int 0, .int 0, .int 0, .int 0, .int 0, .ref m_fewest, .ref m_costNow, .ref m_costThen, .ref m_lawsOf, .ref m_heardBy, .int 0, .int 0, .ref m_placesOf, .ref m_sentIn, .int 0, .int 0, .ref m_lostBy, .ref m_many, .ref m_width, .ref m_numbers, .ref m_moving])), (m_many, .inl (cI, 4, .inl (upd (upd (upd (upd (fun _ => 0) 0 (-1)) 1 (-1)) 2 (-1)) 3 (-1)))), (m_width, .inl (cI, 4, .inl (fun _ => 0))), (m_numbers, .inl (cJ, 240, .inr (.inl (fun _ => 0))))]) (hS : va_S (fun q : Nat => s.heap.size ≤ q) s.heap H locs) {ls : Array Slot} (hl : lv_has ls 4 [(0, .ref b), (1, .ref x0), (2, .ref m0), (3, .int 0)]) : W p l e room_1 s m #[Value.ref b] below meth c H locs 118 60870 (lw_Z below #[Value.ref b] s) (F0 m 1937 ls []) := by
  obtain ⟨hx, hb, hr, hml, hown, hts0, hX, hbl, hlocks, hgv⟩ := id C0
  have hts : ∀ w ∈ wsL_law, w.before #[Value.ref b] s = true := fun w h => hts0 w (wsL_law_in w h)
  have hA : ∀ q : Nat, s.heap.size ≤ q → (fun q : Nat => s.heap.size ≤ q) q := fun _ h => h
  have hbA : ¬ (fun q : Nat => s.heap.size ≤ q) b := Nat.not_le.mpr hbl
  refine lv_aload_n hx hb dL_law_1937 rfl (lv_at hl 1 rfl) ?_
  refine lv_aload_n hx hb dL_law_1938 rfl (lv_at hl 0 rfl) ?_
  refine lv_iload_n hx hb dL_law_1939 rfl (lv_at hl 3 rfl) ?_
  refine lv_iconst (v := 1) hx hb dL_law_1940 (by decide) ?_
  refine z_iadd (v := 1) hx hb dL_law_1941 (by decide) ?_
  refine va_sld hx hb hX hbl hbA hS (by unfold vp_in; decide) dL_law_1942 ?_
  refine W.eq (g2 := F0 m 1943 ls [.int (xs 1), .ref x0]) rfl ?_
  refine lv_aload_n hx hb dL_law_1943 rfl (lv_at hl 0 rfl) ?_
  refine lv_iload_n hx hb dL_law_1944 rfl (lv_at hl 3 rfl) ?_
  refine lv_iconst (v := 2) hx hb dL_law_1945 (by decide) ?_
  refine z_iadd (v := 2) hx hb dL_law_1946 (by decide) ?_
  refine va_sld hx hb hX hbl hbA hS (by unfold vp_in; decide) dL_law_1947 ?_
  refine W.eq (g2 := F0 m 1948 ls [.int (xs 2), .int (xs 1), .ref x0]) rfl ?_
  refine lv_aload_n hx hb dL_law_1948 rfl (lv_at hl 0 rfl) ?_
  refine lv_iload_n hx hb dL_law_1949 rfl (lv_at hl 3 rfl) ?_
  refine lv_iconst (v := 3) hx hb dL_law_1950 (by decide) ?_
  refine z_iadd (v := 3) hx hb dL_law_1951 (by decide) ?_
  refine va_sld hx hb hX hbl hbA hS (by unfold vp_in; decide) dL_law_1952 ?_
  refine W.eq (g2 := F0 m 1953 ls [.int (xs 3), .int (xs 2), .int (xs 1), .ref x0]) rfl ?_
  refine wrVi (As := [.int (xs 1), .int (xs 2), .int (xs 3)]) (rest := []) (wr := [(m0, .inr (12, [.int 0, .ref m_world, .ref m_images, .ref m_hasImage, .ref m_tape, .int 0, .ref m_five, .int 0, .int 0, .int 0, .int 0, .int 0, .int 0, .int (-1), .ref m_fresh, .ref m_spokenAt, .ref m_heardAt, .ref m_lastAt, .ref m_answerAt, .int 0, .int 0, .int 0, .long 0, .int 0, .int 0, .ref m_heardNow, .ref m_seenAt, .int 0, .int 0, .int 0, .int 0, .int 0, .ref m_fewest, .ref m_costNow, .ref m_costThen, .ref m_lawsOf, .ref m_heardBy, .int 0, .int 0, .ref m_placesOf, .ref m_sentIn, .int 0, .int 0, .ref m_lostBy, .ref m_many, .ref m_width, .ref m_numbers, .ref m_moving])), (m_many, .inl (cI, 4, .inl (upd (upd (upd (upd (fun _ => 0) 0 (-1)) 1 (-1)) 2 (-1)) 3 (-1)))), (m_width, .inl (cI, 4, .inl (fun _ => 0))), (m_numbers, .inl (cJ, 240, .inr (.inl (fun _ => 0))))]) ⟨hx, hb, hml, hown, hts⟩ (kx_row l D cB cI cJ cZ cS cT H.size x0 r_tape r_reader r_now r_trial r_images r_kept r_slots r_night r_other r_circle r_words r_law r_place r_drawn sl0 sl1 sl2 sl3 nb0 nb1 nb2 nb3 (fun _ => 0) (fun _ => 0) (fun _ => 0) (fun _ => 0) (xs 1) (xs 2) (xs 3) ) hP hD hS hA hK hN [0, 1, 2, 3, 4, 5, 6, 7, 8, 9] [10, 11, 12, 13] rfl rfl (by decide) (by decide) (by decide) (cvB (n := 3) (inr73 _ (List.mem_of_getElem? (i := 1) rfl)) (inr73 _ (List.mem_of_getElem? (i := 2) rfl)) (inr73 _ (List.mem_of_getElem? (i := 3) rfl)) (inr1 _ (List.mem_of_getElem? (i := 2) rfl)) (inr73 _ (List.mem_of_getElem? (i := 4) rfl)) (by decide +kernel) hts rfl rfl ⟨Nat.le_of_ble_eq_true rfl, Nat.le_of_ble_eq_true rfl⟩) 0 11 rfl rfl rfl rfl hl.1 rfl (Nat.le_of_ble_eq_true rfl) ⟨Nat.le_of_ble_eq_true rfl, Nat.le_of_ble_eq_true rfl⟩ dL_law_1953 (fun r_1 x9 H locs h_2 hP hD hS => ?_)
  have hP : va_P D vwCl [(m0, .inr (12, [.int 0, .ref m_world, .ref m_images, .ref m_hasImage, .ref m_tape, .int 0, .ref m_five, .int 0, .int 0, .int 0, .int 0, .int 0, .int 0, .int (-1), .ref m_fresh, .ref m_spokenAt, .ref m_heardAt, .ref m_lastAt, .ref m_answerAt, .int 0, .int 0, .int 0, .long 0, .int 0, .int 0, .ref m_heardNow, .ref m_seenAt, .int 0, .int 0, .int 0, .int 0, .int 0, .ref m_fewest, .ref m_costNow, .ref m_costThen, .ref m_lawsOf, .ref m_heardBy, .int 0, .int 0, .ref m_placesOf, .ref m_sentIn, .int 0, .int 0, .ref m_lostBy, .ref m_many, .ref m_width, .ref m_numbers, .ref m_moving])), (m_many, .inl (cI, 4, .inl (upd (upd (upd (upd (fun _ => 0) 0 (-1)) 1 (-1)) 2 (-1)) 3 (-1)))), (m_width, .inl (cI, 4, .inl (fun _ => 0))), (m_numbers, .inl (cJ, 240, .inr (.inl (fun _ => 0))))] H := hP
  have hD : va_D (fun q : Nat => s.heap.size ≤ q) [(m0, .inr (12, [.int 0, .ref m_world, .ref m_images, .ref m_hasImage, .ref m_tape, .int 0, .ref m_five, .int 0, .int 0, .int 0, .int 0, .int 0, .int 0, .int (-1), .ref m_fresh, .ref m_spokenAt, .ref m_heardAt, .ref m_lastAt, .ref m_answerAt, .int 0, .int 0, .int 0, .long 0, .int 0, .int 0, .ref m_heardNow, .ref m_seenAt, .int 0, .int 0, .int 0, .int 0, .int 0, .ref m_fewest, .ref m_costNow, .ref m_costThen, .ref m_lawsOf, .ref m_heardBy, .int 0, .int 0, .ref m_placesOf, .ref m_sentIn, .int 0, .int 0, .ref m_lostBy, .ref m_many, .ref m_width, .ref m_numbers, .ref m_moving])), (m_many, .inl (cI, 4, .inl (upd (upd (upd (upd (fun _ => 0) 0 (-1)) 1 (-1)) 2 (-1)) 3 (-1)))), (m_width, .inl (cI, 4, .inl (fun _ => 0))), (m_numbers, .inl (cJ, 240, .inr (.inl (fun _ => 0))))] := hD
  refine lv_aload_n hx hb dL_law_1956 rfl (lv_at hl 2 rfl) ?_
  refine lv_aload_n hx hb dL_law_1957 rfl (lv_at hl 0 rfl) ?_
  refine lv_iload_n hx hb dL_law_1958 rfl (lv_at hl 3 rfl) ?_
  refine lv_iconst (v := 1) hx hb dL_law_1959 (by decide) ?_
  refine z_iadd (v := 1) hx hb dL_law_1960 (by decide) ?_
  refine va_sld hx hb hX hbl hbA hS (by unfold vp_in; decide) dL_law_1961 ?_
  refine W.eq (g2 := F0 m 1962 ls [.int (xs 1), .ref m0, .int r_1]) rfl ?_
  refine lv_aload_n hx hb dL_law_1962 rfl (lv_at hl 0 rfl) ?_
  refine lv_iload_n hx hb dL_law_1963 rfl (lv_at hl 3 rfl) ?_
  refine lv_iconst (v := 2) hx hb dL_law_1964 (by decide) ?_
  refine z_iadd (v := 2) hx hb dL_law_1965 (by decide) ?_
  refine va_sld hx hb hX hbl hbA hS (by unfold vp_in; decide) dL_law_1966 ?_
  refine W.eq (g2 := F0 m 1967 ls [.int (xs 2), .int (xs 1), .ref m0, .int r_1]) rfl ?_
  refine lv_aload_n hx hb dL_law_1967 rfl (lv_at hl 0 rfl) ?_
  refine lv_iload_n hx hb dL_law_1968 rfl (lv_at hl 3 rfl) ?_
  refine lv_iconst (v := 3) hx hb dL_law_1969 (by decide) ?_
  refine z_iadd (v := 3) hx hb dL_law_1970 (by decide) ?_
  refine va_sld hx hb hX hbl hbA hS (by unfold vp_in; decide) dL_law_1971 ?_
  refine W.eq (g2 := F0 m 1972 ls [.int (xs 3), .int (xs 2), .int (xs 1), .ref m0, .int r_1]) rfl ?_
  refine wrVi (As := [.int (xs 1), .int (xs 2), .int (xs 3)]) (rest := [.int r_1]) (wr := []) ⟨hx, hb, hml, hown, hts⟩ (km_row l D cB cI cJ cZ cS cT H.size m0 m_world m_images m_hasImage m_tape m_five m_fresh m_spokenAt m_heardAt m_lastAt m_answerAt m_heardNow m_seenAt m_fewest m_costNow m_costThen m_lawsOf m_heardBy m_placesOf m_sentIn m_lostBy m_many m_width m_numbers m_moving (xs 1) (xs 2) (xs 3) ) hP hD hS hA hK hN [0, 1, 2, 3] [] rfl rfl (by decide) (by decide) (by decide) (cvB (n := 3) (inr73 _ (List.mem_of_getElem? (i := 15) rfl)) (inr73 _ (List.mem_of_getElem? (i := 16) rfl)) (inr73 _ (List.mem_of_getElem? (i := 17) rfl)) (inr1 _ (List.mem_of_getElem? (i := 5) rfl)) (inr73 _ (List.mem_of_getElem? (i := 18) rfl)) (by decide +kernel) hts rfl rfl ⟨Nat.le_of_ble_eq_true rfl, Nat.le_of_ble_eq_true rfl⟩) 0 12 rfl rfl rfl rfl hl.1 rfl (Nat.le_of_ble_eq_true rfl) ⟨Nat.le_of_ble_eq_true rfl, Nat.le_of_ble_eq_true rfl⟩ dL_law_1972 (fun r_3 x9 H locs h_4 hP hD hS => ?_)
  have hP : va_P D vwCl [] H := hP
  have hD : va_D (fun q : Nat => s.heap.size ≤ q) [] := hD
  refine lv_icmp_eq (tgt := 2116) hx hb dL_law_1975 (by decide) (fun _ => ?_) (fun c0 => absurd (h_2.trans h_4.symm) c0)
  exact law_end C0 hK hN (Nat.le_of_ble_eq_true rfl) (Nat.le_of_ble_eq_true rfl) hS (lv_sub hl [0, 1, 2, 3] rfl)

set_option maxHeartbeats 4000000 in
set_option maxRecDepth 100000 in
theorem law_69 {p : Program} {l : Launch} {e : Env} {s : State} {m : MethodId} {below : List Frame} {meth : Method} {c : Code} {D : va_G} {cB cI cJ cZ cS cT : ClassId} {b : Nat} {xs : Nat → Int32} (C0 : lw_At p s m meth c b 6 xs) (hK : va_K D vwCl (tyL cB cI cJ cZ cS cT) s) (hN : kN s) {H : Heap} {locs : List Loc} {x0 : Nat} {m0 : Nat} {r_tape : Nat} {r_reader : Nat} {r_now : Nat} {r_trial : Nat} {r_images : Nat} {r_kept : Nat} {r_slots : Nat} {r_night : Nat} {r_other : Nat} {r_circle : Nat} {r_words : Nat} {r_law : Nat} {r_place : Nat} {r_drawn : Nat} {sl0 : Nat} {nb0 : Nat} {sl1 : Nat} {nb1 : Nat} {sl2 : Nat} {nb2 : Nat} {sl3 : Nat} {nb3 : Nat} {m_world : Nat} {m_images : Nat} {m_hasImage : Nat} {m_tape : Nat} {m_five : Nat} {m_fresh : Nat} {m_spokenAt : Nat} {m_heardAt : Nat} {m_lastAt : Nat} {m_answerAt : Nat} {m_heardNow : Nat} {m_seenAt : Nat} {m_fewest : Nat} {m_costNow : Nat} {m_costThen : Nat} {m_lawsOf : Nat} {m_heardBy : Nat} {m_placesOf : Nat} {m_sentIn : Nat} {m_lostBy : Nat} {m_many : Nat} {m_width : Nat} {m_numbers : Nat} {m_moving : Nat} (hP : va_P D vwCl [(x0, .inr (11, [.ref r_tape, .ref r_reader, .ref r_now, .ref r_trial, .ref r_images, .ref r_kept, .ref r_slots, .ref r_night, .ref r_other, .ref r_circle, .ref r_words, .ref r_law, .ref r_place, .ref r_drawn])), (r_slots, .inl (cS, 4, .inr (.inr (.inr (.inr (va_up (va_up (va_up (va_up (fun _ => none) 0 (some sl0)) 1 (some sl1)) 2 (some sl2)) 3 (some sl3))))))), (sl0, .inr (7, [.ref nb0, .int 0, .int 0, .int 0])), (sl1, .inr (7, [.ref nb1, .int 0, .int 0, .int 0])), (sl2, .inr (7, [.ref nb2, .int 0, .int 0, .int 0])), (sl3, .inr (7, [.ref nb3, .int 0, .int 0, .int 0])), (m0, .inr (12, [.int 0, .ref m_world, .ref m_images, .ref m_hasImage, .ref m_tape, .int 0, .ref m_five, .int 0, .int 0, .int 0, .int 0, .int 0, .int 0, .int (-1), .ref m_fresh, .ref m_spokenAt, .ref m_heardAt, .ref m_lastAt, .ref m_answerAt, .int 0, .int 0, .int 0, .long 0, .int 0, .int 0, .ref m_heardNow, .ref m_seenAt, .int 0, .int 0, .int 0, .int 0, .int 0, .ref m_fewest, .ref m_costNow, .ref m_costThen, .ref m_lawsOf, .ref m_heardBy, .int 0, .int 0, .ref m_placesOf, .ref m_sentIn, .int 0, .int 0, .ref m_lostBy, .ref m_many, .ref m_width, .ref m_numbers, .ref m_moving])), (m_many, .inl (cI, 4, .inl (upd (upd (upd (upd (fun _ => 0) 0 (-1)) 1 (-1)) 2 (-1)) 3 (-1))))] H) (hD : va_D (fun q : Nat => s.heap.size ≤ q) [(x0, .inr (11, [.ref r_tape, .ref r_reader, .ref r_now, .ref r_trial, .ref r_images, .ref r_kept, .ref r_slots, .ref r_night, .ref r_other, .ref r_circle, .ref r_words, .ref r_law, .ref r_place, .ref r_drawn])), (r_slots, .inl (cS, 4, .inr (.inr (.inr (.inr (va_up (va_up (va_up (va_up (fun _ => none) 0 (some sl0)) 1 (some sl1)) 2 (some sl2)) 3 (some sl3))))))), (sl0, .inr (7, [.ref nb0, .int 0, .int 0, .int 0])), (sl1, .inr (7, [.ref nb1, .int 0, .int 0, .int 0])), (sl2, .inr (7, [.ref nb2, .int 0, .int 0, .int 0])), (sl3, .inr (7, [.ref nb3, .int 0, .int 0, .int 0])), (m0, .inr (12, [.int 0, .ref m_world, .ref m_images, .ref m_hasImage, .ref m_tape, .int 0, .ref m_five, .int 0, .int 0, .int 0, .int 0, .int 0, .int 0, .int (-1), .ref m_fresh, .ref m_spokenAt, .ref m_heardAt, .ref m_lastAt, .ref m_answerAt, .int 0, .int 0, .int 0, .long 0, .int 0, .int 0, .ref m_heardNow, .ref m_seenAt, .int 0, .int 0, .int 0, .int 0, .int 0, .ref m_fewest, .ref m_costNow, .ref m_costThen, .ref m_lawsOf, .ref m_heardBy, .int 0, .int 0, .ref m_placesOf, .ref m_sentIn, .int 0, .int 0, .ref m_lostBy, .ref m_many, .ref m_width, .ref m_numbers, .ref m_moving])), (m_many, .inl (cI, 4, .inl (upd (upd (upd (upd (fun _ => 0) 0 (-1)) 1 (-1)) 2 (-1)) 3 (-1))))]) (hS : va_S (fun q : Nat => s.heap.size ≤ q) s.heap H locs) {ls : Array Slot} (hl : lv_has ls 4 [(0, .ref b), (1, .ref x0), (2, .ref m0), (3, .int 0)]) : W p l e room_1 s m #[Value.ref b] below meth c H locs 118 60870 (lw_Z below #[Value.ref b] s) (F0 m 1980 ls []) := by
  obtain ⟨hx, hb, hr, hml, hown, hts0, hX, hbl, hlocks, hgv⟩ := id C0
  have hts : ∀ w ∈ wsL_law, w.before #[Value.ref b] s = true := fun w h => hts0 w (wsL_law_in w h)
  have hA : ∀ q : Nat, s.heap.size ≤ q → (fun q : Nat => s.heap.size ≤ q) q := fun _ h => h
  have hbA : ¬ (fun q : Nat => s.heap.size ≤ q) b := Nat.not_le.mpr hbl
  refine lv_aload_n hx hb dL_law_1980 rfl (lv_at hl 1 rfl) ?_
  refine lv_aload_n hx hb dL_law_1981 rfl (lv_at hl 0 rfl) ?_
  refine lv_iload_n hx hb dL_law_1982 rfl (lv_at hl 3 rfl) ?_
  refine lv_iconst (v := 1) hx hb dL_law_1983 (by decide) ?_
  refine z_iadd (v := 1) hx hb dL_law_1984 (by decide) ?_
  refine va_sld hx hb hX hbl hbA hS (by unfold vp_in; decide) dL_law_1985 ?_
  refine W.eq (g2 := F0 m 1986 ls [.int (xs 1), .ref x0]) rfl ?_
  refine lv_aload_n hx hb dL_law_1986 rfl (lv_at hl 0 rfl) ?_
  refine lv_iload_n hx hb dL_law_1987 rfl (lv_at hl 3 rfl) ?_
  refine lv_iconst (v := 2) hx hb dL_law_1988 (by decide) ?_
  refine z_iadd (v := 2) hx hb dL_law_1989 (by decide) ?_
  refine va_sld hx hb hX hbl hbA hS (by unfold vp_in; decide) dL_law_1990 ?_
  refine W.eq (g2 := F0 m 1991 ls [.int (xs 2), .int (xs 1), .ref x0]) rfl ?_
  refine lv_aload_n hx hb dL_law_1991 rfl (lv_at hl 0 rfl) ?_
  refine lv_iload_n hx hb dL_law_1992 rfl (lv_at hl 3 rfl) ?_
  refine lv_iconst (v := 3) hx hb dL_law_1993 (by decide) ?_
  refine z_iadd (v := 3) hx hb dL_law_1994 (by decide) ?_
  refine va_sld hx hb hX hbl hbA hS (by unfold vp_in; decide) dL_law_1995 ?_
  refine W.eq (g2 := F0 m 1996 ls [.int (xs 3), .int (xs 2), .int (xs 1), .ref x0]) rfl ?_
  obtain ⟨t_1, et_1⟩ : ∃ v9 : Int64, ((xs 3) : Int32).toInt64 = v9 := ⟨_, rfl⟩
  refine lv_i2l (v := t_1) hx hb dL_law_1996 et_1 ?_
  have ft_1 : t_1.toInt = ((xs 3)).toInt := by rw [← et_1]; exact Int32.toInt_toInt64 _
  refine lv_bipush (v := 32) hx hb dL_law_1997 (by decide) ?_
  obtain ⟨t_2, et_2⟩ : ∃ v9 : Int64, t_1 <<< ((32 : Int32).toInt64 &&& 63) = v9 := ⟨_, rfl⟩
  refine lv_lshl (v := t_2) hx hb dL_law_1999 et_2 ?_
  refine lv_aload_n hx hb dL_law_2000 rfl (lv_at hl 0 rfl) ?_
  refine lv_iload_n hx hb dL_law_2001 rfl (lv_at hl 3 rfl) ?_
  refine lv_iconst (v := 4) hx hb dL_law_2002 (by decide) ?_
  refine z_iadd (v := 4) hx hb dL_law_2003 (by decide) ?_
  refine va_sld hx hb hX hbl hbA hS (by unfold vp_in; decide) dL_law_2004 ?_
  refine W.eq (g2 := F0 m 2005 ls [.int (xs 4), .long t_2, .int (xs 2), .int (xs 1), .ref x0]) rfl ?_
  obtain ⟨t_3, et_3⟩ : ∃ v9 : Int64, ((xs 4) : Int32).toInt64 = v9 := ⟨_, rfl⟩
  refine lv_i2l (v := t_3) hx hb dL_law_2005 et_3 ?_
  have ft_3 : t_3.toInt = ((xs 4)).toInt := by rw [← et_3]; exact Int32.toInt_toInt64 _
  refine lv_ldc2 hx hb hown (hts _ (inr1 _ (List.mem_of_getElem? (i := 6) rfl))) dL_law_2006 ?_
  obtain ⟨t_4, et_4⟩ : ∃ v9 : Int64, t_3 &&& 4294967295 = v9 := ⟨_, rfl⟩
  refine z_land (v := t_4) hx hb dL_law_2009 et_4 ?_
  obtain ⟨t_5, et_5⟩ : ∃ v9 : Int64, t_2 ||| t_4 = v9 := ⟨_, rfl⟩
  refine z_lor (v := t_5) hx hb dL_law_2010 et_5 ?_
  refine roi (As := [.int (xs 1), .int (xs 2), .long t_5]) (rest := []) ⟨hx, hb, hml, hown, hts⟩ (kx_write l D cB cI cJ cZ cS cT x0 r_tape r_reader r_now r_trial r_images r_kept r_slots r_night r_other r_circle r_words r_law r_place r_drawn sl0 sl1 sl2 sl3 nb0 nb1 nb2 nb3 (xs 1) (xs 2) t_5 ) (cvB (n := 3) (inr73 _ (List.mem_of_getElem? (i := 19) rfl)) (inr73 _ (List.mem_of_getElem? (i := 20) rfl)) (inr73 _ (List.mem_of_getElem? (i := 21) rfl)) (inr1 _ (List.mem_of_getElem? (i := 2) rfl)) (inr73 _ (List.mem_of_getElem? (i := 22) rfl)) (by decide +kernel) hts rfl rfl ⟨Nat.le_of_ble_eq_true rfl, Nat.le_of_ble_eq_true rfl⟩) 0 11 rfl rfl rfl (hP.sub [0, 1, 2, 3, 4, 5] rfl) hK rfl hl.1 rfl (Nat.le_of_ble_eq_true rfl) ⟨Nat.le_of_ble_eq_true rfl, Nat.le_of_ble_eq_true rfl⟩ dL_law_2011 (fun r_6 h_7 => ?_)
  refine lv_aload_n hx hb dL_law_2014 rfl (lv_at hl 2 rfl) ?_
  refine lv_aload_n hx hb dL_law_2015 rfl (lv_at hl 0 rfl) ?_
  refine lv_iload_n hx hb dL_law_2016 rfl (lv_at hl 3 rfl) ?_
  refine lv_iconst (v := 1) hx hb dL_law_2017 (by decide) ?_
  refine z_iadd (v := 1) hx hb dL_law_2018 (by decide) ?_
  refine va_sld hx hb hX hbl hbA hS (by unfold vp_in; decide) dL_law_2019 ?_
  refine W.eq (g2 := F0 m 2020 ls [.int (xs 1), .ref m0, .int r_6]) rfl ?_
  refine lv_aload_n hx hb dL_law_2020 rfl (lv_at hl 0 rfl) ?_
  refine lv_iload_n hx hb dL_law_2021 rfl (lv_at hl 3 rfl) ?_
  refine lv_iconst (v := 2) hx hb dL_law_2022 (by decide) ?_
  refine z_iadd (v := 2) hx hb dL_law_2023 (by decide) ?_
  refine va_sld hx hb hX hbl hbA hS (by unfold vp_in; decide) dL_law_2024 ?_
  refine W.eq (g2 := F0 m 2025 ls [.int (xs 2), .int (xs 1), .ref m0, .int r_6]) rfl ?_
  refine lv_aload_n hx hb dL_law_2025 rfl (lv_at hl 0 rfl) ?_
  refine lv_iload_n hx hb dL_law_2026 rfl (lv_at hl 3 rfl) ?_
  refine lv_iconst (v := 3) hx hb dL_law_2027 (by decide) ?_
  refine z_iadd (v := 3) hx hb dL_law_2028 (by decide) ?_
  refine va_sld hx hb hX hbl hbA hS (by unfold vp_in; decide) dL_law_2029 ?_
  refine W.eq (g2 := F0 m 2030 ls [.int (xs 3), .int (xs 2), .int (xs 1), .ref m0, .int r_6]) rfl ?_
  obtain ⟨t_8, et_8⟩ : ∃ v9 : Int64, ((xs 3) : Int32).toInt64 = v9 := ⟨_, rfl⟩
  refine lv_i2l (v := t_8) hx hb dL_law_2030 et_8 ?_
  have ft_8 : t_8.toInt = ((xs 3)).toInt := by rw [← et_8]; exact Int32.toInt_toInt64 _
  refine lv_bipush (v := 32) hx hb dL_law_2031 (by decide) ?_
  obtain ⟨t_9, et_9⟩ : ∃ v9 : Int64, t_8 <<< ((32 : Int32).toInt64 &&& 63) = v9 := ⟨_, rfl⟩
  refine lv_lshl (v := t_9) hx hb dL_law_2033 et_9 ?_
  refine lv_aload_n hx hb dL_law_2034 rfl (lv_at hl 0 rfl) ?_
  refine lv_iload_n hx hb dL_law_2035 rfl (lv_at hl 3 rfl) ?_
  refine lv_iconst (v := 4) hx hb dL_law_2036 (by decide) ?_
  refine z_iadd (v := 4) hx hb dL_law_2037 (by decide) ?_
  refine va_sld hx hb hX hbl hbA hS (by unfold vp_in; decide) dL_law_2038 ?_
  refine W.eq (g2 := F0 m 2039 ls [.int (xs 4), .long t_9, .int (xs 2), .int (xs 1), .ref m0, .int r_6]) rfl ?_
  obtain ⟨t_10, et_10⟩ : ∃ v9 : Int64, ((xs 4) : Int32).toInt64 = v9 := ⟨_, rfl⟩
  refine lv_i2l (v := t_10) hx hb dL_law_2039 et_10 ?_
  have ft_10 : t_10.toInt = ((xs 4)).toInt := by rw [← et_10]; exact Int32.toInt_toInt64 _
  refine lv_ldc2 hx hb hown (hts _ (inr1 _ (List.mem_of_getElem? (i := 6) rfl))) dL_law_2040 ?_
  obtain ⟨t_11, et_11⟩ : ∃ v9 : Int64, t_10 &&& 4294967295 = v9 := ⟨_, rfl⟩
  refine z_land (v := t_11) hx hb dL_law_2043 et_11 ?_
  obtain ⟨t_12, et_12⟩ : ∃ v9 : Int64, t_9 ||| t_11 = v9 := ⟨_, rfl⟩
  refine z_lor (v := t_12) hx hb dL_law_2044 et_12 ?_
  refine roi (As := [.int (xs 1), .int (xs 2), .long t_12]) (rest := [.int r_6]) ⟨hx, hb, hml, hown, hts⟩ (km_write l D cB cI cJ cZ cS cT m0 m_world m_images m_hasImage m_tape m_five m_fresh m_spokenAt m_heardAt m_lastAt m_answerAt m_heardNow m_seenAt m_fewest m_costNow m_costThen m_lawsOf m_heardBy m_placesOf m_sentIn m_lostBy m_many m_width m_numbers m_moving (xs 1) (xs 2) t_12 ) (cvB (n := 3) (inr74 _ (List.mem_of_getElem? (i := 7) rfl)) (inr74 _ (List.mem_of_getElem? (i := 8) rfl)) (inr74 _ (List.mem_of_getElem? (i := 9) rfl)) (inr1 _ (List.mem_of_getElem? (i := 5) rfl)) (inr74 _ (List.mem_of_getElem? (i := 10) rfl)) (by decide +kernel) hts rfl rfl ⟨Nat.le_of_ble_eq_true rfl, Nat.le_of_ble_eq_true rfl⟩) 0 12 rfl rfl rfl (hP.sub [6, 7] rfl) hK rfl hl.1 rfl (Nat.le_of_ble_eq_true rfl) ⟨Nat.le_of_ble_eq_true rfl, Nat.le_of_ble_eq_true rfl⟩ dL_law_2045 (fun r_13 h_14 => ?_)
  refine lv_icmp_eq (tgt := 2116) hx hb dL_law_2048 (by decide) (fun _ => ?_) (fun c0 => absurd (h_7.trans h_14.symm) c0)
  exact law_end C0 hK hN (Nat.le_of_ble_eq_true rfl) (Nat.le_of_ble_eq_true rfl) hS (lv_sub hl [0, 1, 2, 3] rfl)

set_option maxHeartbeats 4000000 in
set_option maxRecDepth 100000 in
theorem law_70 {p : Program} {l : Launch} {e : Env} {s : State} {m : MethodId} {below : List Frame} {meth : Method} {c : Code} {D : va_G} {cB cI cJ cZ cS cT : ClassId} {b : Nat} {xs : Nat → Int32} (C0 : lw_At p s m meth c b 6 xs) (hK : va_K D vwCl (tyL cB cI cJ cZ cS cT) s) (hN : kN s) {H : Heap} {locs : List Loc} {x0 : Nat} {m0 : Nat} {r_tape : Nat} {r_reader : Nat} {r_now : Nat} {r_trial : Nat} {r_images : Nat} {r_kept : Nat} {r_slots : Nat} {r_night : Nat} {r_other : Nat} {r_circle : Nat} {r_words : Nat} {r_law : Nat} {r_place : Nat} {r_drawn : Nat} {sl0 : Nat} {nb0 : Nat} {sl1 : Nat} {nb1 : Nat} {sl2 : Nat} {nb2 : Nat} {sl3 : Nat} {nb3 : Nat} {m_world : Nat} {m_images : Nat} {m_hasImage : Nat} {m_tape : Nat} {m_five : Nat} {m_fresh : Nat} {m_spokenAt : Nat} {m_heardAt : Nat} {m_lastAt : Nat} {m_answerAt : Nat} {m_heardNow : Nat} {m_seenAt : Nat} {m_fewest : Nat} {m_costNow : Nat} {m_costThen : Nat} {m_lawsOf : Nat} {m_heardBy : Nat} {m_placesOf : Nat} {m_sentIn : Nat} {m_lostBy : Nat} {m_many : Nat} {m_width : Nat} {m_numbers : Nat} {m_moving : Nat} (hP : va_P D vwCl [(x0, .inr (11, [.ref r_tape, .ref r_reader, .ref r_now, .ref r_trial, .ref r_images, .ref r_kept, .ref r_slots, .ref r_night, .ref r_other, .ref r_circle, .ref r_words, .ref r_law, .ref r_place, .ref r_drawn])), (r_slots, .inl (cS, 4, .inr (.inr (.inr (.inr (va_up (va_up (va_up (va_up (fun _ => none) 0 (some sl0)) 1 (some sl1)) 2 (some sl2)) 3 (some sl3))))))), (sl0, .inr (7, [.ref nb0, .int 0, .int 0, .int 0])), (sl1, .inr (7, [.ref nb1, .int 0, .int 0, .int 0])), (sl2, .inr (7, [.ref nb2, .int 0, .int 0, .int 0])), (sl3, .inr (7, [.ref nb3, .int 0, .int 0, .int 0])), (m0, .inr (12, [.int 0, .ref m_world, .ref m_images, .ref m_hasImage, .ref m_tape, .int 0, .ref m_five, .int 0, .int 0, .int 0, .int 0, .int 0, .int 0, .int (-1), .ref m_fresh, .ref m_spokenAt, .ref m_heardAt, .ref m_lastAt, .ref m_answerAt, .int 0, .int 0, .int 0, .long 0, .int 0, .int 0, .ref m_heardNow, .ref m_seenAt, .int 0, .int 0, .int 0, .int 0, .int 0, .ref m_fewest, .ref m_costNow, .ref m_costThen, .ref m_lawsOf, .ref m_heardBy, .int 0, .int 0, .ref m_placesOf, .ref m_sentIn, .int 0, .int 0, .ref m_lostBy, .ref m_many, .ref m_width, .ref m_numbers, .ref m_moving])), (m_many, .inl (cI, 4, .inl (upd (upd (upd (upd (fun _ => 0) 0 (-1)) 1 (-1)) 2 (-1)) 3 (-1))))] H) (hD : va_D (fun q : Nat => s.heap.size ≤ q) [(x0, .inr (11, [.ref r_tape, .ref r_reader, .ref r_now, .ref r_trial, .ref r_images, .ref r_kept, .ref r_slots, .ref r_night, .ref r_other, .ref r_circle, .ref r_words, .ref r_law, .ref r_place, .ref r_drawn])), (r_slots, .inl (cS, 4, .inr (.inr (.inr (.inr (va_up (va_up (va_up (va_up (fun _ => none) 0 (some sl0)) 1 (some sl1)) 2 (some sl2)) 3 (some sl3))))))), (sl0, .inr (7, [.ref nb0, .int 0, .int 0, .int 0])), (sl1, .inr (7, [.ref nb1, .int 0, .int 0, .int 0])), (sl2, .inr (7, [.ref nb2, .int 0, .int 0, .int 0])), (sl3, .inr (7, [.ref nb3, .int 0, .int 0, .int 0])), (m0, .inr (12, [.int 0, .ref m_world, .ref m_images, .ref m_hasImage, .ref m_tape, .int 0, .ref m_five, .int 0, .int 0, .int 0, .int 0, .int 0, .int 0, .int (-1), .ref m_fresh, .ref m_spokenAt, .ref m_heardAt, .ref m_lastAt, .ref m_answerAt, .int 0, .int 0, .int 0, .long 0, .int 0, .int 0, .ref m_heardNow, .ref m_seenAt, .int 0, .int 0, .int 0, .int 0, .int 0, .ref m_fewest, .ref m_costNow, .ref m_costThen, .ref m_lawsOf, .ref m_heardBy, .int 0, .int 0, .ref m_placesOf, .ref m_sentIn, .int 0, .int 0, .ref m_lostBy, .ref m_many, .ref m_width, .ref m_numbers, .ref m_moving])), (m_many, .inl (cI, 4, .inl (upd (upd (upd (upd (fun _ => 0) 0 (-1)) 1 (-1)) 2 (-1)) 3 (-1))))]) (hS : va_S (fun q : Nat => s.heap.size ≤ q) s.heap H locs) {ls : Array Slot} (hl : lv_has ls 4 [(0, .ref b), (1, .ref x0), (2, .ref m0), (3, .int 0)]) : W p l e room_1 s m #[Value.ref b] below meth c H locs 118 60870 (lw_Z below #[Value.ref b] s) (F0 m 2053 ls []) := by
  obtain ⟨hx, hb, hr, hml, hown, hts0, hX, hbl, hlocks, hgv⟩ := id C0
  have hts : ∀ w ∈ wsL_law, w.before #[Value.ref b] s = true := fun w h => hts0 w (wsL_law_in w h)
  have hA : ∀ q : Nat, s.heap.size ≤ q → (fun q : Nat => s.heap.size ≤ q) q := fun _ h => h
  have hbA : ¬ (fun q : Nat => s.heap.size ≤ q) b := Nat.not_le.mpr hbl
  refine lv_aload_n hx hb dL_law_2053 rfl (lv_at hl 1 rfl) ?_
  refine lv_aload_n hx hb dL_law_2054 rfl (lv_at hl 0 rfl) ?_
  refine lv_iload_n hx hb dL_law_2055 rfl (lv_at hl 3 rfl) ?_
  refine lv_iconst (v := 1) hx hb dL_law_2056 (by decide) ?_
  refine z_iadd (v := 1) hx hb dL_law_2057 (by decide) ?_
  refine va_sld hx hb hX hbl hbA hS (by unfold vp_in; decide) dL_law_2058 ?_
  refine W.eq (g2 := F0 m 2059 ls [.int (xs 1), .ref x0]) rfl ?_
  refine lv_aload_n hx hb dL_law_2059 rfl (lv_at hl 0 rfl) ?_
  refine lv_iload_n hx hb dL_law_2060 rfl (lv_at hl 3 rfl) ?_
  refine lv_iconst (v := 2) hx hb dL_law_2061 (by decide) ?_
  refine z_iadd (v := 2) hx hb dL_law_2062 (by decide) ?_
  refine va_sld hx hb hX hbl hbA hS (by unfold vp_in; decide) dL_law_2063 ?_
  refine W.eq (g2 := F0 m 2064 ls [.int (xs 2), .int (xs 1), .ref x0]) rfl ?_
  refine lv_aload_n hx hb dL_law_2064 rfl (lv_at hl 0 rfl) ?_
  refine lv_iload_n hx hb dL_law_2065 rfl (lv_at hl 3 rfl) ?_
  refine lv_iconst (v := 3) hx hb dL_law_2066 (by decide) ?_
  refine z_iadd (v := 3) hx hb dL_law_2067 (by decide) ?_
  refine va_sld hx hb hX hbl hbA hS (by unfold vp_in; decide) dL_law_2068 ?_
  refine W.eq (g2 := F0 m 2069 ls [.int (xs 3), .int (xs 2), .int (xs 1), .ref x0]) rfl ?_
  refine lv_aload_n hx hb dL_law_2069 rfl (lv_at hl 0 rfl) ?_
  refine lv_iload_n hx hb dL_law_2070 rfl (lv_at hl 3 rfl) ?_
  refine lv_iconst (v := 4) hx hb dL_law_2071 (by decide) ?_
  refine z_iadd (v := 4) hx hb dL_law_2072 (by decide) ?_
  refine va_sld hx hb hX hbl hbA hS (by unfold vp_in; decide) dL_law_2073 ?_
  refine W.eq (g2 := F0 m 2074 ls [.int (xs 4), .int (xs 3), .int (xs 2), .int (xs 1), .ref x0]) rfl ?_
  refine lv_aload_n hx hb dL_law_2074 rfl (lv_at hl 0 rfl) ?_
  refine lv_iload_n hx hb dL_law_2075 rfl (lv_at hl 3 rfl) ?_
  refine lv_iconst (v := 5) hx hb dL_law_2076 (by decide) ?_
  refine z_iadd (v := 5) hx hb dL_law_2077 (by decide) ?_
  refine va_sld hx hb hX hbl hbA hS (by unfold vp_in; decide) dL_law_2078 ?_
  refine W.eq (g2 := F0 m 2079 ls [.int (xs 5), .int (xs 4), .int (xs 3), .int (xs 2), .int (xs 1), .ref x0]) rfl ?_
  refine roi (As := [.int (xs 1), .int (xs 2), .int (xs 3), .int (xs 4), .int (xs 5)]) (rest := []) ⟨hx, hb, hml, hown, hts⟩ (kx_paste l D cB cI cJ cZ cS cT x0 r_tape r_reader r_now r_trial r_images r_kept r_slots r_night r_other r_circle r_words r_law r_place r_drawn sl0 sl1 sl2 sl3 nb0 nb1 nb2 nb3 (xs 1) (xs 2) (xs 3) (xs 4) (xs 5) ) (cvB (n := 5) (inr74 _ (List.mem_of_getElem? (i := 14) rfl)) (inr74 _ (List.mem_of_getElem? (i := 15) rfl)) (inr74 _ (List.mem_of_getElem? (i := 16) rfl)) (inr1 _ (List.mem_of_getElem? (i := 2) rfl)) (inr74 _ (List.mem_of_getElem? (i := 17) rfl)) (by decide +kernel) hts rfl rfl ⟨Nat.le_of_ble_eq_true rfl, Nat.le_of_ble_eq_true rfl⟩) 0 11 rfl rfl rfl (hP.sub [0, 1, 2, 3, 4, 5] rfl) hK rfl hl.1 rfl (Nat.le_of_ble_eq_true rfl) ⟨Nat.le_of_ble_eq_true rfl, Nat.le_of_ble_eq_true rfl⟩ dL_law_2079 (fun r_1 h_2 => ?_)
  refine lv_aload_n hx hb dL_law_2082 rfl (lv_at hl 2 rfl) ?_
  refine lv_aload_n hx hb dL_law_2083 rfl (lv_at hl 0 rfl) ?_
  refine lv_iload_n hx hb dL_law_2084 rfl (lv_at hl 3 rfl) ?_
  refine lv_iconst (v := 1) hx hb dL_law_2085 (by decide) ?_
  refine z_iadd (v := 1) hx hb dL_law_2086 (by decide) ?_
  refine va_sld hx hb hX hbl hbA hS (by unfold vp_in; decide) dL_law_2087 ?_
  refine W.eq (g2 := F0 m 2088 ls [.int (xs 1), .ref m0, .int r_1]) rfl ?_
  refine lv_aload_n hx hb dL_law_2088 rfl (lv_at hl 0 rfl) ?_
  refine lv_iload_n hx hb dL_law_2089 rfl (lv_at hl 3 rfl) ?_
  refine lv_iconst (v := 2) hx hb dL_law_2090 (by decide) ?_
  refine z_iadd (v := 2) hx hb dL_law_2091 (by decide) ?_
  refine va_sld hx hb hX hbl hbA hS (by unfold vp_in; decide) dL_law_2092 ?_
  refine W.eq (g2 := F0 m 2093 ls [.int (xs 2), .int (xs 1), .ref m0, .int r_1]) rfl ?_
  refine lv_aload_n hx hb dL_law_2093 rfl (lv_at hl 0 rfl) ?_
  refine lv_iload_n hx hb dL_law_2094 rfl (lv_at hl 3 rfl) ?_
  refine lv_iconst (v := 3) hx hb dL_law_2095 (by decide) ?_
  refine z_iadd (v := 3) hx hb dL_law_2096 (by decide) ?_
  refine va_sld hx hb hX hbl hbA hS (by unfold vp_in; decide) dL_law_2097 ?_
  refine W.eq (g2 := F0 m 2098 ls [.int (xs 3), .int (xs 2), .int (xs 1), .ref m0, .int r_1]) rfl ?_
  refine lv_aload_n hx hb dL_law_2098 rfl (lv_at hl 0 rfl) ?_
  refine lv_iload_n hx hb dL_law_2099 rfl (lv_at hl 3 rfl) ?_
  refine lv_iconst (v := 4) hx hb dL_law_2100 (by decide) ?_
  refine z_iadd (v := 4) hx hb dL_law_2101 (by decide) ?_
  refine va_sld hx hb hX hbl hbA hS (by unfold vp_in; decide) dL_law_2102 ?_
  refine W.eq (g2 := F0 m 2103 ls [.int (xs 4), .int (xs 3), .int (xs 2), .int (xs 1), .ref m0, .int r_1]) rfl ?_
  refine lv_aload_n hx hb dL_law_2103 rfl (lv_at hl 0 rfl) ?_
  refine lv_iload_n hx hb dL_law_2104 rfl (lv_at hl 3 rfl) ?_
  refine lv_iconst (v := 5) hx hb dL_law_2105 (by decide) ?_
  refine z_iadd (v := 5) hx hb dL_law_2106 (by decide) ?_
  refine va_sld hx hb hX hbl hbA hS (by unfold vp_in; decide) dL_law_2107 ?_
  refine W.eq (g2 := F0 m 2108 ls [.int (xs 5), .int (xs 4), .int (xs 3), .int (xs 2), .int (xs 1), .ref m0, .int r_1]) rfl ?_
  refine roi (As := [.int (xs 1), .int (xs 2), .int (xs 3), .int (xs 4), .int (xs 5)]) (rest := [.int r_1]) ⟨hx, hb, hml, hown, hts⟩ (km_paste l D cB cI cJ cZ cS cT m0 m_world m_images m_hasImage m_tape m_five m_fresh m_spokenAt m_heardAt m_lastAt m_answerAt m_heardNow m_seenAt m_fewest m_costNow m_costThen m_lawsOf m_heardBy m_placesOf m_sentIn m_lostBy m_many m_width m_numbers m_moving (xs 1) (xs 2) (xs 3) (xs 4) (xs 5) ) (cvB (n := 5) (inr75 _ (List.mem_of_getElem? (i := 8) rfl)) (inr75 _ (List.mem_of_getElem? (i := 9) rfl)) (inr75 _ (List.mem_of_getElem? (i := 10) rfl)) (inr1 _ (List.mem_of_getElem? (i := 5) rfl)) (inr75 _ (List.mem_of_getElem? (i := 11) rfl)) (by decide +kernel) hts rfl rfl ⟨Nat.le_of_ble_eq_true rfl, Nat.le_of_ble_eq_true rfl⟩) 0 12 rfl rfl rfl (hP.sub [6, 7] rfl) hK rfl hl.1 rfl (Nat.le_of_ble_eq_true rfl) ⟨Nat.le_of_ble_eq_true rfl, Nat.le_of_ble_eq_true rfl⟩ dL_law_2108 (fun r_3 h_4 => ?_)
  refine lv_icmp_eq (tgt := 2116) hx hb dL_law_2111 (by decide) (fun _ => ?_) (fun c0 => absurd (h_2.trans h_4.symm) c0)
  exact law_end C0 hK hN (Nat.le_of_ble_eq_true rfl) (Nat.le_of_ble_eq_true rfl) hS (lv_sub hl [0, 1, 2, 3] rfl)
