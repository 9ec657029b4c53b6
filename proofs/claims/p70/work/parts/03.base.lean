theorem gB {y : MethodName} {b : ByteArray} {n : Nat} {r : Option FieldType} (hc : Cond.code y b n r ∈ wsL_law) : GoodIn wsL_law (Cond.code y b n r :: wsL_law) := fun w hw => (List.mem_cons.mp hw).elim (fun h => by rw [h]; exact ⟨hc, (wsL_law_gi _ hc).2⟩) (fun h => ⟨h, (wsL_law_gi w h).2⟩)
/-- the classes of the arrays -/
abbrev tyL (cB cI cJ cZ cS cT : ClassId) : List (ClassId × FieldType) := [(cB, .byte), (cI, .int), (cJ, .long), (cZ, .boolean), (cS, .object "IntervalSignal$Slot"), (cT, .object "IntervalSignal$Station")]
/-- the links within the nest, and the arrays of objects -/
def nestL : List Cond := [.methodLinkNest RX11 11 yX9_init RX11, .methodLinkNest RX11 18 yX6_init RX11, .methodLinkNest RX6 11 yX8_init RX11, .methodLinkNest RX11 25 yX8_init RX11, .methodLinkNest RX11 47 yX7_init RX11, .methodLinkNest RX11 50 yX4_init RX11, .methodLinkNest RX11 60 yX1_init RX11, .methodLinkNest RX11 67 yX10_init RX11, .methodLinkNest RX11 74 yX3_init RX11, .methodLinkNest RX3 11 yX8_init RX11, .methodLinkNest RX3 20 yX4_init RX11, .methodLinkNest RX11 81 yX5_init RX11, .methodLinkNest RX11 88 yX2_init RX11, .methodLinkNest RX6 122 yX11_outside RX11]
theorem nestL_ok : ∀ w ∈ nestL, ∃ (a : String) (i : Nat) (x : MethodName) (h : String), w = Cond.methodLinkNest a i x h := List.forall_mem_cons.mpr ⟨⟨_, _, _, _, rfl⟩, List.forall_mem_cons.mpr ⟨⟨_, _, _, _, rfl⟩, List.forall_mem_cons.mpr ⟨⟨_, _, _, _, rfl⟩, List.forall_mem_cons.mpr ⟨⟨_, _, _, _, rfl⟩, List.forall_mem_cons.mpr ⟨⟨_, _, _, _, rfl⟩, List.forall_mem_cons.mpr ⟨⟨_, _, _, _, rfl⟩, List.forall_mem_cons.mpr ⟨⟨_, _, _, _, rfl⟩, List.forall_mem_cons.mpr ⟨⟨_, _, _, _, rfl⟩, List.forall_mem_cons.mpr ⟨⟨_, _, _, _, rfl⟩, List.forall_mem_cons.mpr ⟨⟨_, _, _, _, rfl⟩, List.forall_mem_cons.mpr ⟨⟨_, _, _, _, rfl⟩, List.forall_mem_cons.mpr ⟨⟨_, _, _, _, rfl⟩, List.forall_mem_cons.mpr ⟨⟨_, _, _, _, rfl⟩, List.forall_mem_cons.mpr ⟨⟨_, _, _, _, rfl⟩, fun _ h => absurd h List.not_mem_nil⟩⟩⟩⟩⟩⟩⟩⟩⟩⟩⟩⟩⟩⟩
def kN (U : State) : Prop := (∀ w ∈ nestL, va_Nw w U) ∧ va_AO "IntervalSignal$Station" U ∧ va_AO "IntervalSignal$Slot" U
theorem kN.warm {s U : State} (hW : s.WarmedH U.vm) (h : kN s) : kN U := ⟨fun w hw => by
  obtain ⟨a, i, x, hh, rfl⟩ := nestL_ok w hw
  exact va_Nw.warmM hW (h.1 _ hw), va_AO.moved hW.alike h.2.1, va_AO.moved hW.alike h.2.2⟩
theorem kN.call {U : State} {g : JFrame} {mk : MethodId} {a : Array Value} (h : kN U) : kN (U.calling g mk a) := ⟨fun w hw => by
  obtain ⟨a, i, x, hh, rfl⟩ := nestL_ok w hw
  exact va_Nw.same rfl (rfl : U.vm = (U.calling g mk _).vm) (h.1 _ hw), va_AO.moved (Vm.Alike.refl U.vm) h.2.1, va_AO.moved (Vm.Alike.refl U.vm) h.2.2⟩
/-- the Strings of the two readers: lengths and bytes, in the order of the words; where they are: below B0, at adK, adV -/
def strT : List String := ["station", "tones", "a", "b", "c", "d", "odds", "note", "gap", "post", "at"]
def strL : List Nat := strT.map String.length
def strB : List (List Int32) := strT.map fun t => t.toList.map fun ch => Int32.ofNat ch.toNat
abbrev Gho : Type := Nat × (Nat → Nat) × (Nat → Nat)
def strK : List (String × Nat × String) := [(RX6, 74, "station"), (RX6, 80, "tones"), (RX6, 86, "a"), (RX6, 88, "b"), (RX6, 90, "c"), (RX6, 92, "d"), (RX6, 94, "odds"), (RX6, 48, "note"), (RX6, 57, "gap"), (RX6, 62, "post"), (RX6, 114, "at"), (RX12, 182, "station"), (RX12, 184, "tones"), (RX12, 190, "a"), (RX12, 192, "b"), (RX12, 194, "c"), (RX12, 196, "d"), (RX12, 198, "odds"), (RX12, 200, "note"), (RX12, 202, "gap"), (RX12, 204, "post"), (RX12, 206, "at")]
def kT (G : Gho) (U : State) (H : Heap) : Prop := vk_S 11 strL strB G.2.1 G.2.2 (fun q => G.1 ≤ q) U H ∧ (∀ (i : Nat) (q : String × Nat × String), strK[i]? = some q → vk_R q.1 q.2.1 q.2.2 (G.2.1 (i % 11)) U) ∧ va_Z "java/lang/String" "COMPACT_STRINGS" "Z" (.int 1) (fun q => G.1 ≤ q) U H ∧ va_Zq "jdk/internal/util/Preconditions" "SIOOBE_FORMATTER" "Ljava/util/function/BiFunction;" (fun q => G.1 ≤ q) U H
abbrev roP (G : Gho) (D : va_G) (tys : List (ClassId × FieldType)) (ws : va_W) (av : List Value) : Array Value → State → Prop := va_Pc av (fun U => va_P D vwCl ws U.heap ∧ va_K D vwCl tys U ∧ kN U ∧ kT G U U.heap)
abbrev wrP (G : Gho) (D : va_G) (tys : List (ClassId × FieldType)) (ws : va_W) (sz : Nat) (av : List Value) : Array Value → State → Prop := va_Pc av (fun U => U.heap.size = sz ∧ va_P D vwCl ws U.heap ∧ va_K D vwCl tys U ∧ va_D (fun q => G.1 ≤ q) ws ∧ kN U ∧ kT G U U.heap ∧ G.1 ≤ sz)
abbrev atW (D : va_G) (tys : List (ClassId × FieldType)) (A : Nat → Prop) {X : Type} (w1 : X → va_W) (x : X) (t : State) : Prop := va_P D vwCl (w1 x) t.heap ∧ va_K D vwCl tys t ∧ va_D A (w1 x)
theorem kT.moved {G : Gho} {u U : State} {H : Heap} (hW : u.WarmedH U.vm) (h : kT G u H) : kT G U H := ⟨vk_S.moved hW.alike h.1, fun i q hq => vk_R.warm hW (h.2.1 i q hq), va_Z.moved hW.alike h.2.2.1, va_Zq.moved hW.alike h.2.2.2⟩
theorem kT.call {G : Gho} {U : State} {H : Heap} {g : JFrame} {mk : MethodId} {a : Array Value} (h : kT G U H) : kT G (U.calling g mk a) H := ⟨vk_S.moved (u := U) (Vm.Alike.refl U.vm) h.1, fun i q hq => vk_R.same (u := U) rfl (h.2.1 i q hq), va_Z.moved (u := U) (Vm.Alike.refl U.vm) h.2.2.1, va_Zq.moved (u := U) (Vm.Alike.refl U.vm) h.2.2.2⟩
theorem kT.to {G : Gho} {s : State} {H0 H : Heap} {A : Nat → Prop} {locs : List Loc} (h : kT G s H0) (hS : va_S A H0 H locs) (hAB : ∀ q, A q → G.1 ≤ q) : kT G s H := ⟨vk_S.kept h.1 (fun a h1 h2 => hS.2.1 a h1 (fun q => h2 (hAB a q))), h.2.1, va_Z.kept h.2.2.1 (fun a h1 h2 => hS.2.1 a h1 (fun q => h2 (hAB a q))), va_Zq.kept h.2.2.2 (fun a h1 h2 => hS.2.1 a h1 (fun q => h2 (hAB a q)))⟩
theorem abA {G : Gho} {ws : va_W} {sz : Nat} (hD : va_D (fun q => G.1 ≤ q) ws) (hG : G.1 ≤ sz) : ∀ q, va_A ws sz q → G.1 ≤ q := fun q h => h.elim (fun ⟨k, e, he⟩ => hD.2 k (q, e) he) (fun h => Nat.le_trans hG h)
theorem roBl {G : Gho} {D : va_G} {tys : List (ClassId × FieldType)} {ws : va_W} {av : List Value} : FrameBlind (roP G D tys ws av) := fun a U g mk q => ⟨q.1, q.2.1, va_K.moved (u := U) (U := U.calling g mk a) (Vm.Alike.refl U.vm) q.2.2.1, kN.call q.2.2.2.1, kT.call q.2.2.2.2⟩
theorem wrBl {G : Gho} {D : va_G} {tys : List (ClassId × FieldType)} {ws : va_W} {sz : Nat} {av : List Value} : FrameBlind (wrP G D tys ws sz av) := fun a U g mk q => ⟨q.1, q.2.1, q.2.2.1, va_K.moved (u := U) (U := U.calling g mk a) (Vm.Alike.refl U.vm) q.2.2.2.1, q.2.2.2.2.1, kN.call q.2.2.2.2.2.1, kT.call q.2.2.2.2.2.2.1, q.2.2.2.2.2.2.2⟩

section CI
variable {x y : Int32}
theorem ci_eq_t (h : x = y) : x.toInt = y.toInt := by
  simp only [Int32.lt_iff_toInt_lt, Int32.le_iff_toInt_le, ← Int32.toInt_inj] at h
  omega
theorem ci_eq_f (h : ¬ x = y) : ¬ x.toInt = y.toInt := by
  simp only [Int32.lt_iff_toInt_lt, Int32.le_iff_toInt_le, ← Int32.toInt_inj] at h
  omega
theorem ci_ne_t (h : ¬ x = y) : ¬ x.toInt = y.toInt := by
  simp only [Int32.lt_iff_toInt_lt, Int32.le_iff_toInt_le, ← Int32.toInt_inj] at h
  omega
theorem ci_ne_f (h : x = y) : x.toInt = y.toInt := by
  simp only [Int32.lt_iff_toInt_lt, Int32.le_iff_toInt_le, ← Int32.toInt_inj] at h
  omega
theorem ci_lt_t (h : x < y) : x.toInt < y.toInt := by
  simp only [Int32.lt_iff_toInt_lt, Int32.le_iff_toInt_le, ← Int32.toInt_inj] at h
  omega
theorem ci_lt_f (h : ¬ x < y) : y.toInt ≤ x.toInt := by
  simp only [Int32.lt_iff_toInt_lt, Int32.le_iff_toInt_le, ← Int32.toInt_inj] at h
  omega
theorem ci_ge_t (h : y ≤ x) : y.toInt ≤ x.toInt := by
  simp only [Int32.lt_iff_toInt_lt, Int32.le_iff_toInt_le, ← Int32.toInt_inj] at h
  omega
theorem ci_ge_f (h : ¬ y ≤ x) : x.toInt < y.toInt := by
  simp only [Int32.lt_iff_toInt_lt, Int32.le_iff_toInt_le, ← Int32.toInt_inj] at h
  omega
theorem ci_gt_t (h : y < x) : y.toInt < x.toInt := by
  simp only [Int32.lt_iff_toInt_lt, Int32.le_iff_toInt_le, ← Int32.toInt_inj] at h
  omega
theorem ci_gt_f (h : ¬ y < x) : x.toInt ≤ y.toInt := by
  simp only [Int32.lt_iff_toInt_lt, Int32.le_iff_toInt_le, ← Int32.toInt_inj] at h
  omega
theorem ci_le_t (h : x ≤ y) : x.toInt ≤ y.toInt := by
  simp only [Int32.lt_iff_toInt_lt, Int32.le_iff_toInt_le, ← Int32.toInt_inj] at h
  omega
theorem ci_le_f (h : ¬ x ≤ y) : y.toInt < x.toInt := by
  simp only [Int32.lt_iff_toInt_lt, Int32.le_iff_toInt_le, ← Int32.toInt_inj] at h
  omega
end CI
section CL
variable {x y : Int64} {t : Int32}
theorem cl_eq_t (e : lg_cmp x y = t) (h : t = 0) : x.toInt = y.toInt := by
  rw [← e, lg_cmp_eq] at h
  simp only [Int64.lt_iff_toInt_lt, Int64.le_iff_toInt_le, ← Int64.toInt_inj] at h
  omega
theorem cl_eq_f (e : lg_cmp x y = t) (h : ¬ t = 0) : ¬ x.toInt = y.toInt := by
  rw [← e, lg_cmp_eq] at h
  simp only [Int64.lt_iff_toInt_lt, Int64.le_iff_toInt_le, ← Int64.toInt_inj] at h
  omega
theorem cl_ne_t (e : lg_cmp x y = t) (h : ¬ t = 0) : ¬ x.toInt = y.toInt := by
  rw [← e, lg_cmp_eq] at h
  simp only [Int64.lt_iff_toInt_lt, Int64.le_iff_toInt_le, ← Int64.toInt_inj] at h
  omega
theorem cl_ne_f (e : lg_cmp x y = t) (h : t = 0) : x.toInt = y.toInt := by
  rw [← e, lg_cmp_eq] at h
  simp only [Int64.lt_iff_toInt_lt, Int64.le_iff_toInt_le, ← Int64.toInt_inj] at h
  omega
theorem cl_lt_t (e : lg_cmp x y = t) (h : t < 0) : x.toInt < y.toInt := by
  rw [← e, lg_cmp_lt] at h
  simp only [Int64.lt_iff_toInt_lt, Int64.le_iff_toInt_le, ← Int64.toInt_inj] at h
  omega
theorem cl_lt_f (e : lg_cmp x y = t) (h : ¬ t < 0) : y.toInt ≤ x.toInt := by
  rw [← e, lg_cmp_lt] at h
  simp only [Int64.lt_iff_toInt_lt, Int64.le_iff_toInt_le, ← Int64.toInt_inj] at h
  omega
theorem cl_ge_t (e : lg_cmp x y = t) (h : 0 ≤ t) : y.toInt ≤ x.toInt := by
  rw [← e, lg_cmp_ge] at h
  simp only [Int64.lt_iff_toInt_lt, Int64.le_iff_toInt_le, ← Int64.toInt_inj] at h
  omega
theorem cl_ge_f (e : lg_cmp x y = t) (h : ¬ 0 ≤ t) : x.toInt < y.toInt := by
  rw [← e, lg_cmp_ge] at h
  simp only [Int64.lt_iff_toInt_lt, Int64.le_iff_toInt_le, ← Int64.toInt_inj] at h
  omega
theorem cl_gt_t (e : lg_cmp x y = t) (h : 0 < t) : y.toInt < x.toInt := by
  rw [← e, lg_cmp_gt] at h
  simp only [Int64.lt_iff_toInt_lt, Int64.le_iff_toInt_le, ← Int64.toInt_inj] at h
  omega
theorem cl_gt_f (e : lg_cmp x y = t) (h : ¬ 0 < t) : x.toInt ≤ y.toInt := by
  rw [← e, lg_cmp_gt] at h
  simp only [Int64.lt_iff_toInt_lt, Int64.le_iff_toInt_le, ← Int64.toInt_inj] at h
  omega
theorem cl_le_t (e : lg_cmp x y = t) (h : t ≤ 0) : x.toInt ≤ y.toInt := by
  rw [← e, lg_cmp_le] at h
  simp only [Int64.lt_iff_toInt_lt, Int64.le_iff_toInt_le, ← Int64.toInt_inj] at h
  omega
theorem cl_le_f (e : lg_cmp x y = t) (h : ¬ t ≤ 0) : y.toInt < x.toInt := by
  rw [← e, lg_cmp_le] at h
  simp only [Int64.lt_iff_toInt_lt, Int64.le_iff_toInt_le, ← Int64.toInt_inj] at h
  omega
end CL
theorem sw_cases (x : Int32) (n : Nat) (hn : n < 2 ^ 31) : (x.toInt < 0 ∨ (n : Int) - 1 < x.toInt) ∨ ∃ j : Nat, j < n ∧ x = Int32.ofNat j := by
  rcases pk_ix x hn with h | h | ⟨j, hj, h⟩
  · exact Or.inl (Or.inl (ci_lt_t h))
  · have h1 := ci_le_t h
    rw [nI_toInt hn] at h1
    exact Or.inl (Or.inr (by omega))
  · exact Or.inr ⟨j, hj, h⟩
theorem sw_look1 {x : Int32} {o d : Int} {k : Int32} {a : Int} (h : ¬ x = k) (hk : k.toInt = a) : Op.lookupswitch.offset [(a, o)] d x.toInt = d := by rw [lv_osw h hk]; rfl
theorem sw_look2 {x : Int32} {o1 o2 d : Int} {k1 k2 : Int32} {a1 a2 : Int} (h1 : ¬ x = k1) (hk1 : k1.toInt = a1) (h2 : ¬ x = k2) (hk2 : k2.toInt = a2) : Op.lookupswitch.offset [(a1, o1), (a2, o2)] d x.toInt = d := by rw [lv_osw h1 hk1, lv_osw h2 hk2]; rfl
theorem in1 {x : Int32} (h0 : 0 ≤ x.toInt) (h3 : x.toInt ≤ 0) : x = 0 := by
  simp only [← Int32.toInt_inj]
  have e0 : (0 : Int32).toInt = 0 := by decide
  omega
theorem in3 {x : Int32} (h0 : 0 ≤ x.toInt) (h3 : x.toInt ≤ 2) : x = 0 ∨ x = 1 ∨ x = 2 := by
  simp only [← Int32.toInt_inj]
  have e0 : (0 : Int32).toInt = 0 := by decide
  have e1 : (1 : Int32).toInt = 1 := by decide
  have e2 : (2 : Int32).toInt = 2 := by decide
  omega
theorem in4 {x : Int32} (h0 : 0 ≤ x.toInt) (h3 : x.toInt ≤ 3) : x = 0 ∨ x = 1 ∨ x = 2 ∨ x = 3 := by
  simp only [← Int32.toInt_inj]
  have e0 : (0 : Int32).toInt = 0 := by decide
  have e1 : (1 : Int32).toInt = 1 := by decide
  have e2 : (2 : Int32).toInt = 2 := by decide
  have e3 : (3 : Int32).toInt = 3 := by decide
  omega
theorem updZ {k : Nat} : upd (fun _ => 0) k 0 = (fun _ => 0) := by funext j; unfold upd; split <;> rfl
theorem updZL {k : Nat} : vp_updL (fun _ => 0) k 0 = (fun _ => 0) := by funext j; unfold vp_updL; split <;> rfl
theorem bmodI {z : Int} (h1 : -2147483648 ≤ z) (h2 : z < 2147483648) : z.bmod (2 ^ 32) = z := by
  rw [Int.bmod_def]
  omega
theorem addT {x y z : Int32} {a b : Int} (hx : x.toInt = a) (hy : y.toInt = b) (e : x + y = z) (h1 : -2147483648 ≤ a + b) (h2 : a + b < 2147483648) : z.toInt = a + b := by
  rw [← e, Int32.toInt_add, hx, hy]
  exact bmodI h1 h2
theorem subT {x y z : Int32} {a b : Int} (hx : x.toInt = a) (hy : y.toInt = b) (e : x - y = z) (h1 : -2147483648 ≤ a - b) (h2 : a - b < 2147483648) : z.toInt = a - b := by
  rw [← e, Int32.toInt_sub, hx, hy]
  exact bmodI h1 h2
theorem mulT {x y z : Int32} {a b : Int} (hx : x.toInt = a) (hy : y.toInt = b) (e : x * y = z) (h1 : -2147483648 ≤ a * b) (h2 : a * b < 2147483648) : z.toInt = a * b := by
  rw [← e, Int32.toInt_mul, hx, hy]
  exact bmodI h1 h2
theorem vin_nat {i : Int32} {n : Nat} (h0 : 0 ≤ i.toInt) (h1 : i.toInt < n) : vp_in i n := vp_in_iff.mpr ⟨h0, h1⟩
theorem va_fm {ws wc : va_W} : ∀ {isC : List Nat}, isC.map (fun i => ws[i]?) = wc.map some → isC.filterMap (fun i => ws[i]?) = wc := by
  intro isC h
  have e : isC.filterMap (fun i => ws[i]?) = (isC.map (fun i => ws[i]?)).filterMap id := by rw [List.filterMap_map]; rfl
  rw [e, h, List.filterMap_map]
  induction wc with
  | nil => rfl
  | cons a t ih => simp
section ZB
variable {p : Program} {l : Launch} {e : Env} {R : Room} {s : State} {m : MethodId} {args : Array Value} {below : List Frame} {meth : Method} {c : Code} {H : Heap} {locs : List Loc} {cells slots : Nat} {Q : State → Prop} {cc : ByteArray} {pc : Nat} {ls : Array Slot} {rest : List Value}
theorem z_iadd (hx : p.tables.exec = Jvm.exec) (hb : c.code = cc) {x y v : Int32} (hdg : decode cc pc = .ok (.iadd, 1)) (hv : x + y = v) (k : W p l e R s m args below meth c H locs cells slots Q (F0 m (pc + 1) ls (.int v :: rest))) : W p l e R s m args below meth c H locs cells slots Q (F0 m pc ls (.int y :: .int x :: rest)) := by
  subst hv
  exact lv_iadd hx hb hdg k
theorem z_isub (hx : p.tables.exec = Jvm.exec) (hb : c.code = cc) {x y v : Int32} (hdg : decode cc pc = .ok (.isub, 1)) (hv : x - y = v) (k : W p l e R s m args below meth c H locs cells slots Q (F0 m (pc + 1) ls (.int v :: rest))) : W p l e R s m args below meth c H locs cells slots Q (F0 m pc ls (.int y :: .int x :: rest)) := by
  subst hv
  exact lv_isub hx hb hdg k
theorem z_imul (hx : p.tables.exec = Jvm.exec) (hb : c.code = cc) {x y v : Int32} (hdg : decode cc pc = .ok (.imul, 1)) (hv : x * y = v) (k : W p l e R s m args below meth c H locs cells slots Q (F0 m (pc + 1) ls (.int v :: rest))) : W p l e R s m args below meth c H locs cells slots Q (F0 m pc ls (.int y :: .int x :: rest)) := by
  subst hv
  exact lv_imul hx hb hdg k
theorem z_iand (hx : p.tables.exec = Jvm.exec) (hb : c.code = cc) {x y v : Int32} (hdg : decode cc pc = .ok (.iand, 1)) (hv : x &&& y = v) (k : W p l e R s m args below meth c H locs cells slots Q (F0 m (pc + 1) ls (.int v :: rest))) : W p l e R s m args below meth c H locs cells slots Q (F0 m pc ls (.int y :: .int x :: rest)) := by
  subst hv
  exact lv_iand hx hb hdg k
theorem z_ior (hx : p.tables.exec = Jvm.exec) (hb : c.code = cc) {x y v : Int32} (hdg : decode cc pc = .ok (.ior, 1)) (hv : x ||| y = v) (k : W p l e R s m args below meth c H locs cells slots Q (F0 m (pc + 1) ls (.int v :: rest))) : W p l e R s m args below meth c H locs cells slots Q (F0 m pc ls (.int y :: .int x :: rest)) := by
  subst hv
  exact lv_ior hx hb hdg k
theorem z_idiv (hx : p.tables.exec = Jvm.exec) (hb : c.code = cc) {x y v : Int32} (hdg : decode cc pc = .ok (.idiv, 1)) (hne : ¬ y = 0) (hv : x / y = v) (k : W p l e R s m args below meth c H locs cells slots Q (F0 m (pc + 1) ls (.int v :: rest))) : W p l e R s m args below meth c H locs cells slots Q (F0 m pc ls (.int y :: .int x :: rest)) := by
  subst hv
  exact lv_idiv hx hb hdg hne k
theorem z_irem (hx : p.tables.exec = Jvm.exec) (hb : c.code = cc) {x y v : Int32} (hdg : decode cc pc = .ok (.irem, 1)) (hne : ¬ y = 0) (hv : x - x / y * y = v) (k : W p l e R s m args below meth c H locs cells slots Q (F0 m (pc + 1) ls (.int v :: rest))) : W p l e R s m args below meth c H locs cells slots Q (F0 m pc ls (.int y :: .int x :: rest)) := by
  subst hv
  exact lv_irem hx hb hdg hne k
theorem z_ladd (hx : p.tables.exec = Jvm.exec) (hb : c.code = cc) {x y v : Int64} (hdg : decode cc pc = .ok (.ladd, 1)) (hv : x + y = v) (k : W p l e R s m args below meth c H locs cells slots Q (F0 m (pc + 1) ls (.long v :: rest))) : W p l e R s m args below meth c H locs cells slots Q (F0 m pc ls (.long y :: .long x :: rest)) := by
  subst hv
  exact lv_ladd hx hb hdg k
theorem z_lsub (hx : p.tables.exec = Jvm.exec) (hb : c.code = cc) {x y v : Int64} (hdg : decode cc pc = .ok (.lsub, 1)) (hv : x - y = v) (k : W p l e R s m args below meth c H locs cells slots Q (F0 m (pc + 1) ls (.long v :: rest))) : W p l e R s m args below meth c H locs cells slots Q (F0 m pc ls (.long y :: .long x :: rest)) := by
  subst hv
  exact lv_lsub hx hb hdg k
theorem z_lmul (hx : p.tables.exec = Jvm.exec) (hb : c.code = cc) {x y v : Int64} (hdg : decode cc pc = .ok (.lmul, 1)) (hv : x * y = v) (k : W p l e R s m args below meth c H locs cells slots Q (F0 m (pc + 1) ls (.long v :: rest))) : W p l e R s m args below meth c H locs cells slots Q (F0 m pc ls (.long y :: .long x :: rest)) := by
  subst hv
  exact lv_lmul hx hb hdg k
theorem z_land (hx : p.tables.exec = Jvm.exec) (hb : c.code = cc) {x y v : Int64} (hdg : decode cc pc = .ok (.land, 1)) (hv : x &&& y = v) (k : W p l e R s m args below meth c H locs cells slots Q (F0 m (pc + 1) ls (.long v :: rest))) : W p l e R s m args below meth c H locs cells slots Q (F0 m pc ls (.long y :: .long x :: rest)) := by
  subst hv
  exact lv_land hx hb hdg k
theorem z_lor (hx : p.tables.exec = Jvm.exec) (hb : c.code = cc) {x y v : Int64} (hdg : decode cc pc = .ok (.lor, 1)) (hv : x ||| y = v) (k : W p l e R s m args below meth c H locs cells slots Q (F0 m (pc + 1) ls (.long v :: rest))) : W p l e R s m args below meth c H locs cells slots Q (F0 m pc ls (.long y :: .long x :: rest)) := by
  subst hv
  exact lv_lor hx hb hdg k
theorem z_ldiv (hx : p.tables.exec = Jvm.exec) (hb : c.code = cc) {x y v : Int64} (hdg : decode cc pc = .ok (.ldiv, 1)) (hne : ¬ y = 0) (hv : x / y = v) (k : W p l e R s m args below meth c H locs cells slots Q (F0 m (pc + 1) ls (.long v :: rest))) : W p l e R s m args below meth c H locs cells slots Q (F0 m pc ls (.long y :: .long x :: rest)) := by
  subst hv
  exact lv_ldiv hx hb hdg hne k
theorem z_lrem (hx : p.tables.exec = Jvm.exec) (hb : c.code = cc) {x y v : Int64} (hdg : decode cc pc = .ok (.lrem, 1)) (hne : ¬ y = 0) (hv : x - x / y * y = v) (k : W p l e R s m args below meth c H locs cells slots Q (F0 m (pc + 1) ls (.long v :: rest))) : W p l e R s m args below meth c H locs cells slots Q (F0 m pc ls (.long y :: .long x :: rest)) := by
  subst hv
  exact lv_lrem hx hb hdg hne k
theorem z_ishl (hx : p.tables.exec = Jvm.exec) (hb : c.code = cc) {x y v : Int32} (hdg : decode cc pc = .ok (.ishl, 1)) (hv : x <<< (y &&& 31) = v) (k : W p l e R s m args below meth c H locs cells slots Q (F0 m (pc + 1) ls (.int v :: rest))) : W p l e R s m args below meth c H locs cells slots Q (F0 m pc ls (.int y :: .int x :: rest)) := by
  subst hv
  exact lv_ishl hx hb hdg k
theorem z_ishr (hx : p.tables.exec = Jvm.exec) (hb : c.code = cc) {x y v : Int32} (hdg : decode cc pc = .ok (.ishr, 1)) (hv : x >>> (y &&& 31) = v) (k : W p l e R s m args below meth c H locs cells slots Q (F0 m (pc + 1) ls (.int v :: rest))) : W p l e R s m args below meth c H locs cells slots Q (F0 m pc ls (.int y :: .int x :: rest)) := by
  subst hv
  exact lv_ishr hx hb hdg k
theorem z_ineg (hx : p.tables.exec = Jvm.exec) (hb : c.code = cc) {x v : Int32} (hdg : decode cc pc = .ok (.ineg, 1)) (hv : -x = v) (k : W p l e R s m args below meth c H locs cells slots Q (F0 m (pc + 1) ls (.int v :: rest))) : W p l e R s m args below meth c H locs cells slots Q (F0 m pc ls (.int x :: rest)) := by
  subst hv
  exact lv_ineg hx hb hdg k
theorem z_lcmp (hx : p.tables.exec = Jvm.exec) (hb : c.code = cc) {x y : Int64} {v : Int32} (hdg : decode cc pc = .ok (.lcmp, 1)) (hv : lg_cmp x y = v) (k : W p l e R s m args below meth c H locs cells slots Q (F0 m (pc + 1) ls (.int v :: rest))) : W p l e R s m args below meth c H locs cells slots Q (F0 m pc ls (.long y :: .long x :: rest)) := by
  subst hv
  exact W.lcmp hx hb hdg k
end ZB
section ZW
variable {p : Program} {l : Launch} {e : Env} {R : Room} {s : State} {m : MethodId} {args : Array Value} {below : List Frame} {meth : Method} {c : Code} {H : Heap} {locs : List Loc} {cells slots : Nat} {Q : State → Prop} {cc : ByteArray} {pc : Nat} {ls : Array Slot} {rest : List Value}
variable {D : va_G} {tys : List (ClassId × FieldType)} {ws : va_W} {A : Nat → Prop} {H0 : Heap}
theorem z_iald (hx : p.tables.exec = Jvm.exec) (hb : c.code = cc) (hK : va_K D vwCl tys s) (hP : va_P D vwCl ws H) (q0 t0 : Nat) {a : Nat} {cA : ClassId} {n : Nat} {f : Nat → Int32} (ha : ws[q0]? = some (a, .inl (cA, n, .inl f))) (ht : tys[t0]? = some (cA, .int)) {i : Int32} {v : Int32} (hin : vp_in i n) (hv : f i.toNatClampNeg = v) (hdg : decode cc pc = .ok (.iaload, 1)) (kk : W p l e R s m args below meth c H locs cells slots Q (F0 m (pc + 1) ls (.int v :: rest))) : W p l e R s m args below meth c H locs cells slots Q (F0 m pc ls (.int i :: .ref a :: rest)) := by
  subst hv
  exact va_iald hx hb hK hP q0 t0 ha ht hin hdg kk
theorem z_bald (hx : p.tables.exec = Jvm.exec) (hb : c.code = cc) (hK : va_K D vwCl tys s) (hP : va_P D vwCl ws H) (q0 t0 : Nat) {a : Nat} {cA : ClassId} {n : Nat} {f : Nat → Int32} (ha : ws[q0]? = some (a, .inl (cA, n, .inl f))) (ht : tys[t0]? = some (cA, .byte)) {i : Int32} {v : Int32} (hin : vp_in i n) (hv : f i.toNatClampNeg = v) (hdg : decode cc pc = .ok (.baload, 1)) (kk : W p l e R s m args below meth c H locs cells slots Q (F0 m (pc + 1) ls (.int v :: rest))) : W p l e R s m args below meth c H locs cells slots Q (F0 m pc ls (.int i :: .ref a :: rest)) := by
  subst hv
  exact va_bald hx hb hK hP q0 t0 ha ht hin hdg kk
theorem z_zald (hx : p.tables.exec = Jvm.exec) (hb : c.code = cc) (hK : va_K D vwCl tys s) (hP : va_P D vwCl ws H) (q0 t0 : Nat) {a : Nat} {cA : ClassId} {n : Nat} {f : Nat → Int32} (ha : ws[q0]? = some (a, .inl (cA, n, .inl f))) (ht : tys[t0]? = some (cA, .boolean)) {i : Int32} {v : Int32} (hin : vp_in i n) (hv : f i.toNatClampNeg = v) (hdg : decode cc pc = .ok (.baload, 1)) (kk : W p l e R s m args below meth c H locs cells slots Q (F0 m (pc + 1) ls (.int v :: rest))) : W p l e R s m args below meth c H locs cells slots Q (F0 m pc ls (.int i :: .ref a :: rest)) := by
  subst hv
  exact va_zald hx hb hK hP q0 t0 ha ht hin hdg kk
theorem z_lald (hx : p.tables.exec = Jvm.exec) (hb : c.code = cc) (hK : va_K D vwCl tys s) (hP : va_P D vwCl ws H) (q0 t0 : Nat) {a : Nat} {cA : ClassId} {n : Nat} {f : Nat → Int64} (ha : ws[q0]? = some (a, .inl (cA, n, .inr (.inl f)))) (ht : tys[t0]? = some (cA, .long)) {i : Int32} {v : Int64} (hin : vp_in i n) (hv : f i.toNatClampNeg = v) (hdg : decode cc pc = .ok (.laload, 1)) (kk : W p l e R s m args below meth c H locs cells slots Q (F0 m (pc + 1) ls (.long v :: rest))) : W p l e R s m args below meth c H locs cells slots Q (F0 m pc ls (.int i :: .ref a :: rest)) := by
  subst hv
  exact va_lald hx hb hK hP q0 t0 ha ht hin hdg kk
theorem z_newa (hx : p.tables.exec = Jvm.exec) (hb : c.code = cc) {atype : ArrayType} (harr : (Cond.arrayClass (newarray.typeOf atype)).before args s = true) {ty : FieldType} (hty : newarray.typeOf atype = ty) (hK : va_K D vwCl tys s) (hP : va_P D vwCl ws H) (hD : va_D A ws) (hS : va_S A H0 H locs) (hA : ∀ q, H0.size ≤ q → A q) (t0 : Nat) {cA : ClassId} (ht : tys[t0]? = some (cA, ty)) (hobj : ∀ C, ty ≠ .object C)
    {n : Int32} {N' : Nat} {a0 : vp_A} (ha : ∀ cA : ClassId, vp_cell cA a0 = arrV cA N' (fun _ => defaultValue ty)) (hn : ¬ n < 0) (hN : n.toNatClampNeg = N') (hbytes : N' * componentBytes ty ≤ 536870912) (hcells : cells + 1 ≤ R.cells) (hslots : slots + N' ≤ R.slots) (hdg : decode cc pc = .ok (.newarray atype, 2))
    (kk : ∀ (q : Nat) (H1 : Heap), va_P D vwCl (ws ++ [(q, .inl (cA, a0))]) H1 → va_D A (ws ++ [(q, .inl (cA, a0))]) → va_S A H0 H1 locs → W p l e R s m args below meth c H1 locs (cells + 1) (slots + N') Q (F0 m (pc + 2) ls (.ref q :: rest))) : W p l e R s m args below meth c H locs cells slots Q (F0 m pc ls (.int n :: rest)) := by
  refine va_newa hx hb harr hty hK hP hD hS hA ha hn hN hbytes hcells hslots hdg (fun q cB H1 hK1 hP1 hD1 hS1 => ?_)
  have e1 := (hK1.2 tys.length (cB, ty) (by simp)).2
  have e2 := (hK.2 t0 _ ht).2
  have e3 : cB = cA := by
    cases ty with
    | object C => exact absurd rfl (hobj C)
    | _ => exact Option.some.inj ((show s.vm.findClass _ = some cB from e1).symm.trans (show s.vm.findClass _ = some cA from e2))
  subst e3
  exact kk q H1 hP1 hD1 hS1
theorem z_newq (hx : p.tables.exec = Jvm.exec) (hb : c.code = cc) {own C : String} {index : Nat} (hown : s.vm.findClass own = some m.cls) (hclink : (Cond.classLink own index C).before args s = true) (hover : va_AO C s) (hK : va_K D vwCl tys s) (hP : va_P D vwCl ws H) (hD : va_D A ws) (hS : va_S A H0 H locs) (hA : ∀ q, H0.size ≤ q → A q) (t0 : Nat) {cA : ClassId} (ht : tys[t0]? = some (cA, .object C))
    {n : Int32} {N' : Nat} (hn : ¬ n < 0) (hN : n.toNatClampNeg = N') (hbytes : N' * 4 ≤ 536870912) (hcells : cells + 1 ≤ R.cells) (hslots : slots + N' ≤ R.slots) (hdg : decode cc pc = .ok (.anewarray index, 3))
    (kk : ∀ (q : Nat) (H1 : Heap), va_P D vwCl (ws ++ [(q, .inl (cA, N', .inr (.inr (.inr (.inr (fun _ => none))))))]) H1 → va_D A (ws ++ [(q, .inl (cA, N', .inr (.inr (.inr (.inr (fun _ => none))))))]) → va_S A H0 H1 locs → W p l e R s m args below meth c H1 locs (cells + 1) (slots + N') Q (F0 m (pc + 3) ls (.ref q :: rest))) : W p l e R s m args below meth c H locs cells slots Q (F0 m pc ls (.int n :: rest)) := by
  refine va_newq hx hb hown hclink hover hK hP hD hS hA hn hN hbytes hcells hslots hdg (fun q cB H1 hK1 hP1 hD1 hS1 => ?_)
  obtain ⟨_, _, _, _, _, e1⟩ := (hK1.2 tys.length (cB, .object C) (by simp)).2
  obtain ⟨_, _, _, _, _, e2⟩ := (hK.2 t0 _ ht).2
  have e3 : cB = cA := Option.some.inj (e1.symm.trans e2)
  subst e3
  exact kk q H1 hP1 hD1 hS1
end ZW
section ZC
variable {p : Program} {l : Launch} {e : Env} {R : Room} {s : State} {m : MethodId} {args : Array Value} {below : List Frame} {meth : Method} {c : Code} {H : Heap} {locs : List Loc} {cells slots : Nat} {Q : State → Prop} {cc : ByteArray} {pc : Nat} {ls : Array Slot} {rest : List Value}
variable {G : Gho} {D : va_G} {tys : List (ClassId × FieldType)} {wc : va_W} {own C : String} {index n maxL nL mc ms : Nat} {y : MethodName} {bytes : ByteArray} {ret : Option FieldType} {rm : Room} {As st0 : List Value} {b : Nat}
theorem cvB (w1 : Cond.methodLink own index y ∈ wsL_law) (w2 : Cond.instanceMethod y ∈ wsL_law) (w3 : Cond.selects C y y ∈ wsL_law) (w4 : Cond.initialized C ∈ wsL_law) (wc0 : Cond.code y bytes maxL ret ∈ wsL_law) (hd : y.cls = C ∧ y.cls ≠ "java/lang/invoke/MethodHandle" ∧ y.cls ≠ "java/lang/invoke/VarHandle" ∧ (parseMethodDescriptor y.desc).map (fun d => d.parameters.length) = some n) (hts : ∀ w ∈ wsL_law, w.before args s = true) (hrc : rm.cells = mc) (hrs : rm.slots = ms) (hR : rm.frames + 1 ≤ R.frames ∧ 8 + (maxL + 11) + rm.locals ≤ R.locals) : CallW R s args own C index y bytes maxL ret (Cond.code y bytes maxL ret :: wsL_law) rm mc ms n :=
  cwV n hts (fun w hw => by
    rcases List.mem_append.mp hw with h | h
    · simp only [List.mem_cons, List.not_mem_nil, or_false] at h
      rcases h with h | h | h | h <;> rw [h]
      · exact ⟨w1, (wsL_law_gi _ w1).2⟩
      · exact ⟨w2, (wsL_law_gi _ w2).2⟩
      · exact ⟨w3, (wsL_law_gi _ w3).2⟩
      · exact ⟨w4, (wsL_law_gi _ w4).2⟩
    · exact gB wc0 w h) rfl hrc hrs hd hR
theorem csB (w1 : Cond.methodLink own index y ∈ wsL_law) (w2 : Cond.static y ∈ wsL_law) (w4 : Cond.initialized own ∈ wsL_law) (wc0 : Cond.code y bytes maxL ret ∈ wsL_law) (hd : y.cls = own ∧ y.cls ≠ "java/lang/invoke/MethodHandle" ∧ y.cls ≠ "java/lang/invoke/VarHandle" ∧ (parseMethodDescriptor y.desc).map (fun d => d.parameters.length) = some n) (hts : ∀ w ∈ wsL_law, w.before args s = true) (hrc : rm.cells = mc) (hrs : rm.slots = ms) (hR : rm.frames + 1 ≤ R.frames ∧ 8 + (maxL + 11) + rm.locals ≤ R.locals) : CallB R s args own index y bytes maxL ret (Cond.code y bytes maxL ret :: wsL_law) rm mc ms n ∧ (Cond.static y).before args s = true :=
  cwS n hts (fun w hw => by
    rcases List.mem_append.mp hw with h | h
    · simp only [List.mem_cons, List.not_mem_nil, or_false] at h
      rcases h with h | h | h <;> rw [h]
      · exact ⟨w1, (wsL_law_gi _ w1).2⟩
      · exact ⟨w2, (wsL_law_gi _ w2).2⟩
      · exact ⟨w4, (wsL_law_gi _ w4).2⟩
    · exact gB wc0 w h) rfl hrc hrs hd hR
theorem csX (w1 : Cond.methodLink own index y ∈ wsL_law) (w2 : Cond.static y ∈ wsL_law) (w4 : Cond.initialized y.cls ∈ wsL_law) (wc0 : Cond.code y bytes maxL ret ∈ wsL_law) (hd : y.cls ≠ "java/lang/invoke/MethodHandle" ∧ y.cls ≠ "java/lang/invoke/VarHandle" ∧ (parseMethodDescriptor y.desc).map (fun d => d.parameters.length) = some n) (hts : ∀ w ∈ wsL_law, w.before args s = true) (hrc : rm.cells = mc) (hrs : rm.slots = ms) (hR : rm.frames + 1 ≤ R.frames ∧ 8 + (maxL + 11) + rm.locals ≤ R.locals) : CallB R s args own index y bytes maxL ret (Cond.code y bytes maxL ret :: wsL_law) rm mc ms n ∧ (Cond.static y).before args s = true :=
  ⟨callB_of n hts (gB wc0) rfl hrc hrs (hts _ w4) (hts _ w1) hd hR, hts _ w2⟩
theorem roi {post : Int32 → Prop} (S : CallFix p m c cc nL s args wsL_law own) (hM : Met l y (Cond.code y bytes maxL ret :: wsL_law) rm (roP G D tys wc (.ref b :: As)) (vp_Si post) 0 0 (fun _ => False)) (cw : CallW R s args own C index y bytes maxL ret (Cond.code y bytes maxL ret :: wsL_law) rm 0 0 n) (q0 ci : Nat) {q : vw_C} {fs : List Value} (hc : vwCl[ci]? = some q) (hC : q.1 = C) (he : wc[q0]? = some (b, .inr (ci, fs))) (hP : va_P D vwCl wc H) (hK : va_K D vwCl tys s) (hN : kN s) (hT : kT G s H) (hn : As.length = n) (hsz : ls.size = nL) (hst : st0 = As.reverse ++ .ref b :: rest) (hW : (rest.map fun v => v.category).sum ≤ 8) (hf : cells ≤ R.cells ∧ slots ≤ R.slots) (hdg : decode cc pc = .ok (.invokevirtual index, 3)) (kk : ∀ r : Int32, post r → W p l e R s m args below meth c H locs cells slots Q (F0 m (pc + 3) ls (.int r :: rest))) : W p l e R s m args below meth c H locs cells slots Q (F0 m pc ls st0) := by
  subst hC
  subst hst
  exact vp_callSi (W.runV (rest := rest) S hM cw ⟨roBl, va_recv hK hP hc he, fun U hU hW1 => ⟨rfl, by rw [hU]; exact hP, va_K.moved hW1.alike hK, kN.warm hW1 hN, by rw [hU]; exact kT.moved hW1 hT⟩⟩ rfl hn hsz rfl (lv_room hW) hdg hf) kk
theorem rosi {post : Int32 → Prop} (S : CallFix p m c cc nL s args wsL_law own) (hM : Met l y (Cond.code y bytes maxL ret :: wsL_law) rm (roP G D tys wc As) (vp_Si post) 0 0 (fun _ => False)) (cw : CallB R s args own index y bytes maxL ret (Cond.code y bytes maxL ret :: wsL_law) rm 0 0 n ∧ (Cond.static y).before args s = true) (hP : va_P D vwCl wc H) (hK : va_K D vwCl tys s) (hN : kN s) (hT : kT G s H) (hn : As.length = n) (hsz : ls.size = nL) (hst : st0 = As.reverse ++ rest) (hW : (rest.map fun v => v.category).sum ≤ 8) (hf : cells ≤ R.cells ∧ slots ≤ R.slots) (hdg : decode cc pc = .ok (.invokestatic index, 3)) (kk : ∀ r : Int32, post r → W p l e R s m args below meth c H locs cells slots Q (F0 m (pc + 3) ls (.int r :: rest))) : W p l e R s m args below meth c H locs cells slots Q (F0 m pc ls st0) := by
  subst hst
  exact vp_callSi (W.runS (rest := rest) S hM cw ⟨roBl, fun U hU hW1 => ⟨rfl, by rw [hU]; exact hP, va_K.moved hW1.alike hK, kN.warm hW1 hN, by rw [hU]; exact kT.moved hW1 hT⟩⟩ rfl hn hsz rfl (lv_room hW) hdg hf) kk
theorem rol {post : Int64 → Prop} (S : CallFix p m c cc nL s args wsL_law own) (hM : Met l y (Cond.code y bytes maxL ret :: wsL_law) rm (roP G D tys wc (.ref b :: As)) (vp_Sl post) 0 0 (fun _ => False)) (cw : CallW R s args own C index y bytes maxL ret (Cond.code y bytes maxL ret :: wsL_law) rm 0 0 n) (q0 ci : Nat) {q : vw_C} {fs : List Value} (hc : vwCl[ci]? = some q) (hC : q.1 = C) (he : wc[q0]? = some (b, .inr (ci, fs))) (hP : va_P D vwCl wc H) (hK : va_K D vwCl tys s) (hN : kN s) (hT : kT G s H) (hn : As.length = n) (hsz : ls.size = nL) (hst : st0 = As.reverse ++ .ref b :: rest) (hW : (rest.map fun v => v.category).sum ≤ 8) (hf : cells ≤ R.cells ∧ slots ≤ R.slots) (hdg : decode cc pc = .ok (.invokevirtual index, 3)) (kk : ∀ r : Int64, post r → W p l e R s m args below meth c H locs cells slots Q (F0 m (pc + 3) ls (.long r :: rest))) : W p l e R s m args below meth c H locs cells slots Q (F0 m pc ls st0) := by
  subst hC
  subst hst
  exact vp_callSl (W.runV (rest := rest) S hM cw ⟨roBl, va_recv hK hP hc he, fun U hU hW1 => ⟨rfl, by rw [hU]; exact hP, va_K.moved hW1.alike hK, kN.warm hW1 hN, by rw [hU]; exact kT.moved hW1 hT⟩⟩ rfl hn hsz rfl (lv_room hW) hdg hf) kk
theorem rosl {post : Int64 → Prop} (S : CallFix p m c cc nL s args wsL_law own) (hM : Met l y (Cond.code y bytes maxL ret :: wsL_law) rm (roP G D tys wc As) (vp_Sl post) 0 0 (fun _ => False)) (cw : CallB R s args own index y bytes maxL ret (Cond.code y bytes maxL ret :: wsL_law) rm 0 0 n ∧ (Cond.static y).before args s = true) (hP : va_P D vwCl wc H) (hK : va_K D vwCl tys s) (hN : kN s) (hT : kT G s H) (hn : As.length = n) (hsz : ls.size = nL) (hst : st0 = As.reverse ++ rest) (hW : (rest.map fun v => v.category).sum ≤ 8) (hf : cells ≤ R.cells ∧ slots ≤ R.slots) (hdg : decode cc pc = .ok (.invokestatic index, 3)) (kk : ∀ r : Int64, post r → W p l e R s m args below meth c H locs cells slots Q (F0 m (pc + 3) ls (.long r :: rest))) : W p l e R s m args below meth c H locs cells slots Q (F0 m pc ls st0) := by
  subst hst
  exact vp_callSl (W.runS (rest := rest) S hM cw ⟨roBl, fun U hU hW1 => ⟨rfl, by rw [hU]; exact hP, va_K.moved hW1.alike hK, kN.warm hW1 hN, by rw [hU]; exact kT.moved hW1 hT⟩⟩ rfl hn hsz rfl (lv_room hW) hdg hf) kk
theorem roq {post : Option Nat → Prop} (S : CallFix p m c cc nL s args wsL_law own) (hM : Met l y (Cond.code y bytes maxL ret :: wsL_law) rm (roP G D tys wc (.ref b :: As)) (va_Sq post) 0 0 (fun _ => False)) (cw : CallW R s args own C index y bytes maxL ret (Cond.code y bytes maxL ret :: wsL_law) rm 0 0 n) (q0 ci : Nat) {q : vw_C} {fs : List Value} (hc : vwCl[ci]? = some q) (hC : q.1 = C) (he : wc[q0]? = some (b, .inr (ci, fs))) (hP : va_P D vwCl wc H) (hK : va_K D vwCl tys s) (hN : kN s) (hT : kT G s H) (hn : As.length = n) (hsz : ls.size = nL) (hst : st0 = As.reverse ++ .ref b :: rest) (hW : (rest.map fun v => v.category).sum ≤ 8) (hf : cells ≤ R.cells ∧ slots ≤ R.slots) (hdg : decode cc pc = .ok (.invokevirtual index, 3)) (kk : ∀ r : Option Nat, post r → W p l e R s m args below meth c H locs cells slots Q (F0 m (pc + 3) ls (va_rf r :: rest))) : W p l e R s m args below meth c H locs cells slots Q (F0 m pc ls st0) := by
  subst hC
  subst hst
  exact va_csq (W.runV (rest := rest) S hM cw ⟨roBl, va_recv hK hP hc he, fun U hU hW1 => ⟨rfl, by rw [hU]; exact hP, va_K.moved hW1.alike hK, kN.warm hW1 hN, by rw [hU]; exact kT.moved hW1 hT⟩⟩ rfl hn hsz rfl (lv_room hW) hdg hf) kk
variable {ws wr : va_W} {A : Nat → Prop} {H0 : Heap} {X : Type} {w1 : X → va_W}
theorem wrVv {post : X → Prop} (S : CallFix p m c cc nL s args wsL_law own) (hM : Met l y (Cond.code y bytes maxL ret :: wsL_law) rm (wrP G D tys wc H.size (.ref b :: As)) (va_Qv post (atW D tys (va_A wc H.size) w1) (va_A wc H.size)) mc ms (va_A wc H.size)) (hP : va_P D vwCl ws H) (hD : va_D A ws) (hS : va_S A H0 H locs) (hA : ∀ q, H0.size ≤ q → A q) (hK : va_K D vwCl tys s) (hN : kN s) (hT : kT G s H0) (hAB : ∀ q, A q → G.1 ≤ q) (hG : G.1 ≤ H0.size) (isC isR : List Nat) (hC : isC.map (fun i => ws[i]?) = wc.map some) (hR : isR.map (fun i => ws[i]?) = wr.map some) (hnC : va_nd isC = true) (hnR : va_nd isR = true) (hdis : ∀ i ∈ isR, i ∉ isC) (cw : CallW R s args own C index y bytes maxL ret (Cond.code y bytes maxL ret :: wsL_law) rm mc ms n) (q0 ci : Nat) {q : vw_C} {fs : List Value} (hc : vwCl[ci]? = some q) (hCl : q.1 = C) (he : wc[q0]? = some (b, .inr (ci, fs))) (hn : As.length = n) (hsz : ls.size = nL) (hst : st0 = As.reverse ++ .ref b :: rest) (hW : (rest.map fun v => v.category).sum ≤ 8) (hf : cells + mc ≤ R.cells ∧ slots + ms ≤ R.slots) (hdg : decode cc pc = .ok (.invokevirtual index, 3)) (kk : ∀ (x : X) (H1 : Heap) (locs1 : List Loc), post x → va_P D vwCl (wr ++ w1 x) H1 → va_D A (wr ++ w1 x) → va_S A H0 H1 locs1 → W p l e R s m args below meth c H1 locs1 (cells + mc) (slots + ms) Q (F0 m (pc + 3) ls (rest))) : W p l e R s m args below meth c H locs cells slots Q (F0 m pc ls st0) := by
  subst hCl
  subst hst
  have hPc : va_P D vwCl wc H := hP.sub isC (va_fm hC)
  have hDc : va_D A wc := hD.sub isC hnC hC
  have hFc := va_free (wc := wc) hD hS hA isC hC
  refine va_callv (va_runV (rest := rest) S hM cw ⟨wrBl, va_recv hK hPc hc he, fun U hU hW1 => ⟨rfl, by rw [hU], by rw [hU]; exact hPc, va_K.moved hW1.alike hK, hDc.weaken (fun _ _ _ h => hAB _ h), kN.warm hW1 hN, by rw [hU]; exact kT.moved hW1 (kT.to hT hS hAB), Nat.le_trans hG hS.1⟩⟩ rfl hn hsz rfl (lv_room hW) hdg hf) hS (fun q _ h => hFc q h) hFc (fun x t H1 locs1 ht hvm hw hB hz1 hk1 hS1 => kk x H1 locs1 hw ?_ ?_ hS1)
  · obtain ⟨hP1, _, hD1⟩ := hB
    rw [ht] at hP1
    exact (va_join (wr := wr) hP hD isC isR hC hR hnR hdis hk1 hFc hP1 hD1).1
  · obtain ⟨hP1, _, hD1⟩ := hB
    rw [ht] at hP1
    exact (va_join (wr := wr) hP hD isC isR hC hR hnR hdis hk1 hFc hP1 hD1).2
theorem wrVi {post : Int32 → X → Prop} (S : CallFix p m c cc nL s args wsL_law own) (hM : Met l y (Cond.code y bytes maxL ret :: wsL_law) rm (wrP G D tys wc H.size (.ref b :: As)) (va_Qi post (atW D tys (va_A wc H.size) w1) (va_A wc H.size)) mc ms (va_A wc H.size)) (hP : va_P D vwCl ws H) (hD : va_D A ws) (hS : va_S A H0 H locs) (hA : ∀ q, H0.size ≤ q → A q) (hK : va_K D vwCl tys s) (hN : kN s) (hT : kT G s H0) (hAB : ∀ q, A q → G.1 ≤ q) (hG : G.1 ≤ H0.size) (isC isR : List Nat) (hC : isC.map (fun i => ws[i]?) = wc.map some) (hR : isR.map (fun i => ws[i]?) = wr.map some) (hnC : va_nd isC = true) (hnR : va_nd isR = true) (hdis : ∀ i ∈ isR, i ∉ isC) (cw : CallW R s args own C index y bytes maxL ret (Cond.code y bytes maxL ret :: wsL_law) rm mc ms n) (q0 ci : Nat) {q : vw_C} {fs : List Value} (hc : vwCl[ci]? = some q) (hCl : q.1 = C) (he : wc[q0]? = some (b, .inr (ci, fs))) (hn : As.length = n) (hsz : ls.size = nL) (hst : st0 = As.reverse ++ .ref b :: rest) (hW : (rest.map fun v => v.category).sum ≤ 8) (hf : cells + mc ≤ R.cells ∧ slots + ms ≤ R.slots) (hdg : decode cc pc = .ok (.invokevirtual index, 3)) (kk : ∀ (r : Int32) (x : X) (H1 : Heap) (locs1 : List Loc), post r x → va_P D vwCl (wr ++ w1 x) H1 → va_D A (wr ++ w1 x) → va_S A H0 H1 locs1 → W p l e R s m args below meth c H1 locs1 (cells + mc) (slots + ms) Q (F0 m (pc + 3) ls (.int r :: rest))) : W p l e R s m args below meth c H locs cells slots Q (F0 m pc ls st0) := by
  subst hCl
  subst hst
  have hPc : va_P D vwCl wc H := hP.sub isC (va_fm hC)
  have hDc : va_D A wc := hD.sub isC hnC hC
  have hFc := va_free (wc := wc) hD hS hA isC hC
  refine va_calli (va_runV (rest := rest) S hM cw ⟨wrBl, va_recv hK hPc hc he, fun U hU hW1 => ⟨rfl, by rw [hU], by rw [hU]; exact hPc, va_K.moved hW1.alike hK, hDc.weaken (fun _ _ _ h => hAB _ h), kN.warm hW1 hN, by rw [hU]; exact kT.moved hW1 (kT.to hT hS hAB), Nat.le_trans hG hS.1⟩⟩ rfl hn hsz rfl (lv_room hW) hdg hf) hS (fun q _ h => hFc q h) hFc (fun r x t H1 locs1 ht hvm hw hB hz1 hk1 hS1 => kk r x H1 locs1 hw ?_ ?_ hS1)
  · obtain ⟨hP1, _, hD1⟩ := hB
    rw [ht] at hP1
    exact (va_join (wr := wr) hP hD isC isR hC hR hnR hdis hk1 hFc hP1 hD1).1
  · obtain ⟨hP1, _, hD1⟩ := hB
    rw [ht] at hP1
    exact (va_join (wr := wr) hP hD isC isR hC hR hnR hdis hk1 hFc hP1 hD1).2
theorem wrVl {post : Int64 → X → Prop} (S : CallFix p m c cc nL s args wsL_law own) (hM : Met l y (Cond.code y bytes maxL ret :: wsL_law) rm (wrP G D tys wc H.size (.ref b :: As)) (va_Ql post (atW D tys (va_A wc H.size) w1) (va_A wc H.size)) mc ms (va_A wc H.size)) (hP : va_P D vwCl ws H) (hD : va_D A ws) (hS : va_S A H0 H locs) (hA : ∀ q, H0.size ≤ q → A q) (hK : va_K D vwCl tys s) (hN : kN s) (hT : kT G s H0) (hAB : ∀ q, A q → G.1 ≤ q) (hG : G.1 ≤ H0.size) (isC isR : List Nat) (hC : isC.map (fun i => ws[i]?) = wc.map some) (hR : isR.map (fun i => ws[i]?) = wr.map some) (hnC : va_nd isC = true) (hnR : va_nd isR = true) (hdis : ∀ i ∈ isR, i ∉ isC) (cw : CallW R s args own C index y bytes maxL ret (Cond.code y bytes maxL ret :: wsL_law) rm mc ms n) (q0 ci : Nat) {q : vw_C} {fs : List Value} (hc : vwCl[ci]? = some q) (hCl : q.1 = C) (he : wc[q0]? = some (b, .inr (ci, fs))) (hn : As.length = n) (hsz : ls.size = nL) (hst : st0 = As.reverse ++ .ref b :: rest) (hW : (rest.map fun v => v.category).sum ≤ 8) (hf : cells + mc ≤ R.cells ∧ slots + ms ≤ R.slots) (hdg : decode cc pc = .ok (.invokevirtual index, 3)) (kk : ∀ (r : Int64) (x : X) (H1 : Heap) (locs1 : List Loc), post r x → va_P D vwCl (wr ++ w1 x) H1 → va_D A (wr ++ w1 x) → va_S A H0 H1 locs1 → W p l e R s m args below meth c H1 locs1 (cells + mc) (slots + ms) Q (F0 m (pc + 3) ls (.long r :: rest))) : W p l e R s m args below meth c H locs cells slots Q (F0 m pc ls st0) := by
  subst hCl
  subst hst
  have hPc : va_P D vwCl wc H := hP.sub isC (va_fm hC)
  have hDc : va_D A wc := hD.sub isC hnC hC
  have hFc := va_free (wc := wc) hD hS hA isC hC
  refine va_calll (va_runV (rest := rest) S hM cw ⟨wrBl, va_recv hK hPc hc he, fun U hU hW1 => ⟨rfl, by rw [hU], by rw [hU]; exact hPc, va_K.moved hW1.alike hK, hDc.weaken (fun _ _ _ h => hAB _ h), kN.warm hW1 hN, by rw [hU]; exact kT.moved hW1 (kT.to hT hS hAB), Nat.le_trans hG hS.1⟩⟩ rfl hn hsz rfl (lv_room hW) hdg hf) hS (fun q _ h => hFc q h) hFc (fun r x t H1 locs1 ht hvm hw hB hz1 hk1 hS1 => kk r x H1 locs1 hw ?_ ?_ hS1)
  · obtain ⟨hP1, _, hD1⟩ := hB
    rw [ht] at hP1
    exact (va_join (wr := wr) hP hD isC isR hC hR hnR hdis hk1 hFc hP1 hD1).1
  · obtain ⟨hP1, _, hD1⟩ := hB
    rw [ht] at hP1
    exact (va_join (wr := wr) hP hD isC isR hC hR hnR hdis hk1 hFc hP1 hD1).2
theorem wrVq {post : Option Nat → X → Prop} (S : CallFix p m c cc nL s args wsL_law own) (hM : Met l y (Cond.code y bytes maxL ret :: wsL_law) rm (wrP G D tys wc H.size (.ref b :: As)) (va_Qq post (atW D tys (va_A wc H.size) w1) (va_A wc H.size)) mc ms (va_A wc H.size)) (hP : va_P D vwCl ws H) (hD : va_D A ws) (hS : va_S A H0 H locs) (hA : ∀ q, H0.size ≤ q → A q) (hK : va_K D vwCl tys s) (hN : kN s) (hT : kT G s H0) (hAB : ∀ q, A q → G.1 ≤ q) (hG : G.1 ≤ H0.size) (isC isR : List Nat) (hC : isC.map (fun i => ws[i]?) = wc.map some) (hR : isR.map (fun i => ws[i]?) = wr.map some) (hnC : va_nd isC = true) (hnR : va_nd isR = true) (hdis : ∀ i ∈ isR, i ∉ isC) (cw : CallW R s args own C index y bytes maxL ret (Cond.code y bytes maxL ret :: wsL_law) rm mc ms n) (q0 ci : Nat) {q : vw_C} {fs : List Value} (hc : vwCl[ci]? = some q) (hCl : q.1 = C) (he : wc[q0]? = some (b, .inr (ci, fs))) (hn : As.length = n) (hsz : ls.size = nL) (hst : st0 = As.reverse ++ .ref b :: rest) (hW : (rest.map fun v => v.category).sum ≤ 8) (hf : cells + mc ≤ R.cells ∧ slots + ms ≤ R.slots) (hdg : decode cc pc = .ok (.invokevirtual index, 3)) (kk : ∀ (r : Option Nat) (x : X) (H1 : Heap) (locs1 : List Loc), post r x → va_P D vwCl (wr ++ w1 x) H1 → va_D A (wr ++ w1 x) → va_S A H0 H1 locs1 → W p l e R s m args below meth c H1 locs1 (cells + mc) (slots + ms) Q (F0 m (pc + 3) ls (va_rf r :: rest))) : W p l e R s m args below meth c H locs cells slots Q (F0 m pc ls st0) := by
  subst hCl
  subst hst
  have hPc : va_P D vwCl wc H := hP.sub isC (va_fm hC)
  have hDc : va_D A wc := hD.sub isC hnC hC
  have hFc := va_free (wc := wc) hD hS hA isC hC
  refine va_callq (va_runV (rest := rest) S hM cw ⟨wrBl, va_recv hK hPc hc he, fun U hU hW1 => ⟨rfl, by rw [hU], by rw [hU]; exact hPc, va_K.moved hW1.alike hK, hDc.weaken (fun _ _ _ h => hAB _ h), kN.warm hW1 hN, by rw [hU]; exact kT.moved hW1 (kT.to hT hS hAB), Nat.le_trans hG hS.1⟩⟩ rfl hn hsz rfl (lv_room hW) hdg hf) hS (fun q _ h => hFc q h) hFc (fun r x t H1 locs1 ht hvm hw hB hz1 hk1 hS1 => kk r x H1 locs1 hw ?_ ?_ hS1)
  · obtain ⟨hP1, _, hD1⟩ := hB
    rw [ht] at hP1
    exact (va_join (wr := wr) hP hD isC isR hC hR hnR hdis hk1 hFc hP1 hD1).1
  · obtain ⟨hP1, _, hD1⟩ := hB
    rw [ht] at hP1
    exact (va_join (wr := wr) hP hD isC isR hC hR hnR hdis hk1 hFc hP1 hD1).2
theorem wrSv {post : X → Prop} (S : CallFix p m c cc nL s args wsL_law own) (hM : Met l y (Cond.code y bytes maxL ret :: wsL_law) rm (wrP G D tys wc H.size As) (va_Qv post (atW D tys (va_A wc H.size) w1) (va_A wc H.size)) mc ms (va_A wc H.size)) (hP : va_P D vwCl ws H) (hD : va_D A ws) (hS : va_S A H0 H locs) (hA : ∀ q, H0.size ≤ q → A q) (hK : va_K D vwCl tys s) (hN : kN s) (hT : kT G s H0) (hAB : ∀ q, A q → G.1 ≤ q) (hG : G.1 ≤ H0.size) (isC isR : List Nat) (hC : isC.map (fun i => ws[i]?) = wc.map some) (hR : isR.map (fun i => ws[i]?) = wr.map some) (hnC : va_nd isC = true) (hnR : va_nd isR = true) (hdis : ∀ i ∈ isR, i ∉ isC) (cw : CallB R s args own index y bytes maxL ret (Cond.code y bytes maxL ret :: wsL_law) rm mc ms n ∧ (Cond.static y).before args s = true)  (hn : As.length = n) (hsz : ls.size = nL) (hst : st0 = As.reverse ++ rest) (hW : (rest.map fun v => v.category).sum ≤ 8) (hf : cells + mc ≤ R.cells ∧ slots + ms ≤ R.slots) (hdg : decode cc pc = .ok (.invokestatic index, 3)) (kk : ∀ (x : X) (H1 : Heap) (locs1 : List Loc), post x → va_P D vwCl (wr ++ w1 x) H1 → va_D A (wr ++ w1 x) → va_S A H0 H1 locs1 → W p l e R s m args below meth c H1 locs1 (cells + mc) (slots + ms) Q (F0 m (pc + 3) ls (rest))) : W p l e R s m args below meth c H locs cells slots Q (F0 m pc ls st0) := by
  skip
  subst hst
  have hPc : va_P D vwCl wc H := hP.sub isC (va_fm hC)
  have hDc : va_D A wc := hD.sub isC hnC hC
  have hFc := va_free (wc := wc) hD hS hA isC hC
  refine va_callv (va_runS (rest := rest) S hM cw ⟨wrBl, fun U hU hW1 => ⟨rfl, by rw [hU], by rw [hU]; exact hPc, va_K.moved hW1.alike hK, hDc.weaken (fun _ _ _ h => hAB _ h), kN.warm hW1 hN, by rw [hU]; exact kT.moved hW1 (kT.to hT hS hAB), Nat.le_trans hG hS.1⟩⟩ rfl hn hsz rfl (lv_room hW) hdg hf) hS (fun q _ h => hFc q h) hFc (fun x t H1 locs1 ht hvm hw hB hz1 hk1 hS1 => kk x H1 locs1 hw ?_ ?_ hS1)
  · obtain ⟨hP1, _, hD1⟩ := hB
    rw [ht] at hP1
    exact (va_join (wr := wr) hP hD isC isR hC hR hnR hdis hk1 hFc hP1 hD1).1
  · obtain ⟨hP1, _, hD1⟩ := hB
    rw [ht] at hP1
    exact (va_join (wr := wr) hP hD isC isR hC hR hnR hdis hk1 hFc hP1 hD1).2
theorem wrSi {post : Int32 → X → Prop} (S : CallFix p m c cc nL s args wsL_law own) (hM : Met l y (Cond.code y bytes maxL ret :: wsL_law) rm (wrP G D tys wc H.size As) (va_Qi post (atW D tys (va_A wc H.size) w1) (va_A wc H.size)) mc ms (va_A wc H.size)) (hP : va_P D vwCl ws H) (hD : va_D A ws) (hS : va_S A H0 H locs) (hA : ∀ q, H0.size ≤ q → A q) (hK : va_K D vwCl tys s) (hN : kN s) (hT : kT G s H0) (hAB : ∀ q, A q → G.1 ≤ q) (hG : G.1 ≤ H0.size) (isC isR : List Nat) (hC : isC.map (fun i => ws[i]?) = wc.map some) (hR : isR.map (fun i => ws[i]?) = wr.map some) (hnC : va_nd isC = true) (hnR : va_nd isR = true) (hdis : ∀ i ∈ isR, i ∉ isC) (cw : CallB R s args own index y bytes maxL ret (Cond.code y bytes maxL ret :: wsL_law) rm mc ms n ∧ (Cond.static y).before args s = true)  (hn : As.length = n) (hsz : ls.size = nL) (hst : st0 = As.reverse ++ rest) (hW : (rest.map fun v => v.category).sum ≤ 8) (hf : cells + mc ≤ R.cells ∧ slots + ms ≤ R.slots) (hdg : decode cc pc = .ok (.invokestatic index, 3)) (kk : ∀ (r : Int32) (x : X) (H1 : Heap) (locs1 : List Loc), post r x → va_P D vwCl (wr ++ w1 x) H1 → va_D A (wr ++ w1 x) → va_S A H0 H1 locs1 → W p l e R s m args below meth c H1 locs1 (cells + mc) (slots + ms) Q (F0 m (pc + 3) ls (.int r :: rest))) : W p l e R s m args below meth c H locs cells slots Q (F0 m pc ls st0) := by
  skip
  subst hst
  have hPc : va_P D vwCl wc H := hP.sub isC (va_fm hC)
  have hDc : va_D A wc := hD.sub isC hnC hC
  have hFc := va_free (wc := wc) hD hS hA isC hC
  refine va_calli (va_runS (rest := rest) S hM cw ⟨wrBl, fun U hU hW1 => ⟨rfl, by rw [hU], by rw [hU]; exact hPc, va_K.moved hW1.alike hK, hDc.weaken (fun _ _ _ h => hAB _ h), kN.warm hW1 hN, by rw [hU]; exact kT.moved hW1 (kT.to hT hS hAB), Nat.le_trans hG hS.1⟩⟩ rfl hn hsz rfl (lv_room hW) hdg hf) hS (fun q _ h => hFc q h) hFc (fun r x t H1 locs1 ht hvm hw hB hz1 hk1 hS1 => kk r x H1 locs1 hw ?_ ?_ hS1)
  · obtain ⟨hP1, _, hD1⟩ := hB
    rw [ht] at hP1
    exact (va_join (wr := wr) hP hD isC isR hC hR hnR hdis hk1 hFc hP1 hD1).1
  · obtain ⟨hP1, _, hD1⟩ := hB
    rw [ht] at hP1
    exact (va_join (wr := wr) hP hD isC isR hC hR hnR hdis hk1 hFc hP1 hD1).2
theorem wrSl {post : Int64 → X → Prop} (S : CallFix p m c cc nL s args wsL_law own) (hM : Met l y (Cond.code y bytes maxL ret :: wsL_law) rm (wrP G D tys wc H.size As) (va_Ql post (atW D tys (va_A wc H.size) w1) (va_A wc H.size)) mc ms (va_A wc H.size)) (hP : va_P D vwCl ws H) (hD : va_D A ws) (hS : va_S A H0 H locs) (hA : ∀ q, H0.size ≤ q → A q) (hK : va_K D vwCl tys s) (hN : kN s) (hT : kT G s H0) (hAB : ∀ q, A q → G.1 ≤ q) (hG : G.1 ≤ H0.size) (isC isR : List Nat) (hC : isC.map (fun i => ws[i]?) = wc.map some) (hR : isR.map (fun i => ws[i]?) = wr.map some) (hnC : va_nd isC = true) (hnR : va_nd isR = true) (hdis : ∀ i ∈ isR, i ∉ isC) (cw : CallB R s args own index y bytes maxL ret (Cond.code y bytes maxL ret :: wsL_law) rm mc ms n ∧ (Cond.static y).before args s = true)  (hn : As.length = n) (hsz : ls.size = nL) (hst : st0 = As.reverse ++ rest) (hW : (rest.map fun v => v.category).sum ≤ 8) (hf : cells + mc ≤ R.cells ∧ slots + ms ≤ R.slots) (hdg : decode cc pc = .ok (.invokestatic index, 3)) (kk : ∀ (r : Int64) (x : X) (H1 : Heap) (locs1 : List Loc), post r x → va_P D vwCl (wr ++ w1 x) H1 → va_D A (wr ++ w1 x) → va_S A H0 H1 locs1 → W p l e R s m args below meth c H1 locs1 (cells + mc) (slots + ms) Q (F0 m (pc + 3) ls (.long r :: rest))) : W p l e R s m args below meth c H locs cells slots Q (F0 m pc ls st0) := by
  skip
  subst hst
  have hPc : va_P D vwCl wc H := hP.sub isC (va_fm hC)
  have hDc : va_D A wc := hD.sub isC hnC hC
  have hFc := va_free (wc := wc) hD hS hA isC hC
  refine va_calll (va_runS (rest := rest) S hM cw ⟨wrBl, fun U hU hW1 => ⟨rfl, by rw [hU], by rw [hU]; exact hPc, va_K.moved hW1.alike hK, hDc.weaken (fun _ _ _ h => hAB _ h), kN.warm hW1 hN, by rw [hU]; exact kT.moved hW1 (kT.to hT hS hAB), Nat.le_trans hG hS.1⟩⟩ rfl hn hsz rfl (lv_room hW) hdg hf) hS (fun q _ h => hFc q h) hFc (fun r x t H1 locs1 ht hvm hw hB hz1 hk1 hS1 => kk r x H1 locs1 hw ?_ ?_ hS1)
  · obtain ⟨hP1, _, hD1⟩ := hB
    rw [ht] at hP1
    exact (va_join (wr := wr) hP hD isC isR hC hR hnR hdis hk1 hFc hP1 hD1).1
  · obtain ⟨hP1, _, hD1⟩ := hB
    rw [ht] at hP1
    exact (va_join (wr := wr) hP hD isC isR hC hR hnR hdis hk1 hFc hP1 hD1).2
theorem wrSq {post : Option Nat → X → Prop} (S : CallFix p m c cc nL s args wsL_law own) (hM : Met l y (Cond.code y bytes maxL ret :: wsL_law) rm (wrP G D tys wc H.size As) (va_Qq post (atW D tys (va_A wc H.size) w1) (va_A wc H.size)) mc ms (va_A wc H.size)) (hP : va_P D vwCl ws H) (hD : va_D A ws) (hS : va_S A H0 H locs) (hA : ∀ q, H0.size ≤ q → A q) (hK : va_K D vwCl tys s) (hN : kN s) (hT : kT G s H0) (hAB : ∀ q, A q → G.1 ≤ q) (hG : G.1 ≤ H0.size) (isC isR : List Nat) (hC : isC.map (fun i => ws[i]?) = wc.map some) (hR : isR.map (fun i => ws[i]?) = wr.map some) (hnC : va_nd isC = true) (hnR : va_nd isR = true) (hdis : ∀ i ∈ isR, i ∉ isC) (cw : CallB R s args own index y bytes maxL ret (Cond.code y bytes maxL ret :: wsL_law) rm mc ms n ∧ (Cond.static y).before args s = true)  (hn : As.length = n) (hsz : ls.size = nL) (hst : st0 = As.reverse ++ rest) (hW : (rest.map fun v => v.category).sum ≤ 8) (hf : cells + mc ≤ R.cells ∧ slots + ms ≤ R.slots) (hdg : decode cc pc = .ok (.invokestatic index, 3)) (kk : ∀ (r : Option Nat) (x : X) (H1 : Heap) (locs1 : List Loc), post r x → va_P D vwCl (wr ++ w1 x) H1 → va_D A (wr ++ w1 x) → va_S A H0 H1 locs1 → W p l e R s m args below meth c H1 locs1 (cells + mc) (slots + ms) Q (F0 m (pc + 3) ls (va_rf r :: rest))) : W p l e R s m args below meth c H locs cells slots Q (F0 m pc ls st0) := by
  skip
  subst hst
  have hPc : va_P D vwCl wc H := hP.sub isC (va_fm hC)
  have hDc : va_D A wc := hD.sub isC hnC hC
  have hFc := va_free (wc := wc) hD hS hA isC hC
  refine va_callq (va_runS (rest := rest) S hM cw ⟨wrBl, fun U hU hW1 => ⟨rfl, by rw [hU], by rw [hU]; exact hPc, va_K.moved hW1.alike hK, hDc.weaken (fun _ _ _ h => hAB _ h), kN.warm hW1 hN, by rw [hU]; exact kT.moved hW1 (kT.to hT hS hAB), Nat.le_trans hG hS.1⟩⟩ rfl hn hsz rfl (lv_room hW) hdg hf) hS (fun q _ h => hFc q h) hFc (fun r x t H1 locs1 ht hvm hw hB hz1 hk1 hS1 => kk r x H1 locs1 hw ?_ ?_ hS1)
  · obtain ⟨hP1, _, hD1⟩ := hB
    rw [ht] at hP1
    exact (va_join (wr := wr) hP hD isC isR hC hR hnR hdis hk1 hFc hP1 hD1).1
  · obtain ⟨hP1, _, hD1⟩ := hB
    rw [ht] at hP1
    exact (va_join (wr := wr) hP hD isC isR hC hR hnR hdis hk1 hFc hP1 hD1).2
theorem wrIv {post : X → Prop} (S : CallFix p m c cc nL s args wsL_law own) (hM : Met l y (Cond.code y bytes maxL none :: wsL_law) rm (wrP G D tys wc H.size (.ref b :: As)) (va_Qv post (atW D tys (va_A wc H.size) w1) (va_A wc H.size)) mc ms (va_A wc H.size)) (hP : va_P D vwCl ws H) (hD : va_D A ws) (hS : va_S A H0 H locs) (hA : ∀ q, H0.size ≤ q → A q) (hK : va_K D vwCl tys s) (hN : kN s) (hT : kT G s H0) (hAB : ∀ q, A q → G.1 ≤ q) (hG : G.1 ≤ H0.size) (isC isR : List Nat) (hC : isC.map (fun i => ws[i]?) = wc.map some) (hR : isR.map (fun i => ws[i]?) = wr.map some) (hnC : va_nd isC = true) (hnR : va_nd isR = true) (hdis : ∀ i ∈ isR, i ∉ isC) (cw : CallB R s args own index y bytes maxL none (Cond.code y bytes maxL none :: wsL_law) rm mc ms n ∧ y.name = "<init>" ∧ (Cond.instanceMethod y).before args s = true)  (hn : As.length = n) (hsz : ls.size = nL) (hst : st0 = As.reverse ++ .ref b :: rest) (hW : (rest.map fun v => v.category).sum ≤ 8) (hf : cells + mc ≤ R.cells ∧ slots + ms ≤ R.slots) (hdg : decode cc pc = .ok (.invokespecial index, 3)) (kk : ∀ (x : X) (H1 : Heap) (locs1 : List Loc), post x → va_P D vwCl (wr ++ w1 x) H1 → va_D A (wr ++ w1 x) → va_S A H0 H1 locs1 → W p l e R s m args below meth c H1 locs1 (cells + mc) (slots + ms) Q (F0 m (pc + 3) ls (rest))) : W p l e R s m args below meth c H locs cells slots Q (F0 m pc ls st0) := by
  skip
  subst hst
  have hPc : va_P D vwCl wc H := hP.sub isC (va_fm hC)
  have hDc : va_D A wc := hD.sub isC hnC hC
  have hFc := va_free (wc := wc) hD hS hA isC hC
  refine va_callv (va_runI (rest := rest) S hM cw ⟨wrBl, fun U hU hW1 => ⟨rfl, by rw [hU], by rw [hU]; exact hPc, va_K.moved hW1.alike hK, hDc.weaken (fun _ _ _ h => hAB _ h), kN.warm hW1 hN, by rw [hU]; exact kT.moved hW1 (kT.to hT hS hAB), Nat.le_trans hG hS.1⟩⟩ rfl hn hsz rfl (lv_room hW) hdg hf) hS (fun q _ h => hFc q h) hFc (fun x t H1 locs1 ht hvm hw hB hz1 hk1 hS1 => kk x H1 locs1 hw ?_ ?_ hS1)
  · obtain ⟨hP1, _, hD1⟩ := hB
    rw [ht] at hP1
    exact (va_join (wr := wr) hP hD isC isR hC hR hnR hdis hk1 hFc hP1 hD1).1
  · obtain ⟨hP1, _, hD1⟩ := hB
    rw [ht] at hP1
    exact (va_join (wr := wr) hP hD isC isR hC hR hnR hdis hk1 hFc hP1 hD1).2
theorem wrINv {host : String} {post : X → Prop} (S : CallFix p m c cc nL s args wsL_law own) (hM : Met l y (Cond.code y bytes maxL none :: wsL_law) rm (wrP G D tys wc H.size (.ref b :: As)) (va_Qv post (atW D tys (va_A wc H.size) w1) (va_A wc H.size)) mc ms (va_A wc H.size)) (hP : va_P D vwCl ws H) (hD : va_D A ws) (hS : va_S A H0 H locs) (hA : ∀ q, H0.size ≤ q → A q) (hK : va_K D vwCl tys s) (hN : kN s) (hT : kT G s H0) (hAB : ∀ q, A q → G.1 ≤ q) (hG : G.1 ≤ H0.size) (isC isR : List Nat) (hC : isC.map (fun i => ws[i]?) = wc.map some) (hR : isR.map (fun i => ws[i]?) = wr.map some) (hnC : va_nd isC = true) (hnR : va_nd isR = true) (hdis : ∀ i ∈ isR, i ∉ isC) (cw : va_CN R s args own index y host bytes maxL none (Cond.code y bytes maxL none :: wsL_law) rm mc ms n ∧ y.name = "<init>" ∧ (Cond.instanceMethod y).before args s = true)  (hn : As.length = n) (hsz : ls.size = nL) (hst : st0 = As.reverse ++ .ref b :: rest) (hW : (rest.map fun v => v.category).sum ≤ 8) (hf : cells + mc ≤ R.cells ∧ slots + ms ≤ R.slots) (hdg : decode cc pc = .ok (.invokespecial index, 3)) (kk : ∀ (x : X) (H1 : Heap) (locs1 : List Loc), post x → va_P D vwCl (wr ++ w1 x) H1 → va_D A (wr ++ w1 x) → va_S A H0 H1 locs1 → W p l e R s m args below meth c H1 locs1 (cells + mc) (slots + ms) Q (F0 m (pc + 3) ls (rest))) : W p l e R s m args below meth c H locs cells slots Q (F0 m pc ls st0) := by
  skip
  subst hst
  have hPc : va_P D vwCl wc H := hP.sub isC (va_fm hC)
  have hDc : va_D A wc := hD.sub isC hnC hC
  have hFc := va_free (wc := wc) hD hS hA isC hC
  refine va_callv (va_runIN (rest := rest) S hM cw ⟨wrBl, fun U hU hW1 => ⟨rfl, by rw [hU], by rw [hU]; exact hPc, va_K.moved hW1.alike hK, hDc.weaken (fun _ _ _ h => hAB _ h), kN.warm hW1 hN, by rw [hU]; exact kT.moved hW1 (kT.to hT hS hAB), Nat.le_trans hG hS.1⟩⟩ rfl hn hsz rfl (lv_room hW) hdg hf) hS (fun q _ h => hFc q h) hFc (fun x t H1 locs1 ht hvm hw hB hz1 hk1 hS1 => kk x H1 locs1 hw ?_ ?_ hS1)
  · obtain ⟨hP1, _, hD1⟩ := hB
    rw [ht] at hP1
    exact (va_join (wr := wr) hP hD isC isR hC hR hnR hdis hk1 hFc hP1 hD1).1
  · obtain ⟨hP1, _, hD1⟩ := hB
    rw [ht] at hP1
    exact (va_join (wr := wr) hP hD isC isR hC hR hnR hdis hk1 hFc hP1 hD1).2
end ZC
