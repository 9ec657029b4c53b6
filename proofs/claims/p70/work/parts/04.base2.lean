/-- what a returning int has to meet, and then the walk is at its end (worlds w1, mc cells and ms slots made) -/
def RetI (p : Program) (l : Launch) (e : Env) (R : Room) (s : State) (m : MethodId) (args : Array Value) (below : List Frame) (meth : Method) (c : Code) (cc : ByteArray) (D : va_G) (A : Nat → Prop) {X : Type} (w1 : X → va_W) (post : Int32 → X → Prop) (Q : State → Prop) : Prop := ∀ (pc : Nat) (ls : Array Slot) (H : Heap) (locs : List Loc) (r : Int32) (x : X), decode cc pc = .ok (.ireturn, 1) → post r x → va_P D vwCl (w1 x) H → va_D A (w1 x) → va_S A s.heap H locs → W p l e R s m args below meth c H locs 0 0 Q (F0 m pc ls [.int r])
def RetL (p : Program) (l : Launch) (e : Env) (R : Room) (s : State) (m : MethodId) (args : Array Value) (below : List Frame) (meth : Method) (c : Code) (cc : ByteArray) (D : va_G) (A : Nat → Prop) {X : Type} (w1 : X → va_W) (post : Int64 → X → Prop) (Q : State → Prop) : Prop := ∀ (pc : Nat) (ls : Array Slot) (H : Heap) (locs : List Loc) (r : Int64) (x : X), decode cc pc = .ok (.lreturn, 1) → post r x → va_P D vwCl (w1 x) H → va_D A (w1 x) → va_S A s.heap H locs → W p l e R s m args below meth c H locs 0 0 Q (F0 m pc ls [.long r])
def RetV (p : Program) (l : Launch) (e : Env) (R : Room) (s : State) (m : MethodId) (args : Array Value) (below : List Frame) (meth : Method) (c : Code) (cc : ByteArray) (D : va_G) (A : Nat → Prop) {X : Type} (w1 : X → va_W) (post : X → Prop) (Q : State → Prop) : Prop := ∀ (pc : Nat) (ls : Array Slot) (H : Heap) (locs : List Loc) (x : X), decode cc pc = .ok (.return_, 1) → post x → va_P D vwCl (w1 x) H → va_D A (w1 x) → va_S A s.heap H locs → W p l e R s m args below meth c H locs 0 0 Q (F0 m pc ls [])
/-- the heap unchanged -/
def RroI (p : Program) (l : Launch) (e : Env) (R : Room) (s : State) (m : MethodId) (args : Array Value) (below : List Frame) (meth : Method) (c : Code) (cc : ByteArray) (post : Int32 → Prop) (Q : State → Prop) : Prop := ∀ (pc : Nat) (ls : Array Slot) (r : Int32), decode cc pc = .ok (.ireturn, 1) → post r → W p l e R s m args below meth c s.heap [] 0 0 Q (F0 m pc ls [.int r])
def RroL (p : Program) (l : Launch) (e : Env) (R : Room) (s : State) (m : MethodId) (args : Array Value) (below : List Frame) (meth : Method) (c : Code) (cc : ByteArray) (post : Int64 → Prop) (Q : State → Prop) : Prop := ∀ (pc : Nat) (ls : Array Slot) (r : Int64), decode cc pc = .ok (.lreturn, 1) → post r → W p l e R s m args below meth c s.heap [] 0 0 Q (F0 m pc ls [.long r])
def RetQ (p : Program) (l : Launch) (e : Env) (R : Room) (s : State) (m : MethodId) (args : Array Value) (below : List Frame) (meth : Method) (c : Code) (cc : ByteArray) (D : va_G) (A : Nat → Prop) {X : Type} (w1 : X → va_W) (post : Option Nat → X → Prop) (Q : State → Prop) : Prop := ∀ (pc : Nat) (ls : Array Slot) (H : Heap) (locs : List Loc) (r : Nat) (x : X), decode cc pc = .ok (.areturn, 1) → post (some r) x → va_P D vwCl (w1 x) H → va_D A (w1 x) → va_S A s.heap H locs → W p l e R s m args below meth c H locs 0 0 Q (F0 m pc ls [.ref r])
def RroQ (p : Program) (l : Launch) (e : Env) (R : Room) (s : State) (m : MethodId) (args : Array Value) (below : List Frame) (meth : Method) (c : Code) (cc : ByteArray) (post : Option Nat → Prop) (Q : State → Prop) : Prop := ∀ (pc : Nat) (ls : Array Slot) (r : Nat), decode cc pc = .ok (.areturn, 1) → post (some r) → W p l e R s m args below meth c s.heap [] 0 0 Q (F0 m pc ls [.ref r])
/-- what a body has at hand -/
def Cx (p : Program) (s : State) (m : MethodId) (args : Array Value) (c : Code) (own : String) (cc : ByteArray) (nL : Nat) (G : Gho) (D : va_G) (tys : List (ClassId × FieldType)) : Prop := p.tables.exec = Jvm.exec ∧ c.code = cc ∧ c.maxLocals = nL ∧ s.vm.findClass own = some m.cls ∧ (∀ w ∈ wsL_law, w.before args s = true) ∧ va_K D vwCl tys s ∧ kN s ∧ kT G s s.heap
theorem i32b (x : Int32) : -2147483648 ≤ x.toInt ∧ x.toInt ≤ 2147483647 := ⟨by have := Int32.le_toInt x; omega, by have := Int32.toInt_lt x; omega⟩
theorem i64b (x : Int64) : -9223372036854775808 ≤ x.toInt ∧ x.toInt ≤ 9223372036854775807 := ⟨by have := Int64.le_toInt x; omega, by have := Int64.toInt_lt x; omega⟩
/-- remainders of ints that aren't below 0 -/
theorem remT {x y z : Int32} (hx : 0 ≤ x.toInt) (hy : 0 < y.toInt) (e : x - x / y * y = z) : 0 ≤ z.toInt ∧ z.toInt < y.toInt ∧ z.toInt ≤ x.toInt := by
  obtain ⟨a, ha, rfl⟩ := nI_of (x := x) (fun h => by have := ci_lt_t h; have e0 : (0 : Int32).toInt = 0 := by decide
                                                     omega)
  obtain ⟨d, hd, rfl⟩ := nI_of (x := y) (fun h => by have := ci_lt_t h; have e0 : (0 : Int32).toInt = 0 := by decide
                                                     omega)
  rw [nI_toInt hd] at hy
  rw [pk_rem ha (by omega) hd] at e
  subst e
  have h1 : a % d < d := Nat.mod_lt _ (by omega)
  have h2 : a % d ≤ a := Nat.mod_le _ _
  rw [nI_toInt (by omega), nI_toInt hd, nI_toInt ha]
  omega
theorem divT {x y z : Int32} (hx : 0 ≤ x.toInt) (hy : 0 < y.toInt) (e : x / y = z) : 0 ≤ z.toInt ∧ z.toInt ≤ x.toInt := by
  obtain ⟨a, ha, rfl⟩ := nI_of (x := x) (fun h => by have := ci_lt_t h; have e0 : (0 : Int32).toInt = 0 := by decide
                                                     omega)
  obtain ⟨d, hd, rfl⟩ := nI_of (x := y) (fun h => by have := ci_lt_t h; have e0 : (0 : Int32).toInt = 0 := by decide
                                                     omega)
  rw [nI_toInt hd] at hy
  rw [pk_div ha (by omega) hd] at e
  subst e
  have h2 : a / d ≤ a := Nat.div_le_self _ _
  rw [nI_toInt (Nat.lt_of_le_of_lt h2 ha), nI_toInt ha]
  exact ⟨Int.natCast_nonneg _, Int.ofNat_le.mpr h2⟩
theorem minT {x y z : Int32} (e : z = if y < x then y else x) : z.toInt ≤ x.toInt ∧ z.toInt ≤ y.toInt ∧ (z.toInt = x.toInt ∨ z.toInt = y.toInt) := by
  subst e
  split
  · have h := ci_lt_t ‹y < x›
    omega
  · have h := ci_lt_f ‹¬ y < x›
    omega
theorem maxT {x y z : Int32} (e : z = if x < y then y else x) : x.toInt ≤ z.toInt ∧ y.toInt ≤ z.toInt ∧ (z.toInt = x.toInt ∨ z.toInt = y.toInt) := by
  subst e
  split
  · have h := ci_lt_t ‹x < y›
    omega
  · have h := ci_lt_f ‹¬ x < y›
    omega
theorem bool01 {x : Int32} (h : 0 ≤ x.toInt ∧ x.toInt ≤ 1) : x = 0 ∨ x = 1 := by
  simp only [← Int32.toInt_inj]
  have e0 : (0 : Int32).toInt = 0 := by decide
  have e1 : (1 : Int32).toInt = 1 := by decide
  omega
theorem nltT {x : Int32} (h : 0 ≤ x.toInt) : ¬ x < 0 := fun q => by
  have := ci_lt_t q
  have e0 : (0 : Int32).toInt = 0 := by decide
  omega
theorem clT {x : Int32} (h : 0 ≤ x.toInt) : ((x.toNatClampNeg : Nat) : Int) = x.toInt := by
  obtain ⟨a, ha, rfl⟩ := nI_of (nltT h)
  rw [nI_clamp ha, nI_toInt ha]
/-- contents within ranges, by segments (from, to, least, greatest) -/
def sg (T : List (Nat × Nat × Int × Int)) (f : Nat → Int32) : Prop := ∀ q ∈ T, ∀ i : Nat, q.1 ≤ i → i ≤ q.2.1 → q.2.2.1 ≤ (f i).toInt ∧ (f i).toInt ≤ q.2.2.2
theorem sgL {T : List (Nat × Nat × Int × Int)} {f : Nat → Int32} (h : sg T f) {i v : Int32} (k : Nat) {a b : Nat} {lo hi : Int} (hk : T[k]? = some (a, b, lo, hi)) (h0 : 0 ≤ i.toInt) (h1 : (a : Int) ≤ i.toInt) (h2 : i.toInt ≤ (b : Int)) (e : f i.toNatClampNeg = v) : lo ≤ v.toInt ∧ v.toInt ≤ hi := by
  have := clT h0
  subst e
  exact h _ (List.mem_of_getElem? hk) _ (by show a ≤ _; omega) (by show _ ≤ b; omega)
theorem sgS {T : List (Nat × Nat × Int × Int)} {f : Nat → Int32} (h : sg T f) {i v : Int32} (h0 : 0 ≤ i.toInt) (hok : ∀ q ∈ T, ((q.2.1 : Int) < i.toInt ∨ i.toInt < (q.1 : Int)) ∨ (q.2.2.1 ≤ v.toInt ∧ v.toInt ≤ q.2.2.2)) : sg T (upd f i.toNatClampNeg v) := by
  have h9 := clT h0
  intro q hq j h1 h2
  unfold upd
  split
  · rcases hok q hq with h3 | h3
    · omega
    · exact h3
  · exact h q hq j h1 h2
theorem sgF {T : List (Nat × Nat × Int × Int)} {f : Nat → Int32} {n : Nat} {v : Int32} (h : ∀ j, j < n → f j = v) (hok : ∀ q ∈ T, q.2.1 < n ∧ q.2.2.1 ≤ v.toInt ∧ v.toInt ≤ q.2.2.2) : sg T f := by
  intro q hq j h1 h2
  obtain ⟨h3, h4⟩ := hok q hq
  rw [h j (by omega)]
  exact h4
theorem upd9E {f g : Nat → Int32} {i v : Int32} (e : upd f i.toNatClampNeg v = g) (h0 : 0 ≤ i.toInt) {j : Nat} (hj : (j : Int) ≠ i.toInt) : (g j).toInt = (f j).toInt := by
  have h9 := clT h0
  rw [← e]
  unfold upd
  rw [if_neg (by omega)]
theorem upd9V {f g : Nat → Int32} {i v : Int32} (e : upd f i.toNatClampNeg v = g) (h0 : 0 ≤ i.toInt) {j : Nat} (hj : (j : Int) = i.toInt) : (g j).toInt = v.toInt := by
  have h9 := clT h0
  rw [← e]
  unfold upd
  rw [if_pos (by omega)]
/-- exact quotients and remainders of ints that aren't below 0 -/
theorem remE {x y z : Int32} (hx : 0 ≤ x.toInt) (hy : 0 < y.toInt) (e : x - x / y * y = z) : z.toInt = x.toInt % y.toInt := by
  obtain ⟨a, ha, rfl⟩ := nI_of (nltT hx)
  obtain ⟨d, hd, rfl⟩ := nI_of (nltT (x := y) (by omega))
  rw [nI_toInt hd] at hy
  rw [pk_rem ha (by omega) hd] at e
  subst e
  have h2 : a % d ≤ a := Nat.mod_le _ _
  rw [nI_toInt (by omega), nI_toInt hd, nI_toInt ha]
  rfl
theorem divE {x y z : Int32} (hx : 0 ≤ x.toInt) (hy : 0 < y.toInt) (e : x / y = z) : z.toInt = x.toInt / y.toInt := by
  obtain ⟨a, ha, rfl⟩ := nI_of (nltT hx)
  obtain ⟨d, hd, rfl⟩ := nI_of (nltT (x := y) (by omega))
  rw [nI_toInt hd] at hy
  rw [pk_div ha (by omega) hd] at e
  subst e
  have h2 : a / d ≤ a := Nat.div_le_self _ _
  rw [nI_toInt (Nat.lt_of_le_of_lt h2 ha), nI_toInt hd, nI_toInt ha]
  rfl
theorem mulR {a b C : Int} (A B : Int) (hC : A * B = C) (h0 : 0 ≤ a) (h1 : a ≤ A) (h2 : 0 ≤ b) (h3 : b ≤ B) : 0 ≤ a * b ∧ a * b ≤ C := ⟨Int.mul_nonneg h0 h2, hC ▸ Int.mul_le_mul h1 h3 h2 (by omega)⟩
theorem bmodL {z : Int} (h1 : -9223372036854775808 ≤ z) (h2 : z < 9223372036854775808) : z.bmod (2 ^ 64) = z := by
  rw [Int.bmod_def]
  omega
theorem addTL {x y z : Int64} {a b : Int} (hx : x.toInt = a) (hy : y.toInt = b) (e : x + y = z) (h1 : -9223372036854775808 ≤ a + b) (h2 : a + b < 9223372036854775808) : z.toInt = a + b := by
  rw [← e, Int64.toInt_add, hx, hy]
  exact bmodL h1 h2
theorem l2iT {x : Int64} {z : Int32} (e : x.toInt32 = z) (h1 : -2147483648 ≤ x.toInt) (h2 : x.toInt < 2147483648) : z.toInt = x.toInt := by
  rw [← e, Int64.toInt_toInt32]
  exact bmodI h1 h2
theorem upd9S {f g : Nat → Int32} {i v t : Int32} (e : upd f i.toNatClampNeg v = g) (e2 : g i.toNatClampNeg = t) : t.toInt = v.toInt := by
  rw [← e2, ← e]
  unfold upd
  rw [if_pos rfl]
theorem divSq {x y z : Int32} (hx : 0 ≤ x.toInt) (hy : 0 < y.toInt) (hlt : x.toInt < y.toInt * y.toInt) (e : x / y = z) : 0 ≤ z.toInt ∧ z.toInt < y.toInt := by
  rw [divE hx hy e]
  exact ⟨Int.ediv_nonneg hx (by omega), Int.ediv_lt_of_lt_mul hy hlt⟩
theorem ne0T {y : Int32} (h : y.toInt ≠ 0) : ¬ y = 0 := fun e => h (by rw [e]; decide)
theorem ne0L {y : Int64} (h : y.toInt ≠ 0) : ¬ y = 0 := fun e => h (by rw [e]; decide)
theorem metQ {l : Launch} {y : MethodName} {cc : ByteArray} {maxL : Nat} {rm : Room} {own : String} {G : Gho} {D : va_G} {tys : List (ClassId × FieldType)} {ws : va_W} {sz : Nat} {av : List Value} {X : Type} {w1 : X → va_W} {post : Option Nat → X → Prop} {rn : String} (hy : plainName y.cls = true) (hown : y.cls = own)
    (body : ∀ (p : Program) (e : Env) (s : State) (m : MethodId) (below : List Frame) (meth : Method) (c : Code) (Q : State → Prop), s.heap.size = sz → Cx p s m av.toArray c own cc maxL G D tys → G.1 ≤ s.heap.size → va_P D vwCl ws s.heap → va_D (va_A ws sz) ws → (∀ q, va_A ws sz q → G.1 ≤ q) → RetQ p l e rm s m av.toArray below meth c cc D (va_A ws sz) w1 post Q → W p l e rm s m av.toArray below meth c s.heap [] 0 0 Q (entryFrame m av.toArray maxL)) :
    Met l y (Cond.code y cc maxL (some (.object rn)) :: wsL_law) rm (wrP G D tys ws sz av) (va_Qq post (atW D tys (va_A ws sz) w1) (va_A ws sz)) 0 0 (va_A ws sz) := by
  refine Met.ofW (cc := cc) (maxL := maxL) (ret := some (.object rn)) hy rfl ?_
  intro p e s m args below meth c s₁ B hml hv
  obtain ⟨rfl, hsz, hP, hK, hD0, hN, hT, hG⟩ := hv
  have hx := B.exec
  have hb := B.bytes
  have hr := B.returns
  have hlocks := B.notSynchronized
  have hown2 : s.vm.findClass own = some m.cls := by rw [← hown]; exact findClass_of_methodNamed B.named
  refine body p e s m below meth c _ hsz ⟨hx, hb, hml, hown2, fun w h => atoms_spec (ws := Cond.code y cc maxL (some (.object rn)) :: wsL_law) B.pre w (List.mem_cons_of_mem _ h), hK, hN, hT⟩ (by rw [hsz]; exact hG) hP hD0.self (abA hD0 hG) ?_
  intro pc ls H locs r x hd hp hP1 hD1 hS1
  exact W.aret (v := .ref r) hx hb hr (Or.inl ⟨_, rfl⟩) (Or.inr ⟨_, rfl⟩) (fun t ht hW => ⟨⟨some r, x, rfl, hp, by rw [ht]; exact hP1, va_K.moved hW.alike hK, hD1⟩, hS1.F ht⟩) hS1.2.2 hd
theorem metI {l : Launch} {y : MethodName} {cc : ByteArray} {maxL : Nat} {rm : Room} {own : String} {G : Gho} {D : va_G} {tys : List (ClassId × FieldType)} {ws : va_W} {sz : Nat} {av : List Value} {X : Type} {w1 : X → va_W} {post : Int32 → X → Prop} (hy : plainName y.cls = true) (hown : y.cls = own)
    (body : ∀ (p : Program) (e : Env) (s : State) (m : MethodId) (below : List Frame) (meth : Method) (c : Code) (Q : State → Prop), s.heap.size = sz → Cx p s m av.toArray c own cc maxL G D tys → G.1 ≤ s.heap.size → va_P D vwCl ws s.heap → va_D (va_A ws sz) ws → (∀ q, va_A ws sz q → G.1 ≤ q) → RetI p l e rm s m av.toArray below meth c cc D (va_A ws sz) w1 post Q → W p l e rm s m av.toArray below meth c s.heap [] 0 0 Q (entryFrame m av.toArray maxL)) :
    Met l y (Cond.code y cc maxL (some .int) :: wsL_law) rm (wrP G D tys ws sz av) (va_Qi post (atW D tys (va_A ws sz) w1) (va_A ws sz)) 0 0 (va_A ws sz) := by
  refine Met.ofW (cc := cc) (maxL := maxL) (ret := some .int) hy rfl ?_
  intro p e s m args below meth c s₁ B hml hv
  obtain ⟨rfl, hsz, hP, hK, hD0, hN, hT, hG⟩ := hv
  have hx := B.exec
  have hb := B.bytes
  have hr := B.returns
  have hlocks := B.notSynchronized
  have hown2 : s.vm.findClass own = some m.cls := by rw [← hown]; exact findClass_of_methodNamed B.named
  refine body p e s m below meth c _ hsz ⟨hx, hb, hml, hown2, fun w h => atoms_spec (ws := Cond.code y cc maxL (some .int) :: wsL_law) B.pre w (List.mem_cons_of_mem _ h), hK, hN, hT⟩ (by rw [hsz]; exact hG) hP hD0.self (abA hD0 hG) ?_
  intro pc ls H locs r x hd hp hP1 hD1 hS1
  exact W.iret (v := r) hx hb hr (fun t ht hW => ⟨⟨r, x, rfl, hp, by rw [ht]; exact hP1, va_K.moved hW.alike hK, hD1⟩, hS1.F ht⟩) hS1.2.2 hd
theorem metZ {l : Launch} {y : MethodName} {cc : ByteArray} {maxL : Nat} {rm : Room} {own : String} {G : Gho} {D : va_G} {tys : List (ClassId × FieldType)} {ws : va_W} {sz : Nat} {av : List Value} {X : Type} {w1 : X → va_W} {post : Int32 → X → Prop} (hy : plainName y.cls = true) (hown : y.cls = own)
    (hpost : ∀ r x, post r x → r = 0 ∨ r = 1)
    (body : ∀ (p : Program) (e : Env) (s : State) (m : MethodId) (below : List Frame) (meth : Method) (c : Code) (Q : State → Prop), s.heap.size = sz → Cx p s m av.toArray c own cc maxL G D tys → G.1 ≤ s.heap.size → va_P D vwCl ws s.heap → va_D (va_A ws sz) ws → (∀ q, va_A ws sz q → G.1 ≤ q) → RetI p l e rm s m av.toArray below meth c cc D (va_A ws sz) w1 post Q → W p l e rm s m av.toArray below meth c s.heap [] 0 0 Q (entryFrame m av.toArray maxL)) :
    Met l y (Cond.code y cc maxL (some .boolean) :: wsL_law) rm (wrP G D tys ws sz av) (va_Qi post (atW D tys (va_A ws sz) w1) (va_A ws sz)) 0 0 (va_A ws sz) := by
  refine Met.ofW (cc := cc) (maxL := maxL) (ret := some .boolean) hy rfl ?_
  intro p e s m args below meth c s₁ B hml hv
  obtain ⟨rfl, hsz, hP, hK, hD0, hN, hT, hG⟩ := hv
  have hx := B.exec
  have hb := B.bytes
  have hr := B.returns
  have hlocks := B.notSynchronized
  have hown2 : s.vm.findClass own = some m.cls := by rw [← hown]; exact findClass_of_methodNamed B.named
  refine body p e s m below meth c _ hsz ⟨hx, hb, hml, hown2, fun w h => atoms_spec (ws := Cond.code y cc maxL (some .boolean) :: wsL_law) B.pre w (List.mem_cons_of_mem _ h), hK, hN, hT⟩ (by rw [hsz]; exact hG) hP hD0.self (abA hD0 hG) ?_
  intro pc ls H locs r x hd hp hP1 hD1 hS1
  exact W.zret (v := r) hx hb hr (by rcases hpost r x hp with h | h <;> rw [h] <;> rfl) (fun t ht hW => ⟨⟨r, x, rfl, hp, by rw [ht]; exact hP1, va_K.moved hW.alike hK, hD1⟩, hS1.F ht⟩) hS1.2.2 hd
theorem metL {l : Launch} {y : MethodName} {cc : ByteArray} {maxL : Nat} {rm : Room} {own : String} {G : Gho} {D : va_G} {tys : List (ClassId × FieldType)} {ws : va_W} {sz : Nat} {av : List Value} {X : Type} {w1 : X → va_W} {post : Int64 → X → Prop} (hy : plainName y.cls = true) (hown : y.cls = own)
    (body : ∀ (p : Program) (e : Env) (s : State) (m : MethodId) (below : List Frame) (meth : Method) (c : Code) (Q : State → Prop), s.heap.size = sz → Cx p s m av.toArray c own cc maxL G D tys → G.1 ≤ s.heap.size → va_P D vwCl ws s.heap → va_D (va_A ws sz) ws → (∀ q, va_A ws sz q → G.1 ≤ q) → RetL p l e rm s m av.toArray below meth c cc D (va_A ws sz) w1 post Q → W p l e rm s m av.toArray below meth c s.heap [] 0 0 Q (entryFrame m av.toArray maxL)) :
    Met l y (Cond.code y cc maxL (some .long) :: wsL_law) rm (wrP G D tys ws sz av) (va_Ql post (atW D tys (va_A ws sz) w1) (va_A ws sz)) 0 0 (va_A ws sz) := by
  refine Met.ofW (cc := cc) (maxL := maxL) (ret := some .long) hy rfl ?_
  intro p e s m args below meth c s₁ B hml hv
  obtain ⟨rfl, hsz, hP, hK, hD0, hN, hT, hG⟩ := hv
  have hx := B.exec
  have hb := B.bytes
  have hr := B.returns
  have hlocks := B.notSynchronized
  have hown2 : s.vm.findClass own = some m.cls := by rw [← hown]; exact findClass_of_methodNamed B.named
  refine body p e s m below meth c _ hsz ⟨hx, hb, hml, hown2, fun w h => atoms_spec (ws := Cond.code y cc maxL (some .long) :: wsL_law) B.pre w (List.mem_cons_of_mem _ h), hK, hN, hT⟩ (by rw [hsz]; exact hG) hP hD0.self (abA hD0 hG) ?_
  intro pc ls H locs r x hd hp hP1 hD1 hS1
  exact W.lret (v := r) hx hb hr (fun t ht hW => ⟨⟨r, x, rfl, hp, by rw [ht]; exact hP1, va_K.moved hW.alike hK, hD1⟩, hS1.F ht⟩) hS1.2.2 hd
theorem metV {l : Launch} {y : MethodName} {cc : ByteArray} {maxL : Nat} {rm : Room} {own : String} {G : Gho} {D : va_G} {tys : List (ClassId × FieldType)} {ws : va_W} {sz : Nat} {av : List Value} {X : Type} {w1 : X → va_W} {post : X → Prop} (hy : plainName y.cls = true) (hown : y.cls = own)
    (body : ∀ (p : Program) (e : Env) (s : State) (m : MethodId) (below : List Frame) (meth : Method) (c : Code) (Q : State → Prop), s.heap.size = sz → Cx p s m av.toArray c own cc maxL G D tys → G.1 ≤ s.heap.size → va_P D vwCl ws s.heap → va_D (va_A ws sz) ws → (∀ q, va_A ws sz q → G.1 ≤ q) → RetV p l e rm s m av.toArray below meth c cc D (va_A ws sz) w1 post Q → W p l e rm s m av.toArray below meth c s.heap [] 0 0 Q (entryFrame m av.toArray maxL)) :
    Met l y (Cond.code y cc maxL none :: wsL_law) rm (wrP G D tys ws sz av) (va_Qv post (atW D tys (va_A ws sz) w1) (va_A ws sz)) 0 0 (va_A ws sz) := by
  refine Met.ofW (cc := cc) (maxL := maxL) (ret := none) hy rfl ?_
  intro p e s m args below meth c s₁ B hml hv
  obtain ⟨rfl, hsz, hP, hK, hD0, hN, hT, hG⟩ := hv
  have hx := B.exec
  have hb := B.bytes
  have hr := B.returns
  have hlocks := B.notSynchronized
  have hown2 : s.vm.findClass own = some m.cls := by rw [← hown]; exact findClass_of_methodNamed B.named
  refine body p e s m below meth c _ hsz ⟨hx, hb, hml, hown2, fun w h => atoms_spec (ws := Cond.code y cc maxL none :: wsL_law) B.pre w (List.mem_cons_of_mem _ h), hK, hN, hT⟩ (by rw [hsz]; exact hG) hP hD0.self (abA hD0 hG) ?_
  intro pc ls H locs x hd hp hP1 hD1 hS1
  exact W.vret hx hb hr (fun t ht hW => ⟨⟨x, rfl, hp, by rw [ht]; exact hP1, va_K.moved hW.alike hK, hD1⟩, hS1.F ht⟩) hS1.2.2 hd
theorem metROQ {l : Launch} {y : MethodName} {cc : ByteArray} {maxL : Nat} {rm : Room} {own : String} {G : Gho} {D : va_G} {tys : List (ClassId × FieldType)} {ws : va_W} {av : List Value} {post : Option Nat → Prop} {rn : String} (hy : plainName y.cls = true) (hown : y.cls = own)
    (body : ∀ (p : Program) (e : Env) (s : State) (m : MethodId) (below : List Frame) (meth : Method) (c : Code) (Q : State → Prop), Cx p s m av.toArray c own cc maxL G D tys → va_P D vwCl ws s.heap → RroQ p l e rm s m av.toArray below meth c cc post Q → W p l e rm s m av.toArray below meth c s.heap [] 0 0 Q (entryFrame m av.toArray maxL)) :
    Met l y (Cond.code y cc maxL (some (.object rn)) :: wsL_law) rm (roP G D tys ws av) (va_Sq post) 0 0 (fun _ => False) := by
  refine Met.ofW (cc := cc) (maxL := maxL) (ret := some (.object rn)) hy rfl ?_
  intro p e s m args below meth c s₁ B hml hv
  obtain ⟨rfl, hP, hK, hN, hT⟩ := hv
  have hx := B.exec
  have hb := B.bytes
  have hr := B.returns
  have hlocks := B.notSynchronized
  have hown2 : s.vm.findClass own = some m.cls := by rw [← hown]; exact findClass_of_methodNamed B.named
  refine body p e s m below meth c _ ⟨hx, hb, hml, hown2, fun w h => atoms_spec (ws := Cond.code y cc maxL (some (.object rn)) :: wsL_law) B.pre w (List.mem_cons_of_mem _ h), hK, hN, hT⟩ hP ?_
  intro pc ls r hd hp
  exact W.aret (v := .ref r) hx hb hr (Or.inl ⟨_, rfl⟩) (Or.inr ⟨_, rfl⟩) (fun t ht hW => ⟨some r, rfl, hp, ht⟩) (fun _ h => by cases h) hd
theorem metRO {l : Launch} {y : MethodName} {cc : ByteArray} {maxL : Nat} {rm : Room} {own : String} {G : Gho} {D : va_G} {tys : List (ClassId × FieldType)} {ws : va_W} {av : List Value} {post : Int32 → Prop} (hy : plainName y.cls = true) (hown : y.cls = own)
    (body : ∀ (p : Program) (e : Env) (s : State) (m : MethodId) (below : List Frame) (meth : Method) (c : Code) (Q : State → Prop), Cx p s m av.toArray c own cc maxL G D tys → va_P D vwCl ws s.heap → RroI p l e rm s m av.toArray below meth c cc post Q → W p l e rm s m av.toArray below meth c s.heap [] 0 0 Q (entryFrame m av.toArray maxL)) :
    Met l y (Cond.code y cc maxL (some .int) :: wsL_law) rm (roP G D tys ws av) (vp_Si post) 0 0 (fun _ => False) := by
  refine Met.ofW (cc := cc) (maxL := maxL) (ret := some .int) hy rfl ?_
  intro p e s m args below meth c s₁ B hml hv
  obtain ⟨rfl, hP, hK, hN, hT⟩ := hv
  have hx := B.exec
  have hb := B.bytes
  have hr := B.returns
  have hlocks := B.notSynchronized
  have hown2 : s.vm.findClass own = some m.cls := by rw [← hown]; exact findClass_of_methodNamed B.named
  refine body p e s m below meth c _ ⟨hx, hb, hml, hown2, fun w h => atoms_spec (ws := Cond.code y cc maxL (some .int) :: wsL_law) B.pre w (List.mem_cons_of_mem _ h), hK, hN, hT⟩ hP ?_
  intro pc ls r hd hp
  exact W.iret (v := r) hx hb hr (fun t ht hW => ⟨r, rfl, hp, ht⟩) (fun _ h => by cases h) hd
theorem metROZ {l : Launch} {y : MethodName} {cc : ByteArray} {maxL : Nat} {rm : Room} {own : String} {G : Gho} {D : va_G} {tys : List (ClassId × FieldType)} {ws : va_W} {av : List Value} {post : Int32 → Prop} (hy : plainName y.cls = true) (hown : y.cls = own) (hpost : ∀ r, post r → r = 0 ∨ r = 1)
    (body : ∀ (p : Program) (e : Env) (s : State) (m : MethodId) (below : List Frame) (meth : Method) (c : Code) (Q : State → Prop), Cx p s m av.toArray c own cc maxL G D tys → va_P D vwCl ws s.heap → RroI p l e rm s m av.toArray below meth c cc post Q → W p l e rm s m av.toArray below meth c s.heap [] 0 0 Q (entryFrame m av.toArray maxL)) :
    Met l y (Cond.code y cc maxL (some .boolean) :: wsL_law) rm (roP G D tys ws av) (vp_Si post) 0 0 (fun _ => False) := by
  refine Met.ofW (cc := cc) (maxL := maxL) (ret := some .boolean) hy rfl ?_
  intro p e s m args below meth c s₁ B hml hv
  obtain ⟨rfl, hP, hK, hN, hT⟩ := hv
  have hx := B.exec
  have hb := B.bytes
  have hr := B.returns
  have hlocks := B.notSynchronized
  have hown2 : s.vm.findClass own = some m.cls := by rw [← hown]; exact findClass_of_methodNamed B.named
  refine body p e s m below meth c _ ⟨hx, hb, hml, hown2, fun w h => atoms_spec (ws := Cond.code y cc maxL (some .boolean) :: wsL_law) B.pre w (List.mem_cons_of_mem _ h), hK, hN, hT⟩ hP ?_
  intro pc ls r hd hp
  exact W.zret (v := r) hx hb hr (by rcases hpost r hp with h | h <;> rw [h] <;> rfl) (fun t ht hW => ⟨r, rfl, hp, ht⟩) (fun _ h => by cases h) hd
theorem metROL {l : Launch} {y : MethodName} {cc : ByteArray} {maxL : Nat} {rm : Room} {own : String} {G : Gho} {D : va_G} {tys : List (ClassId × FieldType)} {ws : va_W} {av : List Value} {post : Int64 → Prop} (hy : plainName y.cls = true) (hown : y.cls = own)
    (body : ∀ (p : Program) (e : Env) (s : State) (m : MethodId) (below : List Frame) (meth : Method) (c : Code) (Q : State → Prop), Cx p s m av.toArray c own cc maxL G D tys → va_P D vwCl ws s.heap → RroL p l e rm s m av.toArray below meth c cc post Q → W p l e rm s m av.toArray below meth c s.heap [] 0 0 Q (entryFrame m av.toArray maxL)) :
    Met l y (Cond.code y cc maxL (some .long) :: wsL_law) rm (roP G D tys ws av) (vp_Sl post) 0 0 (fun _ => False) := by
  refine Met.ofW (cc := cc) (maxL := maxL) (ret := some .long) hy rfl ?_
  intro p e s m args below meth c s₁ B hml hv
  obtain ⟨rfl, hP, hK, hN, hT⟩ := hv
  have hx := B.exec
  have hb := B.bytes
  have hr := B.returns
  have hlocks := B.notSynchronized
  have hown2 : s.vm.findClass own = some m.cls := by rw [← hown]; exact findClass_of_methodNamed B.named
  refine body p e s m below meth c _ ⟨hx, hb, hml, hown2, fun w h => atoms_spec (ws := Cond.code y cc maxL (some .long) :: wsL_law) B.pre w (List.mem_cons_of_mem _ h), hK, hN, hT⟩ hP ?_
  intro pc ls r hd hp
  exact W.lret (v := r) hx hb hr (fun t ht hW => ⟨r, rfl, hp, ht⟩) (fun _ h => by cases h) hd
abbrev sgS1 : List (Nat × Nat × Int × Int) := [(0, 647, -1, 2147483647)]
