/-- a void answer, the heap unchanged -/
def vp_Sv (post : Prop) : Array Value → State → Outcome → State → Prop := fun _ st o t => o = .returned none ∧ post ∧ t.heap = st.heap
section ZS
variable {p : Program} {l : Launch} {e : Env} {R : Room} {s : State} {m : MethodId} {args : Array Value} {below : List Frame} {meth : Method} {c : Code} {H : Heap} {locs : List Loc} {cells slots : Nat} {Q : State → Prop} {cc : ByteArray} {pc : Nat} {ls : Array Slot} {rest : List Value}
variable {G : Gho} {D : va_G} {tys : List (ClassId × FieldType)} {wc : va_W} {own C : String} {index n maxL nL mc ms : Nat} {y : MethodName} {bytes : ByteArray} {ret : Option FieldType} {rm : Room} {As st0 : List Value} {b : Nat}
theorem callSv {post : Prop} {a : Array Value} (hr : CallRun p l e R s m args below meth c H locs cells slots 0 0 (F0 m pc ls st0) rest (vp_Sv post a) (fun _ => False)) (kk : post → W p l e R s m args below meth c H locs cells slots Q (F0 m (pc + 3) ls rest)) : W p l e R s m args below meth c H locs cells slots Q (F0 m pc ls st0) := by
  intro T hT X
  obtain ⟨v, st₀, t, T', L, h0, X', hL, e1, ⟨hv, hp, hh⟩, st⟩ := hr T hT X
  cases hv
  obtain ⟨t2, a1, b1⟩ := kk hp T' (by rw [e1, hh, h0]) (Stand.forget X' (fun q h => (hL q h).elim))
  exact ⟨t2, st t2 a1, b1⟩
theorem callNi {post : Int32 → Prop} {a : Array Value} (hr : va_Run p l e R s m args below meth c H locs cells slots 0 0 (F0 m pc ls st0) rest (vp_Si post a) (fun _ => False)) (kk : ∀ r : Int32, post r → W p l e R s m args below meth c H locs cells slots Q (F0 m (pc + 3) ls (.int r :: rest))) : W p l e R s m args below meth c H locs cells slots Q (F0 m pc ls st0) := by
  intro T hT X
  obtain ⟨v, st₀, t, T', L, h0, X', hL, e1, -, ⟨r, hv, hp, hh⟩, st⟩ := hr T hT X
  cases hv
  obtain ⟨t2, a1, b1⟩ := kk r hp T' (by rw [e1, hh, h0]) (Stand.forget X' (fun q h => (hL q h).elim))
  exact ⟨t2, st t2 a1, b1⟩
theorem rosv {post : Prop} (S : CallFix p m c cc nL s args wsL_law own) (hM : Met l y (Cond.code y bytes maxL ret :: wsL_law) rm (roP G D tys wc As) (vp_Sv post) 0 0 (fun _ => False)) (cw : CallB R s args own index y bytes maxL ret (Cond.code y bytes maxL ret :: wsL_law) rm 0 0 n ∧ (Cond.static y).before args s = true) (hP : va_P D vwCl wc H) (hK : va_K D vwCl tys s) (hN : kN s) (hT : kT G s H) (hn : As.length = n) (hsz : ls.size = nL) (hst : st0 = As.reverse ++ rest) (hW : (rest.map fun v => v.category).sum ≤ 8) (hf : cells ≤ R.cells ∧ slots ≤ R.slots) (hdg : decode cc pc = .ok (.invokestatic index, 3)) (kk : post → W p l e R s m args below meth c H locs cells slots Q (F0 m (pc + 3) ls rest)) : W p l e R s m args below meth c H locs cells slots Q (F0 m pc ls st0) := by
  subst hst
  exact callSv (W.runS (rest := rest) S hM cw ⟨roBl, fun U hU hW1 => ⟨rfl, by rw [hU]; exact hP, va_K.moved hW1.alike hK, kN.warm hW1 hN, by rw [hU]; exact kT.moved hW1 hT⟩⟩ rfl hn hsz rfl (lv_room hW) hdg hf) kk
theorem rosiN {host : String} {post : Int32 → Prop} (S : CallFix p m c cc nL s args wsL_law own) (hM : Met l y (Cond.code y bytes maxL ret :: wsL_law) rm (roP G D tys wc As) (vp_Si post) 0 0 (fun _ => False)) (cw : va_CN R s args own index y host bytes maxL ret (Cond.code y bytes maxL ret :: wsL_law) rm 0 0 n ∧ (Cond.static y).before args s = true ∧ True) (hP : va_P D vwCl wc H) (hK : va_K D vwCl tys s) (hN : kN s) (hT : kT G s H) (hn : As.length = n) (hsz : ls.size = nL) (hst : st0 = As.reverse ++ rest) (hW : (rest.map fun v => v.category).sum ≤ 8) (hf : cells ≤ R.cells ∧ slots ≤ R.slots) (hdg : decode cc pc = .ok (.invokestatic index, 3)) (kk : ∀ r : Int32, post r → W p l e R s m args below meth c H locs cells slots Q (F0 m (pc + 3) ls (.int r :: rest))) : W p l e R s m args below meth c H locs cells slots Q (F0 m pc ls st0) := by
  subst hst
  exact callNi (va_runSN (rest := rest) S hM cw ⟨roBl, fun U hU hW1 => ⟨rfl, by rw [hU]; exact hP, va_K.moved hW1.alike hK, kN.warm hW1 hN, by rw [hU]; exact kT.moved hW1 hT⟩⟩ rfl hn hsz rfl (lv_room hW) hdg hf) kk
/-- a literal is the receiver -/
theorem roSi {post : Int32 → Prop} {j : Nat} (S : CallFix p m c cc nL s args wsL_law own) (hM : Met l y (Cond.code y bytes maxL ret :: wsL_law) rm (roP G D tys wc (.ref (G.2.1 j) :: As)) (vp_Si post) 0 0 (fun _ => False)) (cw : CallW R s args own "java/lang/String" index y bytes maxL ret (Cond.code y bytes maxL ret :: wsL_law) rm 0 0 n) (hj : j < 11) (hP : va_P D vwCl wc H) (hK : va_K D vwCl tys s) (hN : kN s) (hT : kT G s H) (hn : As.length = n) (hsz : ls.size = nL) (hst : st0 = As.reverse ++ .ref (G.2.1 j) :: rest) (hW : (rest.map fun v => v.category).sum ≤ 8) (hf : cells ≤ R.cells ∧ slots ≤ R.slots) (hdg : decode cc pc = .ok (.invokevirtual index, 3)) (kk : ∀ r : Int32, post r → W p l e R s m args below meth c H locs cells slots Q (F0 m (pc + 3) ls (.int r :: rest))) : W p l e R s m args below meth c H locs cells slots Q (F0 m pc ls st0) := by
  subst hst
  obtain ⟨cell, h1, h2, h3, -⟩ := (hT.1.1 j hj).1
  exact vp_callSi (W.runV (rest := rest) S hM cw ⟨roBl, ⟨cell, h1, h2, h3⟩, fun U hU hW1 => ⟨rfl, by rw [hU]; exact hP, va_K.moved hW1.alike hK, kN.warm hW1 hN, by rw [hU]; exact kT.moved hW1 hT⟩⟩ rfl hn hsz rfl (lv_room hW) hdg hf) kk
end ZS
def RroV (p : Program) (l : Launch) (e : Env) (R : Room) (s : State) (m : MethodId) (args : Array Value) (below : List Frame) (meth : Method) (c : Code) (cc : ByteArray) (Q : State → Prop) : Prop := ∀ (pc : Nat) (ls : Array Slot), decode cc pc = .ok (.return_, 1) → W p l e R s m args below meth c s.heap [] 0 0 Q (F0 m pc ls [])
theorem metROV {l : Launch} {y : MethodName} {cc : ByteArray} {maxL : Nat} {rm : Room} {own : String} {G : Gho} {D : va_G} {tys : List (ClassId × FieldType)} {ws : va_W} {av : List Value} (hy : plainName y.cls = true) (hown : y.cls = own)
    (body : ∀ (p : Program) (e : Env) (s : State) (m : MethodId) (below : List Frame) (meth : Method) (c : Code) (Q : State → Prop), Cx p s m av.toArray c own cc maxL G D tys → va_P D vwCl ws s.heap → RroV p l e rm s m av.toArray below meth c cc Q → W p l e rm s m av.toArray below meth c s.heap [] 0 0 Q (entryFrame m av.toArray maxL)) :
    Met l y (Cond.code y cc maxL none :: wsL_law) rm (roP G D tys ws av) (vp_Sv True) 0 0 (fun _ => False) := by
  refine Met.ofW (cc := cc) (maxL := maxL) (ret := none) hy rfl ?_
  intro p e s m args below meth c s₁ B hml hv
  obtain ⟨rfl, hP, hK, hN, hT⟩ := hv
  have hx := B.exec
  have hb := B.bytes
  have hr := B.returns
  have hlocks := B.notSynchronized
  have hown2 : s.vm.findClass own = some m.cls := by rw [← hown]; exact findClass_of_methodNamed B.named
  refine body p e s m below meth c _ ⟨hx, hb, hml, hown2, fun w h => atoms_spec (ws := Cond.code y cc maxL none :: wsL_law) B.pre w (List.mem_cons_of_mem _ h), hK, hN, hT⟩ hP ?_
  intro pc ls hd
  exact W.vret hx hb hr (fun t ht hW => ⟨rfl, trivial, ht⟩) (fun _ h => by cases h) hd
theorem metROT {l : Launch} {y : MethodName} {cc : ByteArray} {maxL : Nat} {rm : Room} {own : String} {G : Gho} {D : va_G} {tys : List (ClassId × FieldType)} {ws : va_W} {av : List Value} {post : Int32 → Prop} {ty : FieldType} (hy : plainName y.cls = true) (hown : y.cls = own) (hpost : ∀ r, post r → narrow ty (.int r) = .int r)
    (body : ∀ (p : Program) (e : Env) (s : State) (m : MethodId) (below : List Frame) (meth : Method) (c : Code) (Q : State → Prop), Cx p s m av.toArray c own cc maxL G D tys → va_P D vwCl ws s.heap → RroI p l e rm s m av.toArray below meth c cc post Q → W p l e rm s m av.toArray below meth c s.heap [] 0 0 Q (entryFrame m av.toArray maxL)) :
    Met l y (Cond.code y cc maxL (some ty) :: wsL_law) rm (roP G D tys ws av) (vp_Si post) 0 0 (fun _ => False) := by
  refine Met.ofW (cc := cc) (maxL := maxL) (ret := some ty) hy rfl ?_
  intro p e s m args below meth c s₁ B hml hv
  obtain ⟨rfl, hP, hK, hN, hT⟩ := hv
  have hx := B.exec
  have hb := B.bytes
  have hr := B.returns
  have hlocks := B.notSynchronized
  have hown2 : s.vm.findClass own = some m.cls := by rw [← hown]; exact findClass_of_methodNamed B.named
  refine body p e s m below meth c _ ⟨hx, hb, hml, hown2, fun w h => atoms_spec (ws := Cond.code y cc maxL (some ty) :: wsL_law) B.pre w (List.mem_cons_of_mem _ h), hK, hN, hT⟩ hP ?_
  intro pc ls r hd hp
  exact W.zret (v := r) hx hb hr (hpost r hp) (fun t ht hW => ⟨r, rfl, hp, ht⟩) (fun _ h => by cases h) hd
theorem strL_lt : ∀ j, j < 11 → strL.getD j 0 < 8 := by decide +kernel
theorem strShr : ∀ j, j < 11 → ∀ r : Int32, nI (strL.getD j 0) >>> ((0 : Int32) &&& 31) = r → r.toInt = ((strL.getD j 0 : Nat) : Int) := fun j hj r h => by
  have := strL_lt j hj
  rw [sc_shr0 (by omega)] at h
  subst h
  exact nI_toInt (by omega)
