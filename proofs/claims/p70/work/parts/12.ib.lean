abbrev roP1 (D : va_G) (tys : List (ClassId × FieldType)) (ws : va_W) (av : List Value) : Array Value → State → Prop := va_Pc av (fun U => va_P D vwCl ws U.heap ∧ va_K D vwCl tys U)
abbrev wrP1 (D : va_G) (tys : List (ClassId × FieldType)) (ws : va_W) (sz : Nat) (av : List Value) : Array Value → State → Prop := va_Pc av (fun U => U.heap.size = sz ∧ va_P D vwCl ws U.heap ∧ va_K D vwCl tys U ∧ va_D (fun _ => True) ws ∧ kN U)
theorem roBl1 {D : va_G} {tys : List (ClassId × FieldType)} {ws : va_W} {av : List Value} : FrameBlind (roP1 D tys ws av) := fun a U g mk q => ⟨q.1, q.2.1, va_K.moved (u := U) (U := U.calling g mk a) (Vm.Alike.refl U.vm) q.2.2⟩
theorem wrBl1 {D : va_G} {tys : List (ClassId × FieldType)} {ws : va_W} {sz : Nat} {av : List Value} : FrameBlind (wrP1 D tys ws sz av) := fun a U g mk q => ⟨q.1, q.2.1, q.2.2.1, va_K.moved (u := U) (U := U.calling g mk a) (Vm.Alike.refl U.vm) q.2.2.2.1, q.2.2.2.2.1, kN.call q.2.2.2.2.2⟩

section ZI1
variable {p : Program} {l : Launch} {e : Env} {R : Room} {s : State} {m : MethodId} {args : Array Value} {below : List Frame} {meth : Method} {c : Code} {H : Heap} {locs : List Loc} {cells slots : Nat} {Q : State → Prop} {cc : ByteArray} {pc : Nat} {ls : Array Slot} {rest : List Value}
variable {D : va_G} {tys : List (ClassId × FieldType)} {wc : va_W} {own C : String} {index n maxL nL mc ms : Nat} {y : MethodName} {bytes : ByteArray} {ret : Option FieldType} {rm : Room} {As st0 : List Value} {b : Nat} {ws wr : va_W} {A : Nat → Prop} {H0 : Heap} {X : Type} {w1 : X → va_W}
theorem roi1 {post : Int32 → Prop} (S : CallFix p m c cc nL s args wsL_law own) (hM : Met l y (Cond.code y bytes maxL ret :: wsL_law) rm (roP1 D tys wc (.ref b :: As)) (vp_Si post) 0 0 (fun _ => False)) (cw : CallW R s args own C index y bytes maxL ret (Cond.code y bytes maxL ret :: wsL_law) rm 0 0 n) (q0 ci : Nat) {q : vw_C} {fs : List Value} (hc : vwCl[ci]? = some q) (hC : q.1 = C) (he : wc[q0]? = some (b, .inr (ci, fs))) (hP : va_P D vwCl wc H) (hK : va_K D vwCl tys s) (hn : As.length = n) (hsz : ls.size = nL) (hst : st0 = As.reverse ++ .ref b :: rest) (hW : (rest.map fun v => v.category).sum ≤ 8) (hf : cells ≤ R.cells ∧ slots ≤ R.slots) (hdg : decode cc pc = .ok (.invokevirtual index, 3)) (kk : ∀ r : Int32, post r → W p l e R s m args below meth c H locs cells slots Q (F0 m (pc + 3) ls (.int r :: rest))) : W p l e R s m args below meth c H locs cells slots Q (F0 m pc ls st0) := by
  subst hC
  subst hst
  exact vp_callSi (W.runV (rest := rest) S hM cw ⟨roBl1, va_recv hK hP hc he, fun U hU hW1 => ⟨rfl, by rw [hU]; exact hP, va_K.moved hW1.alike hK⟩⟩ rfl hn hsz rfl (lv_room hW) hdg hf) kk
theorem rosi1 {post : Int32 → Prop} (S : CallFix p m c cc nL s args wsL_law own) (hM : Met l y (Cond.code y bytes maxL ret :: wsL_law) rm (roP1 D tys wc As) (vp_Si post) 0 0 (fun _ => False)) (cw : CallB R s args own index y bytes maxL ret (Cond.code y bytes maxL ret :: wsL_law) rm 0 0 n ∧ (Cond.static y).before args s = true) (hP : va_P D vwCl wc H) (hK : va_K D vwCl tys s) (hn : As.length = n) (hsz : ls.size = nL) (hst : st0 = As.reverse ++ rest) (hW : (rest.map fun v => v.category).sum ≤ 8) (hf : cells ≤ R.cells ∧ slots ≤ R.slots) (hdg : decode cc pc = .ok (.invokestatic index, 3)) (kk : ∀ r : Int32, post r → W p l e R s m args below meth c H locs cells slots Q (F0 m (pc + 3) ls (.int r :: rest))) : W p l e R s m args below meth c H locs cells slots Q (F0 m pc ls st0) := by
  subst hst
  exact vp_callSi (W.runS (rest := rest) S hM cw ⟨roBl1, fun U hU hW1 => ⟨rfl, by rw [hU]; exact hP, va_K.moved hW1.alike hK⟩⟩ rfl hn hsz rfl (lv_room hW) hdg hf) kk
theorem rol1 {post : Int64 → Prop} (S : CallFix p m c cc nL s args wsL_law own) (hM : Met l y (Cond.code y bytes maxL ret :: wsL_law) rm (roP1 D tys wc (.ref b :: As)) (vp_Sl post) 0 0 (fun _ => False)) (cw : CallW R s args own C index y bytes maxL ret (Cond.code y bytes maxL ret :: wsL_law) rm 0 0 n) (q0 ci : Nat) {q : vw_C} {fs : List Value} (hc : vwCl[ci]? = some q) (hC : q.1 = C) (he : wc[q0]? = some (b, .inr (ci, fs))) (hP : va_P D vwCl wc H) (hK : va_K D vwCl tys s) (hn : As.length = n) (hsz : ls.size = nL) (hst : st0 = As.reverse ++ .ref b :: rest) (hW : (rest.map fun v => v.category).sum ≤ 8) (hf : cells ≤ R.cells ∧ slots ≤ R.slots) (hdg : decode cc pc = .ok (.invokevirtual index, 3)) (kk : ∀ r : Int64, post r → W p l e R s m args below meth c H locs cells slots Q (F0 m (pc + 3) ls (.long r :: rest))) : W p l e R s m args below meth c H locs cells slots Q (F0 m pc ls st0) := by
  subst hC
  subst hst
  exact vp_callSl (W.runV (rest := rest) S hM cw ⟨roBl1, va_recv hK hP hc he, fun U hU hW1 => ⟨rfl, by rw [hU]; exact hP, va_K.moved hW1.alike hK⟩⟩ rfl hn hsz rfl (lv_room hW) hdg hf) kk
theorem rosl1 {post : Int64 → Prop} (S : CallFix p m c cc nL s args wsL_law own) (hM : Met l y (Cond.code y bytes maxL ret :: wsL_law) rm (roP1 D tys wc As) (vp_Sl post) 0 0 (fun _ => False)) (cw : CallB R s args own index y bytes maxL ret (Cond.code y bytes maxL ret :: wsL_law) rm 0 0 n ∧ (Cond.static y).before args s = true) (hP : va_P D vwCl wc H) (hK : va_K D vwCl tys s) (hn : As.length = n) (hsz : ls.size = nL) (hst : st0 = As.reverse ++ rest) (hW : (rest.map fun v => v.category).sum ≤ 8) (hf : cells ≤ R.cells ∧ slots ≤ R.slots) (hdg : decode cc pc = .ok (.invokestatic index, 3)) (kk : ∀ r : Int64, post r → W p l e R s m args below meth c H locs cells slots Q (F0 m (pc + 3) ls (.long r :: rest))) : W p l e R s m args below meth c H locs cells slots Q (F0 m pc ls st0) := by
  subst hst
  exact vp_callSl (W.runS (rest := rest) S hM cw ⟨roBl1, fun U hU hW1 => ⟨rfl, by rw [hU]; exact hP, va_K.moved hW1.alike hK⟩⟩ rfl hn hsz rfl (lv_room hW) hdg hf) kk
theorem roq1 {post : Option Nat → Prop} (S : CallFix p m c cc nL s args wsL_law own) (hM : Met l y (Cond.code y bytes maxL ret :: wsL_law) rm (roP1 D tys wc (.ref b :: As)) (va_Sq post) 0 0 (fun _ => False)) (cw : CallW R s args own C index y bytes maxL ret (Cond.code y bytes maxL ret :: wsL_law) rm 0 0 n) (q0 ci : Nat) {q : vw_C} {fs : List Value} (hc : vwCl[ci]? = some q) (hC : q.1 = C) (he : wc[q0]? = some (b, .inr (ci, fs))) (hP : va_P D vwCl wc H) (hK : va_K D vwCl tys s) (hn : As.length = n) (hsz : ls.size = nL) (hst : st0 = As.reverse ++ .ref b :: rest) (hW : (rest.map fun v => v.category).sum ≤ 8) (hf : cells ≤ R.cells ∧ slots ≤ R.slots) (hdg : decode cc pc = .ok (.invokevirtual index, 3)) (kk : ∀ r : Option Nat, post r → W p l e R s m args below meth c H locs cells slots Q (F0 m (pc + 3) ls (va_rf r :: rest))) : W p l e R s m args below meth c H locs cells slots Q (F0 m pc ls st0) := by
  subst hC
  subst hst
  exact va_csq (W.runV (rest := rest) S hM cw ⟨roBl1, va_recv hK hP hc he, fun U hU hW1 => ⟨rfl, by rw [hU]; exact hP, va_K.moved hW1.alike hK⟩⟩ rfl hn hsz rfl (lv_room hW) hdg hf) kk
theorem wrVv1 {post : X → Prop} (S : CallFix p m c cc nL s args wsL_law own) (hM : Met l y (Cond.code y bytes maxL ret :: wsL_law) rm (wrP1 D tys wc H.size (.ref b :: As)) (va_Qv post (atW D tys (va_A wc H.size) w1) (va_A wc H.size)) mc ms (va_A wc H.size)) (hP : va_P D vwCl ws H) (hD : va_D A ws) (hS : va_S A H0 H locs) (hA : ∀ q, H0.size ≤ q → A q) (hK : va_K D vwCl tys s) (hN : kN s) (isC isR : List Nat) (hC : isC.map (fun i => ws[i]?) = wc.map some) (hR : isR.map (fun i => ws[i]?) = wr.map some) (hnC : va_nd isC = true) (hnR : va_nd isR = true) (hdis : ∀ i ∈ isR, i ∉ isC) (cw : CallW R s args own C index y bytes maxL ret (Cond.code y bytes maxL ret :: wsL_law) rm mc ms n) (q0 ci : Nat) {q : vw_C} {fs : List Value} (hc : vwCl[ci]? = some q) (hCl : q.1 = C) (he : wc[q0]? = some (b, .inr (ci, fs))) (hn : As.length = n) (hsz : ls.size = nL) (hst : st0 = As.reverse ++ .ref b :: rest) (hW : (rest.map fun v => v.category).sum ≤ 8) (hf : cells + mc ≤ R.cells ∧ slots + ms ≤ R.slots) (hdg : decode cc pc = .ok (.invokevirtual index, 3)) (kk : ∀ (x : X) (H1 : Heap) (locs1 : List Loc), post x → va_P D vwCl (wr ++ w1 x) H1 → va_D A (wr ++ w1 x) → va_S A H0 H1 locs1 → W p l e R s m args below meth c H1 locs1 (cells + mc) (slots + ms) Q (F0 m (pc + 3) ls (rest))) : W p l e R s m args below meth c H locs cells slots Q (F0 m pc ls st0) := by
  subst hCl
  subst hst
  have hPc : va_P D vwCl wc H := hP.sub isC (va_fm hC)
  have hDc : va_D A wc := hD.sub isC hnC hC
  have hFc := va_free (wc := wc) hD hS hA isC hC
  refine va_callv (va_runV (rest := rest) S hM cw ⟨wrBl1, va_recv hK hPc hc he, fun U hU hW1 => ⟨rfl, by rw [hU], by rw [hU]; exact hPc, va_K.moved hW1.alike hK, hDc.weaken (fun _ _ _ _ => trivial), kN.warm hW1 hN⟩⟩ rfl hn hsz rfl (lv_room hW) hdg hf) hS (fun q _ h => hFc q h) hFc (fun x t H1 locs1 ht hvm hw hB hz1 hk1 hS1 => kk x H1 locs1 hw ?_ ?_ hS1)
  · obtain ⟨hP1, _, hD1⟩ := hB
    rw [ht] at hP1
    exact (va_join (wr := wr) hP hD isC isR hC hR hnR hdis hk1 hFc hP1 hD1).1
  · obtain ⟨hP1, _, hD1⟩ := hB
    rw [ht] at hP1
    exact (va_join (wr := wr) hP hD isC isR hC hR hnR hdis hk1 hFc hP1 hD1).2
theorem wrVi1 {post : Int32 → X → Prop} (S : CallFix p m c cc nL s args wsL_law own) (hM : Met l y (Cond.code y bytes maxL ret :: wsL_law) rm (wrP1 D tys wc H.size (.ref b :: As)) (va_Qi post (atW D tys (va_A wc H.size) w1) (va_A wc H.size)) mc ms (va_A wc H.size)) (hP : va_P D vwCl ws H) (hD : va_D A ws) (hS : va_S A H0 H locs) (hA : ∀ q, H0.size ≤ q → A q) (hK : va_K D vwCl tys s) (hN : kN s) (isC isR : List Nat) (hC : isC.map (fun i => ws[i]?) = wc.map some) (hR : isR.map (fun i => ws[i]?) = wr.map some) (hnC : va_nd isC = true) (hnR : va_nd isR = true) (hdis : ∀ i ∈ isR, i ∉ isC) (cw : CallW R s args own C index y bytes maxL ret (Cond.code y bytes maxL ret :: wsL_law) rm mc ms n) (q0 ci : Nat) {q : vw_C} {fs : List Value} (hc : vwCl[ci]? = some q) (hCl : q.1 = C) (he : wc[q0]? = some (b, .inr (ci, fs))) (hn : As.length = n) (hsz : ls.size = nL) (hst : st0 = As.reverse ++ .ref b :: rest) (hW : (rest.map fun v => v.category).sum ≤ 8) (hf : cells + mc ≤ R.cells ∧ slots + ms ≤ R.slots) (hdg : decode cc pc = .ok (.invokevirtual index, 3)) (kk : ∀ (r : Int32) (x : X) (H1 : Heap) (locs1 : List Loc), post r x → va_P D vwCl (wr ++ w1 x) H1 → va_D A (wr ++ w1 x) → va_S A H0 H1 locs1 → W p l e R s m args below meth c H1 locs1 (cells + mc) (slots + ms) Q (F0 m (pc + 3) ls (.int r :: rest))) : W p l e R s m args below meth c H locs cells slots Q (F0 m pc ls st0) := by
  subst hCl
  subst hst
  have hPc : va_P D vwCl wc H := hP.sub isC (va_fm hC)
  have hDc : va_D A wc := hD.sub isC hnC hC
  have hFc := va_free (wc := wc) hD hS hA isC hC
  refine va_calli (va_runV (rest := rest) S hM cw ⟨wrBl1, va_recv hK hPc hc he, fun U hU hW1 => ⟨rfl, by rw [hU], by rw [hU]; exact hPc, va_K.moved hW1.alike hK, hDc.weaken (fun _ _ _ _ => trivial), kN.warm hW1 hN⟩⟩ rfl hn hsz rfl (lv_room hW) hdg hf) hS (fun q _ h => hFc q h) hFc (fun r x t H1 locs1 ht hvm hw hB hz1 hk1 hS1 => kk r x H1 locs1 hw ?_ ?_ hS1)
  · obtain ⟨hP1, _, hD1⟩ := hB
    rw [ht] at hP1
    exact (va_join (wr := wr) hP hD isC isR hC hR hnR hdis hk1 hFc hP1 hD1).1
  · obtain ⟨hP1, _, hD1⟩ := hB
    rw [ht] at hP1
    exact (va_join (wr := wr) hP hD isC isR hC hR hnR hdis hk1 hFc hP1 hD1).2
theorem wrVl1 {post : Int64 → X → Prop} (S : CallFix p m c cc nL s args wsL_law own) (hM : Met l y (Cond.code y bytes maxL ret :: wsL_law) rm (wrP1 D tys wc H.size (.ref b :: As)) (va_Ql post (atW D tys (va_A wc H.size) w1) (va_A wc H.size)) mc ms (va_A wc H.size)) (hP : va_P D vwCl ws H) (hD : va_D A ws) (hS : va_S A H0 H locs) (hA : ∀ q, H0.size ≤ q → A q) (hK : va_K D vwCl tys s) (hN : kN s) (isC isR : List Nat) (hC : isC.map (fun i => ws[i]?) = wc.map some) (hR : isR.map (fun i => ws[i]?) = wr.map some) (hnC : va_nd isC = true) (hnR : va_nd isR = true) (hdis : ∀ i ∈ isR, i ∉ isC) (cw : CallW R s args own C index y bytes maxL ret (Cond.code y bytes maxL ret :: wsL_law) rm mc ms n) (q0 ci : Nat) {q : vw_C} {fs : List Value} (hc : vwCl[ci]? = some q) (hCl : q.1 = C) (he : wc[q0]? = some (b, .inr (ci, fs))) (hn : As.length = n) (hsz : ls.size = nL) (hst : st0 = As.reverse ++ .ref b :: rest) (hW : (rest.map fun v => v.category).sum ≤ 8) (hf : cells + mc ≤ R.cells ∧ slots + ms ≤ R.slots) (hdg : decode cc pc = .ok (.invokevirtual index, 3)) (kk : ∀ (r : Int64) (x : X) (H1 : Heap) (locs1 : List Loc), post r x → va_P D vwCl (wr ++ w1 x) H1 → va_D A (wr ++ w1 x) → va_S A H0 H1 locs1 → W p l e R s m args below meth c H1 locs1 (cells + mc) (slots + ms) Q (F0 m (pc + 3) ls (.long r :: rest))) : W p l e R s m args below meth c H locs cells slots Q (F0 m pc ls st0) := by
  subst hCl
  subst hst
  have hPc : va_P D vwCl wc H := hP.sub isC (va_fm hC)
  have hDc : va_D A wc := hD.sub isC hnC hC
  have hFc := va_free (wc := wc) hD hS hA isC hC
  refine va_calll (va_runV (rest := rest) S hM cw ⟨wrBl1, va_recv hK hPc hc he, fun U hU hW1 => ⟨rfl, by rw [hU], by rw [hU]; exact hPc, va_K.moved hW1.alike hK, hDc.weaken (fun _ _ _ _ => trivial), kN.warm hW1 hN⟩⟩ rfl hn hsz rfl (lv_room hW) hdg hf) hS (fun q _ h => hFc q h) hFc (fun r x t H1 locs1 ht hvm hw hB hz1 hk1 hS1 => kk r x H1 locs1 hw ?_ ?_ hS1)
  · obtain ⟨hP1, _, hD1⟩ := hB
    rw [ht] at hP1
    exact (va_join (wr := wr) hP hD isC isR hC hR hnR hdis hk1 hFc hP1 hD1).1
  · obtain ⟨hP1, _, hD1⟩ := hB
    rw [ht] at hP1
    exact (va_join (wr := wr) hP hD isC isR hC hR hnR hdis hk1 hFc hP1 hD1).2
theorem wrSv1 {post : X → Prop} (S : CallFix p m c cc nL s args wsL_law own) (hM : Met l y (Cond.code y bytes maxL ret :: wsL_law) rm (wrP1 D tys wc H.size As) (va_Qv post (atW D tys (va_A wc H.size) w1) (va_A wc H.size)) mc ms (va_A wc H.size)) (hP : va_P D vwCl ws H) (hD : va_D A ws) (hS : va_S A H0 H locs) (hA : ∀ q, H0.size ≤ q → A q) (hK : va_K D vwCl tys s) (hN : kN s) (isC isR : List Nat) (hC : isC.map (fun i => ws[i]?) = wc.map some) (hR : isR.map (fun i => ws[i]?) = wr.map some) (hnC : va_nd isC = true) (hnR : va_nd isR = true) (hdis : ∀ i ∈ isR, i ∉ isC) (cw : CallB R s args own index y bytes maxL ret (Cond.code y bytes maxL ret :: wsL_law) rm mc ms n ∧ (Cond.static y).before args s = true)  (hn : As.length = n) (hsz : ls.size = nL) (hst : st0 = As.reverse ++ rest) (hW : (rest.map fun v => v.category).sum ≤ 8) (hf : cells + mc ≤ R.cells ∧ slots + ms ≤ R.slots) (hdg : decode cc pc = .ok (.invokestatic index, 3)) (kk : ∀ (x : X) (H1 : Heap) (locs1 : List Loc), post x → va_P D vwCl (wr ++ w1 x) H1 → va_D A (wr ++ w1 x) → va_S A H0 H1 locs1 → W p l e R s m args below meth c H1 locs1 (cells + mc) (slots + ms) Q (F0 m (pc + 3) ls (rest))) : W p l e R s m args below meth c H locs cells slots Q (F0 m pc ls st0) := by
  skip
  subst hst
  have hPc : va_P D vwCl wc H := hP.sub isC (va_fm hC)
  have hDc : va_D A wc := hD.sub isC hnC hC
  have hFc := va_free (wc := wc) hD hS hA isC hC
  refine va_callv (va_runS (rest := rest) S hM cw ⟨wrBl1, fun U hU hW1 => ⟨rfl, by rw [hU], by rw [hU]; exact hPc, va_K.moved hW1.alike hK, hDc.weaken (fun _ _ _ _ => trivial), kN.warm hW1 hN⟩⟩ rfl hn hsz rfl (lv_room hW) hdg hf) hS (fun q _ h => hFc q h) hFc (fun x t H1 locs1 ht hvm hw hB hz1 hk1 hS1 => kk x H1 locs1 hw ?_ ?_ hS1)
  · obtain ⟨hP1, _, hD1⟩ := hB
    rw [ht] at hP1
    exact (va_join (wr := wr) hP hD isC isR hC hR hnR hdis hk1 hFc hP1 hD1).1
  · obtain ⟨hP1, _, hD1⟩ := hB
    rw [ht] at hP1
    exact (va_join (wr := wr) hP hD isC isR hC hR hnR hdis hk1 hFc hP1 hD1).2
theorem wrSi1 {post : Int32 → X → Prop} (S : CallFix p m c cc nL s args wsL_law own) (hM : Met l y (Cond.code y bytes maxL ret :: wsL_law) rm (wrP1 D tys wc H.size As) (va_Qi post (atW D tys (va_A wc H.size) w1) (va_A wc H.size)) mc ms (va_A wc H.size)) (hP : va_P D vwCl ws H) (hD : va_D A ws) (hS : va_S A H0 H locs) (hA : ∀ q, H0.size ≤ q → A q) (hK : va_K D vwCl tys s) (hN : kN s) (isC isR : List Nat) (hC : isC.map (fun i => ws[i]?) = wc.map some) (hR : isR.map (fun i => ws[i]?) = wr.map some) (hnC : va_nd isC = true) (hnR : va_nd isR = true) (hdis : ∀ i ∈ isR, i ∉ isC) (cw : CallB R s args own index y bytes maxL ret (Cond.code y bytes maxL ret :: wsL_law) rm mc ms n ∧ (Cond.static y).before args s = true)  (hn : As.length = n) (hsz : ls.size = nL) (hst : st0 = As.reverse ++ rest) (hW : (rest.map fun v => v.category).sum ≤ 8) (hf : cells + mc ≤ R.cells ∧ slots + ms ≤ R.slots) (hdg : decode cc pc = .ok (.invokestatic index, 3)) (kk : ∀ (r : Int32) (x : X) (H1 : Heap) (locs1 : List Loc), post r x → va_P D vwCl (wr ++ w1 x) H1 → va_D A (wr ++ w1 x) → va_S A H0 H1 locs1 → W p l e R s m args below meth c H1 locs1 (cells + mc) (slots + ms) Q (F0 m (pc + 3) ls (.int r :: rest))) : W p l e R s m args below meth c H locs cells slots Q (F0 m pc ls st0) := by
  skip
  subst hst
  have hPc : va_P D vwCl wc H := hP.sub isC (va_fm hC)
  have hDc : va_D A wc := hD.sub isC hnC hC
  have hFc := va_free (wc := wc) hD hS hA isC hC
  refine va_calli (va_runS (rest := rest) S hM cw ⟨wrBl1, fun U hU hW1 => ⟨rfl, by rw [hU], by rw [hU]; exact hPc, va_K.moved hW1.alike hK, hDc.weaken (fun _ _ _ _ => trivial), kN.warm hW1 hN⟩⟩ rfl hn hsz rfl (lv_room hW) hdg hf) hS (fun q _ h => hFc q h) hFc (fun r x t H1 locs1 ht hvm hw hB hz1 hk1 hS1 => kk r x H1 locs1 hw ?_ ?_ hS1)
  · obtain ⟨hP1, _, hD1⟩ := hB
    rw [ht] at hP1
    exact (va_join (wr := wr) hP hD isC isR hC hR hnR hdis hk1 hFc hP1 hD1).1
  · obtain ⟨hP1, _, hD1⟩ := hB
    rw [ht] at hP1
    exact (va_join (wr := wr) hP hD isC isR hC hR hnR hdis hk1 hFc hP1 hD1).2
theorem wrSl1 {post : Int64 → X → Prop} (S : CallFix p m c cc nL s args wsL_law own) (hM : Met l y (Cond.code y bytes maxL ret :: wsL_law) rm (wrP1 D tys wc H.size As) (va_Ql post (atW D tys (va_A wc H.size) w1) (va_A wc H.size)) mc ms (va_A wc H.size)) (hP : va_P D vwCl ws H) (hD : va_D A ws) (hS : va_S A H0 H locs) (hA : ∀ q, H0.size ≤ q → A q) (hK : va_K D vwCl tys s) (hN : kN s) (isC isR : List Nat) (hC : isC.map (fun i => ws[i]?) = wc.map some) (hR : isR.map (fun i => ws[i]?) = wr.map some) (hnC : va_nd isC = true) (hnR : va_nd isR = true) (hdis : ∀ i ∈ isR, i ∉ isC) (cw : CallB R s args own index y bytes maxL ret (Cond.code y bytes maxL ret :: wsL_law) rm mc ms n ∧ (Cond.static y).before args s = true)  (hn : As.length = n) (hsz : ls.size = nL) (hst : st0 = As.reverse ++ rest) (hW : (rest.map fun v => v.category).sum ≤ 8) (hf : cells + mc ≤ R.cells ∧ slots + ms ≤ R.slots) (hdg : decode cc pc = .ok (.invokestatic index, 3)) (kk : ∀ (r : Int64) (x : X) (H1 : Heap) (locs1 : List Loc), post r x → va_P D vwCl (wr ++ w1 x) H1 → va_D A (wr ++ w1 x) → va_S A H0 H1 locs1 → W p l e R s m args below meth c H1 locs1 (cells + mc) (slots + ms) Q (F0 m (pc + 3) ls (.long r :: rest))) : W p l e R s m args below meth c H locs cells slots Q (F0 m pc ls st0) := by
  skip
  subst hst
  have hPc : va_P D vwCl wc H := hP.sub isC (va_fm hC)
  have hDc : va_D A wc := hD.sub isC hnC hC
  have hFc := va_free (wc := wc) hD hS hA isC hC
  refine va_calll (va_runS (rest := rest) S hM cw ⟨wrBl1, fun U hU hW1 => ⟨rfl, by rw [hU], by rw [hU]; exact hPc, va_K.moved hW1.alike hK, hDc.weaken (fun _ _ _ _ => trivial), kN.warm hW1 hN⟩⟩ rfl hn hsz rfl (lv_room hW) hdg hf) hS (fun q _ h => hFc q h) hFc (fun r x t H1 locs1 ht hvm hw hB hz1 hk1 hS1 => kk r x H1 locs1 hw ?_ ?_ hS1)
  · obtain ⟨hP1, _, hD1⟩ := hB
    rw [ht] at hP1
    exact (va_join (wr := wr) hP hD isC isR hC hR hnR hdis hk1 hFc hP1 hD1).1
  · obtain ⟨hP1, _, hD1⟩ := hB
    rw [ht] at hP1
    exact (va_join (wr := wr) hP hD isC isR hC hR hnR hdis hk1 hFc hP1 hD1).2
theorem wrIv1 {post : X → Prop} (S : CallFix p m c cc nL s args wsL_law own) (hM : Met l y (Cond.code y bytes maxL none :: wsL_law) rm (wrP1 D tys wc H.size (.ref b :: As)) (va_Qv post (atW D tys (va_A wc H.size) w1) (va_A wc H.size)) mc ms (va_A wc H.size)) (hP : va_P D vwCl ws H) (hD : va_D A ws) (hS : va_S A H0 H locs) (hA : ∀ q, H0.size ≤ q → A q) (hK : va_K D vwCl tys s) (hN : kN s) (isC isR : List Nat) (hC : isC.map (fun i => ws[i]?) = wc.map some) (hR : isR.map (fun i => ws[i]?) = wr.map some) (hnC : va_nd isC = true) (hnR : va_nd isR = true) (hdis : ∀ i ∈ isR, i ∉ isC) (cw : CallB R s args own index y bytes maxL none (Cond.code y bytes maxL none :: wsL_law) rm mc ms n ∧ y.name = "<init>" ∧ (Cond.instanceMethod y).before args s = true)  (hn : As.length = n) (hsz : ls.size = nL) (hst : st0 = As.reverse ++ .ref b :: rest) (hW : (rest.map fun v => v.category).sum ≤ 8) (hf : cells + mc ≤ R.cells ∧ slots + ms ≤ R.slots) (hdg : decode cc pc = .ok (.invokespecial index, 3)) (kk : ∀ (x : X) (H1 : Heap) (locs1 : List Loc), post x → va_P D vwCl (wr ++ w1 x) H1 → va_D A (wr ++ w1 x) → va_S A H0 H1 locs1 → W p l e R s m args below meth c H1 locs1 (cells + mc) (slots + ms) Q (F0 m (pc + 3) ls (rest))) : W p l e R s m args below meth c H locs cells slots Q (F0 m pc ls st0) := by
  skip
  subst hst
  have hPc : va_P D vwCl wc H := hP.sub isC (va_fm hC)
  have hDc : va_D A wc := hD.sub isC hnC hC
  have hFc := va_free (wc := wc) hD hS hA isC hC
  refine va_callv (va_runI (rest := rest) S hM cw ⟨wrBl1, fun U hU hW1 => ⟨rfl, by rw [hU], by rw [hU]; exact hPc, va_K.moved hW1.alike hK, hDc.weaken (fun _ _ _ _ => trivial), kN.warm hW1 hN⟩⟩ rfl hn hsz rfl (lv_room hW) hdg hf) hS (fun q _ h => hFc q h) hFc (fun x t H1 locs1 ht hvm hw hB hz1 hk1 hS1 => kk x H1 locs1 hw ?_ ?_ hS1)
  · obtain ⟨hP1, _, hD1⟩ := hB
    rw [ht] at hP1
    exact (va_join (wr := wr) hP hD isC isR hC hR hnR hdis hk1 hFc hP1 hD1).1
  · obtain ⟨hP1, _, hD1⟩ := hB
    rw [ht] at hP1
    exact (va_join (wr := wr) hP hD isC isR hC hR hnR hdis hk1 hFc hP1 hD1).2
theorem wrINv1 {host : String} {post : X → Prop} (S : CallFix p m c cc nL s args wsL_law own) (hM : Met l y (Cond.code y bytes maxL none :: wsL_law) rm (wrP1 D tys wc H.size (.ref b :: As)) (va_Qv post (atW D tys (va_A wc H.size) w1) (va_A wc H.size)) mc ms (va_A wc H.size)) (hP : va_P D vwCl ws H) (hD : va_D A ws) (hS : va_S A H0 H locs) (hA : ∀ q, H0.size ≤ q → A q) (hK : va_K D vwCl tys s) (hN : kN s) (isC isR : List Nat) (hC : isC.map (fun i => ws[i]?) = wc.map some) (hR : isR.map (fun i => ws[i]?) = wr.map some) (hnC : va_nd isC = true) (hnR : va_nd isR = true) (hdis : ∀ i ∈ isR, i ∉ isC) (cw : va_CN R s args own index y host bytes maxL none (Cond.code y bytes maxL none :: wsL_law) rm mc ms n ∧ y.name = "<init>" ∧ (Cond.instanceMethod y).before args s = true)  (hn : As.length = n) (hsz : ls.size = nL) (hst : st0 = As.reverse ++ .ref b :: rest) (hW : (rest.map fun v => v.category).sum ≤ 8) (hf : cells + mc ≤ R.cells ∧ slots + ms ≤ R.slots) (hdg : decode cc pc = .ok (.invokespecial index, 3)) (kk : ∀ (x : X) (H1 : Heap) (locs1 : List Loc), post x → va_P D vwCl (wr ++ w1 x) H1 → va_D A (wr ++ w1 x) → va_S A H0 H1 locs1 → W p l e R s m args below meth c H1 locs1 (cells + mc) (slots + ms) Q (F0 m (pc + 3) ls (rest))) : W p l e R s m args below meth c H locs cells slots Q (F0 m pc ls st0) := by
  skip
  subst hst
  have hPc : va_P D vwCl wc H := hP.sub isC (va_fm hC)
  have hDc : va_D A wc := hD.sub isC hnC hC
  have hFc := va_free (wc := wc) hD hS hA isC hC
  refine va_callv (va_runIN (rest := rest) S hM cw ⟨wrBl1, fun U hU hW1 => ⟨rfl, by rw [hU], by rw [hU]; exact hPc, va_K.moved hW1.alike hK, hDc.weaken (fun _ _ _ _ => trivial), kN.warm hW1 hN⟩⟩ rfl hn hsz rfl (lv_room hW) hdg hf) hS (fun q _ h => hFc q h) hFc (fun x t H1 locs1 ht hvm hw hB hz1 hk1 hS1 => kk x H1 locs1 hw ?_ ?_ hS1)
  · obtain ⟨hP1, _, hD1⟩ := hB
    rw [ht] at hP1
    exact (va_join (wr := wr) hP hD isC isR hC hR hnR hdis hk1 hFc hP1 hD1).1
  · obtain ⟨hP1, _, hD1⟩ := hB
    rw [ht] at hP1
    exact (va_join (wr := wr) hP hD isC isR hC hR hnR hdis hk1 hFc hP1 hD1).2
end ZI1
