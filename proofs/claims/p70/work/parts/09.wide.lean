/-- contents of an object's cells, by number: ints, longs, int arrays, long arrays, addresses that change -/
abbrev VX : Type := (Nat → Int32) × (Nat → Int64) × (Nat → Nat → Int32) × (Nat → Nat → Int64) × (Nat → Nat)
def upF {X : Type} (f : Nat → X) (k : Nat) (x : X) : Nat → X := fun j => if j = k then x else f j
theorem Mcons {l : Launch} {y : MethodName} {ws : List Cond} {rm : Room} {Pc Pc' : Array Value → State → Prop} {Qc Qc' : Array Value → State → Outcome → State → Prop} {mc ms : Nat} {free free' : Addr → Prop} (h : Met l y ws rm Pc Qc mc ms free) (hP : ∀ a s, Pc' a s → Pc a s) (hQ : ∀ a s o t, Pc' a s → Qc a s o t → Qc' a s o t) (hf : ∀ a s, Pc' a s → ∀ q, free q → free' q) : Met l y ws rm Pc' Qc' mc ms free' := by
  intro p e ha hc hk s m args below hfr happ hP' hK
  obtain ⟨n, o, h1, h2, h3, h4, L, h5, h6⟩ := h p e ha hc hk s m args below hfr happ (hP _ _ hP') hK
  exact ⟨n, o, h1, h2, h3, hQ _ _ _ _ hP' h4, L, h5, fun q hq => hf _ _ hP' _ (h6 q hq)⟩
section WID
variable {l : Launch} {y : MethodName} {cw : List Cond} {rm : Room} {G : Gho} {D : va_G} {tys : List (ClassId × FieldType)} {wc ws wr : va_W} {sz : Nat} {av : List Value} {X X' : Type} {w1 : X → va_W} {w1' : X' → va_W}
theorem widF (hD : va_D (fun q => G.1 ≤ q) ws) (isC : List Nat) (hC : isC.map (fun i => ws[i]?) = wc.map some) {H : Heap} : ∀ q, va_A wc H.size q → va_A ws H.size q := va_free (hD.self (sz := H.size)) va_S.rf (fun _ h => Or.inr h) isC hC
theorem widenI {post : Int32 → X → Prop} {post' : Int32 → X' → Prop} (hM : Met l y cw rm (wrP G D tys wc sz av) (va_Qi post (atW D tys (va_A wc sz) w1) (va_A wc sz)) 0 0 (va_A wc sz)) (isC isR isW : List Nat) (hC : isC.map (fun i => ws[i]?) = wc.map some) (hR : isR.map (fun i => ws[i]?) = wr.map some) (hnC : va_nd isC = true) (hnR : va_nd isR = true) (hdis : ∀ i ∈ isR, i ∉ isC) (hnW : va_nd isW = true)
    (conv : ∀ r x, post r x → ∃ x', post' r x' ∧ isW.map (fun i => (wr ++ w1 x)[i]?) = (w1' x').map some) : Met l y cw rm (wrP G D tys ws sz av) (va_Qi post' (atW D tys (va_A ws sz) w1') (va_A ws sz)) 0 0 (va_A ws sz) := by
  refine Mcons hM ?_ ?_ ?_
  · rintro a U ⟨rfl, hsz, hP, hK, hD, hN, hT, hG⟩
    exact ⟨rfl, hsz, hP.sub isC (va_fm hC), hK, hD.sub isC hnC hC, hN, hT, hG⟩
  · rintro a U o t ⟨rfl, hsz, hP, hK, hD, hN, hT, hG⟩ ⟨⟨r, x, ho, hp, hP1, hK1, hD1⟩, hF⟩
    subst hsz
    obtain ⟨x', hp', hW⟩ := conv r x hp
    have hFc := widF hD isC hC (H := U.heap)
    have hj := va_join (wr := wr) hP (hD.self (sz := U.heap.size)) isC isR hC hR hnR hdis hF.2 hFc hP1 hD1
    exact ⟨⟨r, x', ho, hp', hj.1.sub isW (va_fm hW), hK1, hj.2.sub isW hnW hW⟩, hF.1, fun q h1 h2 => hF.2 q h1 (fun z => h2 (hFc q z))⟩
  · rintro a U ⟨rfl, hsz, hP, hK, hD, hN, hT, hG⟩ q h
    subst hsz
    exact widF hD isC hC q h
theorem widenL {post : Int64 → X → Prop} {post' : Int64 → X' → Prop} (hM : Met l y cw rm (wrP G D tys wc sz av) (va_Ql post (atW D tys (va_A wc sz) w1) (va_A wc sz)) 0 0 (va_A wc sz)) (isC isR isW : List Nat) (hC : isC.map (fun i => ws[i]?) = wc.map some) (hR : isR.map (fun i => ws[i]?) = wr.map some) (hnC : va_nd isC = true) (hnR : va_nd isR = true) (hdis : ∀ i ∈ isR, i ∉ isC) (hnW : va_nd isW = true)
    (conv : ∀ r x, post r x → ∃ x', post' r x' ∧ isW.map (fun i => (wr ++ w1 x)[i]?) = (w1' x').map some) : Met l y cw rm (wrP G D tys ws sz av) (va_Ql post' (atW D tys (va_A ws sz) w1') (va_A ws sz)) 0 0 (va_A ws sz) := by
  refine Mcons hM ?_ ?_ ?_
  · rintro a U ⟨rfl, hsz, hP, hK, hD, hN, hT, hG⟩
    exact ⟨rfl, hsz, hP.sub isC (va_fm hC), hK, hD.sub isC hnC hC, hN, hT, hG⟩
  · rintro a U o t ⟨rfl, hsz, hP, hK, hD, hN, hT, hG⟩ ⟨⟨r, x, ho, hp, hP1, hK1, hD1⟩, hF⟩
    subst hsz
    obtain ⟨x', hp', hW⟩ := conv r x hp
    have hFc := widF hD isC hC (H := U.heap)
    have hj := va_join (wr := wr) hP (hD.self (sz := U.heap.size)) isC isR hC hR hnR hdis hF.2 hFc hP1 hD1
    exact ⟨⟨r, x', ho, hp', hj.1.sub isW (va_fm hW), hK1, hj.2.sub isW hnW hW⟩, hF.1, fun q h1 h2 => hF.2 q h1 (fun z => h2 (hFc q z))⟩
  · rintro a U ⟨rfl, hsz, hP, hK, hD, hN, hT, hG⟩ q h
    subst hsz
    exact widF hD isC hC q h
theorem widenV {post : X → Prop} {post' : X' → Prop} (hM : Met l y cw rm (wrP G D tys wc sz av) (va_Qv post (atW D tys (va_A wc sz) w1) (va_A wc sz)) 0 0 (va_A wc sz)) (isC isR isW : List Nat) (hC : isC.map (fun i => ws[i]?) = wc.map some) (hR : isR.map (fun i => ws[i]?) = wr.map some) (hnC : va_nd isC = true) (hnR : va_nd isR = true) (hdis : ∀ i ∈ isR, i ∉ isC) (hnW : va_nd isW = true)
    (conv : ∀ x, post x → ∃ x', post' x' ∧ isW.map (fun i => (wr ++ w1 x)[i]?) = (w1' x').map some) : Met l y cw rm (wrP G D tys ws sz av) (va_Qv post' (atW D tys (va_A ws sz) w1') (va_A ws sz)) 0 0 (va_A ws sz) := by
  refine Mcons hM ?_ ?_ ?_
  · rintro a U ⟨rfl, hsz, hP, hK, hD, hN, hT, hG⟩
    exact ⟨rfl, hsz, hP.sub isC (va_fm hC), hK, hD.sub isC hnC hC, hN, hT, hG⟩
  · rintro a U o t ⟨rfl, hsz, hP, hK, hD, hN, hT, hG⟩ ⟨⟨x, ho, hp, hP1, hK1, hD1⟩, hF⟩
    subst hsz
    obtain ⟨x', hp', hW⟩ := conv x hp
    have hFc := widF hD isC hC (H := U.heap)
    have hj := va_join (wr := wr) hP (hD.self (sz := U.heap.size)) isC isR hC hR hnR hdis hF.2 hFc hP1 hD1
    exact ⟨⟨x', ho, hp', hj.1.sub isW (va_fm hW), hK1, hj.2.sub isW hnW hW⟩, hF.1, fun q h1 h2 => hF.2 q h1 (fun z => h2 (hFc q z))⟩
  · rintro a U ⟨rfl, hsz, hP, hK, hD, hN, hT, hG⟩ q h
    subst hsz
    exact widF hD isC hC q h
theorem widRo {Qc : Array Value → State → Outcome → State → Prop} (hM : Met l y cw rm (roP G D tys wc av) Qc 0 0 (fun _ => False)) (isC : List Nat) (hC : isC.map (fun i => ws[i]?) = wc.map some) : Met l y cw rm (roP G D tys ws av) Qc 0 0 (fun _ => False) := by
  refine Mcons hM ?_ (fun _ _ _ _ _ h => h) (fun _ _ _ _ h => h)
  rintro a U ⟨rfl, hP, hK, hN, hT⟩
  exact ⟨rfl, hP.sub isC (va_fm hC), hK, hN, hT⟩
end WID
/-- the cells of the object, one by one, and all -/
def xc0 (cB cI cJ cZ cS cT : ClassId) (x0 : Nat) (A : Nat → Nat) (V : VX) : Nat × va_E := (x0, .inr (11, [.ref (A 0), .ref (A 2), .ref (A 10), .ref (A 17), .ref (A 24), .ref (A 46), .ref (A 47), .ref (A 56), .ref (A 61), .ref (A 66), .ref (A 70), .ref (A 72), .ref (A 86), .ref (A 89)]))
def xc1 (cB cI cJ cZ cS cT : ClassId) (x0 : Nat) (A : Nat → Nat) (V : VX) : Nat × va_E := ((A 0), .inr (9, [.ref (A 1), .int (V.1 0)]))
def xc2 (cB cI cJ cZ cS cT : ClassId) (x0 : Nat) (A : Nat → Nat) (V : VX) : Nat × va_E := ((A 1), .inl (cB, 500, .inl (V.2.2.1 0)))
def xc3 (cB cI cJ cZ cS cT : ClassId) (x0 : Nat) (A : Nat → Nat) (V : VX) : Nat × va_E := ((A 2), .inr (6, [.ref (A 3), .int (V.1 1), .int (V.1 2), .int (V.1 3), .int (V.1 4), .int (V.1 5), .int (V.1 6)]))
def xc4 (cB cI cJ cZ cS cT : ClassId) (x0 : Nat) (A : Nat → Nat) (V : VX) : Nat × va_E := ((A 3), .inr (8, [.int (V.1 7), .int (V.1 8), .int (V.1 9), .int (V.1 10), .int (V.1 11), .int (V.1 12), .int (V.1 13), .ref (A 4), .int (V.1 14), .ref (A 5), .int (V.1 15), .ref (A 6)]))
def xc5 (cB cI cJ cZ cS cT : ClassId) (x0 : Nat) (A : Nat → Nat) (V : VX) : Nat × va_E := ((A 4), .inl (cI, 8, .inl (V.2.2.1 1)))
def xc6 (cB cI cJ cZ cS cT : ClassId) (x0 : Nat) (A : Nat → Nat) (V : VX) : Nat × va_E := ((A 5), .inl (cI, 5, .inl (V.2.2.1 2)))
def xc7 (cB cI cJ cZ cS cT : ClassId) (x0 : Nat) (A : Nat → Nat) (V : VX) : Nat × va_E := ((A 6), .inr (0, [.ref (A 7), .ref (A 8), .ref (A 9), .int (V.1 16)]))
def xc8 (cB cI cJ cZ cS cT : ClassId) (x0 : Nat) (A : Nat → Nat) (V : VX) : Nat × va_E := ((A 7), .inl (cI, 61, .inl (V.2.2.1 3)))
def xc9 (cB cI cJ cZ cS cT : ClassId) (x0 : Nat) (A : Nat → Nat) (V : VX) : Nat × va_E := ((A 8), .inl (cI, 30, .inl (V.2.2.1 4)))
def xc10 (cB cI cJ cZ cS cT : ClassId) (x0 : Nat) (A : Nat → Nat) (V : VX) : Nat × va_E := ((A 9), .inl (cI, 30, .inl (V.2.2.1 5)))
def xc11 (cB cI cJ cZ cS cT : ClassId) (x0 : Nat) (A : Nat → Nat) (V : VX) : Nat × va_E := ((A 10), .inr (8, [.int (V.1 17), .int (V.1 18), .int (V.1 19), .int (V.1 20), .int (V.1 21), .int (V.1 22), .int (V.1 23), .ref (A 11), .int (V.1 24), .ref (A 12), .int (V.1 25), .ref (A 13)]))
def xc12 (cB cI cJ cZ cS cT : ClassId) (x0 : Nat) (A : Nat → Nat) (V : VX) : Nat × va_E := ((A 11), .inl (cI, 8, .inl (V.2.2.1 6)))
def xc13 (cB cI cJ cZ cS cT : ClassId) (x0 : Nat) (A : Nat → Nat) (V : VX) : Nat × va_E := ((A 12), .inl (cI, 5, .inl (V.2.2.1 7)))
def xc14 (cB cI cJ cZ cS cT : ClassId) (x0 : Nat) (A : Nat → Nat) (V : VX) : Nat × va_E := ((A 13), .inr (0, [.ref (A 14), .ref (A 15), .ref (A 16), .int (V.1 26)]))
def xc15 (cB cI cJ cZ cS cT : ClassId) (x0 : Nat) (A : Nat → Nat) (V : VX) : Nat × va_E := ((A 14), .inl (cI, 61, .inl (V.2.2.1 8)))
def xc16 (cB cI cJ cZ cS cT : ClassId) (x0 : Nat) (A : Nat → Nat) (V : VX) : Nat × va_E := ((A 15), .inl (cI, 30, .inl (V.2.2.1 9)))
def xc17 (cB cI cJ cZ cS cT : ClassId) (x0 : Nat) (A : Nat → Nat) (V : VX) : Nat × va_E := ((A 16), .inl (cI, 30, .inl (V.2.2.1 10)))
def xc18 (cB cI cJ cZ cS cT : ClassId) (x0 : Nat) (A : Nat → Nat) (V : VX) : Nat × va_E := ((A 17), .inr (8, [.int (V.1 27), .int (V.1 28), .int (V.1 29), .int (V.1 30), .int (V.1 31), .int (V.1 32), .int (V.1 33), .ref (A 18), .int (V.1 34), .ref (A 19), .int (V.1 35), .ref (A 20)]))
def xc19 (cB cI cJ cZ cS cT : ClassId) (x0 : Nat) (A : Nat → Nat) (V : VX) : Nat × va_E := ((A 18), .inl (cI, 8, .inl (V.2.2.1 11)))
def xc20 (cB cI cJ cZ cS cT : ClassId) (x0 : Nat) (A : Nat → Nat) (V : VX) : Nat × va_E := ((A 19), .inl (cI, 5, .inl (V.2.2.1 12)))
def xc21 (cB cI cJ cZ cS cT : ClassId) (x0 : Nat) (A : Nat → Nat) (V : VX) : Nat × va_E := ((A 20), .inr (0, [.ref (A 21), .ref (A 22), .ref (A 23), .int (V.1 36)]))
def xc22 (cB cI cJ cZ cS cT : ClassId) (x0 : Nat) (A : Nat → Nat) (V : VX) : Nat × va_E := ((A 21), .inl (cI, 61, .inl (V.2.2.1 13)))
def xc23 (cB cI cJ cZ cS cT : ClassId) (x0 : Nat) (A : Nat → Nat) (V : VX) : Nat × va_E := ((A 22), .inl (cI, 30, .inl (V.2.2.1 14)))
def xc24 (cB cI cJ cZ cS cT : ClassId) (x0 : Nat) (A : Nat → Nat) (V : VX) : Nat × va_E := ((A 23), .inl (cI, 30, .inl (V.2.2.1 15)))
def xc25 (cB cI cJ cZ cS cT : ClassId) (x0 : Nat) (A : Nat → Nat) (V : VX) : Nat × va_E := ((A 24), .inl (cT, 3, .inr (.inr (.inr (.inr (va_up (va_up (va_up (fun _ => none) 0 (some (A 25))) 1 (some (A 32))) 2 (some (A 39))))))))
def xc26 (cB cI cJ cZ cS cT : ClassId) (x0 : Nat) (A : Nat → Nat) (V : VX) : Nat × va_E := ((A 25), .inr (8, [.int (V.1 37), .int (V.1 38), .int (V.1 39), .int (V.1 40), .int (V.1 41), .int (V.1 42), .int (V.1 43), .ref (A 26), .int (V.1 44), .ref (A 27), .int (V.1 45), .ref (A 28)]))
def xc27 (cB cI cJ cZ cS cT : ClassId) (x0 : Nat) (A : Nat → Nat) (V : VX) : Nat × va_E := ((A 26), .inl (cI, 8, .inl (V.2.2.1 16)))
def xc28 (cB cI cJ cZ cS cT : ClassId) (x0 : Nat) (A : Nat → Nat) (V : VX) : Nat × va_E := ((A 27), .inl (cI, 5, .inl (V.2.2.1 17)))
def xc29 (cB cI cJ cZ cS cT : ClassId) (x0 : Nat) (A : Nat → Nat) (V : VX) : Nat × va_E := ((A 28), .inr (0, [.ref (A 29), .ref (A 30), .ref (A 31), .int (V.1 46)]))
def xc30 (cB cI cJ cZ cS cT : ClassId) (x0 : Nat) (A : Nat → Nat) (V : VX) : Nat × va_E := ((A 29), .inl (cI, 61, .inl (V.2.2.1 18)))
def xc31 (cB cI cJ cZ cS cT : ClassId) (x0 : Nat) (A : Nat → Nat) (V : VX) : Nat × va_E := ((A 30), .inl (cI, 30, .inl (V.2.2.1 19)))
def xc32 (cB cI cJ cZ cS cT : ClassId) (x0 : Nat) (A : Nat → Nat) (V : VX) : Nat × va_E := ((A 31), .inl (cI, 30, .inl (V.2.2.1 20)))
def xc33 (cB cI cJ cZ cS cT : ClassId) (x0 : Nat) (A : Nat → Nat) (V : VX) : Nat × va_E := ((A 32), .inr (8, [.int (V.1 47), .int (V.1 48), .int (V.1 49), .int (V.1 50), .int (V.1 51), .int (V.1 52), .int (V.1 53), .ref (A 33), .int (V.1 54), .ref (A 34), .int (V.1 55), .ref (A 35)]))
def xc34 (cB cI cJ cZ cS cT : ClassId) (x0 : Nat) (A : Nat → Nat) (V : VX) : Nat × va_E := ((A 33), .inl (cI, 8, .inl (V.2.2.1 21)))
def xc35 (cB cI cJ cZ cS cT : ClassId) (x0 : Nat) (A : Nat → Nat) (V : VX) : Nat × va_E := ((A 34), .inl (cI, 5, .inl (V.2.2.1 22)))
def xc36 (cB cI cJ cZ cS cT : ClassId) (x0 : Nat) (A : Nat → Nat) (V : VX) : Nat × va_E := ((A 35), .inr (0, [.ref (A 36), .ref (A 37), .ref (A 38), .int (V.1 56)]))
def xc37 (cB cI cJ cZ cS cT : ClassId) (x0 : Nat) (A : Nat → Nat) (V : VX) : Nat × va_E := ((A 36), .inl (cI, 61, .inl (V.2.2.1 23)))
def xc38 (cB cI cJ cZ cS cT : ClassId) (x0 : Nat) (A : Nat → Nat) (V : VX) : Nat × va_E := ((A 37), .inl (cI, 30, .inl (V.2.2.1 24)))
def xc39 (cB cI cJ cZ cS cT : ClassId) (x0 : Nat) (A : Nat → Nat) (V : VX) : Nat × va_E := ((A 38), .inl (cI, 30, .inl (V.2.2.1 25)))
def xc40 (cB cI cJ cZ cS cT : ClassId) (x0 : Nat) (A : Nat → Nat) (V : VX) : Nat × va_E := ((A 39), .inr (8, [.int (V.1 57), .int (V.1 58), .int (V.1 59), .int (V.1 60), .int (V.1 61), .int (V.1 62), .int (V.1 63), .ref (A 40), .int (V.1 64), .ref (A 41), .int (V.1 65), .ref (A 42)]))
def xc41 (cB cI cJ cZ cS cT : ClassId) (x0 : Nat) (A : Nat → Nat) (V : VX) : Nat × va_E := ((A 40), .inl (cI, 8, .inl (V.2.2.1 26)))
def xc42 (cB cI cJ cZ cS cT : ClassId) (x0 : Nat) (A : Nat → Nat) (V : VX) : Nat × va_E := ((A 41), .inl (cI, 5, .inl (V.2.2.1 27)))
def xc43 (cB cI cJ cZ cS cT : ClassId) (x0 : Nat) (A : Nat → Nat) (V : VX) : Nat × va_E := ((A 42), .inr (0, [.ref (A 43), .ref (A 44), .ref (A 45), .int (V.1 66)]))
def xc44 (cB cI cJ cZ cS cT : ClassId) (x0 : Nat) (A : Nat → Nat) (V : VX) : Nat × va_E := ((A 43), .inl (cI, 61, .inl (V.2.2.1 28)))
def xc45 (cB cI cJ cZ cS cT : ClassId) (x0 : Nat) (A : Nat → Nat) (V : VX) : Nat × va_E := ((A 44), .inl (cI, 30, .inl (V.2.2.1 29)))
def xc46 (cB cI cJ cZ cS cT : ClassId) (x0 : Nat) (A : Nat → Nat) (V : VX) : Nat × va_E := ((A 45), .inl (cI, 30, .inl (V.2.2.1 30)))
def xc47 (cB cI cJ cZ cS cT : ClassId) (x0 : Nat) (A : Nat → Nat) (V : VX) : Nat × va_E := ((A 46), .inl (cZ, 3, .inl (V.2.2.1 31)))
def xc48 (cB cI cJ cZ cS cT : ClassId) (x0 : Nat) (A : Nat → Nat) (V : VX) : Nat × va_E := ((A 47), .inl (cS, 4, .inr (.inr (.inr (.inr (va_up (va_up (va_up (va_up (fun _ => none) 0 (some (A 48))) 1 (some (A 50))) 2 (some (A 52))) 3 (some (A 54))))))))
def xc49 (cB cI cJ cZ cS cT : ClassId) (x0 : Nat) (A : Nat → Nat) (V : VX) : Nat × va_E := ((A 48), .inr (7, [.ref (A 49), .int (V.1 67), .int (V.1 68), .int (V.1 69)]))
def xc50 (cB cI cJ cZ cS cT : ClassId) (x0 : Nat) (A : Nat → Nat) (V : VX) : Nat × va_E := ((A 49), .inl (cJ, 60, .inr (.inl (V.2.2.2.1 0))))
def xc51 (cB cI cJ cZ cS cT : ClassId) (x0 : Nat) (A : Nat → Nat) (V : VX) : Nat × va_E := ((A 50), .inr (7, [.ref (A 51), .int (V.1 70), .int (V.1 71), .int (V.1 72)]))
def xc52 (cB cI cJ cZ cS cT : ClassId) (x0 : Nat) (A : Nat → Nat) (V : VX) : Nat × va_E := ((A 51), .inl (cJ, 60, .inr (.inl (V.2.2.2.1 1))))
def xc53 (cB cI cJ cZ cS cT : ClassId) (x0 : Nat) (A : Nat → Nat) (V : VX) : Nat × va_E := ((A 52), .inr (7, [.ref (A 53), .int (V.1 73), .int (V.1 74), .int (V.1 75)]))
def xc54 (cB cI cJ cZ cS cT : ClassId) (x0 : Nat) (A : Nat → Nat) (V : VX) : Nat × va_E := ((A 53), .inl (cJ, 60, .inr (.inl (V.2.2.2.1 2))))
def xc55 (cB cI cJ cZ cS cT : ClassId) (x0 : Nat) (A : Nat → Nat) (V : VX) : Nat × va_E := ((A 54), .inr (7, [.ref (A 55), .int (V.1 76), .int (V.1 77), .int (V.1 78)]))
def xc56 (cB cI cJ cZ cS cT : ClassId) (x0 : Nat) (A : Nat → Nat) (V : VX) : Nat × va_E := ((A 55), .inl (cJ, 60, .inr (.inl (V.2.2.2.1 3))))
def xc57 (cB cI cJ cZ cS cT : ClassId) (x0 : Nat) (A : Nat → Nat) (V : VX) : Nat × va_E := ((A 56), .inr (4, [.ref (A 57), .ref (A 58), .ref (A 59), .ref (A 60)]))
def xc58 (cB cI cJ cZ cS cT : ClassId) (x0 : Nat) (A : Nat → Nat) (V : VX) : Nat × va_E := ((A 57), .inl (cI, 61, .inl (V.2.2.1 32)))
def xc59 (cB cI cJ cZ cS cT : ClassId) (x0 : Nat) (A : Nat → Nat) (V : VX) : Nat × va_E := ((A 58), .inl (cI, 61, .inl (V.2.2.1 33)))
def xc60 (cB cI cJ cZ cS cT : ClassId) (x0 : Nat) (A : Nat → Nat) (V : VX) : Nat × va_E := ((A 59), .inl (cI, 61, .inl (V.2.2.1 34)))
def xc61 (cB cI cJ cZ cS cT : ClassId) (x0 : Nat) (A : Nat → Nat) (V : VX) : Nat × va_E := ((A 60), .inl (cZ, 61, .inl (V.2.2.1 35)))
def xc62 (cB cI cJ cZ cS cT : ClassId) (x0 : Nat) (A : Nat → Nat) (V : VX) : Nat × va_E := ((A 61), .inr (4, [.ref (A 62), .ref (A 63), .ref (A 64), .ref (A 65)]))
def xc63 (cB cI cJ cZ cS cT : ClassId) (x0 : Nat) (A : Nat → Nat) (V : VX) : Nat × va_E := ((A 62), .inl (cI, 61, .inl (V.2.2.1 36)))
def xc64 (cB cI cJ cZ cS cT : ClassId) (x0 : Nat) (A : Nat → Nat) (V : VX) : Nat × va_E := ((A 63), .inl (cI, 61, .inl (V.2.2.1 37)))
def xc65 (cB cI cJ cZ cS cT : ClassId) (x0 : Nat) (A : Nat → Nat) (V : VX) : Nat × va_E := ((A 64), .inl (cI, 61, .inl (V.2.2.1 38)))
def xc66 (cB cI cJ cZ cS cT : ClassId) (x0 : Nat) (A : Nat → Nat) (V : VX) : Nat × va_E := ((A 65), .inl (cZ, 61, .inl (V.2.2.1 39)))
def xc67 (cB cI cJ cZ cS cT : ClassId) (x0 : Nat) (A : Nat → Nat) (V : VX) : Nat × va_E := ((A 66), .inr (1, [.ref (A 67), .ref (A 68), .ref (A 69), .int (V.1 79), .int (V.1 80)]))
def xc68 (cB cI cJ cZ cS cT : ClassId) (x0 : Nat) (A : Nat → Nat) (V : VX) : Nat × va_E := ((A 67), .inl (cI, 648, .inl (V.2.2.1 40)))
def xc69 (cB cI cJ cZ cS cT : ClassId) (x0 : Nat) (A : Nat → Nat) (V : VX) : Nat × va_E := ((A 68), .inl (cI, 648, .inl (V.2.2.1 41)))
def xc70 (cB cI cJ cZ cS cT : ClassId) (x0 : Nat) (A : Nat → Nat) (V : VX) : Nat × va_E := ((A 69), .inl (cZ, 648, .inl (V.2.2.1 42)))
def xc71 (cB cI cJ cZ cS cT : ClassId) (x0 : Nat) (A : Nat → Nat) (V : VX) : Nat × va_E := ((A 70), .inr (10, [.ref (V.2.2.2.2 0), .ref (V.2.2.2.2 1), .ref (A 71)]))
def xc72 (cB cI cJ cZ cS cT : ClassId) (x0 : Nat) (A : Nat → Nat) (V : VX) : Nat × va_E := ((V.2.2.2.2 0), .inl (cI, 81, .inl (V.2.2.1 43)))
def xc73 (cB cI cJ cZ cS cT : ClassId) (x0 : Nat) (A : Nat → Nat) (V : VX) : Nat × va_E := ((V.2.2.2.2 1), .inl (cI, 81, .inl (V.2.2.1 44)))
def xc74 (cB cI cJ cZ cS cT : ClassId) (x0 : Nat) (A : Nat → Nat) (V : VX) : Nat × va_E := ((A 71), .inl (cI, 3321, .inl (V.2.2.1 45)))
def xc75 (cB cI cJ cZ cS cT : ClassId) (x0 : Nat) (A : Nat → Nat) (V : VX) : Nat × va_E := ((A 72), .inr (3, [.ref (A 73), .ref (A 80), .ref (A 85), .int (V.1 81), .int (V.1 82), .int (V.1 83), .int (V.1 84), .int (V.1 85)]))
def xc76 (cB cI cJ cZ cS cT : ClassId) (x0 : Nat) (A : Nat → Nat) (V : VX) : Nat × va_E := ((A 73), .inr (8, [.int (V.1 86), .int (V.1 87), .int (V.1 88), .int (V.1 89), .int (V.1 90), .int (V.1 91), .int (V.1 92), .ref (A 74), .int (V.1 93), .ref (A 75), .int (V.1 94), .ref (A 76)]))
def xc77 (cB cI cJ cZ cS cT : ClassId) (x0 : Nat) (A : Nat → Nat) (V : VX) : Nat × va_E := ((A 74), .inl (cI, 8, .inl (V.2.2.1 46)))
def xc78 (cB cI cJ cZ cS cT : ClassId) (x0 : Nat) (A : Nat → Nat) (V : VX) : Nat × va_E := ((A 75), .inl (cI, 5, .inl (V.2.2.1 47)))
def xc79 (cB cI cJ cZ cS cT : ClassId) (x0 : Nat) (A : Nat → Nat) (V : VX) : Nat × va_E := ((A 76), .inr (0, [.ref (A 77), .ref (A 78), .ref (A 79), .int (V.1 95)]))
def xc80 (cB cI cJ cZ cS cT : ClassId) (x0 : Nat) (A : Nat → Nat) (V : VX) : Nat × va_E := ((A 77), .inl (cI, 61, .inl (V.2.2.1 48)))
def xc81 (cB cI cJ cZ cS cT : ClassId) (x0 : Nat) (A : Nat → Nat) (V : VX) : Nat × va_E := ((A 78), .inl (cI, 30, .inl (V.2.2.1 49)))
def xc82 (cB cI cJ cZ cS cT : ClassId) (x0 : Nat) (A : Nat → Nat) (V : VX) : Nat × va_E := ((A 79), .inl (cI, 30, .inl (V.2.2.1 50)))
def xc83 (cB cI cJ cZ cS cT : ClassId) (x0 : Nat) (A : Nat → Nat) (V : VX) : Nat × va_E := ((A 80), .inr (4, [.ref (A 81), .ref (A 82), .ref (A 83), .ref (A 84)]))
def xc84 (cB cI cJ cZ cS cT : ClassId) (x0 : Nat) (A : Nat → Nat) (V : VX) : Nat × va_E := ((A 81), .inl (cI, 61, .inl (V.2.2.1 51)))
def xc85 (cB cI cJ cZ cS cT : ClassId) (x0 : Nat) (A : Nat → Nat) (V : VX) : Nat × va_E := ((A 82), .inl (cI, 61, .inl (V.2.2.1 52)))
def xc86 (cB cI cJ cZ cS cT : ClassId) (x0 : Nat) (A : Nat → Nat) (V : VX) : Nat × va_E := ((A 83), .inl (cI, 61, .inl (V.2.2.1 53)))
def xc87 (cB cI cJ cZ cS cT : ClassId) (x0 : Nat) (A : Nat → Nat) (V : VX) : Nat × va_E := ((A 84), .inl (cZ, 61, .inl (V.2.2.1 54)))
def xc88 (cB cI cJ cZ cS cT : ClassId) (x0 : Nat) (A : Nat → Nat) (V : VX) : Nat × va_E := ((A 85), .inl (cI, 610, .inl (V.2.2.1 55)))
def xc89 (cB cI cJ cZ cS cT : ClassId) (x0 : Nat) (A : Nat → Nat) (V : VX) : Nat × va_E := ((A 86), .inr (5, [.ref (A 87), .ref (A 88), .int (V.1 96), .int (V.1 97), .int (V.1 98)]))
def xc90 (cB cI cJ cZ cS cT : ClassId) (x0 : Nat) (A : Nat → Nat) (V : VX) : Nat × va_E := ((A 87), .inl (cI, 100, .inl (V.2.2.1 56)))
def xc91 (cB cI cJ cZ cS cT : ClassId) (x0 : Nat) (A : Nat → Nat) (V : VX) : Nat × va_E := ((A 88), .inl (cI, 1099, .inl (V.2.2.1 57)))
def xc92 (cB cI cJ cZ cS cT : ClassId) (x0 : Nat) (A : Nat → Nat) (V : VX) : Nat × va_E := ((A 89), .inr (2, [.long (V.2.1 0), .int (V.1 99), .int (V.1 100), .int (V.1 101)]))
def xL (cB cI cJ cZ cS cT : ClassId) (x0 : Nat) (A : Nat → Nat) (V : VX) : va_W := [xc0 cB cI cJ cZ cS cT x0 A V, xc1 cB cI cJ cZ cS cT x0 A V, xc2 cB cI cJ cZ cS cT x0 A V, xc3 cB cI cJ cZ cS cT x0 A V, xc4 cB cI cJ cZ cS cT x0 A V, xc5 cB cI cJ cZ cS cT x0 A V, xc6 cB cI cJ cZ cS cT x0 A V, xc7 cB cI cJ cZ cS cT x0 A V, xc8 cB cI cJ cZ cS cT x0 A V, xc9 cB cI cJ cZ cS cT x0 A V, xc10 cB cI cJ cZ cS cT x0 A V, xc11 cB cI cJ cZ cS cT x0 A V, xc12 cB cI cJ cZ cS cT x0 A V, xc13 cB cI cJ cZ cS cT x0 A V, xc14 cB cI cJ cZ cS cT x0 A V, xc15 cB cI cJ cZ cS cT x0 A V, xc16 cB cI cJ cZ cS cT x0 A V, xc17 cB cI cJ cZ cS cT x0 A V, xc18 cB cI cJ cZ cS cT x0 A V, xc19 cB cI cJ cZ cS cT x0 A V, xc20 cB cI cJ cZ cS cT x0 A V, xc21 cB cI cJ cZ cS cT x0 A V, xc22 cB cI cJ cZ cS cT x0 A V, xc23 cB cI cJ cZ cS cT x0 A V, xc24 cB cI cJ cZ cS cT x0 A V, xc25 cB cI cJ cZ cS cT x0 A V, xc26 cB cI cJ cZ cS cT x0 A V, xc27 cB cI cJ cZ cS cT x0 A V, xc28 cB cI cJ cZ cS cT x0 A V, xc29 cB cI cJ cZ cS cT x0 A V, xc30 cB cI cJ cZ cS cT x0 A V, xc31 cB cI cJ cZ cS cT x0 A V, xc32 cB cI cJ cZ cS cT x0 A V, xc33 cB cI cJ cZ cS cT x0 A V, xc34 cB cI cJ cZ cS cT x0 A V, xc35 cB cI cJ cZ cS cT x0 A V, xc36 cB cI cJ cZ cS cT x0 A V, xc37 cB cI cJ cZ cS cT x0 A V, xc38 cB cI cJ cZ cS cT x0 A V, xc39 cB cI cJ cZ cS cT x0 A V, xc40 cB cI cJ cZ cS cT x0 A V, xc41 cB cI cJ cZ cS cT x0 A V, xc42 cB cI cJ cZ cS cT x0 A V, xc43 cB cI cJ cZ cS cT x0 A V, xc44 cB cI cJ cZ cS cT x0 A V, xc45 cB cI cJ cZ cS cT x0 A V, xc46 cB cI cJ cZ cS cT x0 A V, xc47 cB cI cJ cZ cS cT x0 A V, xc48 cB cI cJ cZ cS cT x0 A V, xc49 cB cI cJ cZ cS cT x0 A V, xc50 cB cI cJ cZ cS cT x0 A V, xc51 cB cI cJ cZ cS cT x0 A V, xc52 cB cI cJ cZ cS cT x0 A V, xc53 cB cI cJ cZ cS cT x0 A V, xc54 cB cI cJ cZ cS cT x0 A V, xc55 cB cI cJ cZ cS cT x0 A V, xc56 cB cI cJ cZ cS cT x0 A V, xc57 cB cI cJ cZ cS cT x0 A V, xc58 cB cI cJ cZ cS cT x0 A V, xc59 cB cI cJ cZ cS cT x0 A V, xc60 cB cI cJ cZ cS cT x0 A V, xc61 cB cI cJ cZ cS cT x0 A V, xc62 cB cI cJ cZ cS cT x0 A V, xc63 cB cI cJ cZ cS cT x0 A V, xc64 cB cI cJ cZ cS cT x0 A V, xc65 cB cI cJ cZ cS cT x0 A V, xc66 cB cI cJ cZ cS cT x0 A V, xc67 cB cI cJ cZ cS cT x0 A V, xc68 cB cI cJ cZ cS cT x0 A V, xc69 cB cI cJ cZ cS cT x0 A V, xc70 cB cI cJ cZ cS cT x0 A V, xc71 cB cI cJ cZ cS cT x0 A V, xc72 cB cI cJ cZ cS cT x0 A V, xc73 cB cI cJ cZ cS cT x0 A V, xc74 cB cI cJ cZ cS cT x0 A V, xc75 cB cI cJ cZ cS cT x0 A V, xc76 cB cI cJ cZ cS cT x0 A V, xc77 cB cI cJ cZ cS cT x0 A V, xc78 cB cI cJ cZ cS cT x0 A V, xc79 cB cI cJ cZ cS cT x0 A V, xc80 cB cI cJ cZ cS cT x0 A V, xc81 cB cI cJ cZ cS cT x0 A V, xc82 cB cI cJ cZ cS cT x0 A V, xc83 cB cI cJ cZ cS cT x0 A V, xc84 cB cI cJ cZ cS cT x0 A V, xc85 cB cI cJ cZ cS cT x0 A V, xc86 cB cI cJ cZ cS cT x0 A V, xc87 cB cI cJ cZ cS cT x0 A V, xc88 cB cI cJ cZ cS cT x0 A V, xc89 cB cI cJ cZ cS cT x0 A V, xc90 cB cI cJ cZ cS cT x0 A V, xc91 cB cI cJ cZ cS cT x0 A V, xc92 cB cI cJ cZ cS cT x0 A V]
/-- what holds of them in every state that a run can reach -/
def xok (V : VX) : Prop := (0 ≤ (V.1 0).toInt ∧ (V.1 0).toInt ≤ 500) ∧ (0 ≤ (V.1 14).toInt ∧ (V.1 14).toInt ≤ 8) ∧ (0 ≤ (V.1 15).toInt ∧ (V.1 15).toInt ≤ 5) ∧ (0 ≤ (V.1 16).toInt ∧ (V.1 16).toInt ≤ 30) ∧ (0 ≤ (V.1 24).toInt ∧ (V.1 24).toInt ≤ 8) ∧ (0 ≤ (V.1 25).toInt ∧ (V.1 25).toInt ≤ 5) ∧ (0 ≤ (V.1 26).toInt ∧ (V.1 26).toInt ≤ 30) ∧ (0 ≤ (V.1 34).toInt ∧ (V.1 34).toInt ≤ 8) ∧ (0 ≤ (V.1 35).toInt ∧ (V.1 35).toInt ≤ 5) ∧ (0 ≤ (V.1 36).toInt ∧ (V.1 36).toInt ≤ 30) ∧ (0 ≤ (V.1 44).toInt ∧ (V.1 44).toInt ≤ 8) ∧ (0 ≤ (V.1 45).toInt ∧ (V.1 45).toInt ≤ 5) ∧ (0 ≤ (V.1 46).toInt ∧ (V.1 46).toInt ≤ 30) ∧ (0 ≤ (V.1 54).toInt ∧ (V.1 54).toInt ≤ 8) ∧ (0 ≤ (V.1 55).toInt ∧ (V.1 55).toInt ≤ 5) ∧ (0 ≤ (V.1 56).toInt ∧ (V.1 56).toInt ≤ 30) ∧ (0 ≤ (V.1 64).toInt ∧ (V.1 64).toInt ≤ 8) ∧ (0 ≤ (V.1 65).toInt ∧ (V.1 65).toInt ≤ 5) ∧ (0 ≤ (V.1 66).toInt ∧ (V.1 66).toInt ≤ 30) ∧ (0 ≤ (V.1 68).toInt ∧ (V.1 68).toInt ≤ 60) ∧ (0 ≤ (V.1 69).toInt ∧ (V.1 69).toInt ≤ 1) ∧ (0 ≤ (V.1 71).toInt ∧ (V.1 71).toInt ≤ 60) ∧ (0 ≤ (V.1 72).toInt ∧ (V.1 72).toInt ≤ 1) ∧ (0 ≤ (V.1 74).toInt ∧ (V.1 74).toInt ≤ 60) ∧ (0 ≤ (V.1 75).toInt ∧ (V.1 75).toInt ≤ 1) ∧ (0 ≤ (V.1 77).toInt ∧ (V.1 77).toInt ≤ 60) ∧ (0 ≤ (V.1 78).toInt ∧ (V.1 78).toInt ≤ 1) ∧ ((-1) ≤ (V.1 79).toInt ∧ (V.1 79).toInt ≤ 2147483647) ∧ (sg sgS1 (V.2.2.1 40)) ∧ (0 ≤ (V.1 93).toInt ∧ (V.1 93).toInt ≤ 8) ∧ (0 ≤ (V.1 94).toInt ∧ (V.1 94).toInt ≤ 5) ∧ (0 ≤ (V.1 95).toInt ∧ (V.1 95).toInt ≤ 30)
/-- the cells of the object, one by one, and all -/
def mc0 (cB cI cJ cZ cS cT : ClassId) (m0 : Nat) (A : Nat → Nat) (V : VX) : Nat × va_E := (mO m0 (V.1 0) (A 0) (A 1) (A 2) (A 3) (V.1 1) (A 4) (V.1 2) (V.1 3) (V.1 4) (V.1 5) (V.1 6) (V.1 7) (V.1 8) (A 5) (A 6) (A 7) (A 8) (A 9) (V.1 9) (V.1 10) (V.1 11) (V.2.1 0) (V.1 12) (V.1 13) (A 10) (A 11) (V.1 14) (V.1 15) (V.1 16) (V.1 17) (V.1 18) (A 12) (A 13) (A 14) (A 15) (A 16) (V.1 19) (V.1 20) (A 17) (A 18) (V.1 21) (V.1 22) (A 19) (A 20) (A 21) (A 22) (A 23))
def mc1 (cB cI cJ cZ cS cT : ClassId) (m0 : Nat) (A : Nat → Nat) (V : VX) : Nat × va_E := ((A 0), .inl (cI, 53, .inl (V.2.2.1 0)))
def mc2 (cB cI cJ cZ cS cT : ClassId) (m0 : Nat) (A : Nat → Nat) (V : VX) : Nat × va_E := ((A 1), .inl (cI, 159, .inl (V.2.2.1 1)))
def mc3 (cB cI cJ cZ cS cT : ClassId) (m0 : Nat) (A : Nat → Nat) (V : VX) : Nat × va_E := ((A 2), .inl (cZ, 3, .inl (V.2.2.1 2)))
def mc4 (cB cI cJ cZ cS cT : ClassId) (m0 : Nat) (A : Nat → Nat) (V : VX) : Nat × va_E := ((A 3), .inl (cB, 500, .inl (V.2.2.1 3)))
def mc5 (cB cI cJ cZ cS cT : ClassId) (m0 : Nat) (A : Nat → Nat) (V : VX) : Nat × va_E := ((A 4), .inl (cI, 5, .inl (V.2.2.1 4)))
def mc6 (cB cI cJ cZ cS cT : ClassId) (m0 : Nat) (A : Nat → Nat) (V : VX) : Nat × va_E := ((A 5), .inl (cI, 53, .inl (V.2.2.1 5)))
def mc7 (cB cI cJ cZ cS cT : ClassId) (m0 : Nat) (A : Nat → Nat) (V : VX) : Nat × va_E := ((A 6), .inl (cI, 61, .inl (V.2.2.1 6)))
def mc8 (cB cI cJ cZ cS cT : ClassId) (m0 : Nat) (A : Nat → Nat) (V : VX) : Nat × va_E := ((A 7), .inl (cI, 61, .inl (V.2.2.1 7)))
def mc9 (cB cI cJ cZ cS cT : ClassId) (m0 : Nat) (A : Nat → Nat) (V : VX) : Nat × va_E := ((A 8), .inl (cI, 62, .inl (V.2.2.1 8)))
def mc10 (cB cI cJ cZ cS cT : ClassId) (m0 : Nat) (A : Nat → Nat) (V : VX) : Nat × va_E := ((A 9), .inl (cI, 62, .inl (V.2.2.1 9)))
def mc11 (cB cI cJ cZ cS cT : ClassId) (m0 : Nat) (A : Nat → Nat) (V : VX) : Nat × va_E := ((A 10), .inl (cI, 61, .inl (V.2.2.1 10)))
def mc12 (cB cI cJ cZ cS cT : ClassId) (m0 : Nat) (A : Nat → Nat) (V : VX) : Nat × va_E := ((A 11), .inl (cI, 648, .inl (V.2.2.1 11)))
def mc13 (cB cI cJ cZ cS cT : ClassId) (m0 : Nat) (A : Nat → Nat) (V : VX) : Nat × va_E := ((A 12), .inl (cI, 3321, .inl (V.2.2.1 12)))
def mc14 (cB cI cJ cZ cS cT : ClassId) (m0 : Nat) (A : Nat → Nat) (V : VX) : Nat × va_E := ((A 13), .inl (cI, 81, .inl (V.2.2.1 13)))
def mc15 (cB cI cJ cZ cS cT : ClassId) (m0 : Nat) (A : Nat → Nat) (V : VX) : Nat × va_E := ((A 14), .inl (cI, 81, .inl (V.2.2.1 14)))
def mc16 (cB cI cJ cZ cS cT : ClassId) (m0 : Nat) (A : Nat → Nat) (V : VX) : Nat × va_E := ((A 15), .inl (cI, 729, .inl (V.2.2.1 15)))
def mc17 (cB cI cJ cZ cS cT : ClassId) (m0 : Nat) (A : Nat → Nat) (V : VX) : Nat × va_E := ((A 16), .inl (cI, 44469, .inl (V.2.2.1 16)))
def mc18 (cB cI cJ cZ cS cT : ClassId) (m0 : Nat) (A : Nat → Nat) (V : VX) : Nat × va_E := ((A 17), .inl (cI, 100, .inl (V.2.2.1 17)))
def mc19 (cB cI cJ cZ cS cT : ClassId) (m0 : Nat) (A : Nat → Nat) (V : VX) : Nat × va_E := ((A 18), .inl (cI, 100, .inl (V.2.2.1 18)))
def mc20 (cB cI cJ cZ cS cT : ClassId) (m0 : Nat) (A : Nat → Nat) (V : VX) : Nat × va_E := ((A 19), .inl (cI, 61, .inl (V.2.2.1 19)))
def mc21 (cB cI cJ cZ cS cT : ClassId) (m0 : Nat) (A : Nat → Nat) (V : VX) : Nat × va_E := ((A 20), .inl (cI, 4, .inl (V.2.2.1 20)))
def mc22 (cB cI cJ cZ cS cT : ClassId) (m0 : Nat) (A : Nat → Nat) (V : VX) : Nat × va_E := ((A 21), .inl (cI, 4, .inl (V.2.2.1 21)))
def mc23 (cB cI cJ cZ cS cT : ClassId) (m0 : Nat) (A : Nat → Nat) (V : VX) : Nat × va_E := ((A 22), .inl (cJ, 240, .inr (.inl (V.2.2.2.1 0))))
def mc24 (cB cI cJ cZ cS cT : ClassId) (m0 : Nat) (A : Nat → Nat) (V : VX) : Nat × va_E := ((A 23), .inl (cJ, 60, .inr (.inl (V.2.2.2.1 1))))
def mL (cB cI cJ cZ cS cT : ClassId) (m0 : Nat) (A : Nat → Nat) (V : VX) : va_W := [mc0 cB cI cJ cZ cS cT m0 A V, mc1 cB cI cJ cZ cS cT m0 A V, mc2 cB cI cJ cZ cS cT m0 A V, mc3 cB cI cJ cZ cS cT m0 A V, mc4 cB cI cJ cZ cS cT m0 A V, mc5 cB cI cJ cZ cS cT m0 A V, mc6 cB cI cJ cZ cS cT m0 A V, mc7 cB cI cJ cZ cS cT m0 A V, mc8 cB cI cJ cZ cS cT m0 A V, mc9 cB cI cJ cZ cS cT m0 A V, mc10 cB cI cJ cZ cS cT m0 A V, mc11 cB cI cJ cZ cS cT m0 A V, mc12 cB cI cJ cZ cS cT m0 A V, mc13 cB cI cJ cZ cS cT m0 A V, mc14 cB cI cJ cZ cS cT m0 A V, mc15 cB cI cJ cZ cS cT m0 A V, mc16 cB cI cJ cZ cS cT m0 A V, mc17 cB cI cJ cZ cS cT m0 A V, mc18 cB cI cJ cZ cS cT m0 A V, mc19 cB cI cJ cZ cS cT m0 A V, mc20 cB cI cJ cZ cS cT m0 A V, mc21 cB cI cJ cZ cS cT m0 A V, mc22 cB cI cJ cZ cS cT m0 A V, mc23 cB cI cJ cZ cS cT m0 A V, mc24 cB cI cJ cZ cS cT m0 A V]
/-- what holds of them in every state that a run can reach -/
def mok (V : VX) : Prop := (0 ≤ (V.1 1).toInt ∧ (V.1 1).toInt ≤ 500) ∧ (0 ≤ (V.1 2).toInt ∧ (V.1 2).toInt ≤ 500) ∧ (0 ≤ (V.1 3).toInt ∧ (V.1 3).toInt ≤ 500) ∧ (0 ≤ (V.1 4).toInt ∧ (V.1 4).toInt ≤ 500) ∧ (0 ≤ (V.1 7).toInt ∧ (V.1 7).toInt ≤ 3) ∧ (0 ≤ (V.1 9).toInt ∧ (V.1 9).toInt ≤ 8) ∧ (0 ≤ (V.1 10).toInt ∧ (V.1 10).toInt ≤ 8) ∧ (0 ≤ (V.1 11).toInt ∧ (V.1 11).toInt ≤ 9) ∧ (0 ≤ (V.1 12).toInt ∧ (V.1 12).toInt ≤ 1) ∧ (0 ≤ (V.1 14).toInt ∧ (V.1 14).toInt ≤ 648) ∧ (0 ≤ (V.1 15).toInt ∧ (V.1 15).toInt ≤ 648) ∧ (0 ≤ (V.1 16).toInt ∧ (V.1 16).toInt ≤ 8) ∧ (0 ≤ (V.1 17).toInt ∧ (V.1 17).toInt ≤ 8) ∧ (0 ≤ (V.1 19).toInt ∧ (V.1 19).toInt ≤ 729) ∧ (0 ≤ (V.1 21).toInt ∧ (V.1 21).toInt ≤ 100) ∧ (sg sgWo (V.2.2.1 0)) ∧ (0 < ((V.2.2.1 0) 9).toInt → 2 ≤ ((V.2.2.1 0) 0).toInt) ∧ (sg sgIm (V.2.2.1 1)) ∧ ((0 < ((V.2.2.1 1) 9).toInt → 2 ≤ ((V.2.2.1 1) 0).toInt) ∧ (0 < ((V.2.2.1 1) 62).toInt → 2 ≤ ((V.2.2.1 1) 53).toInt) ∧ (0 < ((V.2.2.1 1) 115).toInt → 2 ≤ ((V.2.2.1 1) 106).toInt)) ∧ (sg sgWo (V.2.2.1 5)) ∧ (sg sgSp (V.2.2.1 6)) ∧ (sg sgSp (V.2.2.1 7)) ∧ (sg sgLa (V.2.2.1 8)) ∧ (sg sgLa (V.2.2.1 9)) ∧ (sg sgMa (V.2.2.1 20))
