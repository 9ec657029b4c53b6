/-- the reference's own cell -/
abbrev mO (h : Nat) (a0 : Int32) (a1 : Nat) (a2 : Nat) (a3 : Nat) (a4 : Nat) (a5 : Int32) (a6 : Nat) (a7 : Int32) (a8 : Int32) (a9 : Int32) (a10 : Int32) (a11 : Int32) (a12 : Int32) (a13 : Int32) (a14 : Nat) (a15 : Nat) (a16 : Nat) (a17 : Nat) (a18 : Nat) (a19 : Int32) (a20 : Int32) (a21 : Int32) (a22 : Int64) (a23 : Int32) (a24 : Int32) (a25 : Nat) (a26 : Nat) (a27 : Int32) (a28 : Int32) (a29 : Int32) (a30 : Int32) (a31 : Int32) (a32 : Nat) (a33 : Nat) (a34 : Nat) (a35 : Nat) (a36 : Nat) (a37 : Int32) (a38 : Int32) (a39 : Nat) (a40 : Nat) (a41 : Int32) (a42 : Int32) (a43 : Nat) (a44 : Nat) (a45 : Nat) (a46 : Nat) (a47 : Nat) : Nat × va_E := (h, .inr (12, [.int a0, .ref a1, .ref a2, .ref a3, .ref a4, .int a5, .ref a6, .int a7, .int a8, .int a9, .int a10, .int a11, .int a12, .int a13, .ref a14, .ref a15, .ref a16, .ref a17, .ref a18, .int a19, .int a20, .int a21, .long a22, .int a23, .int a24, .ref a25, .ref a26, .int a27, .int a28, .int a29, .int a30, .int a31, .ref a32, .ref a33, .ref a34, .ref a35, .ref a36, .int a37, .int a38, .ref a39, .ref a40, .int a41, .int a42, .ref a43, .ref a44, .ref a45, .ref a46, .ref a47]))
abbrev sgWo : List (Nat × Nat × Int × Int) := [(0, 0, 0, 9), (1, 4, 0, 8), (5, 5, 0, 10), (6, 6, 0, 8), (7, 7, 0, 5), (8, 8, 0, 30), (10, 17, -1, 8), (18, 22, 0, 99), (23, 52, 0, 609)]
abbrev sgIm : List (Nat × Nat × Int × Int) := [(0, 0, 0, 9), (1, 4, 0, 8), (5, 5, 0, 10), (6, 6, 0, 8), (7, 7, 0, 5), (8, 8, 0, 30), (10, 17, -1, 8), (18, 22, 0, 99), (23, 52, 0, 609), (53, 53, 0, 9), (54, 57, 0, 8), (58, 58, 0, 10), (59, 59, 0, 8), (60, 60, 0, 5), (61, 61, 0, 30), (63, 70, -1, 8), (71, 75, 0, 99), (76, 105, 0, 609), (106, 106, 0, 9), (107, 110, 0, 8), (111, 111, 0, 10), (112, 112, 0, 8), (113, 113, 0, 5), (114, 114, 0, 30), (116, 123, -1, 8), (124, 128, 0, 99), (129, 158, 0, 609)]
abbrev sgSp : List (Nat × Nat × Int × Int) := [(0, 60, -1, 8)]
abbrev sgLa : List (Nat × Nat × Int × Int) := [(0, 61, 0, 8)]
abbrev sgMa : List (Nat × Nat × Int × Int) := [(0, 3, -1, 60)]
theorem zI0 : (0 : Int32).toInt = 0 := by decide
theorem zI1 : (1 : Int32).toInt = 1 := by decide
theorem zIm : (-1 : Int32).toInt = -1 := by decide
theorem ldJ {f : Nat → Int32} {i v : Int32} (e : f i.toNatClampNeg = v) (h0 : 0 ≤ i.toInt) {j : Nat} (hj : (j : Int) = i.toInt) : (f j).toInt = v.toInt := by
  have c := clT h0
  rw [← e, show j = i.toNatClampNeg by omega]
theorem cpJ {f g h : Nat → Int32} {i i' idx v : Int32} (j jj : Nat) (h0 : 0 ≤ i.toInt) (hidx : idx.toInt = (jj : Int) - (j : Int) + i.toInt) (hp : 0 ≤ idx.toInt) (e : upd f idx.toNatClampNeg v = g) (ev : h i.toNatClampNeg = v) (old : i.toInt ≤ (j : Int) ∨ (f jj).toInt = (h j).toInt) (hn : i'.toInt = i.toInt + 1) : i'.toInt ≤ (j : Int) ∨ (g jj).toInt = (h j).toInt := by
  have c1 := clT h0
  have c2 := clT hp
  by_cases hj : i.toInt = (j : Int)
  · right
    have e1 : jj = idx.toNatClampNeg := by omega
    have e2 : j = i.toNatClampNeg := by omega
    rw [← e, e1, e2, ev]
    unfold upd
    rw [if_pos rfl]
  · rcases old with h1 | h1
    · left
      omega
    · by_cases hk : i'.toInt ≤ (j : Int)
      · exact Or.inl hk
      · right
        rw [← h1, ← e]
        unfold upd
        rw [if_neg (by omega)]
theorem bkJ {f g h : Nat → Int32} {i i' idx v : Int32} (j jj : Nat) (h0 : 0 ≤ i.toInt) (hidx : idx.toInt = (jj : Int) - (j : Int) + i.toInt) (hp : 0 ≤ idx.toInt) (e : upd f i.toNatClampNeg v = g) (ev : h idx.toNatClampNeg = v) (old : i.toInt ≤ (j : Int) ∨ (f j).toInt = (h jj).toInt) (hn : i'.toInt = i.toInt + 1) : i'.toInt ≤ (j : Int) ∨ (g j).toInt = (h jj).toInt := by
  have c1 := clT h0
  have c2 := clT hp
  by_cases hj : i.toInt = (j : Int)
  · right
    have e1 : jj = idx.toNatClampNeg := by omega
    have e2 : j = i.toNatClampNeg := by omega
    rw [← e, e1, e2, ev]
    unfold upd
    rw [if_pos rfl]
  · rcases old with h1 | h1
    · left
      omega
    · by_cases hk : i'.toInt ≤ (j : Int)
      · exact Or.inl hk
      · right
        rw [← h1, ← e]
        unfold upd
        rw [if_neg (by omega)]
theorem zrJ {f g : Nat → Int32} {i i' v : Int32} (j : Nat) (h0 : 0 ≤ i.toInt) (e : upd f i.toNatClampNeg v = g) (hv : v.toInt = 0) (old : i.toInt ≤ (j : Int) ∨ (f j).toInt = 0) (hn : i'.toInt = i.toInt + 1) : i'.toInt ≤ (j : Int) ∨ (g j).toInt = 0 := by
  have c1 := clT h0
  by_cases hj : i.toInt = (j : Int)
  · right
    have e2 : j = i.toNatClampNeg := by omega
    rw [← e, e2]
    unfold upd
    rw [if_pos rfl]
    exact hv
  · rcases old with h1 | h1
    · left
      omega
    · right
      rw [← h1, ← e]
      unfold upd
      rw [if_neg (by omega)]
theorem upd9D {f g : Nat → Int32} {i v : Int32} (e : upd f i.toNatClampNeg v = g) (h0 : 0 ≤ i.toInt) {j : Nat} : ((j : Int) = i.toInt ∧ (g j).toInt = v.toInt) ∨ (¬ (j : Int) = i.toInt ∧ (g j).toInt = (f j).toInt) := by
  by_cases h : (j : Int) = i.toInt
  · exact Or.inl ⟨h, upd9V e h0 h⟩
  · exact Or.inr ⟨h, upd9E e h0 h⟩
theorem sgC {T : List (Nat × Nat × Int × Int)} {f g : Nat → Int32} (h : sg T f) (h2 : sg T g) {i v : Int32} (e : g i.toNatClampNeg = v) : sg T (upd f i.toNatClampNeg v) := by
  intro q hq j h1 h3
  unfold upd
  split
  · rename_i hj
    rw [← e, ← hj]
    exact h2 q hq j h1 h3
  · exact h q hq j h1 h3
/-- what the reference's methods answer, as functions of what they read -/
def sgnN (f : Nat → Int32) (s : Int) : Int := (f (10 + (s % (f 6).toInt).toNat)).toInt
def seeN (f : Nat → Int32) (sz k : Int) : Int := if k < sz then ((f k.toNat) &&& 255).toInt else -1
def trN (f : Nat → Int32) : Int := (f 0).toInt * (f 0).toInt * (f 0).toInt
theorem triDiv {k n a b : Int32} (hk : 0 ≤ k.toInt) (hn : 0 < n.toInt) (h : k.toInt < n.toInt * n.toInt * n.toInt) (e1 : k / n = a) (e2 : a / n = b) : 0 ≤ a.toInt ∧ 0 ≤ b.toInt ∧ b.toInt < n.toInt := by
  have h1 := divE hk hn e1
  have h2 : 0 ≤ a.toInt := by rw [h1]; exact Int.ediv_nonneg hk (by omega)
  have h3 : a.toInt < n.toInt * n.toInt := by rw [h1]; exact Int.ediv_lt_of_lt_mul hn h
  have h4 := divSq h2 hn h3 e2
  exact ⟨h2, h4.1, h4.2⟩
theorem trB {f : Nat → Int32} (h : 0 ≤ (f 0).toInt ∧ (f 0).toInt ≤ 9) : 0 ≤ trN f ∧ trN f ≤ 729 := by
  have h1 := mulR (a := (f 0).toInt) (b := (f 0).toInt) 9 9 (C := 81) (by decide) h.1 h.2 h.1 h.2
  have h2 := mulR (a := (f 0).toInt * (f 0).toInt) (b := (f 0).toInt) 81 9 (C := 729) (by decide) h1.1 h1.2 h.1 h.2
  exact h2
/-- the reference's is(w): at the token's place lies the word -/
def chJ (j k : Nat) : Int32 := (strB.getD j []).getD k 0 &&& 255
def isC (f : Nat → Int32) (fr a tk fk : Int32) (j : Nat) : Prop := fk.toInt = 0 ∧ tk.toInt = 1 ∧ a.toInt - fr.toInt = ((strL.getD j 0 : Nat) : Int) ∧ ∀ i : Nat, i < strL.getD j 0 → (f (fr.toInt.toNat + i)).toInt = (chJ j i).toInt
noncomputable def isN (f : Nat → Int32) (fr a tk fk : Int32) (j : Nat) : Int := @ite Int (isC f fr a tk fk j) (Classical.propDecidable _) 1 0
def isI (f : Nat → Int32) (fr a tk fk : Int32) (j : Nat) (x k : Int32) : Prop := (x.toInt = 1 → fk.toInt = 0 ∧ tk.toInt = 1 ∧ a.toInt - fr.toInt = ((strL.getD j 0 : Nat) : Int) ∧ ∀ i : Nat, (i : Int) < k.toInt → (f (fr.toInt.toNat + i)).toInt = (chJ j i).toInt) ∧ (x.toInt = 0 → ¬ isC f fr a tk fk j)
theorem isI_0 {f : Nat → Int32} {fr a tk fk : Int32} {j : Nat} (h1 : fk.toInt = 0) (h2 : tk.toInt = 1) (h3 : a.toInt - fr.toInt = ((strL.getD j 0 : Nat) : Int)) : isI f fr a tk fk j 1 0 := by
  refine ⟨fun _ => ⟨h1, h2, h3, fun i hi => ?_⟩, fun h => absurd h (by decide)⟩
  have e0 : (0 : Int32).toInt = 0 := by decide
  omega
theorem isI_n {f : Nat → Int32} {fr a tk fk : Int32} {j : Nat} {k : Int32} (h : ¬ fk.toInt = 0 ∨ ¬ tk.toInt = 1 ∨ ¬ a.toInt - fr.toInt = ((strL.getD j 0 : Nat) : Int)) : isI f fr a tk fk j 0 k := ⟨fun h => absurd h (by decide), fun _ hC => by
  obtain ⟨h1, h2, h3, -⟩ := hC
  omega⟩
theorem isI_eq {f : Nat → Int32} {fr a tk fk : Int32} {j : Nat} {x k k' idx b r : Int32} (h : isI f fr a tk fk j x k) (hx : x.toInt = 1) (hk0 : 0 ≤ k.toInt) (hf0 : 0 ≤ fr.toInt) (hidx : idx.toInt = fr.toInt + k.toInt) (eb : f idx.toNatClampNeg = b) (er : r = chJ j k.toNatClampNeg) (hbr : b.toInt = r.toInt) (hk : k'.toInt = k.toInt + 1) : isI f fr a tk fk j 1 k' := by
  obtain ⟨h1, h2, h3, h4⟩ := h.1 hx
  refine ⟨fun _ => ⟨h1, h2, h3, fun i hi => ?_⟩, fun q => absurd q (by decide)⟩
  by_cases hik : (i : Int) < k.toInt
  · exact h4 i hik
  · have c1 := clT (x := idx) (by omega)
    have c2 := clT (x := k) hk0
    have e1 : fr.toInt.toNat + i = idx.toNatClampNeg := by omega
    have e2 : i = k.toNatClampNeg := by omega
    rw [e1, eb, hbr, er, e2]
theorem isI_ne {f : Nat → Int32} {fr a tk fk : Int32} {j : Nat} {k k' idx b r : Int32} (hk0 : 0 ≤ k.toInt) (hf0 : 0 ≤ fr.toInt) (hidx : idx.toInt = fr.toInt + k.toInt) (eb : f idx.toNatClampNeg = b) (er : r = chJ j k.toNatClampNeg) (hbr : ¬ b.toInt = r.toInt) (hlt : k.toInt < ((strL.getD j 0 : Nat) : Int)) : isI f fr a tk fk j 0 k' := by
  refine ⟨fun q => absurd q (by decide), fun _ hC => hbr ?_⟩
  have c1 := clT (x := idx) (by omega)
  have c2 := clT (x := k) hk0
  have e1 : fr.toInt.toNat + k.toNatClampNeg = idx.toNatClampNeg := by omega
  have h := hC.2.2.2 k.toNatClampNeg (by omega)
  rw [e1, eb, ← er] at h
  exact h
theorem isI_end {f : Nat → Int32} {fr a tk fk : Int32} {j : Nat} {x k : Int32} (h : isI f fr a tk fk j x k) (hx : 0 ≤ x.toInt ∧ x.toInt ≤ 1) (hk : x.toInt = 0 ∨ ((strL.getD j 0 : Nat) : Int) ≤ k.toInt) : x.toInt = isN f fr a tk fk j := by
  unfold isN
  rcases (show x.toInt = 0 ∨ x.toInt = 1 by omega) with h0 | h1
  · rw [if_neg (h.2 h0), h0]
  · obtain ⟨q1, q2, q3, q4⟩ := h.1 h1
    rw [if_pos (show isC f fr a tk fk j from ⟨q1, q2, q3, fun i hi => q4 i (by omega)⟩), h1]
theorem remLE {x y z : Int64} (e : x - x / y * y = z) : z.toInt = x.toInt.tmod y.toInt := by
  rw [← e, Int64.toInt_sub, Int64.toInt_mul, Int64.toInt_div, Int.bmod_mul_bmod, Int.sub_bmod_bmod, Int.mul_comm, ← Int.tmod_def, ← Int64.toInt_mod]
  have b := i64b (x % y)
  exact bmodL (by omega) (by omega)
theorem remA {x y z : Int64} (hy : ¬ y.toInt = 0) (e : x - x / y * y = z) : z.toInt.natAbs < y.toInt.natAbs := by
  rw [remLE e, Int.natAbs_tmod]
  exact Nat.mod_lt _ (by omega)
def powI (b v : Int64) (k : Int32) : Prop := b.toInt = 10 → k.toInt ≤ 18 → v.toInt = 10 ^ k.toInt.toNat
theorem powI_step {b v v' : Int64} {k k' : Int32} (h : powI b v k) (e : v * b = v') (hk0 : 0 ≤ k.toInt) (hk : k'.toInt = k.toInt + 1) : powI b v' k' := by
  intro hb hk2
  have h1 := h hb (by omega)
  have h2 : k'.toInt.toNat = k.toInt.toNat + 1 := by omega
  have h3 : ∀ n : Nat, n ≤ 18 → (0 : Int) < 10 ^ n ∧ (10 : Int) ^ n ≤ 1000000000000000000 := by decide +kernel
  have h4 := h3 k'.toInt.toNat (by omega)
  rw [← e, Int64.toInt_mul, h1, hb, h2, ← Int.pow_succ]
  rw [h2] at h4
  exact bmodL (by omega) (by omega)
def p10 (b : Int64) (n : Int32) (r : Int64) : Prop := b.toInt = 10 → n.toInt ≤ 18 → ¬ r.toInt = 0
theorem powI_end {b v : Int64} {k : Int32} (h : powI b v k) (hb : b.toInt = 10) (hk : k.toInt ≤ 18) : ¬ v.toInt = 0 := by
  rw [h hb hk]
  have := Int.pow_pos (n := 10) (m := k.toInt.toNat) (by decide)
  omega
/-- how many of the first n are -1 -/
def cntR (f : Nat → Int32) : Nat → Nat
  | 0 => 0
  | n + 1 => cntR f n + (if (f n).toInt = -1 then 1 else 0)
theorem cntR_le (f : Nat → Int32) : ∀ n, cntR f n ≤ n := by
  intro n
  induction n with
  | zero => exact Nat.le_refl _
  | succ n ih =>
    unfold cntR
    split <;> omega
theorem cntR_ge {f : Nat → Int32} {i : Nat} {v : Int32} : ∀ n, n ≤ i → cntR (upd f i v) n = cntR f n := by
  intro n
  induction n with
  | zero => intro _; rfl
  | succ n ih =>
    intro h
    unfold cntR
    rw [ih (by omega)]
    have : upd f i v n = f n := by unfold upd; rw [if_neg (by omega)]
    rw [this]
theorem cntR_upd {f : Nat → Int32} {i : Nat} {v : Int32} (h1 : (f i).toInt = -1) (h2 : ¬ v.toInt = -1) : ∀ n, i < n → cntR (upd f i v) n + 1 = cntR f n := by
  intro n
  induction n with
  | zero => intro h; omega
  | succ n ih =>
    intro h
    unfold cntR
    by_cases hi : i = n
    · subst hi
      rw [cntR_ge i (Nat.le_refl _)]
      have : upd f i v i = v := by unfold upd; rw [if_pos rfl]
      rw [this, if_neg h2, if_pos h1]
    · have : upd f i v n = f n := by unfold upd; rw [if_neg (by omega)]
      rw [this]
      have := ih (by omega)
      omega
theorem sgImS {f g : Nat → Int32} (h : sg sgIm f) (hw : sg sgWo g) (k : Nat) (hk : k < 3) {i idx v : Int32} (h0 : 0 ≤ i.toInt) (h1 : i.toInt < 53) (hi : idx.toInt = 53 * (k : Int) + i.toInt) (e : g i.toNatClampNeg = v) : sg sgIm (upd f idx.toNatClampNeg v) := by
  have c1 := clT h0
  have c2 := clT (x := idx) (by omega)
  intro q hq j h3 h4
  unfold upd
  split
  · rw [← e]
    simp only [sgIm, List.mem_cons, List.not_mem_nil, or_false] at hq
    rcases hq with rfl | rfl | rfl | rfl | rfl | rfl | rfl | rfl | rfl | rfl | rfl | rfl | rfl | rfl | rfl | rfl | rfl | rfl | rfl | rfl | rfl | rfl | rfl | rfl | rfl | rfl | rfl <;> dsimp only at h3 h4 ⊢
    · exact hw (0, 0, 0, 9) (List.mem_of_getElem? (i := 0) rfl) _ (by show 0 ≤ _; omega) (by show _ ≤ 0; omega)
    · exact hw (1, 4, 0, 8) (List.mem_of_getElem? (i := 1) rfl) _ (by show 1 ≤ _; omega) (by show _ ≤ 4; omega)
    · exact hw (5, 5, 0, 10) (List.mem_of_getElem? (i := 2) rfl) _ (by show 5 ≤ _; omega) (by show _ ≤ 5; omega)
    · exact hw (6, 6, 0, 8) (List.mem_of_getElem? (i := 3) rfl) _ (by show 6 ≤ _; omega) (by show _ ≤ 6; omega)
    · exact hw (7, 7, 0, 5) (List.mem_of_getElem? (i := 4) rfl) _ (by show 7 ≤ _; omega) (by show _ ≤ 7; omega)
    · exact hw (8, 8, 0, 30) (List.mem_of_getElem? (i := 5) rfl) _ (by show 8 ≤ _; omega) (by show _ ≤ 8; omega)
    · exact hw (10, 17, -1, 8) (List.mem_of_getElem? (i := 6) rfl) _ (by show 10 ≤ _; omega) (by show _ ≤ 17; omega)
    · exact hw (18, 22, 0, 99) (List.mem_of_getElem? (i := 7) rfl) _ (by show 18 ≤ _; omega) (by show _ ≤ 22; omega)
    · exact hw (23, 52, 0, 609) (List.mem_of_getElem? (i := 8) rfl) _ (by show 23 ≤ _; omega) (by show _ ≤ 52; omega)
    · exact hw (0, 0, 0, 9) (List.mem_of_getElem? (i := 0) rfl) _ (by show 0 ≤ _; omega) (by show _ ≤ 0; omega)
    · exact hw (1, 4, 0, 8) (List.mem_of_getElem? (i := 1) rfl) _ (by show 1 ≤ _; omega) (by show _ ≤ 4; omega)
    · exact hw (5, 5, 0, 10) (List.mem_of_getElem? (i := 2) rfl) _ (by show 5 ≤ _; omega) (by show _ ≤ 5; omega)
    · exact hw (6, 6, 0, 8) (List.mem_of_getElem? (i := 3) rfl) _ (by show 6 ≤ _; omega) (by show _ ≤ 6; omega)
    · exact hw (7, 7, 0, 5) (List.mem_of_getElem? (i := 4) rfl) _ (by show 7 ≤ _; omega) (by show _ ≤ 7; omega)
    · exact hw (8, 8, 0, 30) (List.mem_of_getElem? (i := 5) rfl) _ (by show 8 ≤ _; omega) (by show _ ≤ 8; omega)
    · exact hw (10, 17, -1, 8) (List.mem_of_getElem? (i := 6) rfl) _ (by show 10 ≤ _; omega) (by show _ ≤ 17; omega)
    · exact hw (18, 22, 0, 99) (List.mem_of_getElem? (i := 7) rfl) _ (by show 18 ≤ _; omega) (by show _ ≤ 22; omega)
    · exact hw (23, 52, 0, 609) (List.mem_of_getElem? (i := 8) rfl) _ (by show 23 ≤ _; omega) (by show _ ≤ 52; omega)
    · exact hw (0, 0, 0, 9) (List.mem_of_getElem? (i := 0) rfl) _ (by show 0 ≤ _; omega) (by show _ ≤ 0; omega)
    · exact hw (1, 4, 0, 8) (List.mem_of_getElem? (i := 1) rfl) _ (by show 1 ≤ _; omega) (by show _ ≤ 4; omega)
    · exact hw (5, 5, 0, 10) (List.mem_of_getElem? (i := 2) rfl) _ (by show 5 ≤ _; omega) (by show _ ≤ 5; omega)
    · exact hw (6, 6, 0, 8) (List.mem_of_getElem? (i := 3) rfl) _ (by show 6 ≤ _; omega) (by show _ ≤ 6; omega)
    · exact hw (7, 7, 0, 5) (List.mem_of_getElem? (i := 4) rfl) _ (by show 7 ≤ _; omega) (by show _ ≤ 7; omega)
    · exact hw (8, 8, 0, 30) (List.mem_of_getElem? (i := 5) rfl) _ (by show 8 ≤ _; omega) (by show _ ≤ 8; omega)
    · exact hw (10, 17, -1, 8) (List.mem_of_getElem? (i := 6) rfl) _ (by show 10 ≤ _; omega) (by show _ ≤ 17; omega)
    · exact hw (18, 22, 0, 99) (List.mem_of_getElem? (i := 7) rfl) _ (by show 18 ≤ _; omega) (by show _ ≤ 22; omega)
    · exact hw (23, 52, 0, 609) (List.mem_of_getElem? (i := 8) rfl) _ (by show 23 ≤ _; omega) (by show _ ≤ 52; omega)
  · exact h q hq j h3 h4
theorem sgBk {f g : Nat → Int32} (h : sg sgWo f) (hg : sg sgIm g) (k : Nat) (hk : k < 3) {i idx v : Int32} (h0 : 0 ≤ i.toInt) (h1 : i.toInt < 53) (hi : idx.toInt = 53 * (k : Int) + i.toInt) (e : g idx.toNatClampNeg = v) : sg sgWo (upd f i.toNatClampNeg v) := by
  have c1 := clT h0
  have c2 := clT (x := idx) (by omega)
  intro q hq j h3 h4
  unfold upd
  split
  · rw [← e]
    rcases (show k = 0 ∨ k = 1 ∨ k = 2 by omega) with rfl | rfl | rfl
    · simp only [sgWo, List.mem_cons, List.not_mem_nil, or_false] at hq
      rcases hq with rfl | rfl | rfl | rfl | rfl | rfl | rfl | rfl | rfl <;> dsimp only at h3 h4 ⊢
      · exact hg (0, 0, 0, 9) (List.mem_of_getElem? (i := 0) rfl) _ (by show 0 ≤ _; omega) (by show _ ≤ 0; omega)
      · exact hg (1, 4, 0, 8) (List.mem_of_getElem? (i := 1) rfl) _ (by show 1 ≤ _; omega) (by show _ ≤ 4; omega)
      · exact hg (5, 5, 0, 10) (List.mem_of_getElem? (i := 2) rfl) _ (by show 5 ≤ _; omega) (by show _ ≤ 5; omega)
      · exact hg (6, 6, 0, 8) (List.mem_of_getElem? (i := 3) rfl) _ (by show 6 ≤ _; omega) (by show _ ≤ 6; omega)
      · exact hg (7, 7, 0, 5) (List.mem_of_getElem? (i := 4) rfl) _ (by show 7 ≤ _; omega) (by show _ ≤ 7; omega)
      · exact hg (8, 8, 0, 30) (List.mem_of_getElem? (i := 5) rfl) _ (by show 8 ≤ _; omega) (by show _ ≤ 8; omega)
      · exact hg (10, 17, -1, 8) (List.mem_of_getElem? (i := 6) rfl) _ (by show 10 ≤ _; omega) (by show _ ≤ 17; omega)
      · exact hg (18, 22, 0, 99) (List.mem_of_getElem? (i := 7) rfl) _ (by show 18 ≤ _; omega) (by show _ ≤ 22; omega)
      · exact hg (23, 52, 0, 609) (List.mem_of_getElem? (i := 8) rfl) _ (by show 23 ≤ _; omega) (by show _ ≤ 52; omega)
    · simp only [sgWo, List.mem_cons, List.not_mem_nil, or_false] at hq
      rcases hq with rfl | rfl | rfl | rfl | rfl | rfl | rfl | rfl | rfl <;> dsimp only at h3 h4 ⊢
      · exact hg (53, 53, 0, 9) (List.mem_of_getElem? (i := 9) rfl) _ (by show 53 ≤ _; omega) (by show _ ≤ 53; omega)
      · exact hg (54, 57, 0, 8) (List.mem_of_getElem? (i := 10) rfl) _ (by show 54 ≤ _; omega) (by show _ ≤ 57; omega)
      · exact hg (58, 58, 0, 10) (List.mem_of_getElem? (i := 11) rfl) _ (by show 58 ≤ _; omega) (by show _ ≤ 58; omega)
      · exact hg (59, 59, 0, 8) (List.mem_of_getElem? (i := 12) rfl) _ (by show 59 ≤ _; omega) (by show _ ≤ 59; omega)
      · exact hg (60, 60, 0, 5) (List.mem_of_getElem? (i := 13) rfl) _ (by show 60 ≤ _; omega) (by show _ ≤ 60; omega)
      · exact hg (61, 61, 0, 30) (List.mem_of_getElem? (i := 14) rfl) _ (by show 61 ≤ _; omega) (by show _ ≤ 61; omega)
      · exact hg (63, 70, -1, 8) (List.mem_of_getElem? (i := 15) rfl) _ (by show 63 ≤ _; omega) (by show _ ≤ 70; omega)
      · exact hg (71, 75, 0, 99) (List.mem_of_getElem? (i := 16) rfl) _ (by show 71 ≤ _; omega) (by show _ ≤ 75; omega)
      · exact hg (76, 105, 0, 609) (List.mem_of_getElem? (i := 17) rfl) _ (by show 76 ≤ _; omega) (by show _ ≤ 105; omega)
    · simp only [sgWo, List.mem_cons, List.not_mem_nil, or_false] at hq
      rcases hq with rfl | rfl | rfl | rfl | rfl | rfl | rfl | rfl | rfl <;> dsimp only at h3 h4 ⊢
      · exact hg (106, 106, 0, 9) (List.mem_of_getElem? (i := 18) rfl) _ (by show 106 ≤ _; omega) (by show _ ≤ 106; omega)
      · exact hg (107, 110, 0, 8) (List.mem_of_getElem? (i := 19) rfl) _ (by show 107 ≤ _; omega) (by show _ ≤ 110; omega)
      · exact hg (111, 111, 0, 10) (List.mem_of_getElem? (i := 20) rfl) _ (by show 111 ≤ _; omega) (by show _ ≤ 111; omega)
      · exact hg (112, 112, 0, 8) (List.mem_of_getElem? (i := 21) rfl) _ (by show 112 ≤ _; omega) (by show _ ≤ 112; omega)
      · exact hg (113, 113, 0, 5) (List.mem_of_getElem? (i := 22) rfl) _ (by show 113 ≤ _; omega) (by show _ ≤ 113; omega)
      · exact hg (114, 114, 0, 30) (List.mem_of_getElem? (i := 23) rfl) _ (by show 114 ≤ _; omega) (by show _ ≤ 114; omega)
      · exact hg (116, 123, -1, 8) (List.mem_of_getElem? (i := 24) rfl) _ (by show 116 ≤ _; omega) (by show _ ≤ 123; omega)
      · exact hg (124, 128, 0, 99) (List.mem_of_getElem? (i := 25) rfl) _ (by show 124 ≤ _; omega) (by show _ ≤ 128; omega)
      · exact hg (129, 158, 0, 609) (List.mem_of_getElem? (i := 26) rfl) _ (by show 129 ≤ _; omega) (by show _ ≤ 158; omega)
  · exact h q hq j h3 h4
theorem isI_fk {f : Nat → Int32} {fr a tk fk : Int32} {j : Nat} {x k : Int32} (h : isI f fr a tk fk j x k) (h1 : x.toInt = 1) : fk.toInt = 0 ∧ a.toInt - fr.toInt = ((strL.getD j 0 : Nat) : Int) := ⟨(h.1 h1).1, (h.1 h1).2.2.1⟩
/-- toneOf and thenBy as functions; the least of the ways -/
def tnN (fw : Nat → Int32) (A B C s l a : Int) : Int := (if sgnN fw s = -1 then A * l + B * a + C else sgnN fw s + (fw 4).toInt * a) % (fw 0).toInt
def thN (fw : Nat → Int32) (s l a h : Int) : Int := if sgnN fw s = -1 then ((s + 1) * 9 + l) * 9 + h else ((s + 1) * 9 + h) * 9 + a
def bestOK (fw F : Nat → Int32) (A B C s l a : Int) (b : Int32) : Prop := b = F (thN fw s l a (tnN fw A B C s l a)).toNat ∨ ∃ t : Int, 0 ≤ t ∧ t < (fw 0).toInt ∧ b = 1 + F (thN fw s l a t).toNat
def planOK (fw F : Nat → Int32) (A B C lo to : Int) : Prop := ∀ s l a : Int, lo ≤ s → s < to → 0 ≤ l → l < (fw 0).toInt → 0 ≤ a → a < (fw 0).toInt → bestOK fw F A B C s l a (F ((s * 9 + l) * 9 + a).toNat)
/-- of the step's own states, those before k are laid -/
def planQ (fw F : Nat → Int32) (A B C s to k : Int) : Prop := s < to → ∀ l a : Int, 0 ≤ l → l < (fw 0).toInt → 0 ≤ a → a < (fw 0).toInt → l * (fw 0).toInt + a < k → bestOK fw F A B C s l a (F ((s * 9 + l) * 9 + a).toNat)
theorem tnB {fw : Nat → Int32} {A B C s l a : Int} (h : 0 < (fw 0).toInt) : 0 ≤ tnN fw A B C s l a ∧ tnN fw A B C s l a < (fw 0).toInt := ⟨Int.emod_nonneg _ (by omega), Int.emod_lt_of_pos _ h⟩
theorem updO {F : Nat → Int32} {i j : Nat} {b : Int32} (h : ¬ j = i) : upd F i b j = F j := by
  unfold upd
  rw [if_neg h]
theorem bestOK_upd {fw F : Nat → Int32} {A B C s l a s0 l0 a0 : Int} {b b0 : Int32} (h9 : 0 < (fw 0).toInt ∧ (fw 0).toInt ≤ 9) (hs : 0 ≤ s0) (hss : s0 ≤ s) (hl : 0 ≤ l ∧ l < (fw 0).toInt) (ha : 0 ≤ a ∧ a < (fw 0).toInt) (hl0 : 0 ≤ l0 ∧ l0 ≤ 8) (ha0 : 0 ≤ a0 ∧ a0 ≤ 8) (h : bestOK fw F A B C s l a b) : bestOK fw (upd F ((s0 * 9 + l0) * 9 + a0).toNat b0) A B C s l a b := by
  have hth : ∀ t : Int, 0 ≤ t → t < (fw 0).toInt → ¬ (thN fw s l a t).toNat = ((s0 * 9 + l0) * 9 + a0).toNat := by
    intro t h1 h2
    unfold thN
    split <;> omega
  rcases h with h | ⟨t, h1, h2, h3⟩
  · left
    have hb := tnB (A := A) (B := B) (C := C) (s := s) (l := l) (a := a) h9.1
    rw [updO (hth _ hb.1 hb.2)]
    exact h
  · right
    refine ⟨t, h1, h2, ?_⟩
    rw [updO (hth t h1 h2)]
    exact h3
theorem planOK_upd {fw F : Nat → Int32} {A B C lo to s0 l0 a0 : Int} {b0 : Int32} (h9 : 0 < (fw 0).toInt ∧ (fw 0).toInt ≤ 9) (hs : 0 ≤ s0) (hlo : s0 < lo) (hl0 : 0 ≤ l0 ∧ l0 ≤ 8) (ha0 : 0 ≤ a0 ∧ a0 ≤ 8) (h : planOK fw F A B C lo to) : planOK fw (upd F ((s0 * 9 + l0) * 9 + a0).toNat b0) A B C lo to := by
  intro s l a h1 h2 h3 h4 h5 h6
  rw [updO (show ¬ ((s * 9 + l) * 9 + a).toNat = ((s0 * 9 + l0) * 9 + a0).toNat by omega)]
  exact bestOK_upd h9 hs (by omega) ⟨h3, h4⟩ ⟨h5, h6⟩ hl0 ha0 (h s l a h1 h2 h3 h4 h5 h6)
theorem pairU {l a l0 a0 n : Int} (hn : 0 < n) (ha : 0 ≤ a ∧ a < n) (ha0 : 0 ≤ a0 ∧ a0 < n) (e : l * n + a = l0 * n + a0) : l = l0 ∧ a = a0 := by
  have h1 : (l * n + a) / n = l := by rw [Int.add_comm, Int.add_mul_ediv_right _ _ (by omega), Int.ediv_eq_zero_of_lt ha.1 ha.2]; omega
  have h2 : (l0 * n + a0) / n = l0 := by rw [Int.add_comm, Int.add_mul_ediv_right _ _ (by omega), Int.ediv_eq_zero_of_lt ha0.1 ha0.2]; omega
  have h3 : l = l0 := by rw [← h1, e, h2]
  subst h3
  exact ⟨rfl, by omega⟩
/-- what layState does -/
def lsP (fw F : Nat → Int32) (A B C s l a : Int) (F' : Nat → Int32) : Prop := ∃ b : Int32, F' = upd F ((s * 9 + l) * 9 + a).toNat b ∧ bestOK fw F A B C s l a b
theorem planQ_next {fw F F' : Nat → Int32} {A B C s to k l0 a0 : Int} (h9 : 0 < (fw 0).toInt ∧ (fw 0).toInt ≤ 9) (hs : 0 ≤ s) (hk : 0 ≤ k) (e0 : l0 = k / (fw 0).toInt) (e1 : a0 = k % (fw 0).toInt) (hl0 : l0 ≤ 8) (h : planQ fw F A B C s to k) (hp : lsP fw F A B C s l0 a0 F') : planQ fw F' A B C s to (k + 1) := by
  obtain ⟨b, rfl, hb⟩ := hp
  have q1 : 0 ≤ l0 := by rw [e0]; exact Int.ediv_nonneg hk (by omega)
  have q2 : 0 ≤ a0 := by rw [e1]; exact Int.emod_nonneg _ (by omega)
  have q3 : a0 < (fw 0).toInt := by rw [e1]; exact Int.emod_lt_of_pos _ h9.1
  have q4 : l0 * (fw 0).toInt + a0 = k := by rw [e0, e1, Int.mul_comm]; exact Int.mul_ediv_add_emod k _
  intro hst l a h1 h2 h3 h4 h5
  by_cases hc : l = l0 ∧ a = a0
  · obtain ⟨rfl, rfl⟩ := hc
    have : upd F ((s * 9 + l) * 9 + a).toNat b ((s * 9 + l) * 9 + a).toNat = b := by unfold upd; rw [if_pos rfl]
    rw [this]
    exact bestOK_upd h9 hs (Int.le_refl _) ⟨h1, h2⟩ ⟨h3, h4⟩ ⟨by omega, by omega⟩ ⟨by omega, by omega⟩ hb
  · have hne : ¬ l * (fw 0).toInt + a = l0 * (fw 0).toInt + a0 := fun e => hc (pairU h9.1 ⟨h3, h4⟩ ⟨q2, q3⟩ e)
    rw [updO (show ¬ ((s * 9 + l) * 9 + a).toNat = ((s * 9 + l0) * 9 + a0).toNat by omega)]
    exact bestOK_upd h9 hs (Int.le_refl _) ⟨h1, h2⟩ ⟨h3, h4⟩ ⟨by omega, by omega⟩ ⟨by omega, by omega⟩ (h hst l a h1 h2 h3 h4 (by omega))
theorem planOK_ls {fw F F' : Nat → Int32} {A B C lo to s l a : Int} (h9 : 0 < (fw 0).toInt ∧ (fw 0).toInt ≤ 9) (hs : 0 ≤ s) (hlo : s < lo) (hl0 : 0 ≤ l ∧ l ≤ 8) (ha0 : 0 ≤ a ∧ a ≤ 8) (h : planOK fw F A B C lo to) (hp : lsP fw F A B C s l a F') : planOK fw F' A B C lo to := by
  obtain ⟨b, rfl, _⟩ := hp
  exact planOK_upd h9 hs hlo hl0 ha0 h
theorem planOK_step {fw F : Nat → Int32} {A B C s to k : Int} (h9 : 0 < (fw 0).toInt) (hk : (fw 0).toInt * (fw 0).toInt ≤ k) (h : planOK fw F A B C (s + 1) to) (hq : planQ fw F A B C s to k) : planOK fw F A B C s to := by
  intro s' l a h1 h2 h3 h4 h5 h6
  by_cases hs : s' = s
  · subst hs
    have h7 : l * (fw 0).toInt ≤ ((fw 0).toInt - 1) * (fw 0).toInt := Int.mul_le_mul_of_nonneg_right (by omega) (by omega)
    rw [Int.sub_mul, Int.one_mul] at h7
    exact hq h2 l a h3 h4 h5 h6 (by omega)
  · exact h s' l a (by omega) h2 h3 h4 h5 h6
theorem bestOK_min {fw F : Nat → Int32} {A B C s l a : Int} {b x y t : Int32} (h : bestOK fw F A B C s l a b) {k : Int} (hk : 0 ≤ k ∧ k < (fw 0).toInt) (e : F (thN fw s l a k).toNat = x) (ey : 1 + x = y) (ht : t.toInt = b.toInt ∨ t.toInt = y.toInt) : bestOK fw F A B C s l a t := by
  rcases ht with h1 | h1
  · rw [Int32.toInt_inj.mp h1]
    exact h
  · right
    exact ⟨k, hk.1, hk.2, by rw [Int32.toInt_inj.mp h1, ← ey, e]⟩
theorem planE {fw F : Nat → Int32} {A B C s l a : Int} {b tl to : Int32} (h : bestOK fw F A B C s l a b) (hb : b = tl) (ho : F (thN fw s l a (tnN fw A B C s l a)).toNat = to) (hne : ¬ to.toInt = tl.toInt) : ∃ t : Int, 0 ≤ t ∧ t < (fw 0).toInt ∧ tl = 1 + F (thN fw s l a t).toNat := by
  subst hb
  rcases h with h | h
  · rw [ho] at h
    exact absurd (by rw [h]) hne
  · exact h
theorem planN {fw F : Nat → Int32} {s l a k t : Int} {tl x y : Int32} (h1 : k ≤ t) (h3 : tl = 1 + F (thN fw s l a t).toNat) (hx : F (thN fw s l a k).toNat = x) (ey : 1 + x = y) (hne : ¬ y.toInt = tl.toInt) : k + 1 ≤ t := by
  by_cases h : t = k
  · subst h
    rw [hx, ey] at h3
    exact absurd (by rw [h3]) hne
  · omega
