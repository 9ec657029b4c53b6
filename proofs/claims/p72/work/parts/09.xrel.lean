def rlK (made size width many wid : Int32) : Prop := (made.toInt = 0 ∧ many.toInt = -1) ∨ (made.toInt = 1 ∧ many = size ∧ 0 ≤ size.toInt ∧ wid = width)
/-- the slots' rows: class and reference -/
def relR (V U : VX) : Prop := rlK (V.1 69) (V.1 68) (V.1 67) (U.2.2.1 20 0) (U.2.2.1 21 0) ∧ rlK (V.1 72) (V.1 71) (V.1 70) (U.2.2.1 20 1) (U.2.2.1 21 1) ∧ rlK (V.1 75) (V.1 74) (V.1 73) (U.2.2.1 20 2) (U.2.2.1 21 2) ∧ rlK (V.1 78) (V.1 77) (V.1 76) (U.2.2.1 20 3) (U.2.2.1 21 3)
theorem rl_keepX {V V' U : VX} (h0 : (V'.1 69) = (V.1 69)) (h1 : (V'.1 68) = (V.1 68)) (h2 : (V'.1 67) = (V.1 67)) (h3 : (V'.1 72) = (V.1 72)) (h4 : (V'.1 71) = (V.1 71)) (h5 : (V'.1 70) = (V.1 70)) (h6 : (V'.1 75) = (V.1 75)) (h7 : (V'.1 74) = (V.1 74)) (h8 : (V'.1 73) = (V.1 73)) (h9 : (V'.1 78) = (V.1 78)) (h10 : (V'.1 77) = (V.1 77)) (h11 : (V'.1 76) = (V.1 76)) (r : relR V U) : relR V' U := by
  unfold relR at r ⊢
  rw [h0, h1, h2, h3, h4, h5, h6, h7, h8, h9, h10, h11]
  exact r
theorem rl_keepM {V U U' : VX} (h0 : (U'.2.2.1 20) = (U.2.2.1 20)) (h1 : (U'.2.2.1 21) = (U.2.2.1 21)) (r : relR V U) : relR V U' := by
  unfold relR at r ⊢
  rw [h0, h1]
  exact r
theorem rlK_row {k : Nat} {a b n m s w : Int32} {f g : Nat → Int32} (h : rlK m s w (f k) (g k)) : rlK (S_at k a b n 1 m) (S_at k a b n n s) (S_at k a b n b w) (S_rw a b n n f k) (S_rw a b n b g k) := by
  unfold S_at S_rw
  by_cases hc : 0 ≤ a.toInt ∧ a.toInt ≤ 3 ∧ 0 ≤ b.toInt ∧ b.toInt ≤ 3 ∧ n.toInt ≤ 60 ∧ 0 ≤ n.toInt
  · rw [if_pos hc, if_pos hc]
    by_cases hk : a.toInt = (k : Int)
    · have e : a.toInt.toNat = k := by omega
      rw [if_pos (show 0 ≤ a.toInt ∧ a.toInt ≤ 3 ∧ 0 ≤ b.toInt ∧ b.toInt ≤ 3 ∧ n.toInt ≤ 60 ∧ 0 ≤ n.toInt ∧ a.toInt = (k : Int) by omega), if_pos (show 0 ≤ a.toInt ∧ a.toInt ≤ 3 ∧ 0 ≤ b.toInt ∧ b.toInt ≤ 3 ∧ n.toInt ≤ 60 ∧ 0 ≤ n.toInt ∧ a.toInt = (k : Int) by omega), if_pos (show 0 ≤ a.toInt ∧ a.toInt ≤ 3 ∧ 0 ≤ b.toInt ∧ b.toInt ≤ 3 ∧ n.toInt ≤ 60 ∧ 0 ≤ n.toInt ∧ a.toInt = (k : Int) by omega), e]
      unfold upd
      rw [if_pos rfl, if_pos rfl]
      exact Or.inr ⟨by decide, rfl, by omega, rfl⟩
    · rw [if_neg (show ¬ (0 ≤ a.toInt ∧ a.toInt ≤ 3 ∧ 0 ≤ b.toInt ∧ b.toInt ≤ 3 ∧ n.toInt ≤ 60 ∧ 0 ≤ n.toInt ∧ a.toInt = (k : Int)) by omega), if_neg (show ¬ (0 ≤ a.toInt ∧ a.toInt ≤ 3 ∧ 0 ≤ b.toInt ∧ b.toInt ≤ 3 ∧ n.toInt ≤ 60 ∧ 0 ≤ n.toInt ∧ a.toInt = (k : Int)) by omega), if_neg (show ¬ (0 ≤ a.toInt ∧ a.toInt ≤ 3 ∧ 0 ≤ b.toInt ∧ b.toInt ≤ 3 ∧ n.toInt ≤ 60 ∧ 0 ≤ n.toInt ∧ a.toInt = (k : Int)) by omega)]
      unfold upd
      rw [if_neg (by omega), if_neg (by omega)]
      exact h
  · rw [if_neg hc, if_neg hc, if_neg (show ¬ (0 ≤ a.toInt ∧ a.toInt ≤ 3 ∧ 0 ≤ b.toInt ∧ b.toInt ≤ 3 ∧ n.toInt ≤ 60 ∧ 0 ≤ n.toInt ∧ a.toInt = (k : Int)) by omega), if_neg (show ¬ (0 ≤ a.toInt ∧ a.toInt ≤ 3 ∧ 0 ≤ b.toInt ∧ b.toInt ≤ 3 ∧ n.toInt ≤ 60 ∧ 0 ≤ n.toInt ∧ a.toInt = (k : Int)) by omega), if_neg (show ¬ (0 ≤ a.toInt ∧ a.toInt ≤ 3 ∧ 0 ≤ b.toInt ∧ b.toInt ≤ 3 ∧ n.toInt ≤ 60 ∧ 0 ≤ n.toInt ∧ a.toInt = (k : Int)) by omega)]
    exact h
theorem rl_row {V V' U U' : VX} (a b n : Int32) (h0 : (V'.1 69) = S_at 0 a b n 1 (V.1 69)) (h1 : (V'.1 68) = S_at 0 a b n n (V.1 68)) (h2 : (V'.1 67) = S_at 0 a b n b (V.1 67)) (h3 : (V'.1 72) = S_at 1 a b n 1 (V.1 72)) (h4 : (V'.1 71) = S_at 1 a b n n (V.1 71)) (h5 : (V'.1 70) = S_at 1 a b n b (V.1 70)) (h6 : (V'.1 75) = S_at 2 a b n 1 (V.1 75)) (h7 : (V'.1 74) = S_at 2 a b n n (V.1 74)) (h8 : (V'.1 73) = S_at 2 a b n b (V.1 73)) (h9 : (V'.1 78) = S_at 3 a b n 1 (V.1 78)) (h10 : (V'.1 77) = S_at 3 a b n n (V.1 77)) (h11 : (V'.1 76) = S_at 3 a b n b (V.1 76)) (m0 : (U'.2.2.1 20) = S_rw a b n n (U.2.2.1 20)) (m1 : (U'.2.2.1 21) = S_rw a b n b (U.2.2.1 21)) (r : relR V U) : relR V' U' := by
  unfold relR at r ⊢
  rw [h0, h1, h2, h3, h4, h5, h6, h7, h8, h9, h10, h11, m0, m1]
  exact ⟨rlK_row (k := 0) r.1, rlK_row (k := 1) r.2.1, rlK_row (k := 2) r.2.2.1, rlK_row (k := 3) r.2.2.2⟩
theorem gs4_0 {a x0 x1 x2 x3 : Int32} (h : a.toInt = 0) : gs4 a x0 x1 x2 x3 = x0 := by unfold gs4; rw [if_pos h]
theorem gs4_1 {a x0 x1 x2 x3 : Int32} (h : a.toInt = 1) : gs4 a x0 x1 x2 x3 = x1 := by unfold gs4; rw [if_neg (by omega), if_pos h]
theorem gs4_2 {a x0 x1 x2 x3 : Int32} (h : a.toInt = 2) : gs4 a x0 x1 x2 x3 = x2 := by unfold gs4; rw [if_neg (by omega), if_neg (by omega), if_pos h]
theorem gs4_3 {a x0 x1 x2 x3 : Int32} (h : a.toInt = 3) : gs4 a x0 x1 x2 x3 = x3 := by unfold gs4; rw [if_neg (by omega), if_neg (by omega), if_neg (by omega)]
theorem rl_gs {V U : VX} (r : relR V U) (a : Int32) (ha : 0 ≤ a.toInt ∧ a.toInt ≤ 3) : rlK (gs4 a (V.1 69) (V.1 72) (V.1 75) (V.1 78)) (gs4 a (V.1 68) (V.1 71) (V.1 74) (V.1 77)) (gs4 a (V.1 67) (V.1 70) (V.1 73) (V.1 76)) (U.2.2.1 20 a.toInt.toNat) (U.2.2.1 21 a.toInt.toNat) := by
  obtain ⟨r0, r1, r2, r3⟩ := r
  rcases (show a.toInt = 0 ∨ a.toInt = 1 ∨ a.toInt = 2 ∨ a.toInt = 3 by omega) with h | h | h | h
  · rw [gs4_0 h, gs4_0 h, gs4_0 h, show a.toInt.toNat = 0 by omega]
    exact r0
  · rw [gs4_1 h, gs4_1 h, gs4_1 h, show a.toInt.toNat = 1 by omega]
    exact r1
  · rw [gs4_2 h, gs4_2 h, gs4_2 h, show a.toInt.toNat = 2 by omega]
    exact r2
  · rw [gs4_3 h, gs4_3 h, gs4_3 h, show a.toInt.toNat = 3 by omega]
    exact r3
theorem rl_write {V U : VX} (r : relR V U) (a i : Int32) : S_write a i (gs4 a (V.1 69) (V.1 72) (V.1 75) (V.1 78)) (gs4 a (V.1 68) (V.1 71) (V.1 74) (V.1 77)) = S_writeM a i (U.2.2.1 20 a.toInt.toNat) := by
  unfold S_write S_writeM
  by_cases ha : 0 ≤ a.toInt ∧ a.toInt ≤ 3
  · rw [if_pos ha, if_pos ha]
    have h := rl_gs r a ha
    generalize (gs4 a (V.1 69) (V.1 72) (V.1 75) (V.1 78)) = m at h ⊢
    generalize (gs4 a (V.1 68) (V.1 71) (V.1 74) (V.1 77)) = z at h ⊢
    generalize U.2.2.1 20 a.toInt.toNat = q at h ⊢
    rcases h with ⟨h1, h2⟩ | ⟨h1, h2, h3, h4⟩
    · rw [if_pos h1, if_pos h2]
    · rw [h2, if_neg (show ¬ m.toInt = 0 by omega), if_neg (show ¬ z.toInt = -1 by omega)]
  · rw [if_neg ha, if_neg ha]
theorem rl_paste {V U : VX} (r : relR V U) (a i b k n : Int32) : S_paste a i b k n (gs4 a (V.1 69) (V.1 72) (V.1 75) (V.1 78)) (gs4 b (V.1 69) (V.1 72) (V.1 75) (V.1 78)) (gs4 a (V.1 67) (V.1 70) (V.1 73) (V.1 76)) (gs4 b (V.1 67) (V.1 70) (V.1 73) (V.1 76)) (gs4 a (V.1 68) (V.1 71) (V.1 74) (V.1 77)) (gs4 b (V.1 68) (V.1 71) (V.1 74) (V.1 77)) = S_pasteM a i b k n (U.2.2.1 20 a.toInt.toNat) (U.2.2.1 20 b.toInt.toNat) (U.2.2.1 21 a.toInt.toNat) (U.2.2.1 21 b.toInt.toNat) := by
  unfold S_paste S_pasteM
  by_cases ha : 0 ≤ a.toInt ∧ a.toInt ≤ 3 ∧ 0 ≤ b.toInt ∧ b.toInt ≤ 3
  · rw [if_pos ha, if_pos ha]
    have h := rl_gs r a ⟨ha.1, ha.2.1⟩
    have h' := rl_gs r b ha.2.2
    generalize (gs4 a (V.1 69) (V.1 72) (V.1 75) (V.1 78)) = ma at h ⊢
    generalize (gs4 a (V.1 68) (V.1 71) (V.1 74) (V.1 77)) = sa at h ⊢
    generalize (gs4 a (V.1 67) (V.1 70) (V.1 73) (V.1 76)) = wa at h ⊢
    generalize U.2.2.1 20 a.toInt.toNat = qa at h ⊢
    generalize U.2.2.1 21 a.toInt.toNat = ya at h ⊢
    generalize (gs4 b (V.1 69) (V.1 72) (V.1 75) (V.1 78)) = mb at h' ⊢
    generalize (gs4 b (V.1 68) (V.1 71) (V.1 74) (V.1 77)) = sb at h' ⊢
    generalize (gs4 b (V.1 67) (V.1 70) (V.1 73) (V.1 76)) = wb at h' ⊢
    generalize U.2.2.1 20 b.toInt.toNat = qb at h' ⊢
    generalize U.2.2.1 21 b.toInt.toNat = yb at h' ⊢
    rcases h with ⟨h1, h2⟩ | ⟨h1, h2, h3, h4⟩
    · rw [if_pos (Or.inl h1), if_pos (Or.inl h2)]
    · rcases h' with ⟨h5, h6⟩ | ⟨h5, h6, h7, h8⟩
      · rw [if_pos (Or.inr h5), if_pos (Or.inr h6)]
      · rw [h2, h4, h6, h8, if_neg (show ¬ (ma.toInt = 0 ∨ mb.toInt = 0) by omega), if_neg (show ¬ (sa.toInt = -1 ∨ sb.toInt = -1) by omega)]
  · rw [if_neg ha, if_neg ha]
