def S_end (n : Int32) : Int32 := if n.toInt = 0 then 0 else -1
def S_fault (n : Int32) : Int32 := if n = 0 then 0 else -1
def S_count (n : Int32) : Int32 := if 0 ≤ n.toInt ∧ n.toInt ≤ 11 then 0 else -1
def S_image (k : Int32) : Int32 := if 0 ≤ k.toInt ∧ k.toInt ≤ 2 then 0 else -2
def S_back (k : Int32) : Int32 := if 0 ≤ k.toInt ∧ k.toInt ≤ 2 then -6 else -2
def S_row (a b n : Int32) : Int32 := if 0 ≤ a.toInt ∧ a.toInt ≤ 3 ∧ 0 ≤ b.toInt ∧ b.toInt ≤ 3 ∧ n.toInt ≤ 60 then (if n.toInt < 0 then -3 else 0) else -2
def S_write (a : Int32) : Int32 := if 0 ≤ a.toInt ∧ a.toInt ≤ 3 then -6 else -2
def S_paste (a b : Int32) : Int32 := if 0 ≤ a.toInt ∧ a.toInt ≤ 3 ∧ 0 ≤ b.toInt ∧ b.toInt ≤ 3 then -6 else -2
def rw_ (o t : Int32) : Int32 := (if t < o then 10 else if o = t then 4 else 0) - o * o
def nb_ (o t : Int32) : Int32 := if rw_ o t < rw_ 0 t ∨ rw_ o t < rw_ 1 t ∨ rw_ o t < rw_ 2 t ∨ rw_ o t < rw_ 3 t then 0 else 1
def S_sounds (x y : Int32) : Int32 := if 0 ≤ x.toInt ∧ x.toInt ≤ 3 ∧ 0 ≤ y.toInt ∧ y.toInt ≤ 3 then rw_ x y else -1000
def S_best (y : Int32) : Int32 := if 0 ≤ y.toInt ∧ y.toInt ≤ 3 then (if y = 0 then 1 else if y = 1 then 2 else if y = 2 then 3 else 0) else -2
theorem dX0_size_0 : decode cX0_size 0 = .ok (.aload_n 0, 1) := by decide +kernel
theorem dX0_size_1 : decode cX0_size 1 = .ok (.getfield 27, 3) := by decide +kernel
theorem dX0_size_4 : decode cX0_size 4 = .ok (.ireturn, 1) := by decide +kernel
theorem dX11_lawTrouble_0 : decode cX11_lawTrouble 0 = .ok (.aload_n 0, 1) := by decide +kernel
theorem dX11_lawTrouble_1 : decode cX11_lawTrouble 1 = .ok (.iload_n 1, 1) := by decide +kernel
theorem dX11_lawTrouble_11 : decode cX11_lawTrouble 11 = .ok (.iconst 1, 1) := by decide +kernel
theorem dX11_lawTrouble_12 : decode cX11_lawTrouble 12 = .ok (.isub, 1) := by decide +kernel
theorem dX11_lawTrouble_13 : decode cX11_lawTrouble 13 = .ok (.invokevirtual 441, 3) := by decide +kernel
theorem dX11_lawTrouble_16 : decode cX11_lawTrouble 16 = .ok (.ireturn, 1) := by decide +kernel
theorem dX11_lawTrouble_2 : decode cX11_lawTrouble 2 = .ok (.bipush 60, 2) := by decide +kernel
theorem dX11_lawTrouble_4 : decode cX11_lawTrouble 4 = .ok (.aload_n 0, 1) := by decide +kernel
theorem dX11_lawTrouble_5 : decode cX11_lawTrouble 5 = .ok (.getfield 26, 3) := by decide +kernel
theorem dX11_lawTrouble_8 : decode cX11_lawTrouble 8 = .ok (.invokevirtual 185, 3) := by decide +kernel
theorem dX11_noPlanStep_0 : decode cX11_noPlanStep 0 = .ok (.aload_n 0, 1) := by decide +kernel
theorem dX11_noPlanStep_1 : decode cX11_noPlanStep 1 = .ok (.invokevirtual 165, 3) := by decide +kernel
theorem dX11_noPlanStep_19 : decode cX11_noPlanStep 19 = .ok (.iconst 1, 1) := by decide +kernel
theorem dX11_noPlanStep_20 : decode cX11_noPlanStep 20 = .ok (.goto 4, 3) := by decide +kernel
theorem dX11_noPlanStep_24 : decode cX11_noPlanStep 24 = .ok (.ireturn, 1) := by decide +kernel
theorem dX11_noPlanStep_4 : decode cX11_noPlanStep 4 = .ok (.ifCond .ne 15, 3) := by decide +kernel
theorem dX11_noSlot_0 : decode cX11_noSlot 0 = .ok (.iload_n 0, 1) := by decide +kernel
theorem dX11_noSlot_1 : decode cX11_noSlot 1 = .ok (.i2l, 1) := by decide +kernel
theorem dX11_noSlot_2 : decode cX11_noSlot 2 = .ok (.lconst 0, 1) := by decide +kernel
theorem dX11_noSlot_3 : decode cX11_noSlot 3 = .ok (.ldc2_w 348, 3) := by decide +kernel
theorem dX11_noSlot_6 : decode cX11_noSlot 6 = .ok (.invokestatic 101, 3) := by decide +kernel
theorem dX11_noSlot_9 : decode cX11_noSlot 9 = .ok (.ireturn, 1) := by decide +kernel
theorem dX11_noStation_0 : decode cX11_noStation 0 = .ok (.aload_n 0, 1) := by decide +kernel
theorem dX11_noStation_1 : decode cX11_noStation 1 = .ok (.getfield 26, 3) := by decide +kernel
theorem dX11_noStation_10 : decode cX11_noStation 10 = .ok (.iconst 1, 1) := by decide +kernel
theorem dX11_noStation_11 : decode cX11_noStation 11 = .ok (.goto 4, 3) := by decide +kernel
theorem dX11_noStation_15 : decode cX11_noStation 15 = .ok (.ireturn, 1) := by decide +kernel
theorem dX11_noStation_4 : decode cX11_noStation 4 = .ok (.invokevirtual 123, 3) := by decide +kernel
theorem dX11_noStation_7 : decode cX11_noStation 7 = .ok (.ifCond .ne 7, 3) := by decide +kernel
theorem dX11_noStep_0 : decode cX11_noStep 0 = .ok (.aload_n 0, 1) := by decide +kernel
theorem dX11_noStep_1 : decode cX11_noStep 1 = .ok (.invokevirtual 165, 3) := by decide +kernel
theorem dX11_noStep_19 : decode cX11_noStep 19 = .ok (.iconst 1, 1) := by decide +kernel
theorem dX11_noStep_20 : decode cX11_noStep 20 = .ok (.goto 4, 3) := by decide +kernel
theorem dX11_noStep_24 : decode cX11_noStep 24 = .ok (.ireturn, 1) := by decide +kernel
theorem dX11_noStep_4 : decode cX11_noStep 4 = .ok (.ifCond .ne 15, 3) := by decide +kernel
theorem dX11_noTone_0 : decode cX11_noTone 0 = .ok (.aload_n 0, 1) := by decide +kernel
theorem dX11_noTone_1 : decode cX11_noTone 1 = .ok (.invokevirtual 165, 3) := by decide +kernel
theorem dX11_noTone_26 : decode cX11_noTone 26 = .ok (.iconst 1, 1) := by decide +kernel
theorem dX11_noTone_27 : decode cX11_noTone 27 = .ok (.goto 4, 3) := by decide +kernel
theorem dX11_noTone_31 : decode cX11_noTone 31 = .ok (.ireturn, 1) := by decide +kernel
theorem dX11_noTone_4 : decode cX11_noTone 4 = .ok (.ifCond .ne 22, 3) := by decide +kernel
theorem dX11_outside_0 : decode cX11_outside 0 = .ok (.lload_n 0, 1) := by decide +kernel
theorem dX11_outside_1 : decode cX11_outside 1 = .ok (.lload_n 2, 1) := by decide +kernel
theorem dX11_outside_10 : decode cX11_outside 10 = .ok (.ifCond .le 7, 3) := by decide +kernel
theorem dX11_outside_13 : decode cX11_outside 13 = .ok (.iconst 1, 1) := by decide +kernel
theorem dX11_outside_14 : decode cX11_outside 14 = .ok (.goto 4, 3) := by decide +kernel
theorem dX11_outside_17 : decode cX11_outside 17 = .ok (.iconst 0, 1) := by decide +kernel
theorem dX11_outside_18 : decode cX11_outside 18 = .ok (.ireturn, 1) := by decide +kernel
theorem dX11_outside_2 : decode cX11_outside 2 = .ok (.lcmp, 1) := by decide +kernel
theorem dX11_outside_3 : decode cX11_outside 3 = .ok (.ifCond .lt 10, 3) := by decide +kernel
theorem dX11_outside_6 : decode cX11_outside 6 = .ok (.lload_n 0, 1) := by decide +kernel
theorem dX11_outside_7 : decode cX11_outside 7 = .ok (.lload 4, 2) := by decide +kernel
theorem dX11_outside_9 : decode cX11_outside 9 = .ok (.lcmp, 1) := by decide +kernel
theorem dX11_pairTrouble_0 : decode cX11_pairTrouble 0 = .ok (.iload_n 1, 1) := by decide +kernel
theorem dX11_pairTrouble_1 : decode cX11_pairTrouble 1 = .ok (.invokestatic 417, 3) := by decide +kernel
theorem dX11_pairTrouble_11 : decode cX11_pairTrouble 11 = .ok (.ifCond .eq 6, 3) := by decide +kernel
theorem dX11_pairTrouble_14 : decode cX11_pairTrouble 14 = .ok (.bipush (-2), 2) := by decide +kernel
theorem dX11_pairTrouble_16 : decode cX11_pairTrouble 16 = .ok (.ireturn, 1) := by decide +kernel
theorem dX11_pairTrouble_4 : decode cX11_pairTrouble 4 = .ok (.ifCond .ne 10, 3) := by decide +kernel
theorem dX11_pairTrouble_7 : decode cX11_pairTrouble 7 = .ok (.aload_n 0, 1) := by decide +kernel
theorem dX11_pairTrouble_8 : decode cX11_pairTrouble 8 = .ok (.invokevirtual 165, 3) := by decide +kernel
theorem dX11_placeTrouble_0 : decode cX11_placeTrouble 0 = .ok (.aload_n 0, 1) := by decide +kernel
theorem dX11_placeTrouble_1 : decode cX11_placeTrouble 1 = .ok (.iload_n 1, 1) := by decide +kernel
theorem dX11_placeTrouble_10 : decode cX11_placeTrouble 10 = .ok (.isub, 1) := by decide +kernel
theorem dX11_placeTrouble_11 : decode cX11_placeTrouble 11 = .ok (.sipush 999, 3) := by decide +kernel
theorem dX11_placeTrouble_14 : decode cX11_placeTrouble 14 = .ok (.invokevirtual 441, 3) := by decide +kernel
theorem dX11_placeTrouble_17 : decode cX11_placeTrouble 17 = .ok (.ireturn, 1) := by decide +kernel
theorem dX11_placeTrouble_2 : decode cX11_placeTrouble 2 = .ok (.aload_n 0, 1) := by decide +kernel
theorem dX11_placeTrouble_3 : decode cX11_placeTrouble 3 = .ok (.getfield 26, 3) := by decide +kernel
theorem dX11_placeTrouble_6 : decode cX11_placeTrouble 6 = .ok (.invokevirtual 136, 3) := by decide +kernel
theorem dX11_placeTrouble_9 : decode cX11_placeTrouble 9 = .ok (.iconst 1, 1) := by decide +kernel
theorem dX6_draft_0 : decode cX6_draft 0 = .ok (.aload_n 0, 1) := by decide +kernel
theorem dX6_draft_1 : decode cX6_draft 1 = .ok (.getfield 12, 3) := by decide +kernel
theorem dX6_draft_4 : decode cX6_draft 4 = .ok (.areturn, 1) := by decide +kernel
theorem dX6_faultKind_0 : decode cX6_faultKind 0 = .ok (.aload_n 0, 1) := by decide +kernel
theorem dX6_faultKind_1 : decode cX6_faultKind 1 = .ok (.getfield 22, 3) := by decide +kernel
theorem dX6_faultKind_4 : decode cX6_faultKind 4 = .ok (.ireturn, 1) := by decide +kernel
theorem dX6_faultPlace_0 : decode cX6_faultPlace 0 = .ok (.aload_n 0, 1) := by decide +kernel
theorem dX6_faultPlace_1 : decode cX6_faultPlace 1 = .ok (.getfield 18, 3) := by decide +kernel
theorem dX6_faultPlace_4 : decode cX6_faultPlace 4 = .ok (.ireturn, 1) := by decide +kernel
theorem dX7_hasRow_0 : decode cX7_hasRow 0 = .ok (.aload_n 0, 1) := by decide +kernel
theorem dX7_hasRow_1 : decode cX7_hasRow 1 = .ok (.getfield 15, 3) := by decide +kernel
theorem dX7_hasRow_4 : decode cX7_hasRow 4 = .ok (.ireturn, 1) := by decide +kernel
theorem dX8_a_0 : decode cX8_a 0 = .ok (.aload_n 0, 1) := by decide +kernel
theorem dX8_a_1 : decode cX8_a 1 = .ok (.getfield 29, 3) := by decide +kernel
theorem dX8_a_4 : decode cX8_a 4 = .ok (.ireturn, 1) := by decide +kernel
theorem dX8_acts_0 : decode cX8_acts 0 = .ok (.aload_n 0, 1) := by decide +kernel
theorem dX8_acts_1 : decode cX8_acts 1 = .ok (.getfield 21, 3) := by decide +kernel
theorem dX8_acts_4 : decode cX8_acts 4 = .ok (.areturn, 1) := by decide +kernel
theorem dX8_b_0 : decode cX8_b 0 = .ok (.aload_n 0, 1) := by decide +kernel
theorem dX8_b_1 : decode cX8_b 1 = .ok (.getfield 32, 3) := by decide +kernel
theorem dX8_b_4 : decode cX8_b 4 = .ok (.ireturn, 1) := by decide +kernel
theorem dX8_c_0 : decode cX8_c 0 = .ok (.aload_n 0, 1) := by decide +kernel
theorem dX8_c_1 : decode cX8_c 1 = .ok (.getfield 35, 3) := by decide +kernel
theorem dX8_c_4 : decode cX8_c 4 = .ok (.ireturn, 1) := by decide +kernel
theorem dX8_d_0 : decode cX8_d 0 = .ok (.aload_n 0, 1) := by decide +kernel
theorem dX8_d_1 : decode cX8_d 1 = .ok (.getfield 38, 3) := by decide +kernel
theorem dX8_d_4 : decode cX8_d 4 = .ok (.ireturn, 1) := by decide +kernel
theorem dX8_lines_0 : decode cX8_lines 0 = .ok (.aload_n 0, 1) := by decide +kernel
theorem dX8_lines_1 : decode cX8_lines 1 = .ok (.getfield 44, 3) := by decide +kernel
theorem dX8_lines_4 : decode cX8_lines 4 = .ok (.ireturn, 1) := by decide +kernel
theorem dX8_odds_0 : decode cX8_odds 0 = .ok (.aload_n 0, 1) := by decide +kernel
theorem dX8_odds_1 : decode cX8_odds 1 = .ok (.getfield 41, 3) := by decide +kernel
theorem dX8_odds_4 : decode cX8_odds 4 = .ok (.ireturn, 1) := by decide +kernel
theorem dX8_postCount_0 : decode cX8_postCount 0 = .ok (.aload_n 0, 1) := by decide +kernel
theorem dX8_postCount_1 : decode cX8_postCount 1 = .ok (.getfield 50, 3) := by decide +kernel
theorem dX8_postCount_4 : decode cX8_postCount 4 = .ok (.ireturn, 1) := by decide +kernel
theorem dX8_signCount_0 : decode cX8_signCount 0 = .ok (.aload_n 0, 1) := by decide +kernel
theorem dX8_signCount_1 : decode cX8_signCount 1 = .ok (.getfield 47, 3) := by decide +kernel
theorem dX8_signCount_4 : decode cX8_signCount 4 = .ok (.ireturn, 1) := by decide +kernel
theorem dX8_tones_0 : decode cX8_tones 0 = .ok (.aload_n 0, 1) := by decide +kernel
theorem dX8_tones_1 : decode cX8_tones 1 = .ok (.getfield 25, 3) := by decide +kernel
theorem dX8_tones_4 : decode cX8_tones 4 = .ok (.ireturn, 1) := by decide +kernel
theorem dX9_size_0 : decode cX9_size 0 = .ok (.aload_n 0, 1) := by decide +kernel
theorem dX9_size_1 : decode cX9_size 1 = .ok (.getfield 15, 3) := by decide +kernel
theorem dX9_size_4 : decode cX9_size 4 = .ok (.ireturn, 1) := by decide +kernel
set_option maxHeartbeats 4000000 in
set_option maxRecDepth 100000 in
theorem k_St_tones (l : Launch) (D : va_G) (cB cI cJ cZ cS cT : ClassId) (h0 : Nat) (v_tones : Int32) (v_a : Int32) (v_b : Int32) (v_c : Int32) (v_d : Int32) (v_odds : Int32) (v_lines : Int32) (v_signs : Nat) (v_signCount : Int32) (v_posts : Nat) (v_postCount : Int32) (v_acts : Nat)  : Met l yX8_tones (Cond.code yX8_tones cX8_tones 1 (some .int) :: wsL_law) ({ frames := 0, cells := 0, slots := 0, locals := 0 }) (roP D (tyL cB cI cJ cZ cS cT) [(h0, .inr (8, [.int v_tones, .int v_a, .int v_b, .int v_c, .int v_d, .int v_odds, .int v_lines, .ref v_signs, .int v_signCount, .ref v_posts, .int v_postCount, .ref v_acts]))] [.ref h0]) (vp_Si (fun r : Int32 => r = v_tones)) 0 0 (fun _ => False) := by
  refine Met.ofW (cc := cX8_tones) (maxL := 1) (ret := (some .int)) (by decide) rfl ?_
  intro p e s m args below meth c s₁ B hml hv
  obtain ⟨rfl, hP, hK⟩ := hv
  have hx := B.exec
  have hb := B.bytes
  have hr := B.returns
  have hts : ∀ w ∈ wsL_law, w.before ([.ref h0] : List Value).toArray s = true := fun w h => atoms_spec (ws := Cond.code yX8_tones cX8_tones 1 (some .int) :: wsL_law) B.pre w (List.mem_cons_of_mem _ h)
  have hown : s.vm.findClass RX8 = some m.cls := findClass_of_methodNamed B.named
  have hlocks := B.notSynchronized
  have hl := lv_entry ([.ref h0]) (n := 1) (Nat.le_of_ble_eq_true rfl)
  rw [lg_entry_eq]
  generalize (lg_sl ([.ref h0]) ++ List.replicate (1 - (lg_sl ([.ref h0])).length) Slot.unset).toArray = ls at hl ⊢
  have hl : lv_has ls 1 [(0, .ref h0)] := hl
  have hP : va_P D vwCl [(h0, .inr (8, [.int v_tones, .int v_a, .int v_b, .int v_c, .int v_d, .int v_odds, .int v_lines, .ref v_signs, .int v_signCount, .ref v_posts, .int v_postCount, .ref v_acts]))] s.heap := hP
  refine lv_aload_n hx hb dX8_tones_0 rfl (lv_at hl 0 rfl) ?_
  refine va_get (D := D) (ci := 8) (v := .int v_tones) (C := RX8) (T := TX8) (N := 12) hx hb hts inlX8 hown hK hP 0 rfl rfl 0 (by decide) (hts _ (inr10 _ (List.mem_of_getElem? (i := 4) rfl))) (fun _ h9 => h9) rfl dX8_tones_1 ?_
  exact W.iret (v := v_tones) hx hb hr (fun t ht hW => ⟨_, rfl, rfl, ht⟩) (fun _ h => by cases h) dX8_tones_4

set_option maxHeartbeats 4000000 in
set_option maxRecDepth 100000 in
theorem k_St_a (l : Launch) (D : va_G) (cB cI cJ cZ cS cT : ClassId) (h0 : Nat) (v_tones : Int32) (v_a : Int32) (v_b : Int32) (v_c : Int32) (v_d : Int32) (v_odds : Int32) (v_lines : Int32) (v_signs : Nat) (v_signCount : Int32) (v_posts : Nat) (v_postCount : Int32) (v_acts : Nat)  : Met l yX8_a (Cond.code yX8_a cX8_a 1 (some .int) :: wsL_law) ({ frames := 0, cells := 0, slots := 0, locals := 0 }) (roP D (tyL cB cI cJ cZ cS cT) [(h0, .inr (8, [.int v_tones, .int v_a, .int v_b, .int v_c, .int v_d, .int v_odds, .int v_lines, .ref v_signs, .int v_signCount, .ref v_posts, .int v_postCount, .ref v_acts]))] [.ref h0]) (vp_Si (fun r : Int32 => r = v_a)) 0 0 (fun _ => False) := by
  refine Met.ofW (cc := cX8_a) (maxL := 1) (ret := (some .int)) (by decide) rfl ?_
  intro p e s m args below meth c s₁ B hml hv
  obtain ⟨rfl, hP, hK⟩ := hv
  have hx := B.exec
  have hb := B.bytes
  have hr := B.returns
  have hts : ∀ w ∈ wsL_law, w.before ([.ref h0] : List Value).toArray s = true := fun w h => atoms_spec (ws := Cond.code yX8_a cX8_a 1 (some .int) :: wsL_law) B.pre w (List.mem_cons_of_mem _ h)
  have hown : s.vm.findClass RX8 = some m.cls := findClass_of_methodNamed B.named
  have hlocks := B.notSynchronized
  have hl := lv_entry ([.ref h0]) (n := 1) (Nat.le_of_ble_eq_true rfl)
  rw [lg_entry_eq]
  generalize (lg_sl ([.ref h0]) ++ List.replicate (1 - (lg_sl ([.ref h0])).length) Slot.unset).toArray = ls at hl ⊢
  have hl : lv_has ls 1 [(0, .ref h0)] := hl
  have hP : va_P D vwCl [(h0, .inr (8, [.int v_tones, .int v_a, .int v_b, .int v_c, .int v_d, .int v_odds, .int v_lines, .ref v_signs, .int v_signCount, .ref v_posts, .int v_postCount, .ref v_acts]))] s.heap := hP
  refine lv_aload_n hx hb dX8_a_0 rfl (lv_at hl 0 rfl) ?_
  refine va_get (D := D) (ci := 8) (v := .int v_a) (C := RX8) (T := TX8) (N := 12) hx hb hts inlX8 hown hK hP 0 rfl rfl 1 (by decide) (hts _ (inr10 _ (List.mem_of_getElem? (i := 11) rfl))) (fun _ h9 => h9) rfl dX8_a_1 ?_
  exact W.iret (v := v_a) hx hb hr (fun t ht hW => ⟨_, rfl, rfl, ht⟩) (fun _ h => by cases h) dX8_a_4

set_option maxHeartbeats 4000000 in
set_option maxRecDepth 100000 in
theorem k_St_b (l : Launch) (D : va_G) (cB cI cJ cZ cS cT : ClassId) (h0 : Nat) (v_tones : Int32) (v_a : Int32) (v_b : Int32) (v_c : Int32) (v_d : Int32) (v_odds : Int32) (v_lines : Int32) (v_signs : Nat) (v_signCount : Int32) (v_posts : Nat) (v_postCount : Int32) (v_acts : Nat)  : Met l yX8_b (Cond.code yX8_b cX8_b 1 (some .int) :: wsL_law) ({ frames := 0, cells := 0, slots := 0, locals := 0 }) (roP D (tyL cB cI cJ cZ cS cT) [(h0, .inr (8, [.int v_tones, .int v_a, .int v_b, .int v_c, .int v_d, .int v_odds, .int v_lines, .ref v_signs, .int v_signCount, .ref v_posts, .int v_postCount, .ref v_acts]))] [.ref h0]) (vp_Si (fun r : Int32 => r = v_b)) 0 0 (fun _ => False) := by
  refine Met.ofW (cc := cX8_b) (maxL := 1) (ret := (some .int)) (by decide) rfl ?_
  intro p e s m args below meth c s₁ B hml hv
  obtain ⟨rfl, hP, hK⟩ := hv
  have hx := B.exec
  have hb := B.bytes
  have hr := B.returns
  have hts : ∀ w ∈ wsL_law, w.before ([.ref h0] : List Value).toArray s = true := fun w h => atoms_spec (ws := Cond.code yX8_b cX8_b 1 (some .int) :: wsL_law) B.pre w (List.mem_cons_of_mem _ h)
  have hown : s.vm.findClass RX8 = some m.cls := findClass_of_methodNamed B.named
  have hlocks := B.notSynchronized
  have hl := lv_entry ([.ref h0]) (n := 1) (Nat.le_of_ble_eq_true rfl)
  rw [lg_entry_eq]
  generalize (lg_sl ([.ref h0]) ++ List.replicate (1 - (lg_sl ([.ref h0])).length) Slot.unset).toArray = ls at hl ⊢
  have hl : lv_has ls 1 [(0, .ref h0)] := hl
  have hP : va_P D vwCl [(h0, .inr (8, [.int v_tones, .int v_a, .int v_b, .int v_c, .int v_d, .int v_odds, .int v_lines, .ref v_signs, .int v_signCount, .ref v_posts, .int v_postCount, .ref v_acts]))] s.heap := hP
  refine lv_aload_n hx hb dX8_b_0 rfl (lv_at hl 0 rfl) ?_
  refine va_get (D := D) (ci := 8) (v := .int v_b) (C := RX8) (T := TX8) (N := 12) hx hb hts inlX8 hown hK hP 0 rfl rfl 2 (by decide) (hts _ (inr10 _ (List.mem_of_getElem? (i := 12) rfl))) (fun _ h9 => h9) rfl dX8_b_1 ?_
  exact W.iret (v := v_b) hx hb hr (fun t ht hW => ⟨_, rfl, rfl, ht⟩) (fun _ h => by cases h) dX8_b_4

set_option maxHeartbeats 4000000 in
set_option maxRecDepth 100000 in
theorem k_St_c (l : Launch) (D : va_G) (cB cI cJ cZ cS cT : ClassId) (h0 : Nat) (v_tones : Int32) (v_a : Int32) (v_b : Int32) (v_c : Int32) (v_d : Int32) (v_odds : Int32) (v_lines : Int32) (v_signs : Nat) (v_signCount : Int32) (v_posts : Nat) (v_postCount : Int32) (v_acts : Nat)  : Met l yX8_c (Cond.code yX8_c cX8_c 1 (some .int) :: wsL_law) ({ frames := 0, cells := 0, slots := 0, locals := 0 }) (roP D (tyL cB cI cJ cZ cS cT) [(h0, .inr (8, [.int v_tones, .int v_a, .int v_b, .int v_c, .int v_d, .int v_odds, .int v_lines, .ref v_signs, .int v_signCount, .ref v_posts, .int v_postCount, .ref v_acts]))] [.ref h0]) (vp_Si (fun r : Int32 => r = v_c)) 0 0 (fun _ => False) := by
  refine Met.ofW (cc := cX8_c) (maxL := 1) (ret := (some .int)) (by decide) rfl ?_
  intro p e s m args below meth c s₁ B hml hv
  obtain ⟨rfl, hP, hK⟩ := hv
  have hx := B.exec
  have hb := B.bytes
  have hr := B.returns
  have hts : ∀ w ∈ wsL_law, w.before ([.ref h0] : List Value).toArray s = true := fun w h => atoms_spec (ws := Cond.code yX8_c cX8_c 1 (some .int) :: wsL_law) B.pre w (List.mem_cons_of_mem _ h)
  have hown : s.vm.findClass RX8 = some m.cls := findClass_of_methodNamed B.named
  have hlocks := B.notSynchronized
  have hl := lv_entry ([.ref h0]) (n := 1) (Nat.le_of_ble_eq_true rfl)
  rw [lg_entry_eq]
  generalize (lg_sl ([.ref h0]) ++ List.replicate (1 - (lg_sl ([.ref h0])).length) Slot.unset).toArray = ls at hl ⊢
  have hl : lv_has ls 1 [(0, .ref h0)] := hl
  have hP : va_P D vwCl [(h0, .inr (8, [.int v_tones, .int v_a, .int v_b, .int v_c, .int v_d, .int v_odds, .int v_lines, .ref v_signs, .int v_signCount, .ref v_posts, .int v_postCount, .ref v_acts]))] s.heap := hP
  refine lv_aload_n hx hb dX8_c_0 rfl (lv_at hl 0 rfl) ?_
  refine va_get (D := D) (ci := 8) (v := .int v_c) (C := RX8) (T := TX8) (N := 12) hx hb hts inlX8 hown hK hP 0 rfl rfl 3 (by decide) (hts _ (inr10 _ (List.mem_of_getElem? (i := 13) rfl))) (fun _ h9 => h9) rfl dX8_c_1 ?_
  exact W.iret (v := v_c) hx hb hr (fun t ht hW => ⟨_, rfl, rfl, ht⟩) (fun _ h => by cases h) dX8_c_4

set_option maxHeartbeats 4000000 in
set_option maxRecDepth 100000 in
theorem k_St_d (l : Launch) (D : va_G) (cB cI cJ cZ cS cT : ClassId) (h0 : Nat) (v_tones : Int32) (v_a : Int32) (v_b : Int32) (v_c : Int32) (v_d : Int32) (v_odds : Int32) (v_lines : Int32) (v_signs : Nat) (v_signCount : Int32) (v_posts : Nat) (v_postCount : Int32) (v_acts : Nat)  : Met l yX8_d (Cond.code yX8_d cX8_d 1 (some .int) :: wsL_law) ({ frames := 0, cells := 0, slots := 0, locals := 0 }) (roP D (tyL cB cI cJ cZ cS cT) [(h0, .inr (8, [.int v_tones, .int v_a, .int v_b, .int v_c, .int v_d, .int v_odds, .int v_lines, .ref v_signs, .int v_signCount, .ref v_posts, .int v_postCount, .ref v_acts]))] [.ref h0]) (vp_Si (fun r : Int32 => r = v_d)) 0 0 (fun _ => False) := by
  refine Met.ofW (cc := cX8_d) (maxL := 1) (ret := (some .int)) (by decide) rfl ?_
  intro p e s m args below meth c s₁ B hml hv
  obtain ⟨rfl, hP, hK⟩ := hv
  have hx := B.exec
  have hb := B.bytes
  have hr := B.returns
  have hts : ∀ w ∈ wsL_law, w.before ([.ref h0] : List Value).toArray s = true := fun w h => atoms_spec (ws := Cond.code yX8_d cX8_d 1 (some .int) :: wsL_law) B.pre w (List.mem_cons_of_mem _ h)
  have hown : s.vm.findClass RX8 = some m.cls := findClass_of_methodNamed B.named
  have hlocks := B.notSynchronized
  have hl := lv_entry ([.ref h0]) (n := 1) (Nat.le_of_ble_eq_true rfl)
  rw [lg_entry_eq]
  generalize (lg_sl ([.ref h0]) ++ List.replicate (1 - (lg_sl ([.ref h0])).length) Slot.unset).toArray = ls at hl ⊢
  have hl : lv_has ls 1 [(0, .ref h0)] := hl
  have hP : va_P D vwCl [(h0, .inr (8, [.int v_tones, .int v_a, .int v_b, .int v_c, .int v_d, .int v_odds, .int v_lines, .ref v_signs, .int v_signCount, .ref v_posts, .int v_postCount, .ref v_acts]))] s.heap := hP
  refine lv_aload_n hx hb dX8_d_0 rfl (lv_at hl 0 rfl) ?_
  refine va_get (D := D) (ci := 8) (v := .int v_d) (C := RX8) (T := TX8) (N := 12) hx hb hts inlX8 hown hK hP 0 rfl rfl 4 (by decide) (hts _ (inr10 _ (List.mem_of_getElem? (i := 5) rfl))) (fun _ h9 => h9) rfl dX8_d_1 ?_
  exact W.iret (v := v_d) hx hb hr (fun t ht hW => ⟨_, rfl, rfl, ht⟩) (fun _ h => by cases h) dX8_d_4

set_option maxHeartbeats 4000000 in
set_option maxRecDepth 100000 in
theorem k_St_odds (l : Launch) (D : va_G) (cB cI cJ cZ cS cT : ClassId) (h0 : Nat) (v_tones : Int32) (v_a : Int32) (v_b : Int32) (v_c : Int32) (v_d : Int32) (v_odds : Int32) (v_lines : Int32) (v_signs : Nat) (v_signCount : Int32) (v_posts : Nat) (v_postCount : Int32) (v_acts : Nat)  : Met l yX8_odds (Cond.code yX8_odds cX8_odds 1 (some .int) :: wsL_law) ({ frames := 0, cells := 0, slots := 0, locals := 0 }) (roP D (tyL cB cI cJ cZ cS cT) [(h0, .inr (8, [.int v_tones, .int v_a, .int v_b, .int v_c, .int v_d, .int v_odds, .int v_lines, .ref v_signs, .int v_signCount, .ref v_posts, .int v_postCount, .ref v_acts]))] [.ref h0]) (vp_Si (fun r : Int32 => r = v_odds)) 0 0 (fun _ => False) := by
  refine Met.ofW (cc := cX8_odds) (maxL := 1) (ret := (some .int)) (by decide) rfl ?_
  intro p e s m args below meth c s₁ B hml hv
  obtain ⟨rfl, hP, hK⟩ := hv
  have hx := B.exec
  have hb := B.bytes
  have hr := B.returns
  have hts : ∀ w ∈ wsL_law, w.before ([.ref h0] : List Value).toArray s = true := fun w h => atoms_spec (ws := Cond.code yX8_odds cX8_odds 1 (some .int) :: wsL_law) B.pre w (List.mem_cons_of_mem _ h)
  have hown : s.vm.findClass RX8 = some m.cls := findClass_of_methodNamed B.named
  have hlocks := B.notSynchronized
  have hl := lv_entry ([.ref h0]) (n := 1) (Nat.le_of_ble_eq_true rfl)
  rw [lg_entry_eq]
  generalize (lg_sl ([.ref h0]) ++ List.replicate (1 - (lg_sl ([.ref h0])).length) Slot.unset).toArray = ls at hl ⊢
  have hl : lv_has ls 1 [(0, .ref h0)] := hl
  have hP : va_P D vwCl [(h0, .inr (8, [.int v_tones, .int v_a, .int v_b, .int v_c, .int v_d, .int v_odds, .int v_lines, .ref v_signs, .int v_signCount, .ref v_posts, .int v_postCount, .ref v_acts]))] s.heap := hP
  refine lv_aload_n hx hb dX8_odds_0 rfl (lv_at hl 0 rfl) ?_
  refine va_get (D := D) (ci := 8) (v := .int v_odds) (C := RX8) (T := TX8) (N := 12) hx hb hts inlX8 hown hK hP 0 rfl rfl 5 (by decide) (hts _ (inr10 _ (List.mem_of_getElem? (i := 6) rfl))) (fun _ h9 => h9) rfl dX8_odds_1 ?_
  exact W.iret (v := v_odds) hx hb hr (fun t ht hW => ⟨_, rfl, rfl, ht⟩) (fun _ h => by cases h) dX8_odds_4

set_option maxHeartbeats 4000000 in
set_option maxRecDepth 100000 in
theorem k_St_lines (l : Launch) (D : va_G) (cB cI cJ cZ cS cT : ClassId) (h0 : Nat) (v_tones : Int32) (v_a : Int32) (v_b : Int32) (v_c : Int32) (v_d : Int32) (v_odds : Int32) (v_lines : Int32) (v_signs : Nat) (v_signCount : Int32) (v_posts : Nat) (v_postCount : Int32) (v_acts : Nat)  : Met l yX8_lines (Cond.code yX8_lines cX8_lines 1 (some .int) :: wsL_law) ({ frames := 0, cells := 0, slots := 0, locals := 0 }) (roP D (tyL cB cI cJ cZ cS cT) [(h0, .inr (8, [.int v_tones, .int v_a, .int v_b, .int v_c, .int v_d, .int v_odds, .int v_lines, .ref v_signs, .int v_signCount, .ref v_posts, .int v_postCount, .ref v_acts]))] [.ref h0]) (vp_Si (fun r : Int32 => r = v_lines)) 0 0 (fun _ => False) := by
  refine Met.ofW (cc := cX8_lines) (maxL := 1) (ret := (some .int)) (by decide) rfl ?_
  intro p e s m args below meth c s₁ B hml hv
  obtain ⟨rfl, hP, hK⟩ := hv
  have hx := B.exec
  have hb := B.bytes
  have hr := B.returns
  have hts : ∀ w ∈ wsL_law, w.before ([.ref h0] : List Value).toArray s = true := fun w h => atoms_spec (ws := Cond.code yX8_lines cX8_lines 1 (some .int) :: wsL_law) B.pre w (List.mem_cons_of_mem _ h)
  have hown : s.vm.findClass RX8 = some m.cls := findClass_of_methodNamed B.named
  have hlocks := B.notSynchronized
  have hl := lv_entry ([.ref h0]) (n := 1) (Nat.le_of_ble_eq_true rfl)
  rw [lg_entry_eq]
  generalize (lg_sl ([.ref h0]) ++ List.replicate (1 - (lg_sl ([.ref h0])).length) Slot.unset).toArray = ls at hl ⊢
  have hl : lv_has ls 1 [(0, .ref h0)] := hl
  have hP : va_P D vwCl [(h0, .inr (8, [.int v_tones, .int v_a, .int v_b, .int v_c, .int v_d, .int v_odds, .int v_lines, .ref v_signs, .int v_signCount, .ref v_posts, .int v_postCount, .ref v_acts]))] s.heap := hP
  refine lv_aload_n hx hb dX8_lines_0 rfl (lv_at hl 0 rfl) ?_
  refine va_get (D := D) (ci := 8) (v := .int v_lines) (C := RX8) (T := TX8) (N := 12) hx hb hts inlX8 hown hK hP 0 rfl rfl 6 (by decide) (hts _ (inr9 _ (List.mem_of_getElem? (i := 21) rfl))) (fun _ h9 => h9) rfl dX8_lines_1 ?_
  exact W.iret (v := v_lines) hx hb hr (fun t ht hW => ⟨_, rfl, rfl, ht⟩) (fun _ h => by cases h) dX8_lines_4

set_option maxHeartbeats 4000000 in
set_option maxRecDepth 100000 in
theorem k_St_signCount (l : Launch) (D : va_G) (cB cI cJ cZ cS cT : ClassId) (h0 : Nat) (v_tones : Int32) (v_a : Int32) (v_b : Int32) (v_c : Int32) (v_d : Int32) (v_odds : Int32) (v_lines : Int32) (v_signs : Nat) (v_signCount : Int32) (v_posts : Nat) (v_postCount : Int32) (v_acts : Nat)  : Met l yX8_signCount (Cond.code yX8_signCount cX8_signCount 1 (some .int) :: wsL_law) ({ frames := 0, cells := 0, slots := 0, locals := 0 }) (roP D (tyL cB cI cJ cZ cS cT) [(h0, .inr (8, [.int v_tones, .int v_a, .int v_b, .int v_c, .int v_d, .int v_odds, .int v_lines, .ref v_signs, .int v_signCount, .ref v_posts, .int v_postCount, .ref v_acts]))] [.ref h0]) (vp_Si (fun r : Int32 => r = v_signCount)) 0 0 (fun _ => False) := by
  refine Met.ofW (cc := cX8_signCount) (maxL := 1) (ret := (some .int)) (by decide) rfl ?_
  intro p e s m args below meth c s₁ B hml hv
  obtain ⟨rfl, hP, hK⟩ := hv
  have hx := B.exec
  have hb := B.bytes
  have hr := B.returns
  have hts : ∀ w ∈ wsL_law, w.before ([.ref h0] : List Value).toArray s = true := fun w h => atoms_spec (ws := Cond.code yX8_signCount cX8_signCount 1 (some .int) :: wsL_law) B.pre w (List.mem_cons_of_mem _ h)
  have hown : s.vm.findClass RX8 = some m.cls := findClass_of_methodNamed B.named
  have hlocks := B.notSynchronized
  have hl := lv_entry ([.ref h0]) (n := 1) (Nat.le_of_ble_eq_true rfl)
  rw [lg_entry_eq]
  generalize (lg_sl ([.ref h0]) ++ List.replicate (1 - (lg_sl ([.ref h0])).length) Slot.unset).toArray = ls at hl ⊢
  have hl : lv_has ls 1 [(0, .ref h0)] := hl
  have hP : va_P D vwCl [(h0, .inr (8, [.int v_tones, .int v_a, .int v_b, .int v_c, .int v_d, .int v_odds, .int v_lines, .ref v_signs, .int v_signCount, .ref v_posts, .int v_postCount, .ref v_acts]))] s.heap := hP
  refine lv_aload_n hx hb dX8_signCount_0 rfl (lv_at hl 0 rfl) ?_
  refine va_get (D := D) (ci := 8) (v := .int v_signCount) (C := RX8) (T := TX8) (N := 12) hx hb hts inlX8 hown hK hP 0 rfl rfl 8 (by decide) (hts _ (inr9 _ (List.mem_of_getElem? (i := 22) rfl))) (fun _ h9 => h9) rfl dX8_signCount_1 ?_
  exact W.iret (v := v_signCount) hx hb hr (fun t ht hW => ⟨_, rfl, rfl, ht⟩) (fun _ h => by cases h) dX8_signCount_4

set_option maxHeartbeats 4000000 in
set_option maxRecDepth 100000 in
theorem k_St_postCount (l : Launch) (D : va_G) (cB cI cJ cZ cS cT : ClassId) (h0 : Nat) (v_tones : Int32) (v_a : Int32) (v_b : Int32) (v_c : Int32) (v_d : Int32) (v_odds : Int32) (v_lines : Int32) (v_signs : Nat) (v_signCount : Int32) (v_posts : Nat) (v_postCount : Int32) (v_acts : Nat)  : Met l yX8_postCount (Cond.code yX8_postCount cX8_postCount 1 (some .int) :: wsL_law) ({ frames := 0, cells := 0, slots := 0, locals := 0 }) (roP D (tyL cB cI cJ cZ cS cT) [(h0, .inr (8, [.int v_tones, .int v_a, .int v_b, .int v_c, .int v_d, .int v_odds, .int v_lines, .ref v_signs, .int v_signCount, .ref v_posts, .int v_postCount, .ref v_acts]))] [.ref h0]) (vp_Si (fun r : Int32 => r = v_postCount)) 0 0 (fun _ => False) := by
  refine Met.ofW (cc := cX8_postCount) (maxL := 1) (ret := (some .int)) (by decide) rfl ?_
  intro p e s m args below meth c s₁ B hml hv
  obtain ⟨rfl, hP, hK⟩ := hv
  have hx := B.exec
  have hb := B.bytes
  have hr := B.returns
  have hts : ∀ w ∈ wsL_law, w.before ([.ref h0] : List Value).toArray s = true := fun w h => atoms_spec (ws := Cond.code yX8_postCount cX8_postCount 1 (some .int) :: wsL_law) B.pre w (List.mem_cons_of_mem _ h)
  have hown : s.vm.findClass RX8 = some m.cls := findClass_of_methodNamed B.named
  have hlocks := B.notSynchronized
  have hl := lv_entry ([.ref h0]) (n := 1) (Nat.le_of_ble_eq_true rfl)
  rw [lg_entry_eq]
  generalize (lg_sl ([.ref h0]) ++ List.replicate (1 - (lg_sl ([.ref h0])).length) Slot.unset).toArray = ls at hl ⊢
  have hl : lv_has ls 1 [(0, .ref h0)] := hl
  have hP : va_P D vwCl [(h0, .inr (8, [.int v_tones, .int v_a, .int v_b, .int v_c, .int v_d, .int v_odds, .int v_lines, .ref v_signs, .int v_signCount, .ref v_posts, .int v_postCount, .ref v_acts]))] s.heap := hP
  refine lv_aload_n hx hb dX8_postCount_0 rfl (lv_at hl 0 rfl) ?_
  refine va_get (D := D) (ci := 8) (v := .int v_postCount) (C := RX8) (T := TX8) (N := 12) hx hb hts inlX8 hown hK hP 0 rfl rfl 10 (by decide) (hts _ (inr9 _ (List.mem_of_getElem? (i := 23) rfl))) (fun _ h9 => h9) rfl dX8_postCount_1 ?_
  exact W.iret (v := v_postCount) hx hb hr (fun t ht hW => ⟨_, rfl, rfl, ht⟩) (fun _ h => by cases h) dX8_postCount_4

set_option maxHeartbeats 4000000 in
set_option maxRecDepth 100000 in
theorem k_St_acts (l : Launch) (D : va_G) (cB cI cJ cZ cS cT : ClassId) (h0 : Nat) (v_tones : Int32) (v_a : Int32) (v_b : Int32) (v_c : Int32) (v_d : Int32) (v_odds : Int32) (v_lines : Int32) (v_signs : Nat) (v_signCount : Int32) (v_posts : Nat) (v_postCount : Int32) (v_acts : Nat)  : Met l yX8_acts (Cond.code yX8_acts cX8_acts 1 (some (.object "IntervalSignal$Acts")) :: wsL_law) ({ frames := 0, cells := 0, slots := 0, locals := 0 }) (roP D (tyL cB cI cJ cZ cS cT) [(h0, .inr (8, [.int v_tones, .int v_a, .int v_b, .int v_c, .int v_d, .int v_odds, .int v_lines, .ref v_signs, .int v_signCount, .ref v_posts, .int v_postCount, .ref v_acts]))] [.ref h0]) (va_Sq (fun r : Option Nat => r = some v_acts)) 0 0 (fun _ => False) := by
  refine Met.ofW (cc := cX8_acts) (maxL := 1) (ret := (some (.object "IntervalSignal$Acts"))) (by decide) rfl ?_
  intro p e s m args below meth c s₁ B hml hv
  obtain ⟨rfl, hP, hK⟩ := hv
  have hx := B.exec
  have hb := B.bytes
  have hr := B.returns
  have hts : ∀ w ∈ wsL_law, w.before ([.ref h0] : List Value).toArray s = true := fun w h => atoms_spec (ws := Cond.code yX8_acts cX8_acts 1 (some (.object "IntervalSignal$Acts")) :: wsL_law) B.pre w (List.mem_cons_of_mem _ h)
  have hown : s.vm.findClass RX8 = some m.cls := findClass_of_methodNamed B.named
  have hlocks := B.notSynchronized
  have hl := lv_entry ([.ref h0]) (n := 1) (Nat.le_of_ble_eq_true rfl)
  rw [lg_entry_eq]
  generalize (lg_sl ([.ref h0]) ++ List.replicate (1 - (lg_sl ([.ref h0])).length) Slot.unset).toArray = ls at hl ⊢
  have hl : lv_has ls 1 [(0, .ref h0)] := hl
  have hP : va_P D vwCl [(h0, .inr (8, [.int v_tones, .int v_a, .int v_b, .int v_c, .int v_d, .int v_odds, .int v_lines, .ref v_signs, .int v_signCount, .ref v_posts, .int v_postCount, .ref v_acts]))] s.heap := hP
  refine lv_aload_n hx hb dX8_acts_0 rfl (lv_at hl 0 rfl) ?_
  refine va_get (D := D) (ci := 8) (v := .ref v_acts) (C := RX8) (T := TX8) (N := 12) hx hb hts inlX8 hown hK hP 0 rfl rfl 11 (by decide) (hts _ (inr4 _ (List.mem_of_getElem? (i := 6) rfl))) (fun _ h9 => h9) rfl dX8_acts_1 ?_
  exact W.aret (v := .ref v_acts) hx hb hr (Or.inl ⟨_, rfl⟩) (Or.inr ⟨_, rfl⟩) (fun t ht hW => ⟨some v_acts, rfl, rfl, ht⟩) (fun _ h => by cases h) dX8_acts_4

set_option maxHeartbeats 4000000 in
set_option maxRecDepth 100000 in
theorem k_Ac_size (l : Launch) (D : va_G) (cB cI cJ cZ cS cT : ClassId) (h0 : Nat) (o1 : Nat) (o2 : Nat) (o3 : Nat) (n : Int32)  : Met l yX0_size (Cond.code yX0_size cX0_size 1 (some .int) :: wsL_law) ({ frames := 0, cells := 0, slots := 0, locals := 0 }) (roP D (tyL cB cI cJ cZ cS cT) [(h0, .inr (0, [.ref o1, .ref o2, .ref o3, .int n]))] [.ref h0]) (vp_Si (fun r : Int32 => r = n)) 0 0 (fun _ => False) := by
  refine Met.ofW (cc := cX0_size) (maxL := 1) (ret := (some .int)) (by decide) rfl ?_
  intro p e s m args below meth c s₁ B hml hv
  obtain ⟨rfl, hP, hK⟩ := hv
  have hx := B.exec
  have hb := B.bytes
  have hr := B.returns
  have hts : ∀ w ∈ wsL_law, w.before ([.ref h0] : List Value).toArray s = true := fun w h => atoms_spec (ws := Cond.code yX0_size cX0_size 1 (some .int) :: wsL_law) B.pre w (List.mem_cons_of_mem _ h)
  have hown : s.vm.findClass RX0 = some m.cls := findClass_of_methodNamed B.named
  have hlocks := B.notSynchronized
  have hl := lv_entry ([.ref h0]) (n := 1) (Nat.le_of_ble_eq_true rfl)
  rw [lg_entry_eq]
  generalize (lg_sl ([.ref h0]) ++ List.replicate (1 - (lg_sl ([.ref h0])).length) Slot.unset).toArray = ls at hl ⊢
  have hl : lv_has ls 1 [(0, .ref h0)] := hl
  have hP : va_P D vwCl [(h0, .inr (0, [.ref o1, .ref o2, .ref o3, .int n]))] s.heap := hP
  refine lv_aload_n hx hb dX0_size_0 rfl (lv_at hl 0 rfl) ?_
  refine va_get (D := D) (ci := 0) (v := .int n) (C := RX0) (T := TX0) (N := 4) hx hb hts inlX0 hown hK hP 0 rfl rfl 3 (by decide) (hts _ (inr10 _ (List.mem_of_getElem? (i := 18) rfl))) (fun _ h9 => h9) rfl dX0_size_1 ?_
  exact W.iret (v := n) hx hb hr (fun t ht hW => ⟨_, rfl, rfl, ht⟩) (fun _ h => by cases h) dX0_size_4

set_option maxHeartbeats 4000000 in
set_option maxRecDepth 100000 in
theorem k_Rd_fault (l : Launch) (D : va_G) (cB cI cJ cZ cS cT : ClassId) (h0 : Nat) (dr : Nat) (kd : Int32) (sa : Int32) (be : Int32) (nu : Int32) (fa : Int32) (fp : Int32)  : Met l yX6_faultKind (Cond.code yX6_faultKind cX6_faultKind 1 (some .int) :: wsL_law) ({ frames := 0, cells := 0, slots := 0, locals := 0 }) (roP D (tyL cB cI cJ cZ cS cT) [(h0, .inr (6, [.ref dr, .int kd, .int sa, .int be, .int nu, .int fa, .int fp]))] [.ref h0]) (vp_Si (fun r : Int32 => r = fa)) 0 0 (fun _ => False) := by
  refine Met.ofW (cc := cX6_faultKind) (maxL := 1) (ret := (some .int)) (by decide) rfl ?_
  intro p e s m args below meth c s₁ B hml hv
  obtain ⟨rfl, hP, hK⟩ := hv
  have hx := B.exec
  have hb := B.bytes
  have hr := B.returns
  have hts : ∀ w ∈ wsL_law, w.before ([.ref h0] : List Value).toArray s = true := fun w h => atoms_spec (ws := Cond.code yX6_faultKind cX6_faultKind 1 (some .int) :: wsL_law) B.pre w (List.mem_cons_of_mem _ h)
  have hown : s.vm.findClass RX6 = some m.cls := findClass_of_methodNamed B.named
  have hlocks := B.notSynchronized
  have hl := lv_entry ([.ref h0]) (n := 1) (Nat.le_of_ble_eq_true rfl)
  rw [lg_entry_eq]
  generalize (lg_sl ([.ref h0]) ++ List.replicate (1 - (lg_sl ([.ref h0])).length) Slot.unset).toArray = ls at hl ⊢
  have hl : lv_has ls 1 [(0, .ref h0)] := hl
  have hP : va_P D vwCl [(h0, .inr (6, [.ref dr, .int kd, .int sa, .int be, .int nu, .int fa, .int fp]))] s.heap := hP
  refine lv_aload_n hx hb dX6_faultKind_0 rfl (lv_at hl 0 rfl) ?_
  refine va_get (D := D) (ci := 6) (v := .int fa) (C := RX6) (T := TX6) (N := 7) hx hb hts inlX6 hown hK hP 0 rfl rfl 5 (by decide) (hts _ (inr9 _ (List.mem_of_getElem? (i := 14) rfl))) (fun _ h9 => h9) rfl dX6_faultKind_1 ?_
  exact W.iret (v := fa) hx hb hr (fun t ht hW => ⟨_, rfl, rfl, ht⟩) (fun _ h => by cases h) dX6_faultKind_4

set_option maxHeartbeats 4000000 in
set_option maxRecDepth 100000 in
theorem k_Rd_place (l : Launch) (D : va_G) (cB cI cJ cZ cS cT : ClassId) (h0 : Nat) (dr : Nat) (kd : Int32) (sa : Int32) (be : Int32) (nu : Int32) (fa : Int32) (fp : Int32)  : Met l yX6_faultPlace (Cond.code yX6_faultPlace cX6_faultPlace 1 (some .int) :: wsL_law) ({ frames := 0, cells := 0, slots := 0, locals := 0 }) (roP D (tyL cB cI cJ cZ cS cT) [(h0, .inr (6, [.ref dr, .int kd, .int sa, .int be, .int nu, .int fa, .int fp]))] [.ref h0]) (vp_Si (fun r : Int32 => r = fp)) 0 0 (fun _ => False) := by
  refine Met.ofW (cc := cX6_faultPlace) (maxL := 1) (ret := (some .int)) (by decide) rfl ?_
  intro p e s m args below meth c s₁ B hml hv
  obtain ⟨rfl, hP, hK⟩ := hv
  have hx := B.exec
  have hb := B.bytes
  have hr := B.returns
  have hts : ∀ w ∈ wsL_law, w.before ([.ref h0] : List Value).toArray s = true := fun w h => atoms_spec (ws := Cond.code yX6_faultPlace cX6_faultPlace 1 (some .int) :: wsL_law) B.pre w (List.mem_cons_of_mem _ h)
  have hown : s.vm.findClass RX6 = some m.cls := findClass_of_methodNamed B.named
  have hlocks := B.notSynchronized
  have hl := lv_entry ([.ref h0]) (n := 1) (Nat.le_of_ble_eq_true rfl)
  rw [lg_entry_eq]
  generalize (lg_sl ([.ref h0]) ++ List.replicate (1 - (lg_sl ([.ref h0])).length) Slot.unset).toArray = ls at hl ⊢
  have hl : lv_has ls 1 [(0, .ref h0)] := hl
  have hP : va_P D vwCl [(h0, .inr (6, [.ref dr, .int kd, .int sa, .int be, .int nu, .int fa, .int fp]))] s.heap := hP
  refine lv_aload_n hx hb dX6_faultPlace_0 rfl (lv_at hl 0 rfl) ?_
  refine va_get (D := D) (ci := 6) (v := .int fp) (C := RX6) (T := TX6) (N := 7) hx hb hts inlX6 hown hK hP 0 rfl rfl 6 (by decide) (hts _ (inr3 _ (List.mem_of_getElem? (i := 20) rfl))) (fun _ h9 => h9) rfl dX6_faultPlace_1 ?_
  exact W.iret (v := fp) hx hb hr (fun t ht hW => ⟨_, rfl, rfl, ht⟩) (fun _ h => by cases h) dX6_faultPlace_4

set_option maxHeartbeats 4000000 in
set_option maxRecDepth 100000 in
theorem k_Rd_draft (l : Launch) (D : va_G) (cB cI cJ cZ cS cT : ClassId) (h0 : Nat) (dr : Nat) (kd : Int32) (sa : Int32) (be : Int32) (nu : Int32) (fa : Int32) (fp : Int32)  : Met l yX6_draft (Cond.code yX6_draft cX6_draft 1 (some (.object "IntervalSignal$Station")) :: wsL_law) ({ frames := 0, cells := 0, slots := 0, locals := 0 }) (roP D (tyL cB cI cJ cZ cS cT) [(h0, .inr (6, [.ref dr, .int kd, .int sa, .int be, .int nu, .int fa, .int fp]))] [.ref h0]) (va_Sq (fun r : Option Nat => r = some dr)) 0 0 (fun _ => False) := by
  refine Met.ofW (cc := cX6_draft) (maxL := 1) (ret := (some (.object "IntervalSignal$Station"))) (by decide) rfl ?_
  intro p e s m args below meth c s₁ B hml hv
  obtain ⟨rfl, hP, hK⟩ := hv
  have hx := B.exec
  have hb := B.bytes
  have hr := B.returns
  have hts : ∀ w ∈ wsL_law, w.before ([.ref h0] : List Value).toArray s = true := fun w h => atoms_spec (ws := Cond.code yX6_draft cX6_draft 1 (some (.object "IntervalSignal$Station")) :: wsL_law) B.pre w (List.mem_cons_of_mem _ h)
  have hown : s.vm.findClass RX6 = some m.cls := findClass_of_methodNamed B.named
  have hlocks := B.notSynchronized
  have hl := lv_entry ([.ref h0]) (n := 1) (Nat.le_of_ble_eq_true rfl)
  rw [lg_entry_eq]
  generalize (lg_sl ([.ref h0]) ++ List.replicate (1 - (lg_sl ([.ref h0])).length) Slot.unset).toArray = ls at hl ⊢
  have hl : lv_has ls 1 [(0, .ref h0)] := hl
  have hP : va_P D vwCl [(h0, .inr (6, [.ref dr, .int kd, .int sa, .int be, .int nu, .int fa, .int fp]))] s.heap := hP
  refine lv_aload_n hx hb dX6_draft_0 rfl (lv_at hl 0 rfl) ?_
  refine va_get (D := D) (ci := 6) (v := .ref dr) (C := RX6) (T := TX6) (N := 7) hx hb hts inlX6 hown hK hP 0 rfl rfl 0 (by decide) (hts _ (inr3 _ (List.mem_of_getElem? (i := 19) rfl))) (fun _ h9 => h9) rfl dX6_draft_1 ?_
  exact W.aret (v := .ref dr) hx hb hr (Or.inl ⟨_, rfl⟩) (Or.inr ⟨_, rfl⟩) (fun t ht hW => ⟨some dr, rfl, rfl, ht⟩) (fun _ h => by cases h) dX6_draft_4

set_option maxHeartbeats 4000000 in
set_option maxRecDepth 100000 in
theorem k_Sl_has (l : Launch) (D : va_G) (cB cI cJ cZ cS cT : ClassId) (h0 : Nat) (nb : Nat) (wi : Int32) (si : Int32)  : Met l yX7_hasRow (Cond.code yX7_hasRow cX7_hasRow 1 (some .boolean) :: wsL_law) ({ frames := 0, cells := 0, slots := 0, locals := 0 }) (roP D (tyL cB cI cJ cZ cS cT) [(h0, .inr (7, [.ref nb, .int wi, .int si, .int 0]))] [.ref h0]) (vp_Si (fun r : Int32 => r = 0)) 0 0 (fun _ => False) := by
  refine Met.ofW (cc := cX7_hasRow) (maxL := 1) (ret := (some .boolean)) (by decide) rfl ?_
  intro p e s m args below meth c s₁ B hml hv
  obtain ⟨rfl, hP, hK⟩ := hv
  have hx := B.exec
  have hb := B.bytes
  have hr := B.returns
  have hts : ∀ w ∈ wsL_law, w.before ([.ref h0] : List Value).toArray s = true := fun w h => atoms_spec (ws := Cond.code yX7_hasRow cX7_hasRow 1 (some .boolean) :: wsL_law) B.pre w (List.mem_cons_of_mem _ h)
  have hown : s.vm.findClass RX7 = some m.cls := findClass_of_methodNamed B.named
  have hlocks := B.notSynchronized
  have hl := lv_entry ([.ref h0]) (n := 1) (Nat.le_of_ble_eq_true rfl)
  rw [lg_entry_eq]
  generalize (lg_sl ([.ref h0]) ++ List.replicate (1 - (lg_sl ([.ref h0])).length) Slot.unset).toArray = ls at hl ⊢
  have hl : lv_has ls 1 [(0, .ref h0)] := hl
  have hP : va_P D vwCl [(h0, .inr (7, [.ref nb, .int wi, .int si, .int 0]))] s.heap := hP
  refine lv_aload_n hx hb dX7_hasRow_0 rfl (lv_at hl 0 rfl) ?_
  refine va_get (D := D) (ci := 7) (v := .int 0) (C := RX7) (T := TX7) (N := 4) hx hb hts inlX7 hown hK hP 0 rfl rfl 3 (by decide) (hts _ (inr52 _ (List.mem_of_getElem? (i := 3) rfl))) (fun _ h9 => h9) rfl dX7_hasRow_1 ?_
  exact W.zret (v := 0) hx hb hr rfl (fun t ht hW => ⟨_, rfl, rfl, ht⟩) (fun _ h => by cases h) dX7_hasRow_4

set_option maxHeartbeats 4000000 in
set_option maxRecDepth 100000 in
theorem k_Tp_size (l : Launch) (D : va_G) (cB cI cJ cZ cS cT : ClassId) (h0 : Nat) (by_ : Nat) (n : Int32)  : Met l yX9_size (Cond.code yX9_size cX9_size 1 (some .int) :: wsL_law) ({ frames := 0, cells := 0, slots := 0, locals := 0 }) (roP D (tyL cB cI cJ cZ cS cT) [(h0, .inr (9, [.ref by_, .int n]))] [.ref h0]) (vp_Si (fun r : Int32 => r = n)) 0 0 (fun _ => False) := by
  refine Met.ofW (cc := cX9_size) (maxL := 1) (ret := (some .int)) (by decide) rfl ?_
  intro p e s m args below meth c s₁ B hml hv
  obtain ⟨rfl, hP, hK⟩ := hv
  have hx := B.exec
  have hb := B.bytes
  have hr := B.returns
  have hts : ∀ w ∈ wsL_law, w.before ([.ref h0] : List Value).toArray s = true := fun w h => atoms_spec (ws := Cond.code yX9_size cX9_size 1 (some .int) :: wsL_law) B.pre w (List.mem_cons_of_mem _ h)
  have hown : s.vm.findClass RX9 = some m.cls := findClass_of_methodNamed B.named
  have hlocks := B.notSynchronized
  have hl := lv_entry ([.ref h0]) (n := 1) (Nat.le_of_ble_eq_true rfl)
  rw [lg_entry_eq]
  generalize (lg_sl ([.ref h0]) ++ List.replicate (1 - (lg_sl ([.ref h0])).length) Slot.unset).toArray = ls at hl ⊢
  have hl : lv_has ls 1 [(0, .ref h0)] := hl
  have hP : va_P D vwCl [(h0, .inr (9, [.ref by_, .int n]))] s.heap := hP
  refine lv_aload_n hx hb dX9_size_0 rfl (lv_at hl 0 rfl) ?_
  refine va_get (D := D) (ci := 9) (v := .int n) (C := RX9) (T := TX9) (N := 2) hx hb hts inlX9 hown hK hP 0 rfl rfl 1 (by decide) (hts _ (inr8 _ (List.mem_of_getElem? (i := 2) rfl))) (fun _ h9 => h9) rfl dX9_size_1 ?_
  exact W.iret (v := n) hx hb hr (fun t ht hW => ⟨_, rfl, rfl, ht⟩) (fun _ h => by cases h) dX9_size_4

set_option maxHeartbeats 4000000 in
set_option maxRecDepth 100000 in
theorem k_outside (l : Launch) (D : va_G) (cB cI cJ cZ cS cT : ClassId) (v : Int64) (lo : Int64) (hi : Int64)  : Met l yX11_outside (Cond.code yX11_outside cX11_outside 6 (some .boolean) :: wsL_law) ({ frames := 0, cells := 0, slots := 0, locals := 0 }) (roP D (tyL cB cI cJ cZ cS cT) [] [.long v, .long lo, .long hi]) (vp_Si (fun r : Int32 => (r = 1 ∧ (v.toInt < lo.toInt ∨ hi.toInt < v.toInt)) ∨ (r = 0 ∧ lo.toInt ≤ v.toInt ∧ v.toInt ≤ hi.toInt))) 0 0 (fun _ => False) := by
  refine Met.ofW (cc := cX11_outside) (maxL := 6) (ret := (some .boolean)) (by decide) rfl ?_
  intro p e s m args below meth c s₁ B hml hv
  obtain ⟨rfl, hP, hK⟩ := hv
  have hx := B.exec
  have hb := B.bytes
  have hr := B.returns
  have hts : ∀ w ∈ wsL_law, w.before ([.long v, .long lo, .long hi] : List Value).toArray s = true := fun w h => atoms_spec (ws := Cond.code yX11_outside cX11_outside 6 (some .boolean) :: wsL_law) B.pre w (List.mem_cons_of_mem _ h)
  have hown : s.vm.findClass RX11 = some m.cls := findClass_of_methodNamed B.named
  have hlocks := B.notSynchronized
  have hl := lv_entry ([.long v, .long lo, .long hi]) (n := 6) (Nat.le_of_ble_eq_true rfl)
  rw [lg_entry_eq]
  generalize (lg_sl ([.long v, .long lo, .long hi]) ++ List.replicate (6 - (lg_sl ([.long v, .long lo, .long hi])).length) Slot.unset).toArray = ls at hl ⊢
  have hl : lv_has ls 6 [(0, .long v), (2, .long lo), (4, .long hi)] := hl
  have hP : va_P D vwCl [] s.heap := hP
  refine lv_lload_n hx hb dX11_outside_0 rfl (lv_at hl 0 rfl) ?_
  refine lv_lload_n hx hb dX11_outside_1 rfl (lv_at hl 1 rfl) ?_
  obtain ⟨t_1, et_1⟩ : ∃ v9 : Int32, lg_cmp v lo = v9 := ⟨_, rfl⟩
  refine z_lcmp (v := t_1) hx hb dX11_outside_2 et_1 ?_
  refine lv_if_lt (tgt := 13) hx hb dX11_outside_3 (by decide) (fun c_2 => ?_) (fun c_2 => ?_)
  · have c_2 : v.toInt < lo.toInt := cl_lt_t et_1 c_2
    refine lv_iconst (v := 1) hx hb dX11_outside_13 (by decide) ?_
    refine lv_goto (tgt := 18) hx hb dX11_outside_14 (by decide) ?_
    exact W.zret (v := 1) hx hb hr rfl (fun t ht hW => ⟨_, rfl, Or.inl ⟨rfl, by omega⟩, ht⟩) (fun _ h => by cases h) dX11_outside_18
  · have c_2 : lo.toInt ≤ v.toInt := cl_lt_f et_1 c_2
    refine lv_lload_n hx hb dX11_outside_6 rfl (lv_at hl 0 rfl) ?_
    refine lv_lload hx hb dX11_outside_7 (lv_at hl 2 rfl) ?_
    obtain ⟨t_3, et_3⟩ : ∃ v9 : Int32, lg_cmp v hi = v9 := ⟨_, rfl⟩
    refine z_lcmp (v := t_3) hx hb dX11_outside_9 et_3 ?_
    refine lv_if_le (tgt := 17) hx hb dX11_outside_10 (by decide) (fun c_4 => ?_) (fun c_4 => ?_)
    · have c_4 : v.toInt ≤ hi.toInt := cl_le_t et_3 c_4
      refine lv_iconst (v := 0) hx hb dX11_outside_17 (by decide) ?_
      exact W.zret (v := 0) hx hb hr rfl (fun t ht hW => ⟨_, rfl, Or.inr ⟨rfl, by omega⟩, ht⟩) (fun _ h => by cases h) dX11_outside_18
    · have c_4 : hi.toInt < v.toInt := cl_le_f et_3 c_4
      refine lv_iconst (v := 1) hx hb dX11_outside_13 (by decide) ?_
      refine lv_goto (tgt := 18) hx hb dX11_outside_14 (by decide) ?_
      exact W.zret (v := 1) hx hb hr rfl (fun t ht hW => ⟨_, rfl, Or.inl ⟨rfl, by omega⟩, ht⟩) (fun _ h => by cases h) dX11_outside_18

set_option maxHeartbeats 4000000 in
set_option maxRecDepth 100000 in
theorem k_noStation (l : Launch) (D : va_G) (cB cI cJ cZ cS cT : ClassId) (x0 : Nat) (r_tape : Nat) (r_reader : Nat) (r_now : Nat) (r_trial : Nat) (r_images : Nat) (r_kept : Nat) (r_slots : Nat) (r_night : Nat) (r_other : Nat) (r_circle : Nat) (r_words : Nat) (r_law : Nat) (r_place : Nat) (r_drawn : Nat) (n_signs : Nat) (n_posts : Nat) (n_acts : Nat)  : Met l yX11_noStation (Cond.code yX11_noStation cX11_noStation 1 (some .boolean) :: wsL_law) ({ frames := 1, cells := 0, slots := 0, locals := 20 }) (roP D (tyL cB cI cJ cZ cS cT) [(x0, .inr (11, [.ref r_tape, .ref r_reader, .ref r_now, .ref r_trial, .ref r_images, .ref r_kept, .ref r_slots, .ref r_night, .ref r_other, .ref r_circle, .ref r_words, .ref r_law, .ref r_place, .ref r_drawn])), (r_now, .inr (8, [.int 0, .int 0, .int 0, .int 0, .int 0, .int 0, .int 0, .ref n_signs, .int 0, .ref n_posts, .int 0, .ref n_acts]))] [.ref x0]) (vp_Si (fun r : Int32 => r = 1)) 0 0 (fun _ => False) := by
  refine Met.ofW (cc := cX11_noStation) (maxL := 1) (ret := (some .boolean)) (by decide) rfl ?_
  intro p e s m args below meth c s₁ B hml hv
  obtain ⟨rfl, hP, hK⟩ := hv
  have hx := B.exec
  have hb := B.bytes
  have hr := B.returns
  have hts : ∀ w ∈ wsL_law, w.before ([.ref x0] : List Value).toArray s = true := fun w h => atoms_spec (ws := Cond.code yX11_noStation cX11_noStation 1 (some .boolean) :: wsL_law) B.pre w (List.mem_cons_of_mem _ h)
  have hown : s.vm.findClass RX11 = some m.cls := findClass_of_methodNamed B.named
  have hlocks := B.notSynchronized
  have hl := lv_entry ([.ref x0]) (n := 1) (Nat.le_of_ble_eq_true rfl)
  rw [lg_entry_eq]
  generalize (lg_sl ([.ref x0]) ++ List.replicate (1 - (lg_sl ([.ref x0])).length) Slot.unset).toArray = ls at hl ⊢
  have hl : lv_has ls 1 [(0, .ref x0)] := hl
  have hP : va_P D vwCl [(x0, .inr (11, [.ref r_tape, .ref r_reader, .ref r_now, .ref r_trial, .ref r_images, .ref r_kept, .ref r_slots, .ref r_night, .ref r_other, .ref r_circle, .ref r_words, .ref r_law, .ref r_place, .ref r_drawn])), (r_now, .inr (8, [.int 0, .int 0, .int 0, .int 0, .int 0, .int 0, .int 0, .ref n_signs, .int 0, .ref n_posts, .int 0, .ref n_acts]))] s.heap := hP
  refine lv_aload_n hx hb dX11_noStation_0 rfl (lv_at hl 0 rfl) ?_
  refine va_get (D := D) (ci := 11) (v := .ref r_now) (C := RX11) (T := TX11) (N := 14) hx hb hts inlX11 hown hK hP 0 rfl rfl 2 (by decide) (hts _ (inr2 _ (List.mem_of_getElem? (i := 0) rfl))) (fun _ h9 => h9) rfl dX11_noStation_1 ?_
  refine roi (As := []) (rest := []) ⟨hx, hb, hml, hown, hts⟩ (k_St_lines l D cB cI cJ cZ cS cT r_now 0 0 0 0 0 0 0 n_signs 0 n_posts 0 n_acts ) (cvB (n := 0) (inr17 _ (List.mem_of_getElem? (i := 14) rfl)) (inr12 _ (List.mem_of_getElem? (i := 3) rfl)) (inr12 _ (List.mem_of_getElem? (i := 4) rfl)) (inr1 _ (List.mem_of_getElem? (i := 23) rfl)) (inr12 _ (List.mem_of_getElem? (i := 5) rfl)) (by decide +kernel) hts rfl rfl ⟨Nat.le_of_ble_eq_true rfl, Nat.le_of_ble_eq_true rfl⟩) 0 8 rfl rfl rfl (hP.sub [1] rfl) hK rfl hl.1 rfl (Nat.le_of_ble_eq_true rfl) ⟨Nat.le_of_ble_eq_true rfl, Nat.le_of_ble_eq_true rfl⟩ dX11_noStation_4 (fun r_1 h_2 => ?_)
  obtain rfl := h_2
  refine lv_if_ne (tgt := 14) hx hb dX11_noStation_7 (by decide) (fun c0 => absurd c0 (by decide)) (fun _ => ?_)
  refine lv_iconst (v := 1) hx hb dX11_noStation_10 (by decide) ?_
  refine lv_goto (tgt := 15) hx hb dX11_noStation_11 (by decide) ?_
  exact W.zret (v := 1) hx hb hr rfl (fun t ht hW => ⟨_, rfl, rfl, ht⟩) (fun _ h => by cases h) dX11_noStation_15

set_option maxHeartbeats 4000000 in
set_option maxRecDepth 100000 in
theorem k_noStep (l : Launch) (D : va_G) (cB cI cJ cZ cS cT : ClassId) (x0 : Nat) (r_tape : Nat) (r_reader : Nat) (r_now : Nat) (r_trial : Nat) (r_images : Nat) (r_kept : Nat) (r_slots : Nat) (r_night : Nat) (r_other : Nat) (r_circle : Nat) (r_words : Nat) (r_law : Nat) (r_place : Nat) (r_drawn : Nat) (n_signs : Nat) (n_posts : Nat) (n_acts : Nat) (a1 : Int32)  : Met l yX11_noStep (Cond.code yX11_noStep cX11_noStep 2 (some .boolean) :: wsL_law) ({ frames := 2, cells := 0, slots := 0, locals := 40 }) (roP D (tyL cB cI cJ cZ cS cT) [(x0, .inr (11, [.ref r_tape, .ref r_reader, .ref r_now, .ref r_trial, .ref r_images, .ref r_kept, .ref r_slots, .ref r_night, .ref r_other, .ref r_circle, .ref r_words, .ref r_law, .ref r_place, .ref r_drawn])), (r_now, .inr (8, [.int 0, .int 0, .int 0, .int 0, .int 0, .int 0, .int 0, .ref n_signs, .int 0, .ref n_posts, .int 0, .ref n_acts]))] [.ref x0, .int a1]) (vp_Si (fun r : Int32 => r = 1)) 0 0 (fun _ => False) := by
  refine Met.ofW (cc := cX11_noStep) (maxL := 2) (ret := (some .boolean)) (by decide) rfl ?_
  intro p e s m args below meth c s₁ B hml hv
  obtain ⟨rfl, hP, hK⟩ := hv
  have hx := B.exec
  have hb := B.bytes
  have hr := B.returns
  have hts : ∀ w ∈ wsL_law, w.before ([.ref x0, .int a1] : List Value).toArray s = true := fun w h => atoms_spec (ws := Cond.code yX11_noStep cX11_noStep 2 (some .boolean) :: wsL_law) B.pre w (List.mem_cons_of_mem _ h)
  have hown : s.vm.findClass RX11 = some m.cls := findClass_of_methodNamed B.named
  have hlocks := B.notSynchronized
  have hl := lv_entry ([.ref x0, .int a1]) (n := 2) (Nat.le_of_ble_eq_true rfl)
  rw [lg_entry_eq]
  generalize (lg_sl ([.ref x0, .int a1]) ++ List.replicate (2 - (lg_sl ([.ref x0, .int a1])).length) Slot.unset).toArray = ls at hl ⊢
  have hl : lv_has ls 2 [(0, .ref x0), (1, .int a1)] := hl
  have hP : va_P D vwCl [(x0, .inr (11, [.ref r_tape, .ref r_reader, .ref r_now, .ref r_trial, .ref r_images, .ref r_kept, .ref r_slots, .ref r_night, .ref r_other, .ref r_circle, .ref r_words, .ref r_law, .ref r_place, .ref r_drawn])), (r_now, .inr (8, [.int 0, .int 0, .int 0, .int 0, .int 0, .int 0, .int 0, .ref n_signs, .int 0, .ref n_posts, .int 0, .ref n_acts]))] s.heap := hP
  refine lv_aload_n hx hb dX11_noStep_0 rfl (lv_at hl 0 rfl) ?_
  refine roi (As := []) (rest := []) ⟨hx, hb, hml, hown, hts⟩ (k_noStation l D cB cI cJ cZ cS cT x0 r_tape r_reader r_now r_trial r_images r_kept r_slots r_night r_other r_circle r_words r_law r_place r_drawn n_signs n_posts n_acts ) (cvB (n := 0) (inr22 _ (List.mem_of_getElem? (i := 11) rfl)) (inr22 _ (List.mem_of_getElem? (i := 12) rfl)) (inr22 _ (List.mem_of_getElem? (i := 13) rfl)) (inr1 _ (List.mem_of_getElem? (i := 2) rfl)) (inr22 _ (List.mem_of_getElem? (i := 14) rfl)) (by decide +kernel) hts rfl rfl ⟨Nat.le_of_ble_eq_true rfl, Nat.le_of_ble_eq_true rfl⟩) 0 11 rfl rfl rfl (hP.sub [0, 1] rfl) hK rfl hl.1 rfl (Nat.le_of_ble_eq_true rfl) ⟨Nat.le_of_ble_eq_true rfl, Nat.le_of_ble_eq_true rfl⟩ dX11_noStep_1 (fun r_1 h_2 => ?_)
  obtain rfl := h_2
  refine lv_if_ne (tgt := 19) hx hb dX11_noStep_4 (by decide) (fun _ => ?_) (fun c0 => absurd c0 (by decide))
  refine lv_iconst (v := 1) hx hb dX11_noStep_19 (by decide) ?_
  refine lv_goto (tgt := 24) hx hb dX11_noStep_20 (by decide) ?_
  exact W.zret (v := 1) hx hb hr rfl (fun t ht hW => ⟨_, rfl, rfl, ht⟩) (fun _ h => by cases h) dX11_noStep_24

set_option maxHeartbeats 4000000 in
set_option maxRecDepth 100000 in
theorem k_noPlanStep (l : Launch) (D : va_G) (cB cI cJ cZ cS cT : ClassId) (x0 : Nat) (r_tape : Nat) (r_reader : Nat) (r_now : Nat) (r_trial : Nat) (r_images : Nat) (r_kept : Nat) (r_slots : Nat) (r_night : Nat) (r_other : Nat) (r_circle : Nat) (r_words : Nat) (r_law : Nat) (r_place : Nat) (r_drawn : Nat) (n_signs : Nat) (n_posts : Nat) (n_acts : Nat) (a1 : Int32)  : Met l yX11_noPlanStep (Cond.code yX11_noPlanStep cX11_noPlanStep 2 (some .boolean) :: wsL_law) ({ frames := 2, cells := 0, slots := 0, locals := 40 }) (roP D (tyL cB cI cJ cZ cS cT) [(x0, .inr (11, [.ref r_tape, .ref r_reader, .ref r_now, .ref r_trial, .ref r_images, .ref r_kept, .ref r_slots, .ref r_night, .ref r_other, .ref r_circle, .ref r_words, .ref r_law, .ref r_place, .ref r_drawn])), (r_now, .inr (8, [.int 0, .int 0, .int 0, .int 0, .int 0, .int 0, .int 0, .ref n_signs, .int 0, .ref n_posts, .int 0, .ref n_acts]))] [.ref x0, .int a1]) (vp_Si (fun r : Int32 => r = 1)) 0 0 (fun _ => False) := by
  refine Met.ofW (cc := cX11_noPlanStep) (maxL := 2) (ret := (some .boolean)) (by decide) rfl ?_
  intro p e s m args below meth c s₁ B hml hv
  obtain ⟨rfl, hP, hK⟩ := hv
  have hx := B.exec
  have hb := B.bytes
  have hr := B.returns
  have hts : ∀ w ∈ wsL_law, w.before ([.ref x0, .int a1] : List Value).toArray s = true := fun w h => atoms_spec (ws := Cond.code yX11_noPlanStep cX11_noPlanStep 2 (some .boolean) :: wsL_law) B.pre w (List.mem_cons_of_mem _ h)
  have hown : s.vm.findClass RX11 = some m.cls := findClass_of_methodNamed B.named
  have hlocks := B.notSynchronized
  have hl := lv_entry ([.ref x0, .int a1]) (n := 2) (Nat.le_of_ble_eq_true rfl)
  rw [lg_entry_eq]
  generalize (lg_sl ([.ref x0, .int a1]) ++ List.replicate (2 - (lg_sl ([.ref x0, .int a1])).length) Slot.unset).toArray = ls at hl ⊢
  have hl : lv_has ls 2 [(0, .ref x0), (1, .int a1)] := hl
  have hP : va_P D vwCl [(x0, .inr (11, [.ref r_tape, .ref r_reader, .ref r_now, .ref r_trial, .ref r_images, .ref r_kept, .ref r_slots, .ref r_night, .ref r_other, .ref r_circle, .ref r_words, .ref r_law, .ref r_place, .ref r_drawn])), (r_now, .inr (8, [.int 0, .int 0, .int 0, .int 0, .int 0, .int 0, .int 0, .ref n_signs, .int 0, .ref n_posts, .int 0, .ref n_acts]))] s.heap := hP
  refine lv_aload_n hx hb dX11_noPlanStep_0 rfl (lv_at hl 0 rfl) ?_
  refine roi (As := []) (rest := []) ⟨hx, hb, hml, hown, hts⟩ (k_noStation l D cB cI cJ cZ cS cT x0 r_tape r_reader r_now r_trial r_images r_kept r_slots r_night r_other r_circle r_words r_law r_place r_drawn n_signs n_posts n_acts ) (cvB (n := 0) (inr22 _ (List.mem_of_getElem? (i := 11) rfl)) (inr22 _ (List.mem_of_getElem? (i := 12) rfl)) (inr22 _ (List.mem_of_getElem? (i := 13) rfl)) (inr1 _ (List.mem_of_getElem? (i := 2) rfl)) (inr22 _ (List.mem_of_getElem? (i := 14) rfl)) (by decide +kernel) hts rfl rfl ⟨Nat.le_of_ble_eq_true rfl, Nat.le_of_ble_eq_true rfl⟩) 0 11 rfl rfl rfl (hP.sub [0, 1] rfl) hK rfl hl.1 rfl (Nat.le_of_ble_eq_true rfl) ⟨Nat.le_of_ble_eq_true rfl, Nat.le_of_ble_eq_true rfl⟩ dX11_noPlanStep_1 (fun r_1 h_2 => ?_)
  obtain rfl := h_2
  refine lv_if_ne (tgt := 19) hx hb dX11_noPlanStep_4 (by decide) (fun _ => ?_) (fun c0 => absurd c0 (by decide))
  refine lv_iconst (v := 1) hx hb dX11_noPlanStep_19 (by decide) ?_
  refine lv_goto (tgt := 24) hx hb dX11_noPlanStep_20 (by decide) ?_
  exact W.zret (v := 1) hx hb hr rfl (fun t ht hW => ⟨_, rfl, rfl, ht⟩) (fun _ h => by cases h) dX11_noPlanStep_24

set_option maxHeartbeats 4000000 in
set_option maxRecDepth 100000 in
theorem k_noTone (l : Launch) (D : va_G) (cB cI cJ cZ cS cT : ClassId) (x0 : Nat) (r_tape : Nat) (r_reader : Nat) (r_now : Nat) (r_trial : Nat) (r_images : Nat) (r_kept : Nat) (r_slots : Nat) (r_night : Nat) (r_other : Nat) (r_circle : Nat) (r_words : Nat) (r_law : Nat) (r_place : Nat) (r_drawn : Nat) (n_signs : Nat) (n_posts : Nat) (n_acts : Nat) (a1 : Int32)  : Met l yX11_noTone (Cond.code yX11_noTone cX11_noTone 2 (some .boolean) :: wsL_law) ({ frames := 2, cells := 0, slots := 0, locals := 40 }) (roP D (tyL cB cI cJ cZ cS cT) [(x0, .inr (11, [.ref r_tape, .ref r_reader, .ref r_now, .ref r_trial, .ref r_images, .ref r_kept, .ref r_slots, .ref r_night, .ref r_other, .ref r_circle, .ref r_words, .ref r_law, .ref r_place, .ref r_drawn])), (r_now, .inr (8, [.int 0, .int 0, .int 0, .int 0, .int 0, .int 0, .int 0, .ref n_signs, .int 0, .ref n_posts, .int 0, .ref n_acts]))] [.ref x0, .int a1]) (vp_Si (fun r : Int32 => r = 1)) 0 0 (fun _ => False) := by
  refine Met.ofW (cc := cX11_noTone) (maxL := 2) (ret := (some .boolean)) (by decide) rfl ?_
  intro p e s m args below meth c s₁ B hml hv
  obtain ⟨rfl, hP, hK⟩ := hv
  have hx := B.exec
  have hb := B.bytes
  have hr := B.returns
  have hts : ∀ w ∈ wsL_law, w.before ([.ref x0, .int a1] : List Value).toArray s = true := fun w h => atoms_spec (ws := Cond.code yX11_noTone cX11_noTone 2 (some .boolean) :: wsL_law) B.pre w (List.mem_cons_of_mem _ h)
  have hown : s.vm.findClass RX11 = some m.cls := findClass_of_methodNamed B.named
  have hlocks := B.notSynchronized
  have hl := lv_entry ([.ref x0, .int a1]) (n := 2) (Nat.le_of_ble_eq_true rfl)
  rw [lg_entry_eq]
  generalize (lg_sl ([.ref x0, .int a1]) ++ List.replicate (2 - (lg_sl ([.ref x0, .int a1])).length) Slot.unset).toArray = ls at hl ⊢
  have hl : lv_has ls 2 [(0, .ref x0), (1, .int a1)] := hl
  have hP : va_P D vwCl [(x0, .inr (11, [.ref r_tape, .ref r_reader, .ref r_now, .ref r_trial, .ref r_images, .ref r_kept, .ref r_slots, .ref r_night, .ref r_other, .ref r_circle, .ref r_words, .ref r_law, .ref r_place, .ref r_drawn])), (r_now, .inr (8, [.int 0, .int 0, .int 0, .int 0, .int 0, .int 0, .int 0, .ref n_signs, .int 0, .ref n_posts, .int 0, .ref n_acts]))] s.heap := hP
  refine lv_aload_n hx hb dX11_noTone_0 rfl (lv_at hl 0 rfl) ?_
  refine roi (As := []) (rest := []) ⟨hx, hb, hml, hown, hts⟩ (k_noStation l D cB cI cJ cZ cS cT x0 r_tape r_reader r_now r_trial r_images r_kept r_slots r_night r_other r_circle r_words r_law r_place r_drawn n_signs n_posts n_acts ) (cvB (n := 0) (inr22 _ (List.mem_of_getElem? (i := 11) rfl)) (inr22 _ (List.mem_of_getElem? (i := 12) rfl)) (inr22 _ (List.mem_of_getElem? (i := 13) rfl)) (inr1 _ (List.mem_of_getElem? (i := 2) rfl)) (inr22 _ (List.mem_of_getElem? (i := 14) rfl)) (by decide +kernel) hts rfl rfl ⟨Nat.le_of_ble_eq_true rfl, Nat.le_of_ble_eq_true rfl⟩) 0 11 rfl rfl rfl (hP.sub [0, 1] rfl) hK rfl hl.1 rfl (Nat.le_of_ble_eq_true rfl) ⟨Nat.le_of_ble_eq_true rfl, Nat.le_of_ble_eq_true rfl⟩ dX11_noTone_1 (fun r_1 h_2 => ?_)
  obtain rfl := h_2
  refine lv_if_ne (tgt := 26) hx hb dX11_noTone_4 (by decide) (fun _ => ?_) (fun c0 => absurd c0 (by decide))
  refine lv_iconst (v := 1) hx hb dX11_noTone_26 (by decide) ?_
  refine lv_goto (tgt := 31) hx hb dX11_noTone_27 (by decide) ?_
  exact W.zret (v := 1) hx hb hr rfl (fun t ht hW => ⟨_, rfl, rfl, ht⟩) (fun _ h => by cases h) dX11_noTone_31

set_option maxHeartbeats 4000000 in
set_option maxRecDepth 100000 in
theorem k_noSlot (l : Launch) (D : va_G) (cB cI cJ cZ cS cT : ClassId) (v : Int32)  : Met l yX11_noSlot (Cond.code yX11_noSlot cX11_noSlot 1 (some .boolean) :: wsL_law) ({ frames := 1, cells := 0, slots := 0, locals := 25 }) (roP D (tyL cB cI cJ cZ cS cT) [] [.int v]) (vp_Si (fun r : Int32 => (r = 1 ∧ (v.toInt < 0 ∨ 3 < v.toInt)) ∨ (r = 0 ∧ 0 ≤ v.toInt ∧ v.toInt ≤ 3))) 0 0 (fun _ => False) := by
  refine Met.ofW (cc := cX11_noSlot) (maxL := 1) (ret := (some .boolean)) (by decide) rfl ?_
  intro p e s m args below meth c s₁ B hml hv
  obtain ⟨rfl, hP, hK⟩ := hv
  have hx := B.exec
  have hb := B.bytes
  have hr := B.returns
  have hts : ∀ w ∈ wsL_law, w.before ([.int v] : List Value).toArray s = true := fun w h => atoms_spec (ws := Cond.code yX11_noSlot cX11_noSlot 1 (some .boolean) :: wsL_law) B.pre w (List.mem_cons_of_mem _ h)
  have hown : s.vm.findClass RX11 = some m.cls := findClass_of_methodNamed B.named
  have hlocks := B.notSynchronized
  have hl := lv_entry ([.int v]) (n := 1) (Nat.le_of_ble_eq_true rfl)
  rw [lg_entry_eq]
  generalize (lg_sl ([.int v]) ++ List.replicate (1 - (lg_sl ([.int v])).length) Slot.unset).toArray = ls at hl ⊢
  have hl : lv_has ls 1 [(0, .int v)] := hl
  have hP : va_P D vwCl [] s.heap := hP
  refine lv_iload_n hx hb dX11_noSlot_0 rfl (lv_at hl 0 rfl) ?_
  obtain ⟨t_1, et_1⟩ : ∃ v9 : Int64, (v : Int32).toInt64 = v9 := ⟨_, rfl⟩
  refine lv_i2l (v := t_1) hx hb dX11_noSlot_1 et_1 ?_
  have ft_1 : t_1.toInt = v.toInt := by rw [← et_1]; exact Int32.toInt_toInt64 _
  refine lv_lconst (v := 0) hx hb dX11_noSlot_2 (by decide) ?_
  refine lv_ldc2 hx hb hown (hts _ (inr51 _ (List.mem_of_getElem? (i := 22) rfl))) dX11_noSlot_3 ?_
  refine rosi (As := [.long t_1, .long 0, .long 3]) (rest := []) ⟨hx, hb, hml, hown, hts⟩ (k_outside l D cB cI cJ cZ cS cT t_1 0 3 ) (csB (n := 3) (inr8 _ (List.mem_of_getElem? (i := 16) rfl)) (inr8 _ (List.mem_of_getElem? (i := 17) rfl)) (inr1 _ (List.mem_of_getElem? (i := 2) rfl)) (inr8 _ (List.mem_of_getElem? (i := 18) rfl)) (by decide +kernel) hts rfl rfl ⟨Nat.le_of_ble_eq_true rfl, Nat.le_of_ble_eq_true rfl⟩) (hP.sub [] rfl) hK rfl hl.1 rfl (Nat.le_of_ble_eq_true rfl) ⟨Nat.le_of_ble_eq_true rfl, Nat.le_of_ble_eq_true rfl⟩ dX11_noSlot_6 (fun r_2 h_3 => ?_)
  rcases h_3 with ⟨rfl, k_4⟩ | ⟨rfl, k_4⟩
  · have k_4 : t_1.toInt < 0 ∨ 3 < t_1.toInt := k_4
    exact W.zret (v := 1) hx hb hr rfl (fun t ht hW => ⟨_, rfl, Or.inl ⟨rfl, by omega⟩, ht⟩) (fun _ h => by cases h) dX11_noSlot_9
  · have k_4 : 0 ≤ t_1.toInt ∧ t_1.toInt ≤ 3 := k_4
    exact W.zret (v := 0) hx hb hr rfl (fun t ht hW => ⟨_, rfl, Or.inr ⟨rfl, by omega⟩, ht⟩) (fun _ h => by cases h) dX11_noSlot_9

set_option maxHeartbeats 4000000 in
set_option maxRecDepth 100000 in
theorem k_pairTrouble (l : Launch) (D : va_G) (cB cI cJ cZ cS cT : ClassId) (x0 : Nat) (r_tape : Nat) (r_reader : Nat) (r_now : Nat) (r_trial : Nat) (r_images : Nat) (r_kept : Nat) (r_slots : Nat) (r_night : Nat) (r_other : Nat) (r_circle : Nat) (r_words : Nat) (r_law : Nat) (r_place : Nat) (r_drawn : Nat) (n_signs : Nat) (n_posts : Nat) (n_acts : Nat) (a1 : Int32) (a2 : Int32) (a3 : Int32)  : Met l yX11_pairTrouble (Cond.code yX11_pairTrouble cX11_pairTrouble 6 (some .int) :: wsL_law) ({ frames := 2, cells := 0, slots := 0, locals := 45 }) (roP D (tyL cB cI cJ cZ cS cT) [(x0, .inr (11, [.ref r_tape, .ref r_reader, .ref r_now, .ref r_trial, .ref r_images, .ref r_kept, .ref r_slots, .ref r_night, .ref r_other, .ref r_circle, .ref r_words, .ref r_law, .ref r_place, .ref r_drawn])), (r_now, .inr (8, [.int 0, .int 0, .int 0, .int 0, .int 0, .int 0, .int 0, .ref n_signs, .int 0, .ref n_posts, .int 0, .ref n_acts]))] [.ref x0, .int a1, .int a2, .int a3]) (vp_Si (fun r : Int32 => r = -2)) 0 0 (fun _ => False) := by
  refine Met.ofW (cc := cX11_pairTrouble) (maxL := 6) (ret := (some .int)) (by decide) rfl ?_
  intro p e s m args below meth c s₁ B hml hv
  obtain ⟨rfl, hP, hK⟩ := hv
  have hx := B.exec
  have hb := B.bytes
  have hr := B.returns
  have hts : ∀ w ∈ wsL_law, w.before ([.ref x0, .int a1, .int a2, .int a3] : List Value).toArray s = true := fun w h => atoms_spec (ws := Cond.code yX11_pairTrouble cX11_pairTrouble 6 (some .int) :: wsL_law) B.pre w (List.mem_cons_of_mem _ h)
  have hown : s.vm.findClass RX11 = some m.cls := findClass_of_methodNamed B.named
  have hlocks := B.notSynchronized
  have hl := lv_entry ([.ref x0, .int a1, .int a2, .int a3]) (n := 6) (Nat.le_of_ble_eq_true rfl)
  rw [lg_entry_eq]
  generalize (lg_sl ([.ref x0, .int a1, .int a2, .int a3]) ++ List.replicate (6 - (lg_sl ([.ref x0, .int a1, .int a2, .int a3])).length) Slot.unset).toArray = ls at hl ⊢
  have hl : lv_has ls 6 [(0, .ref x0), (1, .int a1), (2, .int a2), (3, .int a3)] := hl
  have hP : va_P D vwCl [(x0, .inr (11, [.ref r_tape, .ref r_reader, .ref r_now, .ref r_trial, .ref r_images, .ref r_kept, .ref r_slots, .ref r_night, .ref r_other, .ref r_circle, .ref r_words, .ref r_law, .ref r_place, .ref r_drawn])), (r_now, .inr (8, [.int 0, .int 0, .int 0, .int 0, .int 0, .int 0, .int 0, .ref n_signs, .int 0, .ref n_posts, .int 0, .ref n_acts]))] s.heap := hP
  refine lv_iload_n hx hb dX11_pairTrouble_0 rfl (lv_at hl 1 rfl) ?_
  refine rosi (As := [.int a1]) (rest := []) ⟨hx, hb, hml, hown, hts⟩ (k_noSlot l D cB cI cJ cZ cS cT a1 ) (csB (n := 1) (inr51 _ (List.mem_of_getElem? (i := 19) rfl)) (inr51 _ (List.mem_of_getElem? (i := 20) rfl)) (inr1 _ (List.mem_of_getElem? (i := 2) rfl)) (inr51 _ (List.mem_of_getElem? (i := 21) rfl)) (by decide +kernel) hts rfl rfl ⟨Nat.le_of_ble_eq_true rfl, Nat.le_of_ble_eq_true rfl⟩) (hP.sub [] rfl) hK rfl hl.1 rfl (Nat.le_of_ble_eq_true rfl) ⟨Nat.le_of_ble_eq_true rfl, Nat.le_of_ble_eq_true rfl⟩ dX11_pairTrouble_1 (fun r_1 h_2 => ?_)
  rcases h_2 with ⟨rfl, k_3⟩ | ⟨rfl, k_3⟩
  · have k_3 : a1.toInt < 0 ∨ 3 < a1.toInt := k_3
    refine lv_if_ne (tgt := 14) hx hb dX11_pairTrouble_4 (by decide) (fun _ => ?_) (fun c0 => absurd c0 (by decide))
    refine lv_bipush (v := (-2)) hx hb dX11_pairTrouble_14 (by decide) ?_
    exact W.iret (v := (-2)) hx hb hr (fun t ht hW => ⟨_, rfl, rfl, ht⟩) (fun _ h => by cases h) dX11_pairTrouble_16
  · have k_3 : 0 ≤ a1.toInt ∧ a1.toInt ≤ 3 := k_3
    refine lv_if_ne (tgt := 14) hx hb dX11_pairTrouble_4 (by decide) (fun c0 => absurd c0 (by decide)) (fun _ => ?_)
    refine lv_aload_n hx hb dX11_pairTrouble_7 rfl (lv_at hl 0 rfl) ?_
    refine roi (As := []) (rest := []) ⟨hx, hb, hml, hown, hts⟩ (k_noStation l D cB cI cJ cZ cS cT x0 r_tape r_reader r_now r_trial r_images r_kept r_slots r_night r_other r_circle r_words r_law r_place r_drawn n_signs n_posts n_acts ) (cvB (n := 0) (inr22 _ (List.mem_of_getElem? (i := 11) rfl)) (inr22 _ (List.mem_of_getElem? (i := 12) rfl)) (inr22 _ (List.mem_of_getElem? (i := 13) rfl)) (inr1 _ (List.mem_of_getElem? (i := 2) rfl)) (inr22 _ (List.mem_of_getElem? (i := 14) rfl)) (by decide +kernel) hts rfl rfl ⟨Nat.le_of_ble_eq_true rfl, Nat.le_of_ble_eq_true rfl⟩) 0 11 rfl rfl rfl (hP.sub [0, 1] rfl) hK rfl hl.1 rfl (Nat.le_of_ble_eq_true rfl) ⟨Nat.le_of_ble_eq_true rfl, Nat.le_of_ble_eq_true rfl⟩ dX11_pairTrouble_8 (fun r_4 h_5 => ?_)
    obtain rfl := h_5
    refine lv_if_eq (tgt := 17) hx hb dX11_pairTrouble_11 (by decide) (fun c0 => absurd c0 (by decide)) (fun _ => ?_)
    refine lv_bipush (v := (-2)) hx hb dX11_pairTrouble_14 (by decide) ?_
    exact W.iret (v := (-2)) hx hb hr (fun t ht hW => ⟨_, rfl, rfl, ht⟩) (fun _ h => by cases h) dX11_pairTrouble_16

set_option maxHeartbeats 4000000 in
set_option maxRecDepth 100000 in
theorem k_lawTrouble (l : Launch) (D : va_G) (cB cI cJ cZ cS cT : ClassId) (x0 : Nat) (r_tape : Nat) (r_reader : Nat) (r_now : Nat) (r_trial : Nat) (r_images : Nat) (r_kept : Nat) (r_slots : Nat) (r_night : Nat) (r_other : Nat) (r_circle : Nat) (r_words : Nat) (r_law : Nat) (r_place : Nat) (r_drawn : Nat) (n_signs : Nat) (n_posts : Nat) (n_acts : Nat) (a1 : Int32)  : Met l yX11_lawTrouble (Cond.code yX11_lawTrouble cX11_lawTrouble 2 (some .int) :: wsL_law) ({ frames := 3, cells := 0, slots := 0, locals := 70 }) (roP D (tyL cB cI cJ cZ cS cT) [(x0, .inr (11, [.ref r_tape, .ref r_reader, .ref r_now, .ref r_trial, .ref r_images, .ref r_kept, .ref r_slots, .ref r_night, .ref r_other, .ref r_circle, .ref r_words, .ref r_law, .ref r_place, .ref r_drawn])), (r_now, .inr (8, [.int 0, .int 0, .int 0, .int 0, .int 0, .int 0, .int 0, .ref n_signs, .int 0, .ref n_posts, .int 0, .ref n_acts]))] [.ref x0, .int a1]) (vp_Si (fun r : Int32 => r = -2)) 0 0 (fun _ => False) := by
  refine Met.ofW (cc := cX11_lawTrouble) (maxL := 2) (ret := (some .int)) (by decide) rfl ?_
  intro p e s m args below meth c s₁ B hml hv
  obtain ⟨rfl, hP, hK⟩ := hv
  have hx := B.exec
  have hb := B.bytes
  have hr := B.returns
  have hts : ∀ w ∈ wsL_law, w.before ([.ref x0, .int a1] : List Value).toArray s = true := fun w h => atoms_spec (ws := Cond.code yX11_lawTrouble cX11_lawTrouble 2 (some .int) :: wsL_law) B.pre w (List.mem_cons_of_mem _ h)
  have hown : s.vm.findClass RX11 = some m.cls := findClass_of_methodNamed B.named
  have hlocks := B.notSynchronized
  have hl := lv_entry ([.ref x0, .int a1]) (n := 2) (Nat.le_of_ble_eq_true rfl)
  rw [lg_entry_eq]
  generalize (lg_sl ([.ref x0, .int a1]) ++ List.replicate (2 - (lg_sl ([.ref x0, .int a1])).length) Slot.unset).toArray = ls at hl ⊢
  have hl : lv_has ls 2 [(0, .ref x0), (1, .int a1)] := hl
  have hP : va_P D vwCl [(x0, .inr (11, [.ref r_tape, .ref r_reader, .ref r_now, .ref r_trial, .ref r_images, .ref r_kept, .ref r_slots, .ref r_night, .ref r_other, .ref r_circle, .ref r_words, .ref r_law, .ref r_place, .ref r_drawn])), (r_now, .inr (8, [.int 0, .int 0, .int 0, .int 0, .int 0, .int 0, .int 0, .ref n_signs, .int 0, .ref n_posts, .int 0, .ref n_acts]))] s.heap := hP
  refine lv_aload_n hx hb dX11_lawTrouble_0 rfl (lv_at hl 0 rfl) ?_
  refine lv_iload_n hx hb dX11_lawTrouble_1 rfl (lv_at hl 1 rfl) ?_
  refine lv_bipush (v := 60) hx hb dX11_lawTrouble_2 (by decide) ?_
  refine lv_aload_n hx hb dX11_lawTrouble_4 rfl (lv_at hl 0 rfl) ?_
  refine va_get (D := D) (ci := 11) (v := .ref r_now) (C := RX11) (T := TX11) (N := 14) hx hb hts inlX11 hown hK hP 0 rfl rfl 2 (by decide) (hts _ (inr2 _ (List.mem_of_getElem? (i := 0) rfl))) (fun _ h9 => h9) rfl dX11_lawTrouble_5 ?_
  refine roi (As := []) (rest := [.int 60, .int a1, .ref x0]) ⟨hx, hb, hml, hown, hts⟩ (k_St_tones l D cB cI cJ cZ cS cT r_now 0 0 0 0 0 0 0 n_signs 0 n_posts 0 n_acts ) (cvB (n := 0) (inr29 _ (List.mem_of_getElem? (i := 15) rfl)) (inr15 _ (List.mem_of_getElem? (i := 14) rfl)) (inr15 _ (List.mem_of_getElem? (i := 15) rfl)) (inr1 _ (List.mem_of_getElem? (i := 23) rfl)) (inr15 _ (List.mem_of_getElem? (i := 16) rfl)) (by decide +kernel) hts rfl rfl ⟨Nat.le_of_ble_eq_true rfl, Nat.le_of_ble_eq_true rfl⟩) 0 8 rfl rfl rfl (hP.sub [1] rfl) hK rfl hl.1 rfl (Nat.le_of_ble_eq_true rfl) ⟨Nat.le_of_ble_eq_true rfl, Nat.le_of_ble_eq_true rfl⟩ dX11_lawTrouble_8 (fun r_1 h_2 => ?_)
  obtain rfl := h_2
  refine lv_iconst (v := 1) hx hb dX11_lawTrouble_11 (by decide) ?_
  refine z_isub (v := (-1)) hx hb dX11_lawTrouble_12 (by decide) ?_
  refine roi (As := [.int a1, .int 60, .int (-1)]) (rest := []) ⟨hx, hb, hml, hown, hts⟩ (k_pairTrouble l D cB cI cJ cZ cS cT x0 r_tape r_reader r_now r_trial r_images r_kept r_slots r_night r_other r_circle r_words r_law r_place r_drawn n_signs n_posts n_acts a1 60 (-1) ) (cvB (n := 3) (inr51 _ (List.mem_of_getElem? (i := 15) rfl)) (inr51 _ (List.mem_of_getElem? (i := 16) rfl)) (inr51 _ (List.mem_of_getElem? (i := 17) rfl)) (inr1 _ (List.mem_of_getElem? (i := 2) rfl)) (inr51 _ (List.mem_of_getElem? (i := 18) rfl)) (by decide +kernel) hts rfl rfl ⟨Nat.le_of_ble_eq_true rfl, Nat.le_of_ble_eq_true rfl⟩) 0 11 rfl rfl rfl (hP.sub [0, 1] rfl) hK rfl hl.1 rfl (Nat.le_of_ble_eq_true rfl) ⟨Nat.le_of_ble_eq_true rfl, Nat.le_of_ble_eq_true rfl⟩ dX11_lawTrouble_13 (fun r_3 h_4 => ?_)
  obtain rfl := h_4
  exact W.iret (v := (-2)) hx hb hr (fun t ht hW => ⟨_, rfl, rfl, ht⟩) (fun _ h => by cases h) dX11_lawTrouble_16

set_option maxHeartbeats 4000000 in
set_option maxRecDepth 100000 in
theorem k_placeTrouble (l : Launch) (D : va_G) (cB cI cJ cZ cS cT : ClassId) (x0 : Nat) (r_tape : Nat) (r_reader : Nat) (r_now : Nat) (r_trial : Nat) (r_images : Nat) (r_kept : Nat) (r_slots : Nat) (r_night : Nat) (r_other : Nat) (r_circle : Nat) (r_words : Nat) (r_law : Nat) (r_place : Nat) (r_drawn : Nat) (n_signs : Nat) (n_posts : Nat) (n_acts : Nat) (a1 : Int32)  : Met l yX11_placeTrouble (Cond.code yX11_placeTrouble cX11_placeTrouble 2 (some .int) :: wsL_law) ({ frames := 3, cells := 0, slots := 0, locals := 70 }) (roP D (tyL cB cI cJ cZ cS cT) [(x0, .inr (11, [.ref r_tape, .ref r_reader, .ref r_now, .ref r_trial, .ref r_images, .ref r_kept, .ref r_slots, .ref r_night, .ref r_other, .ref r_circle, .ref r_words, .ref r_law, .ref r_place, .ref r_drawn])), (r_now, .inr (8, [.int 0, .int 0, .int 0, .int 0, .int 0, .int 0, .int 0, .ref n_signs, .int 0, .ref n_posts, .int 0, .ref n_acts]))] [.ref x0, .int a1]) (vp_Si (fun r : Int32 => r = -2)) 0 0 (fun _ => False) := by
  refine Met.ofW (cc := cX11_placeTrouble) (maxL := 2) (ret := (some .int)) (by decide) rfl ?_
  intro p e s m args below meth c s₁ B hml hv
  obtain ⟨rfl, hP, hK⟩ := hv
  have hx := B.exec
  have hb := B.bytes
  have hr := B.returns
  have hts : ∀ w ∈ wsL_law, w.before ([.ref x0, .int a1] : List Value).toArray s = true := fun w h => atoms_spec (ws := Cond.code yX11_placeTrouble cX11_placeTrouble 2 (some .int) :: wsL_law) B.pre w (List.mem_cons_of_mem _ h)
  have hown : s.vm.findClass RX11 = some m.cls := findClass_of_methodNamed B.named
  have hlocks := B.notSynchronized
  have hl := lv_entry ([.ref x0, .int a1]) (n := 2) (Nat.le_of_ble_eq_true rfl)
  rw [lg_entry_eq]
  generalize (lg_sl ([.ref x0, .int a1]) ++ List.replicate (2 - (lg_sl ([.ref x0, .int a1])).length) Slot.unset).toArray = ls at hl ⊢
  have hl : lv_has ls 2 [(0, .ref x0), (1, .int a1)] := hl
  have hP : va_P D vwCl [(x0, .inr (11, [.ref r_tape, .ref r_reader, .ref r_now, .ref r_trial, .ref r_images, .ref r_kept, .ref r_slots, .ref r_night, .ref r_other, .ref r_circle, .ref r_words, .ref r_law, .ref r_place, .ref r_drawn])), (r_now, .inr (8, [.int 0, .int 0, .int 0, .int 0, .int 0, .int 0, .int 0, .ref n_signs, .int 0, .ref n_posts, .int 0, .ref n_acts]))] s.heap := hP
  refine lv_aload_n hx hb dX11_placeTrouble_0 rfl (lv_at hl 0 rfl) ?_
  refine lv_iload_n hx hb dX11_placeTrouble_1 rfl (lv_at hl 1 rfl) ?_
  refine lv_aload_n hx hb dX11_placeTrouble_2 rfl (lv_at hl 0 rfl) ?_
  refine va_get (D := D) (ci := 11) (v := .ref r_now) (C := RX11) (T := TX11) (N := 14) hx hb hts inlX11 hown hK hP 0 rfl rfl 2 (by decide) (hts _ (inr2 _ (List.mem_of_getElem? (i := 0) rfl))) (fun _ h9 => h9) rfl dX11_placeTrouble_3 ?_
  refine roi (As := []) (rest := [.int a1, .ref x0]) ⟨hx, hb, hml, hown, hts⟩ (k_St_postCount l D cB cI cJ cZ cS cT r_now 0 0 0 0 0 0 0 n_signs 0 n_posts 0 n_acts ) (cvB (n := 0) (inr21 _ (List.mem_of_getElem? (i := 17) rfl)) (inr16 _ (List.mem_of_getElem? (i := 6) rfl)) (inr16 _ (List.mem_of_getElem? (i := 7) rfl)) (inr1 _ (List.mem_of_getElem? (i := 23) rfl)) (inr16 _ (List.mem_of_getElem? (i := 8) rfl)) (by decide +kernel) hts rfl rfl ⟨Nat.le_of_ble_eq_true rfl, Nat.le_of_ble_eq_true rfl⟩) 0 8 rfl rfl rfl (hP.sub [1] rfl) hK rfl hl.1 rfl (Nat.le_of_ble_eq_true rfl) ⟨Nat.le_of_ble_eq_true rfl, Nat.le_of_ble_eq_true rfl⟩ dX11_placeTrouble_6 (fun r_1 h_2 => ?_)
  obtain rfl := h_2
  refine lv_iconst (v := 1) hx hb dX11_placeTrouble_9 (by decide) ?_
  refine z_isub (v := (-1)) hx hb dX11_placeTrouble_10 (by decide) ?_
  refine lv_sipush (v := 999) hx hb dX11_placeTrouble_11 (by decide) ?_
  refine roi (As := [.int a1, .int (-1), .int 999]) (rest := []) ⟨hx, hb, hml, hown, hts⟩ (k_pairTrouble l D cB cI cJ cZ cS cT x0 r_tape r_reader r_now r_trial r_images r_kept r_slots r_night r_other r_circle r_words r_law r_place r_drawn n_signs n_posts n_acts a1 (-1) 999 ) (cvB (n := 3) (inr51 _ (List.mem_of_getElem? (i := 15) rfl)) (inr51 _ (List.mem_of_getElem? (i := 16) rfl)) (inr51 _ (List.mem_of_getElem? (i := 17) rfl)) (inr1 _ (List.mem_of_getElem? (i := 2) rfl)) (inr51 _ (List.mem_of_getElem? (i := 18) rfl)) (by decide +kernel) hts rfl rfl ⟨Nat.le_of_ble_eq_true rfl, Nat.le_of_ble_eq_true rfl⟩) 0 11 rfl rfl rfl (hP.sub [0, 1] rfl) hK rfl hl.1 rfl (Nat.le_of_ble_eq_true rfl) ⟨Nat.le_of_ble_eq_true rfl, Nat.le_of_ble_eq_true rfl⟩ dX11_placeTrouble_14 (fun r_3 h_4 => ?_)
  obtain rfl := h_4
  exact W.iret (v := (-2)) hx hb hr (fun t ht hW => ⟨_, rfl, rfl, ht⟩) (fun _ h => by cases h) dX11_placeTrouble_17
