set_option maxHeartbeats 8000000 in
set_option maxRecDepth 100000 in
theorem kT_start {s : State} {b : Nat} (hgv : (Jvm.Cond.and given_1 narrow_1).before #[Value.ref b] s = true) (hts0 : ∀ w ∈ lw_tbl, w.before #[Value.ref b] s = true) : ∃ G : Gho, G.1 = s.heap.size ∧ kT G s s.heap := by
  have hs := flat_of_before _ hgv
  have hA : ∀ a : Nat, a < s.heap.size → ¬ (fun q : Nat => s.heap.size ≤ q) a := fun a h q => absurd h (Nat.not_lt.mpr q)
  obtain ⟨adK, adV, h1, h2⟩ := vk_Sof (args := #[Value.ref b]) (s := s) (N := 11) (tm := fun i => Term.string RX6 ([74, 80, 86, 88, 90, 92, 94, 48, 57, 62, 114].getD i 0)) (len := strL) (byt := strB) (A := fun q => s.heap.size ≤ q) (fun i hi => by have := strL_lt i hi; omega)
    (fun i hi => by rcases (show i = 0 ∨ i = 1 ∨ i = 2 ∨ i = 3 ∨ i = 4 ∨ i = 5 ∨ i = 6 ∨ i = 7 ∨ i = 8 ∨ i = 9 ∨ i = 10 by omega) with rfl | rfl | rfl | rfl | rfl | rfl | rfl | rfl | rfl | rfl | rfl <;> exact hs _ (by decide +kernel))
    (fun i hi => by rcases (show i = 0 ∨ i = 1 ∨ i = 2 ∨ i = 3 ∨ i = 4 ∨ i = 5 ∨ i = 6 ∨ i = 7 ∨ i = 8 ∨ i = 9 ∨ i = 10 by omega) with rfl | rfl | rfl | rfl | rfl | rfl | rfl | rfl | rfl | rfl | rfl <;> exact hs _ (by decide +kernel))
    (fun i hi => by rcases (show i = 0 ∨ i = 1 ∨ i = 2 ∨ i = 3 ∨ i = 4 ∨ i = 5 ∨ i = 6 ∨ i = 7 ∨ i = 8 ∨ i = 9 ∨ i = 10 by omega) with rfl | rfl | rfl | rfl | rfl | rfl | rfl | rfl | rfl | rfl | rfl <;> exact hs _ (by decide +kernel))
    (fun i hi => by rcases (show i = 0 ∨ i = 1 ∨ i = 2 ∨ i = 3 ∨ i = 4 ∨ i = 5 ∨ i = 6 ∨ i = 7 ∨ i = 8 ∨ i = 9 ∨ i = 10 by omega) with rfl | rfl | rfl | rfl | rfl | rfl | rfl | rfl | rfl | rfl | rfl <;> exact hs _ (by decide +kernel))
    (fun i hi j hj => by
      rcases (show i = 0 ∨ i = 1 ∨ i = 2 ∨ i = 3 ∨ i = 4 ∨ i = 5 ∨ i = 6 ∨ i = 7 ∨ i = 8 ∨ i = 9 ∨ i = 10 by omega) with rfl | rfl | rfl | rfl | rfl | rfl | rfl | rfl | rfl | rfl | rfl
      · have hj2 : j < 7 := hj
        rcases (show j = 0 ∨ j = 1 ∨ j = 2 ∨ j = 3 ∨ j = 4 ∨ j = 5 ∨ j = 6 by omega) with rfl | rfl | rfl | rfl | rfl | rfl | rfl <;> exact hs _ (by decide +kernel)
      · have hj2 : j < 5 := hj
        rcases (show j = 0 ∨ j = 1 ∨ j = 2 ∨ j = 3 ∨ j = 4 by omega) with rfl | rfl | rfl | rfl | rfl <;> exact hs _ (by decide +kernel)
      · have hj2 : j < 1 := hj
        rcases (show j = 0 by omega) with rfl <;> exact hs _ (by decide +kernel)
      · have hj2 : j < 1 := hj
        rcases (show j = 0 by omega) with rfl <;> exact hs _ (by decide +kernel)
      · have hj2 : j < 1 := hj
        rcases (show j = 0 by omega) with rfl <;> exact hs _ (by decide +kernel)
      · have hj2 : j < 1 := hj
        rcases (show j = 0 by omega) with rfl <;> exact hs _ (by decide +kernel)
      · have hj2 : j < 4 := hj
        rcases (show j = 0 ∨ j = 1 ∨ j = 2 ∨ j = 3 by omega) with rfl | rfl | rfl | rfl <;> exact hs _ (by decide +kernel)
      · have hj2 : j < 4 := hj
        rcases (show j = 0 ∨ j = 1 ∨ j = 2 ∨ j = 3 by omega) with rfl | rfl | rfl | rfl <;> exact hs _ (by decide +kernel)
      · have hj2 : j < 3 := hj
        rcases (show j = 0 ∨ j = 1 ∨ j = 2 by omega) with rfl | rfl | rfl <;> exact hs _ (by decide +kernel)
      · have hj2 : j < 4 := hj
        rcases (show j = 0 ∨ j = 1 ∨ j = 2 ∨ j = 3 by omega) with rfl | rfl | rfl | rfl <;> exact hs _ (by decide +kernel)
      · have hj2 : j < 2 := hj
        rcases (show j = 0 ∨ j = 1 by omega) with rfl | rfl <;> exact hs _ (by decide +kernel))
    (fun i j hi hj hij => by rcases (show i = 0 ∨ i = 1 ∨ i = 2 ∨ i = 3 ∨ i = 4 ∨ i = 5 ∨ i = 6 ∨ i = 7 ∨ i = 8 ∨ i = 9 ∨ i = 10 by omega) with rfl | rfl | rfl | rfl | rfl | rfl | rfl | rfl | rfl | rfl | rfl <;> rcases (show j = 0 ∨ j = 1 ∨ j = 2 ∨ j = 3 ∨ j = 4 ∨ j = 5 ∨ j = 6 ∨ j = 7 ∨ j = 8 ∨ j = 9 ∨ j = 10 by omega) with rfl | rfl | rfl | rfl | rfl | rfl | rfl | rfl | rfl | rfl | rfl <;> first | exact absurd rfl hij | exact Or.inl (hs _ (by decide +kernel)) | exact Or.inr (hs _ (by decide +kernel))) hA
  refine ⟨(s.heap.size, adK, adV), rfl, h1, ?_, ?_, ?_⟩
  · intro i q hq
    match i, hq with
    | 0, hq => cases hq; exact vk_R.of (A := #[Value.ref b]) (hts0 _ (int2 _ (List.mem_of_getElem? (i := 183) (by decide +kernel)))) (h2 0 (by decide))
    | 1, hq => cases hq; exact vk_R.of (A := #[Value.ref b]) (hts0 _ (int3 _ (List.mem_of_getElem? (i := 4) (by decide +kernel)))) (h2 1 (by decide))
    | 2, hq => cases hq; exact vk_R.of (A := #[Value.ref b]) (hts0 _ (int3 _ (List.mem_of_getElem? (i := 10) (by decide +kernel)))) (h2 2 (by decide))
    | 3, hq => cases hq; exact vk_R.of (A := #[Value.ref b]) (hts0 _ (int3 _ (List.mem_of_getElem? (i := 11) (by decide +kernel)))) (h2 3 (by decide))
    | 4, hq => cases hq; exact vk_R.of (A := #[Value.ref b]) (hts0 _ (int3 _ (List.mem_of_getElem? (i := 12) (by decide +kernel)))) (h2 4 (by decide))
    | 5, hq => cases hq; exact vk_R.of (A := #[Value.ref b]) (hts0 _ (int3 _ (List.mem_of_getElem? (i := 13) (by decide +kernel)))) (h2 5 (by decide))
    | 6, hq => cases hq; exact vk_R.of (A := #[Value.ref b]) (hts0 _ (int3 _ (List.mem_of_getElem? (i := 14) (by decide +kernel)))) (h2 6 (by decide))
    | 7, hq => cases hq; exact vk_R.of (A := #[Value.ref b]) (hts0 _ (int3 _ (List.mem_of_getElem? (i := 17) (by decide +kernel)))) (h2 7 (by decide))
    | 8, hq => cases hq; exact vk_R.of (A := #[Value.ref b]) (hts0 _ (int3 _ (List.mem_of_getElem? (i := 34) (by decide +kernel)))) (h2 8 (by decide))
    | 9, hq => cases hq; exact vk_R.of (A := #[Value.ref b]) (hts0 _ (int3 _ (List.mem_of_getElem? (i := 39) (by decide +kernel)))) (h2 9 (by decide))
    | 10, hq => cases hq; exact vk_R.of (A := #[Value.ref b]) (hts0 _ (int3 _ (List.mem_of_getElem? (i := 48) (by decide +kernel)))) (h2 10 (by decide))
    | 11, hq => cases hq; exact vk_R.of (A := #[Value.ref b]) (hts0 _ (int7 _ (List.mem_of_getElem? (i := 125) (by decide +kernel)))) (va_eqR (t := Term.string RX6 74) (u := Term.string RX12 182) (hs _ (by decide +kernel)) (h2 0 (by decide)))
    | 12, hq => cases hq; exact vk_R.of (A := #[Value.ref b]) (hts0 _ (int7 _ (List.mem_of_getElem? (i := 144) (by decide +kernel)))) (va_eqR (t := Term.string RX6 80) (u := Term.string RX12 184) (hs _ (by decide +kernel)) (h2 1 (by decide)))
    | 13, hq => cases hq; exact vk_R.of (A := #[Value.ref b]) (hts0 _ (int7 _ (List.mem_of_getElem? (i := 153) (by decide +kernel)))) (va_eqR (t := Term.string RX6 86) (u := Term.string RX12 190) (hs _ (by decide +kernel)) (h2 2 (by decide)))
    | 14, hq => cases hq; exact vk_R.of (A := #[Value.ref b]) (hts0 _ (int7 _ (List.mem_of_getElem? (i := 154) (by decide +kernel)))) (va_eqR (t := Term.string RX6 88) (u := Term.string RX12 192) (hs _ (by decide +kernel)) (h2 3 (by decide)))
    | 15, hq => cases hq; exact vk_R.of (A := #[Value.ref b]) (hts0 _ (int7 _ (List.mem_of_getElem? (i := 155) (by decide +kernel)))) (va_eqR (t := Term.string RX6 90) (u := Term.string RX12 194) (hs _ (by decide +kernel)) (h2 4 (by decide)))
    | 16, hq => cases hq; exact vk_R.of (A := #[Value.ref b]) (hts0 _ (int7 _ (List.mem_of_getElem? (i := 156) (by decide +kernel)))) (va_eqR (t := Term.string RX6 92) (u := Term.string RX12 196) (hs _ (by decide +kernel)) (h2 5 (by decide)))
    | 17, hq => cases hq; exact vk_R.of (A := #[Value.ref b]) (hts0 _ (int7 _ (List.mem_of_getElem? (i := 157) (by decide +kernel)))) (va_eqR (t := Term.string RX6 94) (u := Term.string RX12 198) (hs _ (by decide +kernel)) (h2 6 (by decide)))
    | 18, hq => cases hq; exact vk_R.of (A := #[Value.ref b]) (hts0 _ (int7 _ (List.mem_of_getElem? (i := 162) (by decide +kernel)))) (va_eqR (t := Term.string RX6 48) (u := Term.string RX12 200) (hs _ (by decide +kernel)) (h2 7 (by decide)))
    | 19, hq => cases hq; exact vk_R.of (A := #[Value.ref b]) (hts0 _ (int7 _ (List.mem_of_getElem? (i := 163) (by decide +kernel)))) (va_eqR (t := Term.string RX6 57) (u := Term.string RX12 202) (hs _ (by decide +kernel)) (h2 8 (by decide)))
    | 20, hq => cases hq; exact vk_R.of (A := #[Value.ref b]) (hts0 _ (int7 _ (List.mem_of_getElem? (i := 164) (by decide +kernel)))) (va_eqR (t := Term.string RX6 62) (u := Term.string RX12 204) (hs _ (by decide +kernel)) (h2 9 (by decide)))
    | 21, hq => cases hq; exact vk_R.of (A := #[Value.ref b]) (hts0 _ (int7 _ (List.mem_of_getElem? (i := 165) (by decide +kernel)))) (va_eqR (t := Term.string RX6 114) (u := Term.string RX12 206) (hs _ (by decide +kernel)) (h2 10 (by decide)))
    | i + 22, hq => simp [strK] at hq
  · exact va_Zof (args := #[Value.ref b]) (hts0 _ (int2 _ (List.mem_of_getElem? (i := 201) (by decide +kernel)))) (hts0 _ (int1 _ (List.mem_of_getElem? (i := 15) (by decide +kernel)))) (va_eqt (hs _ (by decide +kernel))) hA
  · exact va_Zqof (args := #[Value.ref b]) (hts0 _ (int2 _ (List.mem_of_getElem? (i := 217) (by decide +kernel)))) (hts0 _ (int1 _ (List.mem_of_getElem? (i := 17) (by decide +kernel)))) (hs _ (by decide +kernel)) hA
