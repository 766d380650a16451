/-! printed by wip/pw/py/h1.py: what all use -/
theorem gInv_cp {gt : aG} {st : zS} {c0 s0 c1 d1 n : Nat} (h : gInv gt st) (hz : ∀ i j : Nat, gok gt c1 i (st c0 j)) : gInv gt (zcp st c0 s0 c1 d1 n) := by
  intro c i
  rw [zcp_if]
  split
  · rename_i q
    rw [q.1]
    exact hz _ _
  · exact h c i
theorem fr_cp {m : aM} {st s : zS} {c0 s0 c1 d1 n : Nat} (h : aFr m st s) (hm : ama m c1 = true) : aFr m st (zcp s c0 s0 c1 d1 n) := by
  intro c i h1 h2
  rw [zcp_if, if_neg (fun q => by rw [q.1, hm] at h2; cases h2)]
  exact h c i h1 h2
theorem zcp_in {st : zS} {c0 s0 c1 d1 n i : Nat} (h : d1 ≤ i ∧ i < d1 + n) : zcp st c0 s0 c1 d1 n c1 i = st c0 (s0 + (i - d1)) := by
  rw [zcp_if, if_pos ⟨rfl, h⟩]
theorem zcp_ou {st : zS} {c0 s0 c1 d1 n i : Nat} (h : ¬ (d1 ≤ i ∧ i < d1 + n)) : zcp st c0 s0 c1 d1 n c1 i = st c1 i := by
  rw [zcp_if, if_neg (fun q => h q.2)]
theorem g_f3_1 {st : zS} (h : gInv zgt st) : (0 : Int) ≤ st 3 1 ∧ st 3 1 ≤ 86 := gof (lo := 0) (hi := 86) (h 3 1)
theorem p_f3_1 {z : Int} (h : (0 : Int) ≤ z ∧ z ≤ 86) : gok zgt 3 1 z := ⟨(.ofNat 0, .ofNat 86), List.mem_singleton.mpr rfl, h.1, h.2⟩
theorem g_a4 {st : zS} (h : gInv zgt st) (i : Nat) : (-128 : Int) ≤ st 4 i ∧ st 4 i ≤ 127 := h 4 i
theorem p_a4 {i : Nat} {z : Int} (h : (-128 : Int) ≤ z ∧ z ≤ 127) : gok zgt 4 i z := h
theorem g_f5_0 {st : zS} (h : gInv zgt st) : (-2147483648 : Int) ≤ st 5 0 ∧ st 5 0 ≤ 2147483647 := gof (lo := -2147483648) (hi := 2147483647) (h 5 0)
theorem p_f5_0 {z : Int} (h : (-2147483648 : Int) ≤ z ∧ z ≤ 2147483647) : gok zgt 5 0 z := ⟨(.negSucc 2147483647, .ofNat 2147483647), List.mem_singleton.mpr rfl, h.1, h.2⟩
theorem g_f5_1 {st : zS} (h : gInv zgt st) : (-2147483648 : Int) ≤ st 5 1 ∧ st 5 1 ≤ 2147483647 := gof (lo := -2147483648) (hi := 2147483647) (h 5 1)
theorem p_f5_1 {z : Int} (h : (-2147483648 : Int) ≤ z ∧ z ≤ 2147483647) : gok zgt 5 1 z := ⟨(.negSucc 2147483647, .ofNat 2147483647), List.mem_singleton.mpr rfl, h.1, h.2⟩
theorem g_f5_4 {st : zS} (h : gInv zgt st) : (-2147483648 : Int) ≤ st 5 4 ∧ st 5 4 ≤ 2147483647 := gof (lo := -2147483648) (hi := 2147483647) (h 5 4)
theorem p_f5_4 {z : Int} (h : (-2147483648 : Int) ≤ z ∧ z ≤ 2147483647) : gok zgt 5 4 z := ⟨(.negSucc 2147483647, .ofNat 2147483647), List.mem_singleton.mpr rfl, h.1, h.2⟩
theorem g_a6 {st : zS} (h : gInv zgt st) (i : Nat) : (0 : Int) ≤ st 6 i ∧ st 6 i ≤ 7 := h 6 i
theorem p_a6 {i : Nat} {z : Int} (h : (0 : Int) ≤ z ∧ z ≤ 7) : gok zgt 6 i z := h
theorem g_f7_2 {st : zS} (h : gInv zgt st) : (0 : Int) ≤ st 7 2 ∧ st 7 2 ≤ 30 := gof (lo := 0) (hi := 30) (h 7 2)
theorem p_f7_2 {z : Int} (h : (0 : Int) ≤ z ∧ z ≤ 30) : gok zgt 7 2 z := ⟨(.ofNat 0, .ofNat 30), List.mem_singleton.mpr rfl, h.1, h.2⟩
theorem g_a8 {st : zS} (h : gInv zgt st) (i : Nat) : (0 : Int) ≤ st 8 i ∧ st 8 i ≤ 7 := h 8 i
theorem p_a8 {i : Nat} {z : Int} (h : (0 : Int) ≤ z ∧ z ≤ 7) : gok zgt 8 i z := h
theorem g_a9 {st : zS} (h : gInv zgt st) (i : Nat) : (-2147483648 : Int) ≤ st 9 i ∧ st 9 i ≤ 2147483647 := h 9 i
theorem p_a9 {i : Nat} {z : Int} (h : (-2147483648 : Int) ≤ z ∧ z ≤ 2147483647) : gok zgt 9 i z := h
theorem g_f10_4 {st : zS} (h : gInv zgt st) : (0 : Int) ≤ st 10 4 ∧ st 10 4 ≤ 19 := gof (lo := 0) (hi := 19) (h 10 4)
theorem p_f10_4 {z : Int} (h : (0 : Int) ≤ z ∧ z ≤ 19) : gok zgt 10 4 z := ⟨(.ofNat 0, .ofNat 19), List.mem_singleton.mpr rfl, h.1, h.2⟩
theorem g_f10_5 {st : zS} (h : gInv zgt st) : (0 : Int) ≤ st 10 5 ∧ st 10 5 ≤ 20 := gof (lo := 0) (hi := 20) (h 10 5)
theorem p_f10_5 {z : Int} (h : (0 : Int) ≤ z ∧ z ≤ 20) : gok zgt 10 5 z := ⟨(.ofNat 0, .ofNat 20), List.mem_singleton.mpr rfl, h.1, h.2⟩
theorem g_a11 {st : zS} (h : gInv zgt st) (i : Nat) : (-2147483648 : Int) ≤ st 11 i ∧ st 11 i ≤ 2147483647 := h 11 i
theorem p_a11 {i : Nat} {z : Int} (h : (-2147483648 : Int) ≤ z ∧ z ≤ 2147483647) : gok zgt 11 i z := h
theorem g_a12 {st : zS} (h : gInv zgt st) (i : Nat) : (-2147483648 : Int) ≤ st 12 i ∧ st 12 i ≤ 2147483647 := h 12 i
theorem p_a12 {i : Nat} {z : Int} (h : (-2147483648 : Int) ≤ z ∧ z ≤ 2147483647) : gok zgt 12 i z := h
theorem g_a13 {st : zS} (h : gInv zgt st) (i : Nat) : (-2147483648 : Int) ≤ st 13 i ∧ st 13 i ≤ 2147483647 := h 13 i
theorem p_a13 {i : Nat} {z : Int} (h : (-2147483648 : Int) ≤ z ∧ z ≤ 2147483647) : gok zgt 13 i z := h
theorem g_f15_0 {st : zS} (h : gInv zgt st) : (-2147483648 : Int) ≤ st 15 0 ∧ st 15 0 ≤ 2147483647 := gof (lo := -2147483648) (hi := 2147483647) (h 15 0)
theorem p_f15_0 {z : Int} (h : (-2147483648 : Int) ≤ z ∧ z ≤ 2147483647) : gok zgt 15 0 z := ⟨(.negSucc 2147483647, .ofNat 2147483647), List.mem_singleton.mpr rfl, h.1, h.2⟩
theorem g_f15_1 {st : zS} (h : gInv zgt st) : (-2147483648 : Int) ≤ st 15 1 ∧ st 15 1 ≤ 2147483647 := gof (lo := -2147483648) (hi := 2147483647) (h 15 1)
theorem p_f15_1 {z : Int} (h : (-2147483648 : Int) ≤ z ∧ z ≤ 2147483647) : gok zgt 15 1 z := ⟨(.negSucc 2147483647, .ofNat 2147483647), List.mem_singleton.mpr rfl, h.1, h.2⟩
theorem g_f15_4 {st : zS} (h : gInv zgt st) : (-2147483648 : Int) ≤ st 15 4 ∧ st 15 4 ≤ 2147483647 := gof (lo := -2147483648) (hi := 2147483647) (h 15 4)
theorem p_f15_4 {z : Int} (h : (-2147483648 : Int) ≤ z ∧ z ≤ 2147483647) : gok zgt 15 4 z := ⟨(.negSucc 2147483647, .ofNat 2147483647), List.mem_singleton.mpr rfl, h.1, h.2⟩
theorem g_a16 {st : zS} (h : gInv zgt st) (i : Nat) : (0 : Int) ≤ st 16 i ∧ st 16 i ≤ 7 := h 16 i
theorem p_a16 {i : Nat} {z : Int} (h : (0 : Int) ≤ z ∧ z ≤ 7) : gok zgt 16 i z := h
theorem g_f17_2 {st : zS} (h : gInv zgt st) : (0 : Int) ≤ st 17 2 ∧ st 17 2 ≤ 30 := gof (lo := 0) (hi := 30) (h 17 2)
theorem p_f17_2 {z : Int} (h : (0 : Int) ≤ z ∧ z ≤ 30) : gok zgt 17 2 z := ⟨(.ofNat 0, .ofNat 30), List.mem_singleton.mpr rfl, h.1, h.2⟩
theorem g_a18 {st : zS} (h : gInv zgt st) (i : Nat) : (0 : Int) ≤ st 18 i ∧ st 18 i ≤ 7 := h 18 i
theorem p_a18 {i : Nat} {z : Int} (h : (0 : Int) ≤ z ∧ z ≤ 7) : gok zgt 18 i z := h
theorem g_a19 {st : zS} (h : gInv zgt st) (i : Nat) : (-2147483648 : Int) ≤ st 19 i ∧ st 19 i ≤ 2147483647 := h 19 i
theorem p_a19 {i : Nat} {z : Int} (h : (-2147483648 : Int) ≤ z ∧ z ≤ 2147483647) : gok zgt 19 i z := h
theorem g_f20_0 {st : zS} (h : gInv zgt st) : (-2147483648 : Int) ≤ st 20 0 ∧ st 20 0 ≤ 2147483647 := gof (lo := -2147483648) (hi := 2147483647) (h 20 0)
theorem p_f20_0 {z : Int} (h : (-2147483648 : Int) ≤ z ∧ z ≤ 2147483647) : gok zgt 20 0 z := ⟨(.negSucc 2147483647, .ofNat 2147483647), List.mem_singleton.mpr rfl, h.1, h.2⟩
theorem g_f20_1 {st : zS} (h : gInv zgt st) : (-2147483648 : Int) ≤ st 20 1 ∧ st 20 1 ≤ 2147483647 := gof (lo := -2147483648) (hi := 2147483647) (h 20 1)
theorem p_f20_1 {z : Int} (h : (-2147483648 : Int) ≤ z ∧ z ≤ 2147483647) : gok zgt 20 1 z := ⟨(.negSucc 2147483647, .ofNat 2147483647), List.mem_singleton.mpr rfl, h.1, h.2⟩
theorem g_f20_4 {st : zS} (h : gInv zgt st) : (-2147483648 : Int) ≤ st 20 4 ∧ st 20 4 ≤ 2147483647 := gof (lo := -2147483648) (hi := 2147483647) (h 20 4)
theorem p_f20_4 {z : Int} (h : (-2147483648 : Int) ≤ z ∧ z ≤ 2147483647) : gok zgt 20 4 z := ⟨(.negSucc 2147483647, .ofNat 2147483647), List.mem_singleton.mpr rfl, h.1, h.2⟩
theorem g_a21 {st : zS} (h : gInv zgt st) (i : Nat) : (0 : Int) ≤ st 21 i ∧ st 21 i ≤ 7 := h 21 i
theorem p_a21 {i : Nat} {z : Int} (h : (0 : Int) ≤ z ∧ z ≤ 7) : gok zgt 21 i z := h
theorem g_f22_2 {st : zS} (h : gInv zgt st) : (0 : Int) ≤ st 22 2 ∧ st 22 2 ≤ 30 := gof (lo := 0) (hi := 30) (h 22 2)
theorem p_f22_2 {z : Int} (h : (0 : Int) ≤ z ∧ z ≤ 30) : gok zgt 22 2 z := ⟨(.ofNat 0, .ofNat 30), List.mem_singleton.mpr rfl, h.1, h.2⟩
theorem g_a23 {st : zS} (h : gInv zgt st) (i : Nat) : (0 : Int) ≤ st 23 i ∧ st 23 i ≤ 7 := h 23 i
theorem p_a23 {i : Nat} {z : Int} (h : (0 : Int) ≤ z ∧ z ≤ 7) : gok zgt 23 i z := h
theorem g_a24 {st : zS} (h : gInv zgt st) (i : Nat) : (-2147483648 : Int) ≤ st 24 i ∧ st 24 i ≤ 2147483647 := h 24 i
theorem p_a24 {i : Nat} {z : Int} (h : (-2147483648 : Int) ≤ z ∧ z ≤ 2147483647) : gok zgt 24 i z := h
theorem g_f25_0 {st : zS} (h : gInv zgt st) : (-2147483648 : Int) ≤ st 25 0 ∧ st 25 0 ≤ 2147483647 := gof (lo := -2147483648) (hi := 2147483647) (h 25 0)
theorem p_f25_0 {z : Int} (h : (-2147483648 : Int) ≤ z ∧ z ≤ 2147483647) : gok zgt 25 0 z := ⟨(.negSucc 2147483647, .ofNat 2147483647), List.mem_singleton.mpr rfl, h.1, h.2⟩
theorem g_f25_1 {st : zS} (h : gInv zgt st) : (-2147483648 : Int) ≤ st 25 1 ∧ st 25 1 ≤ 2147483647 := gof (lo := -2147483648) (hi := 2147483647) (h 25 1)
theorem p_f25_1 {z : Int} (h : (-2147483648 : Int) ≤ z ∧ z ≤ 2147483647) : gok zgt 25 1 z := ⟨(.negSucc 2147483647, .ofNat 2147483647), List.mem_singleton.mpr rfl, h.1, h.2⟩
theorem g_f25_4 {st : zS} (h : gInv zgt st) : (-2147483648 : Int) ≤ st 25 4 ∧ st 25 4 ≤ 2147483647 := gof (lo := -2147483648) (hi := 2147483647) (h 25 4)
theorem p_f25_4 {z : Int} (h : (-2147483648 : Int) ≤ z ∧ z ≤ 2147483647) : gok zgt 25 4 z := ⟨(.negSucc 2147483647, .ofNat 2147483647), List.mem_singleton.mpr rfl, h.1, h.2⟩
theorem g_a26 {st : zS} (h : gInv zgt st) (i : Nat) : (0 : Int) ≤ st 26 i ∧ st 26 i ≤ 7 := h 26 i
theorem p_a26 {i : Nat} {z : Int} (h : (0 : Int) ≤ z ∧ z ≤ 7) : gok zgt 26 i z := h
theorem g_f27_2 {st : zS} (h : gInv zgt st) : (0 : Int) ≤ st 27 2 ∧ st 27 2 ≤ 30 := gof (lo := 0) (hi := 30) (h 27 2)
theorem p_f27_2 {z : Int} (h : (0 : Int) ≤ z ∧ z ≤ 30) : gok zgt 27 2 z := ⟨(.ofNat 0, .ofNat 30), List.mem_singleton.mpr rfl, h.1, h.2⟩
theorem g_a28 {st : zS} (h : gInv zgt st) (i : Nat) : (0 : Int) ≤ st 28 i ∧ st 28 i ≤ 7 := h 28 i
theorem p_a28 {i : Nat} {z : Int} (h : (0 : Int) ≤ z ∧ z ≤ 7) : gok zgt 28 i z := h
theorem g_a29 {st : zS} (h : gInv zgt st) (i : Nat) : (-2147483648 : Int) ≤ st 29 i ∧ st 29 i ≤ 2147483647 := h 29 i
theorem p_a29 {i : Nat} {z : Int} (h : (-2147483648 : Int) ≤ z ∧ z ≤ 2147483647) : gok zgt 29 i z := h
theorem g_f30_0 {st : zS} (h : gInv zgt st) : (-2147483648 : Int) ≤ st 30 0 ∧ st 30 0 ≤ 2147483647 := gof (lo := -2147483648) (hi := 2147483647) (h 30 0)
theorem p_f30_0 {z : Int} (h : (-2147483648 : Int) ≤ z ∧ z ≤ 2147483647) : gok zgt 30 0 z := ⟨(.negSucc 2147483647, .ofNat 2147483647), List.mem_singleton.mpr rfl, h.1, h.2⟩
theorem g_f30_1 {st : zS} (h : gInv zgt st) : (-2147483648 : Int) ≤ st 30 1 ∧ st 30 1 ≤ 2147483647 := gof (lo := -2147483648) (hi := 2147483647) (h 30 1)
theorem p_f30_1 {z : Int} (h : (-2147483648 : Int) ≤ z ∧ z ≤ 2147483647) : gok zgt 30 1 z := ⟨(.negSucc 2147483647, .ofNat 2147483647), List.mem_singleton.mpr rfl, h.1, h.2⟩
theorem g_f30_4 {st : zS} (h : gInv zgt st) : (-2147483648 : Int) ≤ st 30 4 ∧ st 30 4 ≤ 2147483647 := gof (lo := -2147483648) (hi := 2147483647) (h 30 4)
theorem p_f30_4 {z : Int} (h : (-2147483648 : Int) ≤ z ∧ z ≤ 2147483647) : gok zgt 30 4 z := ⟨(.negSucc 2147483647, .ofNat 2147483647), List.mem_singleton.mpr rfl, h.1, h.2⟩
theorem g_a31 {st : zS} (h : gInv zgt st) (i : Nat) : (0 : Int) ≤ st 31 i ∧ st 31 i ≤ 7 := h 31 i
theorem p_a31 {i : Nat} {z : Int} (h : (0 : Int) ≤ z ∧ z ≤ 7) : gok zgt 31 i z := h
theorem g_f32_2 {st : zS} (h : gInv zgt st) : (0 : Int) ≤ st 32 2 ∧ st 32 2 ≤ 30 := gof (lo := 0) (hi := 30) (h 32 2)
theorem p_f32_2 {z : Int} (h : (0 : Int) ≤ z ∧ z ≤ 30) : gok zgt 32 2 z := ⟨(.ofNat 0, .ofNat 30), List.mem_singleton.mpr rfl, h.1, h.2⟩
theorem g_a33 {st : zS} (h : gInv zgt st) (i : Nat) : (0 : Int) ≤ st 33 i ∧ st 33 i ≤ 7 := h 33 i
theorem p_a33 {i : Nat} {z : Int} (h : (0 : Int) ≤ z ∧ z ≤ 7) : gok zgt 33 i z := h
theorem g_a34 {st : zS} (h : gInv zgt st) (i : Nat) : (-2147483648 : Int) ≤ st 34 i ∧ st 34 i ≤ 2147483647 := h 34 i
theorem p_a34 {i : Nat} {z : Int} (h : (-2147483648 : Int) ≤ z ∧ z ≤ 2147483647) : gok zgt 34 i z := h
theorem g_f35_0 {st : zS} (h : gInv zgt st) : (-2147483648 : Int) ≤ st 35 0 ∧ st 35 0 ≤ 2147483647 := gof (lo := -2147483648) (hi := 2147483647) (h 35 0)
theorem p_f35_0 {z : Int} (h : (-2147483648 : Int) ≤ z ∧ z ≤ 2147483647) : gok zgt 35 0 z := ⟨(.negSucc 2147483647, .ofNat 2147483647), List.mem_singleton.mpr rfl, h.1, h.2⟩
theorem g_f35_1 {st : zS} (h : gInv zgt st) : (-2147483648 : Int) ≤ st 35 1 ∧ st 35 1 ≤ 2147483647 := gof (lo := -2147483648) (hi := 2147483647) (h 35 1)
theorem p_f35_1 {z : Int} (h : (-2147483648 : Int) ≤ z ∧ z ≤ 2147483647) : gok zgt 35 1 z := ⟨(.negSucc 2147483647, .ofNat 2147483647), List.mem_singleton.mpr rfl, h.1, h.2⟩
theorem g_f35_4 {st : zS} (h : gInv zgt st) : (-2147483648 : Int) ≤ st 35 4 ∧ st 35 4 ≤ 2147483647 := gof (lo := -2147483648) (hi := 2147483647) (h 35 4)
theorem p_f35_4 {z : Int} (h : (-2147483648 : Int) ≤ z ∧ z ≤ 2147483647) : gok zgt 35 4 z := ⟨(.negSucc 2147483647, .ofNat 2147483647), List.mem_singleton.mpr rfl, h.1, h.2⟩
theorem g_a36 {st : zS} (h : gInv zgt st) (i : Nat) : (0 : Int) ≤ st 36 i ∧ st 36 i ≤ 7 := h 36 i
theorem p_a36 {i : Nat} {z : Int} (h : (0 : Int) ≤ z ∧ z ≤ 7) : gok zgt 36 i z := h
theorem g_f37_2 {st : zS} (h : gInv zgt st) : (0 : Int) ≤ st 37 2 ∧ st 37 2 ≤ 30 := gof (lo := 0) (hi := 30) (h 37 2)
theorem p_f37_2 {z : Int} (h : (0 : Int) ≤ z ∧ z ≤ 30) : gok zgt 37 2 z := ⟨(.ofNat 0, .ofNat 30), List.mem_singleton.mpr rfl, h.1, h.2⟩
theorem g_a38 {st : zS} (h : gInv zgt st) (i : Nat) : (0 : Int) ≤ st 38 i ∧ st 38 i ≤ 7 := h 38 i
theorem p_a38 {i : Nat} {z : Int} (h : (0 : Int) ≤ z ∧ z ≤ 7) : gok zgt 38 i z := h
theorem g_a39 {st : zS} (h : gInv zgt st) (i : Nat) : (-2147483648 : Int) ≤ st 39 i ∧ st 39 i ≤ 2147483647 := h 39 i
theorem p_a39 {i : Nat} {z : Int} (h : (-2147483648 : Int) ≤ z ∧ z ≤ 2147483647) : gok zgt 39 i z := h
theorem g_f40_0 {st : zS} (h : gInv zgt st) : (-2147483648 : Int) ≤ st 40 0 ∧ st 40 0 ≤ 2147483647 := gof (lo := -2147483648) (hi := 2147483647) (h 40 0)
theorem p_f40_0 {z : Int} (h : (-2147483648 : Int) ≤ z ∧ z ≤ 2147483647) : gok zgt 40 0 z := ⟨(.negSucc 2147483647, .ofNat 2147483647), List.mem_singleton.mpr rfl, h.1, h.2⟩
theorem g_f40_1 {st : zS} (h : gInv zgt st) : (-2147483648 : Int) ≤ st 40 1 ∧ st 40 1 ≤ 2147483647 := gof (lo := -2147483648) (hi := 2147483647) (h 40 1)
theorem p_f40_1 {z : Int} (h : (-2147483648 : Int) ≤ z ∧ z ≤ 2147483647) : gok zgt 40 1 z := ⟨(.negSucc 2147483647, .ofNat 2147483647), List.mem_singleton.mpr rfl, h.1, h.2⟩
theorem g_f40_4 {st : zS} (h : gInv zgt st) : (-2147483648 : Int) ≤ st 40 4 ∧ st 40 4 ≤ 2147483647 := gof (lo := -2147483648) (hi := 2147483647) (h 40 4)
theorem p_f40_4 {z : Int} (h : (-2147483648 : Int) ≤ z ∧ z ≤ 2147483647) : gok zgt 40 4 z := ⟨(.negSucc 2147483647, .ofNat 2147483647), List.mem_singleton.mpr rfl, h.1, h.2⟩
theorem g_a41 {st : zS} (h : gInv zgt st) (i : Nat) : (0 : Int) ≤ st 41 i ∧ st 41 i ≤ 7 := h 41 i
theorem p_a41 {i : Nat} {z : Int} (h : (0 : Int) ≤ z ∧ z ≤ 7) : gok zgt 41 i z := h
theorem g_f42_2 {st : zS} (h : gInv zgt st) : (0 : Int) ≤ st 42 2 ∧ st 42 2 ≤ 30 := gof (lo := 0) (hi := 30) (h 42 2)
theorem p_f42_2 {z : Int} (h : (0 : Int) ≤ z ∧ z ≤ 30) : gok zgt 42 2 z := ⟨(.ofNat 0, .ofNat 30), List.mem_singleton.mpr rfl, h.1, h.2⟩
theorem g_a43 {st : zS} (h : gInv zgt st) (i : Nat) : (0 : Int) ≤ st 43 i ∧ st 43 i ≤ 7 := h 43 i
theorem p_a43 {i : Nat} {z : Int} (h : (0 : Int) ≤ z ∧ z ≤ 7) : gok zgt 43 i z := h
theorem g_a44 {st : zS} (h : gInv zgt st) (i : Nat) : (-2147483648 : Int) ≤ st 44 i ∧ st 44 i ≤ 2147483647 := h 44 i
theorem p_a44 {i : Nat} {z : Int} (h : (-2147483648 : Int) ≤ z ∧ z ≤ 2147483647) : gok zgt 44 i z := h
theorem g_f45_0 {st : zS} (h : gInv zgt st) : (-2147483648 : Int) ≤ st 45 0 ∧ st 45 0 ≤ 2147483647 := gof (lo := -2147483648) (hi := 2147483647) (h 45 0)
theorem p_f45_0 {z : Int} (h : (-2147483648 : Int) ≤ z ∧ z ≤ 2147483647) : gok zgt 45 0 z := ⟨(.negSucc 2147483647, .ofNat 2147483647), List.mem_singleton.mpr rfl, h.1, h.2⟩
theorem g_f45_1 {st : zS} (h : gInv zgt st) : (-2147483648 : Int) ≤ st 45 1 ∧ st 45 1 ≤ 2147483647 := gof (lo := -2147483648) (hi := 2147483647) (h 45 1)
theorem p_f45_1 {z : Int} (h : (-2147483648 : Int) ≤ z ∧ z ≤ 2147483647) : gok zgt 45 1 z := ⟨(.negSucc 2147483647, .ofNat 2147483647), List.mem_singleton.mpr rfl, h.1, h.2⟩
theorem g_f45_4 {st : zS} (h : gInv zgt st) : (-2147483648 : Int) ≤ st 45 4 ∧ st 45 4 ≤ 2147483647 := gof (lo := -2147483648) (hi := 2147483647) (h 45 4)
theorem p_f45_4 {z : Int} (h : (-2147483648 : Int) ≤ z ∧ z ≤ 2147483647) : gok zgt 45 4 z := ⟨(.negSucc 2147483647, .ofNat 2147483647), List.mem_singleton.mpr rfl, h.1, h.2⟩
theorem g_a46 {st : zS} (h : gInv zgt st) (i : Nat) : (0 : Int) ≤ st 46 i ∧ st 46 i ≤ 7 := h 46 i
theorem p_a46 {i : Nat} {z : Int} (h : (0 : Int) ≤ z ∧ z ≤ 7) : gok zgt 46 i z := h
theorem g_f47_2 {st : zS} (h : gInv zgt st) : (0 : Int) ≤ st 47 2 ∧ st 47 2 ≤ 30 := gof (lo := 0) (hi := 30) (h 47 2)
theorem p_f47_2 {z : Int} (h : (0 : Int) ≤ z ∧ z ≤ 30) : gok zgt 47 2 z := ⟨(.ofNat 0, .ofNat 30), List.mem_singleton.mpr rfl, h.1, h.2⟩
theorem g_a48 {st : zS} (h : gInv zgt st) (i : Nat) : (0 : Int) ≤ st 48 i ∧ st 48 i ≤ 7 := h 48 i
theorem p_a48 {i : Nat} {z : Int} (h : (0 : Int) ≤ z ∧ z ≤ 7) : gok zgt 48 i z := h
theorem g_a49 {st : zS} (h : gInv zgt st) (i : Nat) : (-2147483648 : Int) ≤ st 49 i ∧ st 49 i ≤ 2147483647 := h 49 i
theorem p_a49 {i : Nat} {z : Int} (h : (-2147483648 : Int) ≤ z ∧ z ≤ 2147483647) : gok zgt 49 i z := h
theorem g_f50_0 {st : zS} (h : gInv zgt st) : (-2147483648 : Int) ≤ st 50 0 ∧ st 50 0 ≤ 2147483647 := gof (lo := -2147483648) (hi := 2147483647) (h 50 0)
theorem p_f50_0 {z : Int} (h : (-2147483648 : Int) ≤ z ∧ z ≤ 2147483647) : gok zgt 50 0 z := ⟨(.negSucc 2147483647, .ofNat 2147483647), List.mem_singleton.mpr rfl, h.1, h.2⟩
theorem g_f50_1 {st : zS} (h : gInv zgt st) : (-2147483648 : Int) ≤ st 50 1 ∧ st 50 1 ≤ 2147483647 := gof (lo := -2147483648) (hi := 2147483647) (h 50 1)
theorem p_f50_1 {z : Int} (h : (-2147483648 : Int) ≤ z ∧ z ≤ 2147483647) : gok zgt 50 1 z := ⟨(.negSucc 2147483647, .ofNat 2147483647), List.mem_singleton.mpr rfl, h.1, h.2⟩
theorem g_f50_4 {st : zS} (h : gInv zgt st) : (-2147483648 : Int) ≤ st 50 4 ∧ st 50 4 ≤ 2147483647 := gof (lo := -2147483648) (hi := 2147483647) (h 50 4)
theorem p_f50_4 {z : Int} (h : (-2147483648 : Int) ≤ z ∧ z ≤ 2147483647) : gok zgt 50 4 z := ⟨(.negSucc 2147483647, .ofNat 2147483647), List.mem_singleton.mpr rfl, h.1, h.2⟩
theorem g_a51 {st : zS} (h : gInv zgt st) (i : Nat) : (0 : Int) ≤ st 51 i ∧ st 51 i ≤ 7 := h 51 i
theorem p_a51 {i : Nat} {z : Int} (h : (0 : Int) ≤ z ∧ z ≤ 7) : gok zgt 51 i z := h
theorem g_f52_2 {st : zS} (h : gInv zgt st) : (0 : Int) ≤ st 52 2 ∧ st 52 2 ≤ 30 := gof (lo := 0) (hi := 30) (h 52 2)
theorem p_f52_2 {z : Int} (h : (0 : Int) ≤ z ∧ z ≤ 30) : gok zgt 52 2 z := ⟨(.ofNat 0, .ofNat 30), List.mem_singleton.mpr rfl, h.1, h.2⟩
theorem g_a53 {st : zS} (h : gInv zgt st) (i : Nat) : (0 : Int) ≤ st 53 i ∧ st 53 i ≤ 7 := h 53 i
theorem p_a53 {i : Nat} {z : Int} (h : (0 : Int) ≤ z ∧ z ≤ 7) : gok zgt 53 i z := h
theorem g_a54 {st : zS} (h : gInv zgt st) (i : Nat) : (-2147483648 : Int) ≤ st 54 i ∧ st 54 i ≤ 2147483647 := h 54 i
theorem p_a54 {i : Nat} {z : Int} (h : (-2147483648 : Int) ≤ z ∧ z ≤ 2147483647) : gok zgt 54 i z := h
theorem g_f55_0 {st : zS} (h : gInv zgt st) : (-2147483648 : Int) ≤ st 55 0 ∧ st 55 0 ≤ 2147483647 := gof (lo := -2147483648) (hi := 2147483647) (h 55 0)
theorem p_f55_0 {z : Int} (h : (-2147483648 : Int) ≤ z ∧ z ≤ 2147483647) : gok zgt 55 0 z := ⟨(.negSucc 2147483647, .ofNat 2147483647), List.mem_singleton.mpr rfl, h.1, h.2⟩
theorem g_f55_1 {st : zS} (h : gInv zgt st) : (-2147483648 : Int) ≤ st 55 1 ∧ st 55 1 ≤ 2147483647 := gof (lo := -2147483648) (hi := 2147483647) (h 55 1)
theorem p_f55_1 {z : Int} (h : (-2147483648 : Int) ≤ z ∧ z ≤ 2147483647) : gok zgt 55 1 z := ⟨(.negSucc 2147483647, .ofNat 2147483647), List.mem_singleton.mpr rfl, h.1, h.2⟩
theorem g_f55_4 {st : zS} (h : gInv zgt st) : (-2147483648 : Int) ≤ st 55 4 ∧ st 55 4 ≤ 2147483647 := gof (lo := -2147483648) (hi := 2147483647) (h 55 4)
theorem p_f55_4 {z : Int} (h : (-2147483648 : Int) ≤ z ∧ z ≤ 2147483647) : gok zgt 55 4 z := ⟨(.negSucc 2147483647, .ofNat 2147483647), List.mem_singleton.mpr rfl, h.1, h.2⟩
theorem g_a56 {st : zS} (h : gInv zgt st) (i : Nat) : (0 : Int) ≤ st 56 i ∧ st 56 i ≤ 7 := h 56 i
theorem p_a56 {i : Nat} {z : Int} (h : (0 : Int) ≤ z ∧ z ≤ 7) : gok zgt 56 i z := h
theorem g_f57_2 {st : zS} (h : gInv zgt st) : (0 : Int) ≤ st 57 2 ∧ st 57 2 ≤ 30 := gof (lo := 0) (hi := 30) (h 57 2)
theorem p_f57_2 {z : Int} (h : (0 : Int) ≤ z ∧ z ≤ 30) : gok zgt 57 2 z := ⟨(.ofNat 0, .ofNat 30), List.mem_singleton.mpr rfl, h.1, h.2⟩
theorem g_a58 {st : zS} (h : gInv zgt st) (i : Nat) : (0 : Int) ≤ st 58 i ∧ st 58 i ≤ 7 := h 58 i
theorem p_a58 {i : Nat} {z : Int} (h : (0 : Int) ≤ z ∧ z ≤ 7) : gok zgt 58 i z := h
theorem g_a59 {st : zS} (h : gInv zgt st) (i : Nat) : (-2147483648 : Int) ≤ st 59 i ∧ st 59 i ≤ 2147483647 := h 59 i
theorem p_a59 {i : Nat} {z : Int} (h : (-2147483648 : Int) ≤ z ∧ z ≤ 2147483647) : gok zgt 59 i z := h
theorem g_f60_0 {st : zS} (h : gInv zgt st) : (-2147483648 : Int) ≤ st 60 0 ∧ st 60 0 ≤ 2147483647 := gof (lo := -2147483648) (hi := 2147483647) (h 60 0)
theorem p_f60_0 {z : Int} (h : (-2147483648 : Int) ≤ z ∧ z ≤ 2147483647) : gok zgt 60 0 z := ⟨(.negSucc 2147483647, .ofNat 2147483647), List.mem_singleton.mpr rfl, h.1, h.2⟩
theorem g_f60_1 {st : zS} (h : gInv zgt st) : (-2147483648 : Int) ≤ st 60 1 ∧ st 60 1 ≤ 2147483647 := gof (lo := -2147483648) (hi := 2147483647) (h 60 1)
theorem p_f60_1 {z : Int} (h : (-2147483648 : Int) ≤ z ∧ z ≤ 2147483647) : gok zgt 60 1 z := ⟨(.negSucc 2147483647, .ofNat 2147483647), List.mem_singleton.mpr rfl, h.1, h.2⟩
theorem g_f60_4 {st : zS} (h : gInv zgt st) : (-2147483648 : Int) ≤ st 60 4 ∧ st 60 4 ≤ 2147483647 := gof (lo := -2147483648) (hi := 2147483647) (h 60 4)
theorem p_f60_4 {z : Int} (h : (-2147483648 : Int) ≤ z ∧ z ≤ 2147483647) : gok zgt 60 4 z := ⟨(.negSucc 2147483647, .ofNat 2147483647), List.mem_singleton.mpr rfl, h.1, h.2⟩
theorem g_a61 {st : zS} (h : gInv zgt st) (i : Nat) : (0 : Int) ≤ st 61 i ∧ st 61 i ≤ 7 := h 61 i
theorem p_a61 {i : Nat} {z : Int} (h : (0 : Int) ≤ z ∧ z ≤ 7) : gok zgt 61 i z := h
theorem g_f62_2 {st : zS} (h : gInv zgt st) : (0 : Int) ≤ st 62 2 ∧ st 62 2 ≤ 30 := gof (lo := 0) (hi := 30) (h 62 2)
theorem p_f62_2 {z : Int} (h : (0 : Int) ≤ z ∧ z ≤ 30) : gok zgt 62 2 z := ⟨(.ofNat 0, .ofNat 30), List.mem_singleton.mpr rfl, h.1, h.2⟩
theorem g_a63 {st : zS} (h : gInv zgt st) (i : Nat) : (0 : Int) ≤ st 63 i ∧ st 63 i ≤ 7 := h 63 i
theorem p_a63 {i : Nat} {z : Int} (h : (0 : Int) ≤ z ∧ z ≤ 7) : gok zgt 63 i z := h
theorem g_a64 {st : zS} (h : gInv zgt st) (i : Nat) : (-2147483648 : Int) ≤ st 64 i ∧ st 64 i ≤ 2147483647 := h 64 i
theorem p_a64 {i : Nat} {z : Int} (h : (-2147483648 : Int) ≤ z ∧ z ≤ 2147483647) : gok zgt 64 i z := h
theorem g_f65_0 {st : zS} (h : gInv zgt st) : (-2147483648 : Int) ≤ st 65 0 ∧ st 65 0 ≤ 2147483647 := gof (lo := -2147483648) (hi := 2147483647) (h 65 0)
theorem p_f65_0 {z : Int} (h : (-2147483648 : Int) ≤ z ∧ z ≤ 2147483647) : gok zgt 65 0 z := ⟨(.negSucc 2147483647, .ofNat 2147483647), List.mem_singleton.mpr rfl, h.1, h.2⟩
theorem g_f65_1 {st : zS} (h : gInv zgt st) : (-2147483648 : Int) ≤ st 65 1 ∧ st 65 1 ≤ 2147483647 := gof (lo := -2147483648) (hi := 2147483647) (h 65 1)
theorem p_f65_1 {z : Int} (h : (-2147483648 : Int) ≤ z ∧ z ≤ 2147483647) : gok zgt 65 1 z := ⟨(.negSucc 2147483647, .ofNat 2147483647), List.mem_singleton.mpr rfl, h.1, h.2⟩
theorem g_f65_4 {st : zS} (h : gInv zgt st) : (-2147483648 : Int) ≤ st 65 4 ∧ st 65 4 ≤ 2147483647 := gof (lo := -2147483648) (hi := 2147483647) (h 65 4)
theorem p_f65_4 {z : Int} (h : (-2147483648 : Int) ≤ z ∧ z ≤ 2147483647) : gok zgt 65 4 z := ⟨(.negSucc 2147483647, .ofNat 2147483647), List.mem_singleton.mpr rfl, h.1, h.2⟩
theorem g_a66 {st : zS} (h : gInv zgt st) (i : Nat) : (0 : Int) ≤ st 66 i ∧ st 66 i ≤ 7 := h 66 i
theorem p_a66 {i : Nat} {z : Int} (h : (0 : Int) ≤ z ∧ z ≤ 7) : gok zgt 66 i z := h
theorem g_f67_2 {st : zS} (h : gInv zgt st) : (0 : Int) ≤ st 67 2 ∧ st 67 2 ≤ 30 := gof (lo := 0) (hi := 30) (h 67 2)
theorem p_f67_2 {z : Int} (h : (0 : Int) ≤ z ∧ z ≤ 30) : gok zgt 67 2 z := ⟨(.ofNat 0, .ofNat 30), List.mem_singleton.mpr rfl, h.1, h.2⟩
theorem g_a68 {st : zS} (h : gInv zgt st) (i : Nat) : (0 : Int) ≤ st 68 i ∧ st 68 i ≤ 7 := h 68 i
theorem p_a68 {i : Nat} {z : Int} (h : (0 : Int) ≤ z ∧ z ≤ 7) : gok zgt 68 i z := h
theorem g_a69 {st : zS} (h : gInv zgt st) (i : Nat) : (-2147483648 : Int) ≤ st 69 i ∧ st 69 i ≤ 2147483647 := h 69 i
theorem p_a69 {i : Nat} {z : Int} (h : (-2147483648 : Int) ≤ z ∧ z ≤ 2147483647) : gok zgt 69 i z := h
theorem g_f70_0 {st : zS} (h : gInv zgt st) : (-2147483648 : Int) ≤ st 70 0 ∧ st 70 0 ≤ 2147483647 := gof (lo := -2147483648) (hi := 2147483647) (h 70 0)
theorem p_f70_0 {z : Int} (h : (-2147483648 : Int) ≤ z ∧ z ≤ 2147483647) : gok zgt 70 0 z := ⟨(.negSucc 2147483647, .ofNat 2147483647), List.mem_singleton.mpr rfl, h.1, h.2⟩
theorem g_f70_1 {st : zS} (h : gInv zgt st) : (-2147483648 : Int) ≤ st 70 1 ∧ st 70 1 ≤ 2147483647 := gof (lo := -2147483648) (hi := 2147483647) (h 70 1)
theorem p_f70_1 {z : Int} (h : (-2147483648 : Int) ≤ z ∧ z ≤ 2147483647) : gok zgt 70 1 z := ⟨(.negSucc 2147483647, .ofNat 2147483647), List.mem_singleton.mpr rfl, h.1, h.2⟩
theorem g_f70_4 {st : zS} (h : gInv zgt st) : (-2147483648 : Int) ≤ st 70 4 ∧ st 70 4 ≤ 2147483647 := gof (lo := -2147483648) (hi := 2147483647) (h 70 4)
theorem p_f70_4 {z : Int} (h : (-2147483648 : Int) ≤ z ∧ z ≤ 2147483647) : gok zgt 70 4 z := ⟨(.negSucc 2147483647, .ofNat 2147483647), List.mem_singleton.mpr rfl, h.1, h.2⟩
theorem g_a71 {st : zS} (h : gInv zgt st) (i : Nat) : (0 : Int) ≤ st 71 i ∧ st 71 i ≤ 7 := h 71 i
theorem p_a71 {i : Nat} {z : Int} (h : (0 : Int) ≤ z ∧ z ≤ 7) : gok zgt 71 i z := h
theorem g_f72_2 {st : zS} (h : gInv zgt st) : (0 : Int) ≤ st 72 2 ∧ st 72 2 ≤ 30 := gof (lo := 0) (hi := 30) (h 72 2)
theorem p_f72_2 {z : Int} (h : (0 : Int) ≤ z ∧ z ≤ 30) : gok zgt 72 2 z := ⟨(.ofNat 0, .ofNat 30), List.mem_singleton.mpr rfl, h.1, h.2⟩
theorem g_a73 {st : zS} (h : gInv zgt st) (i : Nat) : (0 : Int) ≤ st 73 i ∧ st 73 i ≤ 7 := h 73 i
theorem p_a73 {i : Nat} {z : Int} (h : (0 : Int) ≤ z ∧ z ≤ 7) : gok zgt 73 i z := h
theorem g_a74 {st : zS} (h : gInv zgt st) (i : Nat) : (-2147483648 : Int) ≤ st 74 i ∧ st 74 i ≤ 2147483647 := h 74 i
theorem p_a74 {i : Nat} {z : Int} (h : (-2147483648 : Int) ≤ z ∧ z ≤ 2147483647) : gok zgt 74 i z := h
theorem g_f75_0 {st : zS} (h : gInv zgt st) : (-2147483648 : Int) ≤ st 75 0 ∧ st 75 0 ≤ 2147483647 := gof (lo := -2147483648) (hi := 2147483647) (h 75 0)
theorem p_f75_0 {z : Int} (h : (-2147483648 : Int) ≤ z ∧ z ≤ 2147483647) : gok zgt 75 0 z := ⟨(.negSucc 2147483647, .ofNat 2147483647), List.mem_singleton.mpr rfl, h.1, h.2⟩
theorem g_f75_1 {st : zS} (h : gInv zgt st) : (-2147483648 : Int) ≤ st 75 1 ∧ st 75 1 ≤ 2147483647 := gof (lo := -2147483648) (hi := 2147483647) (h 75 1)
theorem p_f75_1 {z : Int} (h : (-2147483648 : Int) ≤ z ∧ z ≤ 2147483647) : gok zgt 75 1 z := ⟨(.negSucc 2147483647, .ofNat 2147483647), List.mem_singleton.mpr rfl, h.1, h.2⟩
theorem g_f75_4 {st : zS} (h : gInv zgt st) : (-2147483648 : Int) ≤ st 75 4 ∧ st 75 4 ≤ 2147483647 := gof (lo := -2147483648) (hi := 2147483647) (h 75 4)
theorem p_f75_4 {z : Int} (h : (-2147483648 : Int) ≤ z ∧ z ≤ 2147483647) : gok zgt 75 4 z := ⟨(.negSucc 2147483647, .ofNat 2147483647), List.mem_singleton.mpr rfl, h.1, h.2⟩
theorem g_a76 {st : zS} (h : gInv zgt st) (i : Nat) : (0 : Int) ≤ st 76 i ∧ st 76 i ≤ 7 := h 76 i
theorem p_a76 {i : Nat} {z : Int} (h : (0 : Int) ≤ z ∧ z ≤ 7) : gok zgt 76 i z := h
theorem g_f77_2 {st : zS} (h : gInv zgt st) : (0 : Int) ≤ st 77 2 ∧ st 77 2 ≤ 30 := gof (lo := 0) (hi := 30) (h 77 2)
theorem p_f77_2 {z : Int} (h : (0 : Int) ≤ z ∧ z ≤ 30) : gok zgt 77 2 z := ⟨(.ofNat 0, .ofNat 30), List.mem_singleton.mpr rfl, h.1, h.2⟩
theorem g_a78 {st : zS} (h : gInv zgt st) (i : Nat) : (0 : Int) ≤ st 78 i ∧ st 78 i ≤ 7 := h 78 i
theorem p_a78 {i : Nat} {z : Int} (h : (0 : Int) ≤ z ∧ z ≤ 7) : gok zgt 78 i z := h
theorem g_a79 {st : zS} (h : gInv zgt st) (i : Nat) : (-2147483648 : Int) ≤ st 79 i ∧ st 79 i ≤ 2147483647 := h 79 i
theorem p_a79 {i : Nat} {z : Int} (h : (-2147483648 : Int) ≤ z ∧ z ≤ 2147483647) : gok zgt 79 i z := h
theorem g_f80_0 {st : zS} (h : gInv zgt st) : (-2147483648 : Int) ≤ st 80 0 ∧ st 80 0 ≤ 2147483647 := gof (lo := -2147483648) (hi := 2147483647) (h 80 0)
theorem p_f80_0 {z : Int} (h : (-2147483648 : Int) ≤ z ∧ z ≤ 2147483647) : gok zgt 80 0 z := ⟨(.negSucc 2147483647, .ofNat 2147483647), List.mem_singleton.mpr rfl, h.1, h.2⟩
theorem g_f80_1 {st : zS} (h : gInv zgt st) : (-2147483648 : Int) ≤ st 80 1 ∧ st 80 1 ≤ 2147483647 := gof (lo := -2147483648) (hi := 2147483647) (h 80 1)
theorem p_f80_1 {z : Int} (h : (-2147483648 : Int) ≤ z ∧ z ≤ 2147483647) : gok zgt 80 1 z := ⟨(.negSucc 2147483647, .ofNat 2147483647), List.mem_singleton.mpr rfl, h.1, h.2⟩
theorem g_f80_4 {st : zS} (h : gInv zgt st) : (-2147483648 : Int) ≤ st 80 4 ∧ st 80 4 ≤ 2147483647 := gof (lo := -2147483648) (hi := 2147483647) (h 80 4)
theorem p_f80_4 {z : Int} (h : (-2147483648 : Int) ≤ z ∧ z ≤ 2147483647) : gok zgt 80 4 z := ⟨(.negSucc 2147483647, .ofNat 2147483647), List.mem_singleton.mpr rfl, h.1, h.2⟩
theorem g_a81 {st : zS} (h : gInv zgt st) (i : Nat) : (0 : Int) ≤ st 81 i ∧ st 81 i ≤ 7 := h 81 i
theorem p_a81 {i : Nat} {z : Int} (h : (0 : Int) ≤ z ∧ z ≤ 7) : gok zgt 81 i z := h
theorem g_f82_2 {st : zS} (h : gInv zgt st) : (0 : Int) ≤ st 82 2 ∧ st 82 2 ≤ 30 := gof (lo := 0) (hi := 30) (h 82 2)
theorem p_f82_2 {z : Int} (h : (0 : Int) ≤ z ∧ z ≤ 30) : gok zgt 82 2 z := ⟨(.ofNat 0, .ofNat 30), List.mem_singleton.mpr rfl, h.1, h.2⟩
theorem g_a83 {st : zS} (h : gInv zgt st) (i : Nat) : (0 : Int) ≤ st 83 i ∧ st 83 i ≤ 7 := h 83 i
theorem p_a83 {i : Nat} {z : Int} (h : (0 : Int) ≤ z ∧ z ≤ 7) : gok zgt 83 i z := h
theorem g_a84 {st : zS} (h : gInv zgt st) (i : Nat) : (-2147483648 : Int) ≤ st 84 i ∧ st 84 i ≤ 2147483647 := h 84 i
theorem p_a84 {i : Nat} {z : Int} (h : (-2147483648 : Int) ≤ z ∧ z ≤ 2147483647) : gok zgt 84 i z := h
theorem g_f85_0 {st : zS} (h : gInv zgt st) : (-2147483648 : Int) ≤ st 85 0 ∧ st 85 0 ≤ 2147483647 := gof (lo := -2147483648) (hi := 2147483647) (h 85 0)
theorem p_f85_0 {z : Int} (h : (-2147483648 : Int) ≤ z ∧ z ≤ 2147483647) : gok zgt 85 0 z := ⟨(.negSucc 2147483647, .ofNat 2147483647), List.mem_singleton.mpr rfl, h.1, h.2⟩
theorem g_f85_1 {st : zS} (h : gInv zgt st) : (-2147483648 : Int) ≤ st 85 1 ∧ st 85 1 ≤ 2147483647 := gof (lo := -2147483648) (hi := 2147483647) (h 85 1)
theorem p_f85_1 {z : Int} (h : (-2147483648 : Int) ≤ z ∧ z ≤ 2147483647) : gok zgt 85 1 z := ⟨(.negSucc 2147483647, .ofNat 2147483647), List.mem_singleton.mpr rfl, h.1, h.2⟩
theorem g_f85_4 {st : zS} (h : gInv zgt st) : (-2147483648 : Int) ≤ st 85 4 ∧ st 85 4 ≤ 2147483647 := gof (lo := -2147483648) (hi := 2147483647) (h 85 4)
theorem p_f85_4 {z : Int} (h : (-2147483648 : Int) ≤ z ∧ z ≤ 2147483647) : gok zgt 85 4 z := ⟨(.negSucc 2147483647, .ofNat 2147483647), List.mem_singleton.mpr rfl, h.1, h.2⟩
theorem g_a86 {st : zS} (h : gInv zgt st) (i : Nat) : (0 : Int) ≤ st 86 i ∧ st 86 i ≤ 7 := h 86 i
theorem p_a86 {i : Nat} {z : Int} (h : (0 : Int) ≤ z ∧ z ≤ 7) : gok zgt 86 i z := h
theorem g_f87_2 {st : zS} (h : gInv zgt st) : (0 : Int) ≤ st 87 2 ∧ st 87 2 ≤ 30 := gof (lo := 0) (hi := 30) (h 87 2)
theorem p_f87_2 {z : Int} (h : (0 : Int) ≤ z ∧ z ≤ 30) : gok zgt 87 2 z := ⟨(.ofNat 0, .ofNat 30), List.mem_singleton.mpr rfl, h.1, h.2⟩
theorem g_a88 {st : zS} (h : gInv zgt st) (i : Nat) : (0 : Int) ≤ st 88 i ∧ st 88 i ≤ 7 := h 88 i
theorem p_a88 {i : Nat} {z : Int} (h : (0 : Int) ≤ z ∧ z ≤ 7) : gok zgt 88 i z := h
theorem g_a89 {st : zS} (h : gInv zgt st) (i : Nat) : (-2147483648 : Int) ≤ st 89 i ∧ st 89 i ≤ 2147483647 := h 89 i
theorem p_a89 {i : Nat} {z : Int} (h : (-2147483648 : Int) ≤ z ∧ z ≤ 2147483647) : gok zgt 89 i z := h
theorem g_f90_0 {st : zS} (h : gInv zgt st) : (-2147483648 : Int) ≤ st 90 0 ∧ st 90 0 ≤ 2147483647 := gof (lo := -2147483648) (hi := 2147483647) (h 90 0)
theorem p_f90_0 {z : Int} (h : (-2147483648 : Int) ≤ z ∧ z ≤ 2147483647) : gok zgt 90 0 z := ⟨(.negSucc 2147483647, .ofNat 2147483647), List.mem_singleton.mpr rfl, h.1, h.2⟩
theorem g_f90_1 {st : zS} (h : gInv zgt st) : (-2147483648 : Int) ≤ st 90 1 ∧ st 90 1 ≤ 2147483647 := gof (lo := -2147483648) (hi := 2147483647) (h 90 1)
theorem p_f90_1 {z : Int} (h : (-2147483648 : Int) ≤ z ∧ z ≤ 2147483647) : gok zgt 90 1 z := ⟨(.negSucc 2147483647, .ofNat 2147483647), List.mem_singleton.mpr rfl, h.1, h.2⟩
theorem g_f90_4 {st : zS} (h : gInv zgt st) : (-2147483648 : Int) ≤ st 90 4 ∧ st 90 4 ≤ 2147483647 := gof (lo := -2147483648) (hi := 2147483647) (h 90 4)
theorem p_f90_4 {z : Int} (h : (-2147483648 : Int) ≤ z ∧ z ≤ 2147483647) : gok zgt 90 4 z := ⟨(.negSucc 2147483647, .ofNat 2147483647), List.mem_singleton.mpr rfl, h.1, h.2⟩
theorem g_a91 {st : zS} (h : gInv zgt st) (i : Nat) : (0 : Int) ≤ st 91 i ∧ st 91 i ≤ 7 := h 91 i
theorem p_a91 {i : Nat} {z : Int} (h : (0 : Int) ≤ z ∧ z ≤ 7) : gok zgt 91 i z := h
theorem g_f92_2 {st : zS} (h : gInv zgt st) : (0 : Int) ≤ st 92 2 ∧ st 92 2 ≤ 30 := gof (lo := 0) (hi := 30) (h 92 2)
theorem p_f92_2 {z : Int} (h : (0 : Int) ≤ z ∧ z ≤ 30) : gok zgt 92 2 z := ⟨(.ofNat 0, .ofNat 30), List.mem_singleton.mpr rfl, h.1, h.2⟩
theorem g_a93 {st : zS} (h : gInv zgt st) (i : Nat) : (0 : Int) ≤ st 93 i ∧ st 93 i ≤ 7 := h 93 i
theorem p_a93 {i : Nat} {z : Int} (h : (0 : Int) ≤ z ∧ z ≤ 7) : gok zgt 93 i z := h
theorem g_a94 {st : zS} (h : gInv zgt st) (i : Nat) : (-2147483648 : Int) ≤ st 94 i ∧ st 94 i ≤ 2147483647 := h 94 i
theorem p_a94 {i : Nat} {z : Int} (h : (-2147483648 : Int) ≤ z ∧ z ≤ 2147483647) : gok zgt 94 i z := h
theorem g_f95_0 {st : zS} (h : gInv zgt st) : (-2147483648 : Int) ≤ st 95 0 ∧ st 95 0 ≤ 2147483647 := gof (lo := -2147483648) (hi := 2147483647) (h 95 0)
theorem p_f95_0 {z : Int} (h : (-2147483648 : Int) ≤ z ∧ z ≤ 2147483647) : gok zgt 95 0 z := ⟨(.negSucc 2147483647, .ofNat 2147483647), List.mem_singleton.mpr rfl, h.1, h.2⟩
theorem g_f95_1 {st : zS} (h : gInv zgt st) : (-2147483648 : Int) ≤ st 95 1 ∧ st 95 1 ≤ 2147483647 := gof (lo := -2147483648) (hi := 2147483647) (h 95 1)
theorem p_f95_1 {z : Int} (h : (-2147483648 : Int) ≤ z ∧ z ≤ 2147483647) : gok zgt 95 1 z := ⟨(.negSucc 2147483647, .ofNat 2147483647), List.mem_singleton.mpr rfl, h.1, h.2⟩
theorem g_f95_4 {st : zS} (h : gInv zgt st) : (-2147483648 : Int) ≤ st 95 4 ∧ st 95 4 ≤ 2147483647 := gof (lo := -2147483648) (hi := 2147483647) (h 95 4)
theorem p_f95_4 {z : Int} (h : (-2147483648 : Int) ≤ z ∧ z ≤ 2147483647) : gok zgt 95 4 z := ⟨(.negSucc 2147483647, .ofNat 2147483647), List.mem_singleton.mpr rfl, h.1, h.2⟩
theorem g_a96 {st : zS} (h : gInv zgt st) (i : Nat) : (0 : Int) ≤ st 96 i ∧ st 96 i ≤ 7 := h 96 i
theorem p_a96 {i : Nat} {z : Int} (h : (0 : Int) ≤ z ∧ z ≤ 7) : gok zgt 96 i z := h
theorem g_f97_2 {st : zS} (h : gInv zgt st) : (0 : Int) ≤ st 97 2 ∧ st 97 2 ≤ 30 := gof (lo := 0) (hi := 30) (h 97 2)
theorem p_f97_2 {z : Int} (h : (0 : Int) ≤ z ∧ z ≤ 30) : gok zgt 97 2 z := ⟨(.ofNat 0, .ofNat 30), List.mem_singleton.mpr rfl, h.1, h.2⟩
theorem g_a98 {st : zS} (h : gInv zgt st) (i : Nat) : (0 : Int) ≤ st 98 i ∧ st 98 i ≤ 7 := h 98 i
theorem p_a98 {i : Nat} {z : Int} (h : (0 : Int) ≤ z ∧ z ≤ 7) : gok zgt 98 i z := h
theorem g_a99 {st : zS} (h : gInv zgt st) (i : Nat) : (-2147483648 : Int) ≤ st 99 i ∧ st 99 i ≤ 2147483647 := h 99 i
theorem p_a99 {i : Nat} {z : Int} (h : (-2147483648 : Int) ≤ z ∧ z ≤ 2147483647) : gok zgt 99 i z := h
theorem g_f100_0 {st : zS} (h : gInv zgt st) : (-2147483648 : Int) ≤ st 100 0 ∧ st 100 0 ≤ 2147483647 := gof (lo := -2147483648) (hi := 2147483647) (h 100 0)
theorem p_f100_0 {z : Int} (h : (-2147483648 : Int) ≤ z ∧ z ≤ 2147483647) : gok zgt 100 0 z := ⟨(.negSucc 2147483647, .ofNat 2147483647), List.mem_singleton.mpr rfl, h.1, h.2⟩
theorem g_f100_1 {st : zS} (h : gInv zgt st) : (-2147483648 : Int) ≤ st 100 1 ∧ st 100 1 ≤ 2147483647 := gof (lo := -2147483648) (hi := 2147483647) (h 100 1)
theorem p_f100_1 {z : Int} (h : (-2147483648 : Int) ≤ z ∧ z ≤ 2147483647) : gok zgt 100 1 z := ⟨(.negSucc 2147483647, .ofNat 2147483647), List.mem_singleton.mpr rfl, h.1, h.2⟩
theorem g_f100_4 {st : zS} (h : gInv zgt st) : (-2147483648 : Int) ≤ st 100 4 ∧ st 100 4 ≤ 2147483647 := gof (lo := -2147483648) (hi := 2147483647) (h 100 4)
theorem p_f100_4 {z : Int} (h : (-2147483648 : Int) ≤ z ∧ z ≤ 2147483647) : gok zgt 100 4 z := ⟨(.negSucc 2147483647, .ofNat 2147483647), List.mem_singleton.mpr rfl, h.1, h.2⟩
theorem g_a101 {st : zS} (h : gInv zgt st) (i : Nat) : (0 : Int) ≤ st 101 i ∧ st 101 i ≤ 7 := h 101 i
theorem p_a101 {i : Nat} {z : Int} (h : (0 : Int) ≤ z ∧ z ≤ 7) : gok zgt 101 i z := h
theorem g_f102_2 {st : zS} (h : gInv zgt st) : (0 : Int) ≤ st 102 2 ∧ st 102 2 ≤ 30 := gof (lo := 0) (hi := 30) (h 102 2)
theorem p_f102_2 {z : Int} (h : (0 : Int) ≤ z ∧ z ≤ 30) : gok zgt 102 2 z := ⟨(.ofNat 0, .ofNat 30), List.mem_singleton.mpr rfl, h.1, h.2⟩
theorem g_a103 {st : zS} (h : gInv zgt st) (i : Nat) : (0 : Int) ≤ st 103 i ∧ st 103 i ≤ 7 := h 103 i
theorem p_a103 {i : Nat} {z : Int} (h : (0 : Int) ≤ z ∧ z ≤ 7) : gok zgt 103 i z := h
theorem g_a104 {st : zS} (h : gInv zgt st) (i : Nat) : (-2147483648 : Int) ≤ st 104 i ∧ st 104 i ≤ 2147483647 := h 104 i
theorem p_a104 {i : Nat} {z : Int} (h : (-2147483648 : Int) ≤ z ∧ z ≤ 2147483647) : gok zgt 104 i z := h
theorem g_f105_0 {st : zS} (h : gInv zgt st) : (-2147483648 : Int) ≤ st 105 0 ∧ st 105 0 ≤ 2147483647 := gof (lo := -2147483648) (hi := 2147483647) (h 105 0)
theorem p_f105_0 {z : Int} (h : (-2147483648 : Int) ≤ z ∧ z ≤ 2147483647) : gok zgt 105 0 z := ⟨(.negSucc 2147483647, .ofNat 2147483647), List.mem_singleton.mpr rfl, h.1, h.2⟩
theorem g_f105_1 {st : zS} (h : gInv zgt st) : (-2147483648 : Int) ≤ st 105 1 ∧ st 105 1 ≤ 2147483647 := gof (lo := -2147483648) (hi := 2147483647) (h 105 1)
theorem p_f105_1 {z : Int} (h : (-2147483648 : Int) ≤ z ∧ z ≤ 2147483647) : gok zgt 105 1 z := ⟨(.negSucc 2147483647, .ofNat 2147483647), List.mem_singleton.mpr rfl, h.1, h.2⟩
theorem g_f105_4 {st : zS} (h : gInv zgt st) : (-2147483648 : Int) ≤ st 105 4 ∧ st 105 4 ≤ 2147483647 := gof (lo := -2147483648) (hi := 2147483647) (h 105 4)
theorem p_f105_4 {z : Int} (h : (-2147483648 : Int) ≤ z ∧ z ≤ 2147483647) : gok zgt 105 4 z := ⟨(.negSucc 2147483647, .ofNat 2147483647), List.mem_singleton.mpr rfl, h.1, h.2⟩
theorem g_a106 {st : zS} (h : gInv zgt st) (i : Nat) : (0 : Int) ≤ st 106 i ∧ st 106 i ≤ 7 := h 106 i
theorem p_a106 {i : Nat} {z : Int} (h : (0 : Int) ≤ z ∧ z ≤ 7) : gok zgt 106 i z := h
theorem g_f107_2 {st : zS} (h : gInv zgt st) : (0 : Int) ≤ st 107 2 ∧ st 107 2 ≤ 30 := gof (lo := 0) (hi := 30) (h 107 2)
theorem p_f107_2 {z : Int} (h : (0 : Int) ≤ z ∧ z ≤ 30) : gok zgt 107 2 z := ⟨(.ofNat 0, .ofNat 30), List.mem_singleton.mpr rfl, h.1, h.2⟩
theorem g_a108 {st : zS} (h : gInv zgt st) (i : Nat) : (0 : Int) ≤ st 108 i ∧ st 108 i ≤ 7 := h 108 i
theorem p_a108 {i : Nat} {z : Int} (h : (0 : Int) ≤ z ∧ z ≤ 7) : gok zgt 108 i z := h
theorem g_a109 {st : zS} (h : gInv zgt st) (i : Nat) : (-2147483648 : Int) ≤ st 109 i ∧ st 109 i ≤ 2147483647 := h 109 i
theorem p_a109 {i : Nat} {z : Int} (h : (-2147483648 : Int) ≤ z ∧ z ≤ 2147483647) : gok zgt 109 i z := h
theorem g_f110_0 {st : zS} (h : gInv zgt st) : (-2147483648 : Int) ≤ st 110 0 ∧ st 110 0 ≤ 2147483647 := gof (lo := -2147483648) (hi := 2147483647) (h 110 0)
theorem p_f110_0 {z : Int} (h : (-2147483648 : Int) ≤ z ∧ z ≤ 2147483647) : gok zgt 110 0 z := ⟨(.negSucc 2147483647, .ofNat 2147483647), List.mem_singleton.mpr rfl, h.1, h.2⟩
theorem g_f110_1 {st : zS} (h : gInv zgt st) : (-2147483648 : Int) ≤ st 110 1 ∧ st 110 1 ≤ 2147483647 := gof (lo := -2147483648) (hi := 2147483647) (h 110 1)
theorem p_f110_1 {z : Int} (h : (-2147483648 : Int) ≤ z ∧ z ≤ 2147483647) : gok zgt 110 1 z := ⟨(.negSucc 2147483647, .ofNat 2147483647), List.mem_singleton.mpr rfl, h.1, h.2⟩
theorem g_f110_4 {st : zS} (h : gInv zgt st) : (-2147483648 : Int) ≤ st 110 4 ∧ st 110 4 ≤ 2147483647 := gof (lo := -2147483648) (hi := 2147483647) (h 110 4)
theorem p_f110_4 {z : Int} (h : (-2147483648 : Int) ≤ z ∧ z ≤ 2147483647) : gok zgt 110 4 z := ⟨(.negSucc 2147483647, .ofNat 2147483647), List.mem_singleton.mpr rfl, h.1, h.2⟩
theorem g_a111 {st : zS} (h : gInv zgt st) (i : Nat) : (0 : Int) ≤ st 111 i ∧ st 111 i ≤ 7 := h 111 i
theorem p_a111 {i : Nat} {z : Int} (h : (0 : Int) ≤ z ∧ z ≤ 7) : gok zgt 111 i z := h
theorem g_f112_2 {st : zS} (h : gInv zgt st) : (0 : Int) ≤ st 112 2 ∧ st 112 2 ≤ 30 := gof (lo := 0) (hi := 30) (h 112 2)
theorem p_f112_2 {z : Int} (h : (0 : Int) ≤ z ∧ z ≤ 30) : gok zgt 112 2 z := ⟨(.ofNat 0, .ofNat 30), List.mem_singleton.mpr rfl, h.1, h.2⟩
theorem g_a113 {st : zS} (h : gInv zgt st) (i : Nat) : (0 : Int) ≤ st 113 i ∧ st 113 i ≤ 7 := h 113 i
theorem p_a113 {i : Nat} {z : Int} (h : (0 : Int) ≤ z ∧ z ≤ 7) : gok zgt 113 i z := h
theorem g_a114 {st : zS} (h : gInv zgt st) (i : Nat) : (-2147483648 : Int) ≤ st 114 i ∧ st 114 i ≤ 2147483647 := h 114 i
theorem p_a114 {i : Nat} {z : Int} (h : (-2147483648 : Int) ≤ z ∧ z ≤ 2147483647) : gok zgt 114 i z := h
theorem g_f115_5 {st : zS} (h : gInv zgt st) : (0 : Int) ≤ st 115 5 ∧ st 115 5 ≤ 20 := gof (lo := 0) (hi := 20) (h 115 5)
theorem p_f115_5 {z : Int} (h : (0 : Int) ≤ z ∧ z ≤ 20) : gok zgt 115 5 z := ⟨(.ofNat 0, .ofNat 20), List.mem_singleton.mpr rfl, h.1, h.2⟩
theorem g_f115_6 {st : zS} (h : gInv zgt st) : (-1 : Int) ≤ st 115 6 ∧ st 115 6 ≤ 19 := gof (lo := -1) (hi := 19) (h 115 6)
theorem p_f115_6 {z : Int} (h : (-1 : Int) ≤ z ∧ z ≤ 19) : gok zgt 115 6 z := ⟨(.negSucc 0, .ofNat 19), List.mem_singleton.mpr rfl, h.1, h.2⟩
theorem g_f115_7 {st : zS} (h : gInv zgt st) : (-9223372036854775808 : Int) ≤ st 115 7 ∧ st 115 7 ≤ 9223372036854775807 := gof (lo := -9223372036854775808) (hi := 9223372036854775807) (h 115 7)
theorem p_f115_7 {z : Int} (h : (-9223372036854775808 : Int) ≤ z ∧ z ≤ 9223372036854775807) : gok zgt 115 7 z := ⟨(.negSucc 9223372036854775807, .ofNat 9223372036854775807), List.mem_singleton.mpr rfl, h.1, h.2⟩
theorem g_a116 {st : zS} (h : gInv zgt st) (i : Nat) : (0 : Int) ≤ st 116 i ∧ st 116 i ≤ 19 := h 116 i
theorem p_a116 {i : Nat} {z : Int} (h : (0 : Int) ≤ z ∧ z ≤ 19) : gok zgt 116 i z := h
theorem g_a117 {st : zS} (h : gInv zgt st) (i : Nat) : (-2147483648 : Int) ≤ st 117 i ∧ st 117 i ≤ 2147483647 := h 117 i
theorem p_a117 {i : Nat} {z : Int} (h : (-2147483648 : Int) ≤ z ∧ z ≤ 2147483647) : gok zgt 117 i z := h
theorem g_a118 {st : zS} (h : gInv zgt st) (i : Nat) : (-2147483648 : Int) ≤ st 118 i ∧ st 118 i ≤ 2147483647 := h 118 i
theorem p_a118 {i : Nat} {z : Int} (h : (-2147483648 : Int) ≤ z ∧ z ≤ 2147483647) : gok zgt 118 i z := h
theorem g_a119 {st : zS} (h : gInv zgt st) (i : Nat) : (-9223372036854775808 : Int) ≤ st 119 i ∧ st 119 i ≤ 9223372036854775807 := h 119 i
theorem p_a119 {i : Nat} {z : Int} (h : (-9223372036854775808 : Int) ≤ z ∧ z ≤ 9223372036854775807) : gok zgt 119 i z := h
theorem g_a120 {st : zS} (h : gInv zgt st) (i : Nat) : (-9223372036854775808 : Int) ≤ st 120 i ∧ st 120 i ≤ 9223372036854775807 := h 120 i
theorem p_a120 {i : Nat} {z : Int} (h : (-9223372036854775808 : Int) ≤ z ∧ z ≤ 9223372036854775807) : gok zgt 120 i z := h
theorem g_f151_10 {st : zS} (h : gInv zgt st) : st 151 10 = 122 ∨ st 151 10 = 135 := by
  obtain ⟨b, hb, hz⟩ := (show ∃ b ∈ ([(Int.ofNat 122, Int.ofNat 122), (Int.ofNat 135, Int.ofNat 135)] : List aB), b.1 ≤ st 151 10 ∧ st 151 10 ≤ b.2 from h 151 10)
  rcases List.mem_cons.mp hb with rfl | hb
  · exact Or.inl (by have h1 : (122 : Int) ≤ st 151 10 := hz.1; have h2 : st 151 10 ≤ (122 : Int) := hz.2; omega)
  · rcases List.mem_singleton.mp hb with rfl
    exact Or.inr (by have h1 : (135 : Int) ≤ st 151 10 := hz.1; have h2 : st 151 10 ≤ (135 : Int) := hz.2; omega)
theorem p_f151_10 {z : Int} (h : z = 122 ∨ z = 135) : gok zgt 151 10 z := by
  rcases h with rfl | rfl
  · exact ⟨(.ofNat 122, .ofNat 122), List.mem_cons_self, by decide, by decide⟩
  · exact ⟨(.ofNat 135, .ofNat 135), List.mem_cons_of_mem _ List.mem_cons_self, by decide, by decide⟩
theorem g_f151_11 {st : zS} (h : gInv zgt st) : (-2147483648 : Int) ≤ st 151 11 ∧ st 151 11 ≤ 2147483647 := gof (lo := -2147483648) (hi := 2147483647) (h 151 11)
theorem p_f151_11 {z : Int} (h : (-2147483648 : Int) ≤ z ∧ z ≤ 2147483647) : gok zgt 151 11 z := ⟨(.negSucc 2147483647, .ofNat 2147483647), List.mem_singleton.mpr rfl, h.1, h.2⟩
theorem g_f151_12 {st : zS} (h : gInv zgt st) : (-2147483648 : Int) ≤ st 151 12 ∧ st 151 12 ≤ 2147483647 := gof (lo := -2147483648) (hi := 2147483647) (h 151 12)
theorem p_f151_12 {z : Int} (h : (-2147483648 : Int) ≤ z ∧ z ≤ 2147483647) : gok zgt 151 12 z := ⟨(.negSucc 2147483647, .ofNat 2147483647), List.mem_singleton.mpr rfl, h.1, h.2⟩
theorem g_f151_13 {st : zS} (h : gInv zgt st) : (-2147483648 : Int) ≤ st 151 13 ∧ st 151 13 ≤ 2147483647 := gof (lo := -2147483648) (hi := 2147483647) (h 151 13)
theorem p_f151_13 {z : Int} (h : (-2147483648 : Int) ≤ z ∧ z ≤ 2147483647) : gok zgt 151 13 z := ⟨(.negSucc 2147483647, .ofNat 2147483647), List.mem_singleton.mpr rfl, h.1, h.2⟩
theorem g_f151_14 {st : zS} (h : gInv zgt st) : (-2147483648 : Int) ≤ st 151 14 ∧ st 151 14 ≤ 2147483647 := gof (lo := -2147483648) (hi := 2147483647) (h 151 14)
theorem p_f151_14 {z : Int} (h : (-2147483648 : Int) ≤ z ∧ z ≤ 2147483647) : gok zgt 151 14 z := ⟨(.negSucc 2147483647, .ofNat 2147483647), List.mem_singleton.mpr rfl, h.1, h.2⟩
theorem g_f151_15 {st : zS} (h : gInv zgt st) : (-2147483648 : Int) ≤ st 151 15 ∧ st 151 15 ≤ 2147483647 := gof (lo := -2147483648) (hi := 2147483647) (h 151 15)
theorem p_f151_15 {z : Int} (h : (-2147483648 : Int) ≤ z ∧ z ≤ 2147483647) : gok zgt 151 15 z := ⟨(.negSucc 2147483647, .ofNat 2147483647), List.mem_singleton.mpr rfl, h.1, h.2⟩
theorem g_f152_2 {st : zS} (h : gInv zgt st) : (0 : Int) ≤ st 152 2 ∧ st 152 2 ≤ 30 := gof (lo := 0) (hi := 30) (h 152 2)
theorem p_f152_2 {z : Int} (h : (0 : Int) ≤ z ∧ z ≤ 30) : gok zgt 152 2 z := ⟨(.ofNat 0, .ofNat 30), List.mem_singleton.mpr rfl, h.1, h.2⟩
theorem g_a153 {st : zS} (h : gInv zgt st) (i : Nat) : (0 : Int) ≤ st 153 i ∧ st 153 i ≤ 7 := h 153 i
theorem p_a153 {i : Nat} {z : Int} (h : (0 : Int) ≤ z ∧ z ≤ 7) : gok zgt 153 i z := h
theorem g_a154 {st : zS} (h : gInv zgt st) (i : Nat) : (-2147483648 : Int) ≤ st 154 i ∧ st 154 i ≤ 2147483647 := h 154 i
theorem p_a154 {i : Nat} {z : Int} (h : (-2147483648 : Int) ≤ z ∧ z ≤ 2147483647) : gok zgt 154 i z := h
theorem g_a155 {st : zS} (h : gInv zgt st) (i : Nat) : (-2147483648 : Int) ≤ st 155 i ∧ st 155 i ≤ 2147483647 := h 155 i
theorem p_a155 {i : Nat} {z : Int} (h : (-2147483648 : Int) ≤ z ∧ z ≤ 2147483647) : gok zgt 155 i z := h
theorem g_a156 {st : zS} (h : gInv zgt st) (i : Nat) : (-2147483648 : Int) ≤ st 156 i ∧ st 156 i ≤ 2147483647 := h 156 i
theorem p_a156 {i : Nat} {z : Int} (h : (-2147483648 : Int) ≤ z ∧ z ≤ 2147483647) : gok zgt 156 i z := h
theorem g_a157 {st : zS} (h : gInv zgt st) (i : Nat) : (-2147483648 : Int) ≤ st 157 i ∧ st 157 i ≤ 2147483647 := h 157 i
theorem p_a157 {i : Nat} {z : Int} (h : (-2147483648 : Int) ≤ z ∧ z ≤ 2147483647) : gok zgt 157 i z := h
theorem g_a158 {st : zS} (h : gInv zgt st) (i : Nat) : (-2147483648 : Int) ≤ st 158 i ∧ st 158 i ≤ 2147483647 := h 158 i
theorem p_a158 {i : Nat} {z : Int} (h : (-2147483648 : Int) ≤ z ∧ z ≤ 2147483647) : gok zgt 158 i z := h
theorem g_a159 {st : zS} (h : gInv zgt st) (i : Nat) : (-2147483648 : Int) ≤ st 159 i ∧ st 159 i ≤ 2147483647 := h 159 i
theorem p_a159 {i : Nat} {z : Int} (h : (-2147483648 : Int) ≤ z ∧ z ≤ 2147483647) : gok zgt 159 i z := h
theorem g_a160 {st : zS} (h : gInv zgt st) (i : Nat) : (0 : Int) ≤ st 160 i ∧ st 160 i ≤ 7 := h 160 i
theorem p_a160 {i : Nat} {z : Int} (h : (0 : Int) ≤ z ∧ z ≤ 7) : gok zgt 160 i z := h
theorem g_f161_2 {st : zS} (h : gInv zgt st) : (0 : Int) ≤ st 161 2 ∧ st 161 2 ≤ 30 := gof (lo := 0) (hi := 30) (h 161 2)
theorem p_f161_2 {z : Int} (h : (0 : Int) ≤ z ∧ z ≤ 30) : gok zgt 161 2 z := ⟨(.ofNat 0, .ofNat 30), List.mem_singleton.mpr rfl, h.1, h.2⟩
theorem g_a162 {st : zS} (h : gInv zgt st) (i : Nat) : (0 : Int) ≤ st 162 i ∧ st 162 i ≤ 7 := h 162 i
theorem p_a162 {i : Nat} {z : Int} (h : (0 : Int) ≤ z ∧ z ≤ 7) : gok zgt 162 i z := h
theorem g_a163 {st : zS} (h : gInv zgt st) (i : Nat) : (-2147483648 : Int) ≤ st 163 i ∧ st 163 i ≤ 2147483647 := h 163 i
theorem p_a163 {i : Nat} {z : Int} (h : (-2147483648 : Int) ≤ z ∧ z ≤ 2147483647) : gok zgt 163 i z := h
theorem g_a165 {st : zS} (h : gInv zgt st) (i : Nat) : (-2147483648 : Int) ≤ st 165 i ∧ st 165 i ≤ 2147483647 := h 165 i
theorem p_a165 {i : Nat} {z : Int} (h : (-2147483648 : Int) ≤ z ∧ z ≤ 2147483647) : gok zgt 165 i z := h
theorem g_a166 {st : zS} (h : gInv zgt st) (i : Nat) : (-2147483648 : Int) ≤ st 166 i ∧ st 166 i ≤ 2147483647 := h 166 i
theorem p_a166 {i : Nat} {z : Int} (h : (-2147483648 : Int) ≤ z ∧ z ≤ 2147483647) : gok zgt 166 i z := h
theorem g_a168 {st : zS} (h : gInv zgt st) (i : Nat) : (-2147483648 : Int) ≤ st 168 i ∧ st 168 i ≤ 2147483647 := h 168 i
theorem p_a168 {i : Nat} {z : Int} (h : (-2147483648 : Int) ≤ z ∧ z ≤ 2147483647) : gok zgt 168 i z := h
theorem g_a169 {st : zS} (h : gInv zgt st) (i : Nat) : (-2147483648 : Int) ≤ st 169 i ∧ st 169 i ≤ 2147483647 := h 169 i
theorem p_a169 {i : Nat} {z : Int} (h : (-2147483648 : Int) ≤ z ∧ z ≤ 2147483647) : gok zgt 169 i z := h
def m_wRefuse : aM := ([], [121])
def rq_wRefuse (k : Int) (st : zS) : Prop := gInv zgt st ∧ (0 ≤ k ∧ k ≤ 5)
def en_wRefuse (k : Int) (st : zS) (r : Int) (s1 : zS) : Prop := gInv zgt s1 ∧ aFr m_wRefuse st s1 ∧ (r = -1) ∧ (∀ i : Nat, s1 121 i = up1 (st 121) (k : Int).toNat (zw (st 121 (k : Int).toNat + 1)) i)
def ct_wRefuse (k : Int) (st : zS) (Q : zQ) : Prop := rq_wRefuse k st ∧ (∀ (r : Int) (s1 : zS), en_wRefuse k st r s1 → Q (some (.inl r)) s1)
theorem ct_wRefuse_m {k : Int} {st : zS} {Q Q' : zQ} (hQ : ∀ r st', Q r st' → Q' r st') (h : ct_wRefuse k st Q) : ct_wRefuse k st Q' := ⟨h.1, fun x0 x1 x2 => hQ _ _ (h.2 x0 x1 x2)⟩
def k_wRefuse : zCall := fun _ as st Q => match as with
  | [.inr (.inr (.inl z_o)), .inl k] => z_o = 0 ∧ ct_wRefuse k st Q
  | _ => False
def m_wDeny : aM := ([], [121])
def rq_wDeny (k : Int) (st : zS) : Prop := gInv zgt st ∧ (0 ≤ k ∧ k ≤ 5)
def en_wDeny (k : Int) (st : zS) (r : Int) (s1 : zS) : Prop := gInv zgt s1 ∧ aFr m_wDeny st s1 ∧ (r = 0) ∧ (∀ i : Nat, s1 121 i = up1 (st 121) (k : Int).toNat (zw (st 121 (k : Int).toNat + 1)) i)
def ct_wDeny (k : Int) (st : zS) (Q : zQ) : Prop := rq_wDeny k st ∧ (∀ (r : Int) (s1 : zS), en_wDeny k st r s1 → Q (some (.inl r)) s1)
theorem ct_wDeny_m {k : Int} {st : zS} {Q Q' : zQ} (hQ : ∀ r st', Q r st' → Q' r st') (h : ct_wDeny k st Q) : ct_wDeny k st Q' := ⟨h.1, fun x0 x1 x2 => hQ _ _ (h.2 x0 x1 x2)⟩
def k_wDeny : zCall := fun _ as st Q => match as with
  | [.inr (.inr (.inl z_o)), .inl k] => z_o = 0 ∧ ct_wDeny k st Q
  | _ => False
def m_vRefuses : aM := ([], [198])
def rq_vRefuses (k : Int) (st : zS) : Prop := gInv zgt st ∧ (0 ≤ k ∧ k ≤ 5)
def en_vRefuses (k : Int) (st : zS) (r : Int) (s1 : zS) : Prop := gInv zgt s1 ∧ aFr m_vRefuses st s1 ∧ (r = -1) ∧ (∀ i : Nat, s1 198 i = up1 (st 198) (k : Int).toNat (zw (st 198 (k : Int).toNat + 1)) i)
def ct_vRefuses (k : Int) (st : zS) (Q : zQ) : Prop := rq_vRefuses k st ∧ (∀ (r : Int) (s1 : zS), en_vRefuses k st r s1 → Q (some (.inl r)) s1)
theorem ct_vRefuses_m {k : Int} {st : zS} {Q Q' : zQ} (hQ : ∀ r st', Q r st' → Q' r st') (h : ct_vRefuses k st Q) : ct_vRefuses k st Q' := ⟨h.1, fun x0 x1 x2 => hQ _ _ (h.2 x0 x1 x2)⟩
def k_vRefuses : zCall := fun _ as st Q => match as with
  | [.inr (.inr (.inl z_o)), .inl k] => z_o = 170 ∧ ct_vRefuses k st Q
  | _ => False
def rq_wAt (k : Int) (st : zS) : Prop := gInv zgt st
def en_wAt (k : Int) (st : zS) (r : Int) : Prop := ((0 ≤ k ∧ k < st 1 1 → r = st 2 (k : Int).toNat % 256) ∧ (¬ (0 ≤ k ∧ k < st 1 1) → r = -1))
def ct_wAt (k : Int) (st : zS) (Q : zQ) : Prop := rq_wAt k st ∧ (∀ (r : Int), en_wAt k st r → Q (some (.inl r)) st)
theorem ct_wAt_m {k : Int} {st : zS} {Q Q' : zQ} (hQ : ∀ r st', Q r st' → Q' r st') (h : ct_wAt k st Q) : ct_wAt k st Q' := ⟨h.1, fun x0 x1 => hQ _ _ (h.2 x0 x1)⟩
def k_wAt : zCall := fun _ as st Q => match as with
  | [.inr (.inr (.inl z_o)), .inl k] => z_o = 1 ∧ ct_wAt k st Q
  | _ => False
def en_wMin (a : Int) (b : Int) (st : zS) (r : Int) : Prop := ((a ≤ b → r = a) ∧ (b < a → r = b))
def ct_wMin (a : Int) (b : Int) (st : zS) (Q : zQ) : Prop := ∀ (r : Int), en_wMin a b st r → Q (some (.inl r)) st
theorem ct_wMin_m {a b : Int} {st : zS} {Q Q' : zQ} (hQ : ∀ r st', Q r st' → Q' r st') (h : ct_wMin a b st Q) : ct_wMin a b st Q' := fun x0 x1 => hQ _ _ (h x0 x1)
def k_wMin : zCall := fun _ as st Q => match as with
  | [.inl a, .inl b] => ct_wMin a b st Q
  | _ => False
def en_wMax (a : Int) (b : Int) (st : zS) (r : Int) : Prop := ((b ≤ a → r = a) ∧ (a < b → r = b))
def ct_wMax (a : Int) (b : Int) (st : zS) (Q : zQ) : Prop := ∀ (r : Int), en_wMax a b st r → Q (some (.inl r)) st
theorem ct_wMax_m {a b : Int} {st : zS} {Q Q' : zQ} (hQ : ∀ r st', Q r st' → Q' r st') (h : ct_wMax a b st Q) : ct_wMax a b st Q' := fun x0 x1 => hQ _ _ (h x0 x1)
def k_wMax : zCall := fun _ as st Q => match as with
  | [.inl a, .inl b] => ct_wMax a b st Q
  | _ => False
def en_wMinL (a : Int) (b : Int) (st : zS) (r : Int) : Prop := ((a ≤ b → r = a) ∧ (b < a → r = b))
def ct_wMinL (a : Int) (b : Int) (st : zS) (Q : zQ) : Prop := ∀ (r : Int), en_wMinL a b st r → Q (some (.inr (.inl r))) st
theorem ct_wMinL_m {a b : Int} {st : zS} {Q Q' : zQ} (hQ : ∀ r st', Q r st' → Q' r st') (h : ct_wMinL a b st Q) : ct_wMinL a b st Q' := fun x0 x1 => hQ _ _ (h x0 x1)
def k_wMinL : zCall := fun _ as st Q => match as with
  | [.inr (.inl a), .inr (.inl b)] => ct_wMinL a b st Q
  | _ => False
def en_wMaxL (a : Int) (b : Int) (st : zS) (r : Int) : Prop := ((b ≤ a → r = a) ∧ (a < b → r = b))
def ct_wMaxL (a : Int) (b : Int) (st : zS) (Q : zQ) : Prop := ∀ (r : Int), en_wMaxL a b st r → Q (some (.inr (.inl r))) st
theorem ct_wMaxL_m {a b : Int} {st : zS} {Q Q' : zQ} (hQ : ∀ r st', Q r st' → Q' r st') (h : ct_wMaxL a b st Q) : ct_wMaxL a b st Q' := fun x0 x1 => hQ _ _ (h x0 x1)
def k_wMaxL : zCall := fun _ as st Q => match as with
  | [.inr (.inl a), .inr (.inl b)] => ct_wMaxL a b st Q
  | _ => False
section XYA
variable {cl : Nat → zCall}
set_option maxHeartbeats 4000000 in
set_option maxRecDepth 100000 in
theorem c_wRefuse (hTb : aTb zSh rx_tb cl) {D : Nat} (hD : 1 ≤ D) {k : Int} {st : zS} {Q : zQ} (h : ct_wRefuse k st Q) : cl D 163 [.inr (.inr (.inl 0)), .inl k] st Q := by
  obtain ⟨d, rfl⟩ : ∃ d, D = d + 1 := ⟨D - 1, by omega⟩
  refine hTb d 163 (rx_m163, 2, 0, 0, 1) rfl _ _ _ (Nat.le_of_ble_eq_true rfl) (fun K hcl hsf hsl => ?_)
  have hcm : zmo (zno) (cl d) := zno_m
  obtain ⟨hR, hQ⟩ := h
  obtain ⟨hG, hk⟩ := hR
  change 0 ≤ k ∧ k ≤ 5 at hk
  refine yr1_ok (Rt := Q) (wc := (zno)) (stp := []) hcm hcl [8] 30 ?_
  show ((0 ≤ k ∧ k < 6) ∧ ((0 ≤ k ∧ k < 6) ∧ Q (some (.inl (-1))) (zup st 121 (k : Int).toNat (zw ((st 121 (k : Int).toNat) + 1)))))
  have g1 := g_crefused hG (k : Int).toNat
  refine ⟨by omega, ?_⟩
  refine ⟨by omega, ?_⟩
  exact hQ _ _ ⟨(gInv_up hG (p_crefused (zw_ok _))), (fr_a (fr_rf _ _) rfl), (show ((-1) : Int) = -1 from by omega), (show ∀ i : Nat, (zup st 121 (k : Int).toNat (zw ((st 121 (k : Int).toNat) + 1))) 121 i = up1 (st 121) (k : Int).toNat (zw (st 121 (k : Int).toNat + 1)) i from fun i => rfl)⟩
theorem k_wRefuse_m (hTb : aTb zSh rx_tb cl) {D : Nat} (hD : 1 ≤ D) : ∀ as st (Q Q' : zQ), (∀ r st', Q r st' → Q' r st') → k_wRefuse 163 as st Q → cl D 163 as st Q' := by
  intro as st Q Q' hQ h
  unfold k_wRefuse at h
  split at h
  · obtain ⟨rfl, h⟩ := h
    exact c_wRefuse hTb hD (ct_wRefuse_m hQ h)
  · exact h.elim
set_option maxHeartbeats 4000000 in
set_option maxRecDepth 100000 in
theorem c_wDeny (hTb : aTb zSh rx_tb cl) {D : Nat} (hD : 1 ≤ D) {k : Int} {st : zS} {Q : zQ} (h : ct_wDeny k st Q) : cl D 61 [.inr (.inr (.inl 0)), .inl k] st Q := by
  obtain ⟨d, rfl⟩ : ∃ d, D = d + 1 := ⟨D - 1, by omega⟩
  refine hTb d 61 (rx_m61, 2, 0, 0, 2) rfl _ _ _ (Nat.le_of_ble_eq_true rfl) (fun K hcl hsf hsl => ?_)
  have hcm : zmo (zno) (cl d) := zno_m
  obtain ⟨hR, hQ⟩ := h
  obtain ⟨hG, hk⟩ := hR
  change 0 ≤ k ∧ k ≤ 5 at hk
  refine yr1_ok (Rt := Q) (wc := (zno)) (stp := []) hcm hcl [8] 30 ?_
  show ((0 ≤ k ∧ k < 6) ∧ ((0 ≤ k ∧ k < 6) ∧ ((0 = (0 : Int) ∨ 0 = (1 : Int)) ∧ Q (some (.inl 0)) (zup st 121 (k : Int).toNat (zw ((st 121 (k : Int).toNat) + 1))))))
  have g1 := g_crefused hG (k : Int).toNat
  refine ⟨by omega, ?_⟩
  refine ⟨by omega, ?_⟩
  refine ⟨by omega, ?_⟩
  exact hQ _ _ ⟨(gInv_up hG (p_crefused (zw_ok _))), (fr_a (fr_rf _ _) rfl), (show (0 : Int) = 0 from by omega), (show ∀ i : Nat, (zup st 121 (k : Int).toNat (zw ((st 121 (k : Int).toNat) + 1))) 121 i = up1 (st 121) (k : Int).toNat (zw (st 121 (k : Int).toNat + 1)) i from fun i => rfl)⟩
theorem k_wDeny_m (hTb : aTb zSh rx_tb cl) {D : Nat} (hD : 1 ≤ D) : ∀ as st (Q Q' : zQ), (∀ r st', Q r st' → Q' r st') → k_wDeny 61 as st Q → cl D 61 as st Q' := by
  intro as st Q Q' hQ h
  unfold k_wDeny at h
  split at h
  · obtain ⟨rfl, h⟩ := h
    exact c_wDeny hTb hD (ct_wDeny_m hQ h)
  · exact h.elim
set_option maxHeartbeats 4000000 in
set_option maxRecDepth 100000 in
theorem c_vRefuses (hTb : aTb zSh rx_tb cl) {D : Nat} (hD : 1 ≤ D) {k : Int} {st : zS} {Q : zQ} (h : ct_vRefuses k st Q) : cl D 58 [.inr (.inr (.inl 170)), .inl k] st Q := by
  obtain ⟨d, rfl⟩ : ∃ d, D = d + 1 := ⟨D - 1, by omega⟩
  refine hTb d 58 (rx_m58, 2, 0, 0, 1) rfl _ _ _ (Nat.le_of_ble_eq_true rfl) (fun K hcl hsf hsl => ?_)
  have hcm : zmo (zno) (cl d) := zno_m
  obtain ⟨hR, hQ⟩ := h
  obtain ⟨hG, hk⟩ := hR
  change 0 ≤ k ∧ k ≤ 5 at hk
  refine yr1_ok (Rt := Q) (wc := (zno)) (stp := []) hcm hcl [8] 30 ?_
  show ((0 ≤ k ∧ k < 6) ∧ ((0 ≤ k ∧ k < 6) ∧ Q (some (.inl (-1))) (zup st 198 (k : Int).toNat (zw ((st 198 (k : Int).toNat) + 1)))))
  have g1 := g_refused hG (k : Int).toNat
  refine ⟨by omega, ?_⟩
  refine ⟨by omega, ?_⟩
  exact hQ _ _ ⟨(gInv_up hG (p_refused (zw_ok _))), (fr_a (fr_rf _ _) rfl), (show ((-1) : Int) = -1 from by omega), (show ∀ i : Nat, (zup st 198 (k : Int).toNat (zw ((st 198 (k : Int).toNat) + 1))) 198 i = up1 (st 198) (k : Int).toNat (zw (st 198 (k : Int).toNat + 1)) i from fun i => rfl)⟩
theorem k_vRefuses_m (hTb : aTb zSh rx_tb cl) {D : Nat} (hD : 1 ≤ D) : ∀ as st (Q Q' : zQ), (∀ r st', Q r st' → Q' r st') → k_vRefuses 58 as st Q → cl D 58 as st Q' := by
  intro as st Q Q' hQ h
  unfold k_vRefuses at h
  split at h
  · obtain ⟨rfl, h⟩ := h
    exact c_vRefuses hTb hD (ct_vRefuses_m hQ h)
  · exact h.elim
theorem c_wAt (hTb : aTb zSh rx_tb cl) {D : Nat} (hD : 1 ≤ D) {k : Int} {st : zS} {Q : zQ} (h : ct_wAt k st Q) : cl D 72 [.inr (.inr (.inl 1)), .inl k] st Q := by
  refine c_cAt hTb hD ⟨h.1, fun r e => h.2 r ⟨fun z => ?_, fun z => ?_⟩⟩
  · exact (show r = tcc (fun j : Int => st 2 j.toNat % 256) (st 1 1) k from e).trans (tcc_in z)
  · exact (show r = tcc (fun j : Int => st 2 j.toNat % 256) (st 1 1) k from e).trans (tcc_out z)
theorem k_wAt_m (hTb : aTb zSh rx_tb cl) {D : Nat} (hD : 1 ≤ D) : ∀ as st (Q Q' : zQ), (∀ r st', Q r st' → Q' r st') → k_wAt 72 as st Q → cl D 72 as st Q' := by
  intro as st Q Q' hQ h
  unfold k_wAt at h
  split at h
  · obtain ⟨rfl, h⟩ := h
    exact c_wAt hTb hD (ct_wAt_m hQ h)
  · exact h.elim
set_option maxHeartbeats 4000000 in
set_option maxRecDepth 100000 in
theorem c_wMin (hTb : aTb zSh rx_tb cl) {D : Nat} (hD : 1 ≤ D) {a b : Int} {st : zS} {Q : zQ} (h : ct_wMin a b st Q) : cl D 16 [.inl a, .inl b] st Q := by
  obtain ⟨d, rfl⟩ : ∃ d, D = d + 1 := ⟨D - 1, by omega⟩
  refine hTb d 16 (rx_m16, 2, 0, 0, 1) rfl _ _ _ (Nat.le_of_ble_eq_true rfl) (fun K hcl hsf hsl => ?_)
  have hcm : zmo (zno) (cl d) := zno_m
  have hQ := h
  refine yr1_ok (Rt := Q) (wc := (zno)) (stp := []) hcm hcl [] 27 ?_
  show ((b < a → Q (some (.inl b)) st) ∧ (¬ (b < a) → Q (some (.inl a)) st))
  refine ⟨fun h1 => ?_, fun h1 => ?_⟩
  · exact hQ _ (show (a ≤ b → b = a) ∧ (b < a → b = b) from ⟨fun z => by omega, fun z => by omega⟩)
  · exact hQ _ (show (a ≤ b → a = a) ∧ (b < a → a = b) from ⟨fun z => by omega, fun z => by omega⟩)
theorem k_wMin_m (hTb : aTb zSh rx_tb cl) {D : Nat} (hD : 1 ≤ D) : ∀ as st (Q Q' : zQ), (∀ r st', Q r st' → Q' r st') → k_wMin 16 as st Q → cl D 16 as st Q' := by
  intro as st Q Q' hQ h
  unfold k_wMin at h
  split at h
  · exact c_wMin hTb hD (ct_wMin_m hQ h)
  · exact h.elim
set_option maxHeartbeats 4000000 in
set_option maxRecDepth 100000 in
theorem c_wMax (hTb : aTb zSh rx_tb cl) {D : Nat} (hD : 1 ≤ D) {a b : Int} {st : zS} {Q : zQ} (h : ct_wMax a b st Q) : cl D 74 [.inl a, .inl b] st Q := by
  obtain ⟨d, rfl⟩ : ∃ d, D = d + 1 := ⟨D - 1, by omega⟩
  refine hTb d 74 (rx_m74, 2, 0, 0, 1) rfl _ _ _ (Nat.le_of_ble_eq_true rfl) (fun K hcl hsf hsl => ?_)
  have hcm : zmo (zno) (cl d) := zno_m
  have hQ := h
  refine yr1_ok (Rt := Q) (wc := (zno)) (stp := []) hcm hcl [] 27 ?_
  show ((a < b → Q (some (.inl b)) st) ∧ (¬ (a < b) → Q (some (.inl a)) st))
  refine ⟨fun h1 => ?_, fun h1 => ?_⟩
  · exact hQ _ (show (b ≤ a → b = a) ∧ (a < b → b = b) from ⟨fun z => by omega, fun z => by omega⟩)
  · exact hQ _ (show (b ≤ a → a = a) ∧ (a < b → a = b) from ⟨fun z => by omega, fun z => by omega⟩)
theorem k_wMax_m (hTb : aTb zSh rx_tb cl) {D : Nat} (hD : 1 ≤ D) : ∀ as st (Q Q' : zQ), (∀ r st', Q r st' → Q' r st') → k_wMax 74 as st Q → cl D 74 as st Q' := by
  intro as st Q Q' hQ h
  unfold k_wMax at h
  split at h
  · exact c_wMax hTb hD (ct_wMax_m hQ h)
  · exact h.elim
set_option maxHeartbeats 4000000 in
set_option maxRecDepth 100000 in
theorem c_wMinL (hTb : aTb zSh rx_tb cl) {D : Nat} (hD : 1 ≤ D) {a b : Int} {st : zS} {Q : zQ} (h : ct_wMinL a b st Q) : cl D 52 [.inr (.inl a), .inr (.inl b)] st Q := by
  obtain ⟨d, rfl⟩ : ∃ d, D = d + 1 := ⟨D - 1, by omega⟩
  refine hTb d 52 (rx_m52, 4, 0, 0, 5) rfl _ _ _ (Nat.le_of_ble_eq_true rfl) (fun K hcl hsf hsl => ?_)
  have hcm : zmo (zno) (cl d) := zno_m
  have hQ := h
  refine yr1_ok (Rt := Q) (wc := (zno)) (stp := []) hcm hcl [] 28 ?_
  show (∀ (w1 : Int), (a < b ∧ w1 = -1 ∨ a = b ∧ w1 = 0 ∨ b < a ∧ w1 = 1) → (((0 : Int) < w1 → Q (some (.inr (.inl b))) st) ∧ (¬ ((0 : Int) < w1) → Q (some (.inr (.inl a))) st)))
  intro w1 hw1
  refine ⟨fun h2 => ?_, fun h2 => ?_⟩
  · exact hQ _ (show (a ≤ b → b = a) ∧ (b < a → b = b) from ⟨fun z => by omega, fun z => by omega⟩)
  · exact hQ _ (show (a ≤ b → a = a) ∧ (b < a → a = b) from ⟨fun z => by omega, fun z => by omega⟩)
theorem k_wMinL_m (hTb : aTb zSh rx_tb cl) {D : Nat} (hD : 1 ≤ D) : ∀ as st (Q Q' : zQ), (∀ r st', Q r st' → Q' r st') → k_wMinL 52 as st Q → cl D 52 as st Q' := by
  intro as st Q Q' hQ h
  unfold k_wMinL at h
  split at h
  · exact c_wMinL hTb hD (ct_wMinL_m hQ h)
  · exact h.elim
set_option maxHeartbeats 4000000 in
set_option maxRecDepth 100000 in
theorem c_wMaxL (hTb : aTb zSh rx_tb cl) {D : Nat} (hD : 1 ≤ D) {a b : Int} {st : zS} {Q : zQ} (h : ct_wMaxL a b st Q) : cl D 303 [.inr (.inl a), .inr (.inl b)] st Q := by
  obtain ⟨d, rfl⟩ : ∃ d, D = d + 1 := ⟨D - 1, by omega⟩
  refine hTb d 303 (rx_m303, 4, 0, 0, 5) rfl _ _ _ (Nat.le_of_ble_eq_true rfl) (fun K hcl hsf hsl => ?_)
  have hcm : zmo (zno) (cl d) := zno_m
  have hQ := h
  refine yr1_ok (Rt := Q) (wc := (zno)) (stp := []) hcm hcl [] 28 ?_
  show (∀ (w1 : Int), (a < b ∧ w1 = -1 ∨ a = b ∧ w1 = 0 ∨ b < a ∧ w1 = 1) → ((w1 < (0 : Int) → Q (some (.inr (.inl b))) st) ∧ (¬ (w1 < (0 : Int)) → Q (some (.inr (.inl a))) st)))
  intro w1 hw1
  refine ⟨fun h2 => ?_, fun h2 => ?_⟩
  · exact hQ _ (show (b ≤ a → b = a) ∧ (a < b → b = b) from ⟨fun z => by omega, fun z => by omega⟩)
  · exact hQ _ (show (b ≤ a → a = a) ∧ (a < b → a = b) from ⟨fun z => by omega, fun z => by omega⟩)
theorem k_wMaxL_m (hTb : aTb zSh rx_tb cl) {D : Nat} (hD : 1 ≤ D) : ∀ as st (Q Q' : zQ), (∀ r st', Q r st' → Q' r st') → k_wMaxL 303 as st Q → cl D 303 as st Q' := by
  intro as st Q Q' hQ h
  unfold k_wMaxL at h
  split at h
  · exact c_wMaxL hTb hD (ct_wMaxL_m hQ h)
  · exact h.elim
end XYA
