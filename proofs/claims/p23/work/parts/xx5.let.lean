/-! printed by wip/p7/py/lt.py: letters of names -/
def LT5 (v k : Int) : Int := if k = 0 then v / 33554432 % 32 else if k = 1 then v / 1048576 % 32 else if k = 2 then v / 32768 % 32 else if k = 3 then v / 1024 % 32 else if k = 4 then v / 32 % 32 else v % 32
def RB8 (w d : Int) : Int := if d = 0 then w % 256 else if d = 1 then w / 256 % 256 else if d = 2 then w / 65536 % 256 else if d = 3 then w / 16777216 % 256 else if d = 4 then w / 4294967296 % 256 else w / 1099511627776 % 256
theorem LT5_0 (v : Int) : LT5 v 0 = v / 33554432 % 32 := by unfold LT5; rw [if_pos rfl]
theorem LT5_1 (v : Int) : LT5 v 1 = v / 1048576 % 32 := by unfold LT5; rw [if_neg (by decide), if_pos rfl]
theorem LT5_2 (v : Int) : LT5 v 2 = v / 32768 % 32 := by unfold LT5; rw [if_neg (by decide), if_neg (by decide), if_pos rfl]
theorem LT5_3 (v : Int) : LT5 v 3 = v / 1024 % 32 := by unfold LT5; rw [if_neg (by decide), if_neg (by decide), if_neg (by decide), if_pos rfl]
theorem LT5_4 (v : Int) : LT5 v 4 = v / 32 % 32 := by unfold LT5; rw [if_neg (by decide), if_neg (by decide), if_neg (by decide), if_neg (by decide), if_pos rfl]
theorem LT5_5 (v : Int) : LT5 v 5 = v % 32 := by unfold LT5; rw [if_neg (by decide), if_neg (by decide), if_neg (by decide), if_neg (by decide), if_neg (by decide)]
theorem RB8_0 (v : Int) : RB8 v 0 = v % 256 := by unfold RB8; rw [if_pos rfl]
theorem RB8_1 (v : Int) : RB8 v 1 = v / 256 % 256 := by unfold RB8; rw [if_neg (by decide), if_pos rfl]
theorem RB8_2 (v : Int) : RB8 v 2 = v / 65536 % 256 := by unfold RB8; rw [if_neg (by decide), if_neg (by decide), if_pos rfl]
theorem RB8_3 (v : Int) : RB8 v 3 = v / 16777216 % 256 := by unfold RB8; rw [if_neg (by decide), if_neg (by decide), if_neg (by decide), if_pos rfl]
theorem RB8_4 (v : Int) : RB8 v 4 = v / 4294967296 % 256 := by unfold RB8; rw [if_neg (by decide), if_neg (by decide), if_neg (by decide), if_neg (by decide), if_pos rfl]
theorem RB8_5 (v : Int) : RB8 v 5 = v / 1099511627776 % 256 := by unfold RB8; rw [if_neg (by decide), if_neg (by decide), if_neg (by decide), if_neg (by decide), if_neg (by decide)]
def RM8 (w n more : Int) : Prop := (n = 0 ∧ more = w) ∨ (n = 1 ∧ more = w / 256 ∧ 0 < w) ∨ (n = 2 ∧ more = w / 65536 ∧ 0 < w / 256) ∨ (n = 3 ∧ more = w / 16777216 ∧ 0 < w / 65536) ∨ (n = 4 ∧ more = w / 4294967296 ∧ 0 < w / 16777216) ∨ (n = 5 ∧ more = w / 1099511627776 ∧ 0 < w / 4294967296) ∨ (n = 6 ∧ more = w / 281474976710656 ∧ 0 < w / 1099511627776)
theorem l31m (a : Int) : zd (Nat.land (zi a) (zi 31)) = a % 32 := by
  have e : Nat.land (zi a) (zi 31) = zi a % 32 := Nat.and_two_pow_sub_one_eq_mod (zi a) 5
  rw [e]
  unfold zd
  rw [zblt, decide_eq_true (show zi a % 32 < 2147483648 by omega)]
  show ((zi a % 32 : Nat) : Int) = a % 32
  unfold zi
  omega
theorem l255l (a : Int) : ze (Nat.land (zl a) (zl 255)) = a % 256 := by
  have e : Nat.land (zl a) (zl 255) = zl a % 256 := Nat.and_two_pow_sub_one_eq_mod (zl a) 8
  rw [e]
  unfold ze
  rw [zblt, decide_eq_true (show zl a % 256 < 9223372036854775808 by omega)]
  show ((zl a % 256 : Nat) : Int) = a % 256
  unfold zl
  omega
theorem let5 {v k : Int} (hk : 0 ≤ k ∧ k < 6) : zd (Nat.land (zi (v / zpw (((5 : Int) * ((5 : Int) - k)) % 32).toNat)) (zi 31)) = LT5 v k := by
  rw [l31m]
  rcases (show k = 0 ∨ k = 1 ∨ k = 2 ∨ k = 3 ∨ k = 4 ∨ k = 5 by omega) with rfl | rfl | rfl | rfl | rfl | rfl
  · rw [LT5_0, show zpw (((5 : Int) * ((5 : Int) - 0)) % 32).toNat = 33554432 from by decide]
  · rw [LT5_1, show zpw (((5 : Int) * ((5 : Int) - 1)) % 32).toNat = 1048576 from by decide]
  · rw [LT5_2, show zpw (((5 : Int) * ((5 : Int) - 2)) % 32).toNat = 32768 from by decide]
  · rw [LT5_3, show zpw (((5 : Int) * ((5 : Int) - 3)) % 32).toNat = 1024 from by decide]
  · rw [LT5_4, show zpw (((5 : Int) * ((5 : Int) - 4)) % 32).toNat = 32 from by decide]
  · rw [LT5_5, show zpw (((5 : Int) * ((5 : Int) - 5)) % 32).toNat = 1 from by decide]; omega
theorem byt8 {w d : Int} (hd : 0 ≤ d ∧ d < 6) : ze (Nat.land (zl (w / zpw (((8 : Int) * d) % 64).toNat)) (zl 255)) = RB8 w d := by
  rw [l255l]
  rcases (show d = 0 ∨ d = 1 ∨ d = 2 ∨ d = 3 ∨ d = 4 ∨ d = 5 by omega) with rfl | rfl | rfl | rfl | rfl | rfl
  · rw [RB8_0, show zpw (((8 : Int) * 0) % 64).toNat = 1 from by decide]; omega
  · rw [RB8_1, show zpw (((8 : Int) * 1) % 64).toNat = 256 from by decide]
  · rw [RB8_2, show zpw (((8 : Int) * 2) % 64).toNat = 65536 from by decide]
  · rw [RB8_3, show zpw (((8 : Int) * 3) % 64).toNat = 16777216 from by decide]
  · rw [RB8_4, show zpw (((8 : Int) * 4) % 64).toNat = 4294967296 from by decide]
  · rw [RB8_5, show zpw (((8 : Int) * 5) % 64).toNat = 1099511627776 from by decide]
theorem RM8_s {w n more : Int} (h : RM8 w n more) (h0 : 0 < more) (hw : w < 281474976710656) : RM8 w (n + 1) (more / 256) := by
  unfold RM8 at h ⊢
  rcases h with ⟨rfl, rfl⟩ | ⟨rfl, rfl, _⟩ | ⟨rfl, rfl, _⟩ | ⟨rfl, rfl, _⟩ | ⟨rfl, rfl, _⟩ | ⟨rfl, rfl, _⟩ | ⟨rfl, rfl, _⟩
  · exact Or.inr (Or.inl (⟨by omega, by omega, h0⟩))
  · exact Or.inr (Or.inr (Or.inl (⟨by omega, by omega, h0⟩)))
  · exact Or.inr (Or.inr (Or.inr (Or.inl (⟨by omega, by omega, h0⟩))))
  · exact Or.inr (Or.inr (Or.inr (Or.inr (Or.inl (⟨by omega, by omega, h0⟩)))))
  · exact Or.inr (Or.inr (Or.inr (Or.inr (Or.inr (Or.inl (⟨by omega, by omega, h0⟩))))))
  · exact Or.inr (Or.inr (Or.inr (Or.inr (Or.inr (Or.inr (⟨by omega, by omega, h0⟩))))))
  · exact absurd h0 (by omega)
theorem RM8_b {w n more : Int} (h : RM8 w n more) (h0 : 0 < more) (hw : w < 281474976710656) : 0 ≤ n ∧ n < 6 := by
  unfold RM8 at h
  rcases h with h | h | h | h | h | h | h <;> omega
theorem isN6_w {w x : Int} (h : isN6 w x) : 1 ≤ w ∧ w < 281474976710656 := by
  obtain ⟨a, b, c, d, e, f, h1, h2, h3, h4, h5, h6, hx, hv⟩ := h
  rcases hv with hv | hv | hv | hv | hv | hv <;> omega
/-- how many letters there are -/
theorem RM8_e {w x n more : Int} (h : isN6 w x) (hm : RM8 w n more) (h0 : more ≤ 0) : ∃ a b c d e f : Int, (1 ≤ a ∧ a ≤ 26) ∧ (0 ≤ b ∧ b ≤ 26) ∧ (0 ≤ c ∧ c ≤ 26) ∧ (0 ≤ d ∧ d ≤ 26) ∧ (0 ≤ e ∧ e ≤ 26) ∧ (0 ≤ f ∧ f ≤ 26) ∧ x = 33554432 * a + 1048576 * b + 32768 * c + 1024 * d + 32 * e + f ∧
  ((n = 1 ∧ b = 0 ∧ c = 0 ∧ d = 0 ∧ e = 0 ∧ f = 0 ∧ w = a + 96) ∨ (n = 2 ∧ 1 ≤ b ∧ c = 0 ∧ d = 0 ∧ e = 0 ∧ f = 0 ∧ w = 256 * (a + 96) + (b + 96)) ∨ (n = 3 ∧ 1 ≤ b ∧ 1 ≤ c ∧ d = 0 ∧ e = 0 ∧ f = 0 ∧ w = 65536 * (a + 96) + 256 * (b + 96) + (c + 96)) ∨ (n = 4 ∧ 1 ≤ b ∧ 1 ≤ c ∧ 1 ≤ d ∧ e = 0 ∧ f = 0 ∧ w = 16777216 * (a + 96) + 65536 * (b + 96) + 256 * (c + 96) + (d + 96)) ∨ (n = 5 ∧ 1 ≤ b ∧ 1 ≤ c ∧ 1 ≤ d ∧ 1 ≤ e ∧ f = 0 ∧ w = 4294967296 * (a + 96) + 16777216 * (b + 96) + 65536 * (c + 96) + 256 * (d + 96) + (e + 96)) ∨ (n = 6 ∧ 1 ≤ b ∧ 1 ≤ c ∧ 1 ≤ d ∧ 1 ≤ e ∧ 1 ≤ f ∧ w = 1099511627776 * (a + 96) + 4294967296 * (b + 96) + 16777216 * (c + 96) + 65536 * (d + 96) + 256 * (e + 96) + (f + 96))) := by
  obtain ⟨a, b, c, d, e, f, h1, h2, h3, h4, h5, h6, hx, hv⟩ := h
  refine ⟨a, b, c, d, e, f, h1, h2, h3, h4, h5, h6, hx, ?_⟩
  unfold RM8 at hm
  clear hx
  rcases hv with hv | hv | hv | hv | hv | hv
  · have hn : n = 1 := by rcases hm with hm | hm | hm | hm | hm | hm | hm <;> omega
    exact Or.inl ⟨hn, hv⟩
  · have hn : n = 2 := by rcases hm with hm | hm | hm | hm | hm | hm | hm <;> omega
    exact Or.inr (Or.inl ⟨hn, hv⟩)
  · have hn : n = 3 := by rcases hm with hm | hm | hm | hm | hm | hm | hm <;> omega
    exact Or.inr (Or.inr (Or.inl ⟨hn, hv⟩))
  · have hn : n = 4 := by rcases hm with hm | hm | hm | hm | hm | hm | hm <;> omega
    exact Or.inr (Or.inr (Or.inr (Or.inl ⟨hn, hv⟩)))
  · have hn : n = 5 := by rcases hm with hm | hm | hm | hm | hm | hm | hm <;> omega
    exact Or.inr (Or.inr (Or.inr (Or.inr (Or.inl ⟨hn, hv⟩))))
  · have hn : n = 6 := by rcases hm with hm | hm | hm | hm | hm | hm | hm <;> omega
    exact Or.inr (Or.inr (Or.inr (Or.inr (Or.inr (⟨hn, hv⟩)))))
theorem l_dg1_32 {w p g : Int} (e : w = 32 * p + g) (g0 : 0 ≤ g) (g1 : g < 32) : w % 32 = g := by omega
theorem l_dg1_256 {w p g : Int} (e : w = 256 * p + g) (g0 : 0 ≤ g) (g1 : g < 256) : w % 256 = g := by omega
theorem l_dg_32_33554432 {w p g r : Int} (e : w = 33554432 * (32 * p + g) + r) (h0 : 0 ≤ r) (h1 : r < 33554432) (g0 : 0 ≤ g) (g1 : g < 32) : w / 33554432 % 32 = g := by
  have z : w / 33554432 = 32 * p + g := by
    generalize 32 * p + g = q at e ⊢
    omega
  rw [z]
  omega
theorem l_dg_32_1048576 {w p g r : Int} (e : w = 1048576 * (32 * p + g) + r) (h0 : 0 ≤ r) (h1 : r < 1048576) (g0 : 0 ≤ g) (g1 : g < 32) : w / 1048576 % 32 = g := by
  have z : w / 1048576 = 32 * p + g := by
    generalize 32 * p + g = q at e ⊢
    omega
  rw [z]
  omega
theorem l_dg_32_32768 {w p g r : Int} (e : w = 32768 * (32 * p + g) + r) (h0 : 0 ≤ r) (h1 : r < 32768) (g0 : 0 ≤ g) (g1 : g < 32) : w / 32768 % 32 = g := by
  have z : w / 32768 = 32 * p + g := by
    generalize 32 * p + g = q at e ⊢
    omega
  rw [z]
  omega
theorem l_dg_32_1024 {w p g r : Int} (e : w = 1024 * (32 * p + g) + r) (h0 : 0 ≤ r) (h1 : r < 1024) (g0 : 0 ≤ g) (g1 : g < 32) : w / 1024 % 32 = g := by
  have z : w / 1024 = 32 * p + g := by
    generalize 32 * p + g = q at e ⊢
    omega
  rw [z]
  omega
theorem l_dg_32_32 {w p g r : Int} (e : w = 32 * (32 * p + g) + r) (h0 : 0 ≤ r) (h1 : r < 32) (g0 : 0 ≤ g) (g1 : g < 32) : w / 32 % 32 = g := by
  have z : w / 32 = 32 * p + g := by
    generalize 32 * p + g = q at e ⊢
    omega
  rw [z]
  omega
theorem l_dg_256_256 {w p g r : Int} (e : w = 256 * (256 * p + g) + r) (h0 : 0 ≤ r) (h1 : r < 256) (g0 : 0 ≤ g) (g1 : g < 256) : w / 256 % 256 = g := by
  have z : w / 256 = 256 * p + g := by
    generalize 256 * p + g = q at e ⊢
    omega
  rw [z]
  omega
theorem l_dg_256_65536 {w p g r : Int} (e : w = 65536 * (256 * p + g) + r) (h0 : 0 ≤ r) (h1 : r < 65536) (g0 : 0 ≤ g) (g1 : g < 256) : w / 65536 % 256 = g := by
  have z : w / 65536 = 256 * p + g := by
    generalize 256 * p + g = q at e ⊢
    omega
  rw [z]
  omega
theorem l_dg_256_16777216 {w p g r : Int} (e : w = 16777216 * (256 * p + g) + r) (h0 : 0 ≤ r) (h1 : r < 16777216) (g0 : 0 ≤ g) (g1 : g < 256) : w / 16777216 % 256 = g := by
  have z : w / 16777216 = 256 * p + g := by
    generalize 256 * p + g = q at e ⊢
    omega
  rw [z]
  omega
theorem l_dg_256_4294967296 {w p g r : Int} (e : w = 4294967296 * (256 * p + g) + r) (h0 : 0 ≤ r) (h1 : r < 4294967296) (g0 : 0 ≤ g) (g1 : g < 256) : w / 4294967296 % 256 = g := by
  have z : w / 4294967296 = 256 * p + g := by
    generalize 256 * p + g = q at e ⊢
    omega
  rw [z]
  omega
theorem l_dg_256_1099511627776 {w p g r : Int} (e : w = 1099511627776 * (256 * p + g) + r) (h0 : 0 ≤ r) (h1 : r < 1099511627776) (g0 : 0 ≤ g) (g1 : g < 256) : w / 1099511627776 % 256 = g := by
  have z : w / 1099511627776 = 256 * p + g := by
    generalize 256 * p + g = q at e ⊢
    omega
  rw [z]
  omega
theorem LT5_dg {x a b c d e f : Int} (h1 : 1 ≤ a ∧ a ≤ 26) (h2 : 0 ≤ b ∧ b ≤ 26) (h3 : 0 ≤ c ∧ c ≤ 26) (h4 : 0 ≤ d ∧ d ≤ 26) (h5 : 0 ≤ e ∧ e ≤ 26) (h6 : 0 ≤ f ∧ f ≤ 26) (hx : x = 33554432 * a + 1048576 * b + 32768 * c + 1024 * d + 32 * e + f) : LT5 x 0 = a ∧ LT5 x 1 = b ∧ LT5 x 2 = c ∧ LT5 x 3 = d ∧ LT5 x 4 = e ∧ LT5 x 5 = f := by
  refine ⟨?_, ?_, ?_, ?_, ?_, ?_⟩
  · rw [LT5_0]; exact l_dg_32_33554432 (p := 0) (g := a) (r := (1048576 * b + 32768 * c + 1024 * d + 32 * e + f)) (by omega) (by omega) (by omega) (by omega) (by omega)
  · rw [LT5_1]; exact l_dg_32_1048576 (p := (a)) (g := b) (r := (32768 * c + 1024 * d + 32 * e + f)) (by omega) (by omega) (by omega) (by omega) (by omega)
  · rw [LT5_2]; exact l_dg_32_32768 (p := (32 * a + b)) (g := c) (r := (1024 * d + 32 * e + f)) (by omega) (by omega) (by omega) (by omega) (by omega)
  · rw [LT5_3]; exact l_dg_32_1024 (p := (1024 * a + 32 * b + c)) (g := d) (r := (32 * e + f)) (by omega) (by omega) (by omega) (by omega) (by omega)
  · rw [LT5_4]; exact l_dg_32_32 (p := (32768 * a + 1024 * b + 32 * c + d)) (g := e) (r := (f)) (by omega) (by omega) (by omega) (by omega) (by omega)
  · rw [LT5_5]; exact l_dg1_32 (p := (1048576 * a + 32768 * b + 1024 * c + 32 * d + e)) (g := f) (by omega) (by omega) (by omega)
theorem RB8_n1 {w a : Int} (h1 : 0 ≤ a ∧ a ≤ 26) (hw : w = a + 96) : RB8 w 0 = a + 96 := by
  rw [RB8_0]; exact l_dg1_256 (p := 0) (g := (a + 96)) (by omega) (by omega) (by omega)
theorem RB8_n2 {w a b : Int} (h1 : 0 ≤ a ∧ a ≤ 26) (h2 : 0 ≤ b ∧ b ≤ 26) (hw : w = 256 * (a + 96) + (b + 96)) : RB8 w 1 = a + 96 ∧ RB8 w 0 = b + 96 := by
  refine ⟨?_, ?_⟩
  · rw [RB8_1]; exact l_dg_256_256 (p := 0) (g := (a + 96)) (r := ((b + 96))) (by omega) (by omega) (by omega) (by omega) (by omega)
  · rw [RB8_0]; exact l_dg1_256 (p := ((a + 96))) (g := (b + 96)) (by omega) (by omega) (by omega)
theorem RB8_n3 {w a b c : Int} (h1 : 0 ≤ a ∧ a ≤ 26) (h2 : 0 ≤ b ∧ b ≤ 26) (h3 : 0 ≤ c ∧ c ≤ 26) (hw : w = 65536 * (a + 96) + 256 * (b + 96) + (c + 96)) : RB8 w 2 = a + 96 ∧ RB8 w 1 = b + 96 ∧ RB8 w 0 = c + 96 := by
  refine ⟨?_, ?_, ?_⟩
  · rw [RB8_2]; exact l_dg_256_65536 (p := 0) (g := (a + 96)) (r := (256 * (b + 96) + (c + 96))) (by omega) (by omega) (by omega) (by omega) (by omega)
  · rw [RB8_1]; exact l_dg_256_256 (p := ((a + 96))) (g := (b + 96)) (r := ((c + 96))) (by omega) (by omega) (by omega) (by omega) (by omega)
  · rw [RB8_0]; exact l_dg1_256 (p := (256 * (a + 96) + (b + 96))) (g := (c + 96)) (by omega) (by omega) (by omega)
theorem RB8_n4 {w a b c d : Int} (h1 : 0 ≤ a ∧ a ≤ 26) (h2 : 0 ≤ b ∧ b ≤ 26) (h3 : 0 ≤ c ∧ c ≤ 26) (h4 : 0 ≤ d ∧ d ≤ 26) (hw : w = 16777216 * (a + 96) + 65536 * (b + 96) + 256 * (c + 96) + (d + 96)) : RB8 w 3 = a + 96 ∧ RB8 w 2 = b + 96 ∧ RB8 w 1 = c + 96 ∧ RB8 w 0 = d + 96 := by
  refine ⟨?_, ?_, ?_, ?_⟩
  · rw [RB8_3]; exact l_dg_256_16777216 (p := 0) (g := (a + 96)) (r := (65536 * (b + 96) + 256 * (c + 96) + (d + 96))) (by omega) (by omega) (by omega) (by omega) (by omega)
  · rw [RB8_2]; exact l_dg_256_65536 (p := ((a + 96))) (g := (b + 96)) (r := (256 * (c + 96) + (d + 96))) (by omega) (by omega) (by omega) (by omega) (by omega)
  · rw [RB8_1]; exact l_dg_256_256 (p := (256 * (a + 96) + (b + 96))) (g := (c + 96)) (r := ((d + 96))) (by omega) (by omega) (by omega) (by omega) (by omega)
  · rw [RB8_0]; exact l_dg1_256 (p := (65536 * (a + 96) + 256 * (b + 96) + (c + 96))) (g := (d + 96)) (by omega) (by omega) (by omega)
theorem RB8_n5 {w a b c d e : Int} (h1 : 0 ≤ a ∧ a ≤ 26) (h2 : 0 ≤ b ∧ b ≤ 26) (h3 : 0 ≤ c ∧ c ≤ 26) (h4 : 0 ≤ d ∧ d ≤ 26) (h5 : 0 ≤ e ∧ e ≤ 26) (hw : w = 4294967296 * (a + 96) + 16777216 * (b + 96) + 65536 * (c + 96) + 256 * (d + 96) + (e + 96)) : RB8 w 4 = a + 96 ∧ RB8 w 3 = b + 96 ∧ RB8 w 2 = c + 96 ∧ RB8 w 1 = d + 96 ∧ RB8 w 0 = e + 96 := by
  refine ⟨?_, ?_, ?_, ?_, ?_⟩
  · rw [RB8_4]; exact l_dg_256_4294967296 (p := 0) (g := (a + 96)) (r := (16777216 * (b + 96) + 65536 * (c + 96) + 256 * (d + 96) + (e + 96))) (by omega) (by omega) (by omega) (by omega) (by omega)
  · rw [RB8_3]; exact l_dg_256_16777216 (p := ((a + 96))) (g := (b + 96)) (r := (65536 * (c + 96) + 256 * (d + 96) + (e + 96))) (by omega) (by omega) (by omega) (by omega) (by omega)
  · rw [RB8_2]; exact l_dg_256_65536 (p := (256 * (a + 96) + (b + 96))) (g := (c + 96)) (r := (256 * (d + 96) + (e + 96))) (by omega) (by omega) (by omega) (by omega) (by omega)
  · rw [RB8_1]; exact l_dg_256_256 (p := (65536 * (a + 96) + 256 * (b + 96) + (c + 96))) (g := (d + 96)) (r := ((e + 96))) (by omega) (by omega) (by omega) (by omega) (by omega)
  · rw [RB8_0]; exact l_dg1_256 (p := (16777216 * (a + 96) + 65536 * (b + 96) + 256 * (c + 96) + (d + 96))) (g := (e + 96)) (by omega) (by omega) (by omega)
theorem RB8_n6 {w a b c d e f : Int} (h1 : 0 ≤ a ∧ a ≤ 26) (h2 : 0 ≤ b ∧ b ≤ 26) (h3 : 0 ≤ c ∧ c ≤ 26) (h4 : 0 ≤ d ∧ d ≤ 26) (h5 : 0 ≤ e ∧ e ≤ 26) (h6 : 0 ≤ f ∧ f ≤ 26) (hw : w = 1099511627776 * (a + 96) + 4294967296 * (b + 96) + 16777216 * (c + 96) + 65536 * (d + 96) + 256 * (e + 96) + (f + 96)) : RB8 w 5 = a + 96 ∧ RB8 w 4 = b + 96 ∧ RB8 w 3 = c + 96 ∧ RB8 w 2 = d + 96 ∧ RB8 w 1 = e + 96 ∧ RB8 w 0 = f + 96 := by
  refine ⟨?_, ?_, ?_, ?_, ?_, ?_⟩
  · rw [RB8_5]; exact l_dg_256_1099511627776 (p := 0) (g := (a + 96)) (r := (4294967296 * (b + 96) + 16777216 * (c + 96) + 65536 * (d + 96) + 256 * (e + 96) + (f + 96))) (by omega) (by omega) (by omega) (by omega) (by omega)
  · rw [RB8_4]; exact l_dg_256_4294967296 (p := ((a + 96))) (g := (b + 96)) (r := (16777216 * (c + 96) + 65536 * (d + 96) + 256 * (e + 96) + (f + 96))) (by omega) (by omega) (by omega) (by omega) (by omega)
  · rw [RB8_3]; exact l_dg_256_16777216 (p := (256 * (a + 96) + (b + 96))) (g := (c + 96)) (r := (65536 * (d + 96) + 256 * (e + 96) + (f + 96))) (by omega) (by omega) (by omega) (by omega) (by omega)
  · rw [RB8_2]; exact l_dg_256_65536 (p := (65536 * (a + 96) + 256 * (b + 96) + (c + 96))) (g := (d + 96)) (r := (256 * (e + 96) + (f + 96))) (by omega) (by omega) (by omega) (by omega) (by omega)
  · rw [RB8_1]; exact l_dg_256_256 (p := (16777216 * (a + 96) + 65536 * (b + 96) + 256 * (c + 96) + (d + 96))) (g := (e + 96)) (r := ((f + 96))) (by omega) (by omega) (by omega) (by omega) (by omega)
  · rw [RB8_0]; exact l_dg1_256 (p := (4294967296 * (a + 96) + 16777216 * (b + 96) + 65536 * (c + 96) + 256 * (d + 96) + (e + 96))) (g := (f + 96)) (by omega) (by omega) (by omega)
theorem LT_ref {w x n more k : Int} (h : isN6 w x) (hm : RM8 w n more) (h0 : more ≤ 0) (hk : 0 ≤ k ∧ k < 6) : (n ≤ k → LT5 x k = 0) ∧ (k < n → LT5 x k = RB8 w (n - 1 - k) - 97 + 1) ∧ (k < n → 97 ≤ RB8 w (n - 1 - k) ∧ RB8 w (n - 1 - k) ≤ 122) := by
  obtain ⟨a, b, c, d, e, f, h1, h2, h3, h4, h5, h6, hx, hv⟩ := RM8_e h hm h0
  obtain ⟨q0, q1, q2, q3, q4, q5⟩ := LT5_dg h1 h2 h3 h4 h5 h6 hx
  clear hm h0 h hx
  rcases hv with ⟨rfl, hb, hc, hd, he, hf, hw⟩ | ⟨rfl, hb, hc, hd, he, hf, hw⟩ | ⟨rfl, hb, hc, hd, he, hf, hw⟩ | ⟨rfl, hb, hc, hd, he, hf, hw⟩ | ⟨rfl, hb, hc, hd, he, hf, hw⟩ | ⟨rfl, hb, hc, hd, he, hf, hw⟩
  · have y0 := RB8_n1 (by omega) hw
    clear hw
    rcases (show k = 0 ∨ k = 1 ∨ k = 2 ∨ k = 3 ∨ k = 4 ∨ k = 5 by omega) with rfl | rfl | rfl | rfl | rfl | rfl
    · rw [q0, show (1 : Int) - 1 - 0 = 0 from by decide, y0]; exact ⟨fun z => by omega, fun z => by omega, fun z => by omega⟩
    · rw [q1]; exact ⟨fun z => by omega, fun z => by omega, fun z => by omega⟩
    · rw [q2]; exact ⟨fun z => by omega, fun z => by omega, fun z => by omega⟩
    · rw [q3]; exact ⟨fun z => by omega, fun z => by omega, fun z => by omega⟩
    · rw [q4]; exact ⟨fun z => by omega, fun z => by omega, fun z => by omega⟩
    · rw [q5]; exact ⟨fun z => by omega, fun z => by omega, fun z => by omega⟩
  · obtain ⟨y0, y1⟩ := RB8_n2 (by omega) h2 hw
    clear hw
    rcases (show k = 0 ∨ k = 1 ∨ k = 2 ∨ k = 3 ∨ k = 4 ∨ k = 5 by omega) with rfl | rfl | rfl | rfl | rfl | rfl
    · rw [q0, show (2 : Int) - 1 - 0 = 1 from by decide, y0]; exact ⟨fun z => by omega, fun z => by omega, fun z => by omega⟩
    · rw [q1, show (2 : Int) - 1 - 1 = 0 from by decide, y1]; exact ⟨fun z => by omega, fun z => by omega, fun z => by omega⟩
    · rw [q2]; exact ⟨fun z => by omega, fun z => by omega, fun z => by omega⟩
    · rw [q3]; exact ⟨fun z => by omega, fun z => by omega, fun z => by omega⟩
    · rw [q4]; exact ⟨fun z => by omega, fun z => by omega, fun z => by omega⟩
    · rw [q5]; exact ⟨fun z => by omega, fun z => by omega, fun z => by omega⟩
  · obtain ⟨y0, y1, y2⟩ := RB8_n3 (by omega) h2 h3 hw
    clear hw
    rcases (show k = 0 ∨ k = 1 ∨ k = 2 ∨ k = 3 ∨ k = 4 ∨ k = 5 by omega) with rfl | rfl | rfl | rfl | rfl | rfl
    · rw [q0, show (3 : Int) - 1 - 0 = 2 from by decide, y0]; exact ⟨fun z => by omega, fun z => by omega, fun z => by omega⟩
    · rw [q1, show (3 : Int) - 1 - 1 = 1 from by decide, y1]; exact ⟨fun z => by omega, fun z => by omega, fun z => by omega⟩
    · rw [q2, show (3 : Int) - 1 - 2 = 0 from by decide, y2]; exact ⟨fun z => by omega, fun z => by omega, fun z => by omega⟩
    · rw [q3]; exact ⟨fun z => by omega, fun z => by omega, fun z => by omega⟩
    · rw [q4]; exact ⟨fun z => by omega, fun z => by omega, fun z => by omega⟩
    · rw [q5]; exact ⟨fun z => by omega, fun z => by omega, fun z => by omega⟩
  · obtain ⟨y0, y1, y2, y3⟩ := RB8_n4 (by omega) h2 h3 h4 hw
    clear hw
    rcases (show k = 0 ∨ k = 1 ∨ k = 2 ∨ k = 3 ∨ k = 4 ∨ k = 5 by omega) with rfl | rfl | rfl | rfl | rfl | rfl
    · rw [q0, show (4 : Int) - 1 - 0 = 3 from by decide, y0]; exact ⟨fun z => by omega, fun z => by omega, fun z => by omega⟩
    · rw [q1, show (4 : Int) - 1 - 1 = 2 from by decide, y1]; exact ⟨fun z => by omega, fun z => by omega, fun z => by omega⟩
    · rw [q2, show (4 : Int) - 1 - 2 = 1 from by decide, y2]; exact ⟨fun z => by omega, fun z => by omega, fun z => by omega⟩
    · rw [q3, show (4 : Int) - 1 - 3 = 0 from by decide, y3]; exact ⟨fun z => by omega, fun z => by omega, fun z => by omega⟩
    · rw [q4]; exact ⟨fun z => by omega, fun z => by omega, fun z => by omega⟩
    · rw [q5]; exact ⟨fun z => by omega, fun z => by omega, fun z => by omega⟩
  · obtain ⟨y0, y1, y2, y3, y4⟩ := RB8_n5 (by omega) h2 h3 h4 h5 hw
    clear hw
    rcases (show k = 0 ∨ k = 1 ∨ k = 2 ∨ k = 3 ∨ k = 4 ∨ k = 5 by omega) with rfl | rfl | rfl | rfl | rfl | rfl
    · rw [q0, show (5 : Int) - 1 - 0 = 4 from by decide, y0]; exact ⟨fun z => by omega, fun z => by omega, fun z => by omega⟩
    · rw [q1, show (5 : Int) - 1 - 1 = 3 from by decide, y1]; exact ⟨fun z => by omega, fun z => by omega, fun z => by omega⟩
    · rw [q2, show (5 : Int) - 1 - 2 = 2 from by decide, y2]; exact ⟨fun z => by omega, fun z => by omega, fun z => by omega⟩
    · rw [q3, show (5 : Int) - 1 - 3 = 1 from by decide, y3]; exact ⟨fun z => by omega, fun z => by omega, fun z => by omega⟩
    · rw [q4, show (5 : Int) - 1 - 4 = 0 from by decide, y4]; exact ⟨fun z => by omega, fun z => by omega, fun z => by omega⟩
    · rw [q5]; exact ⟨fun z => by omega, fun z => by omega, fun z => by omega⟩
  · obtain ⟨y0, y1, y2, y3, y4, y5⟩ := RB8_n6 (by omega) h2 h3 h4 h5 h6 hw
    clear hw
    rcases (show k = 0 ∨ k = 1 ∨ k = 2 ∨ k = 3 ∨ k = 4 ∨ k = 5 by omega) with rfl | rfl | rfl | rfl | rfl | rfl
    · rw [q0, show (6 : Int) - 1 - 0 = 5 from by decide, y0]; exact ⟨fun z => by omega, fun z => by omega, fun z => by omega⟩
    · rw [q1, show (6 : Int) - 1 - 1 = 4 from by decide, y1]; exact ⟨fun z => by omega, fun z => by omega, fun z => by omega⟩
    · rw [q2, show (6 : Int) - 1 - 2 = 3 from by decide, y2]; exact ⟨fun z => by omega, fun z => by omega, fun z => by omega⟩
    · rw [q3, show (6 : Int) - 1 - 3 = 2 from by decide, y3]; exact ⟨fun z => by omega, fun z => by omega, fun z => by omega⟩
    · rw [q4, show (6 : Int) - 1 - 4 = 1 from by decide, y4]; exact ⟨fun z => by omega, fun z => by omega, fun z => by omega⟩
    · rw [q5, show (6 : Int) - 1 - 5 = 0 from by decide, y5]; exact ⟨fun z => by omega, fun z => by omega, fun z => by omega⟩
