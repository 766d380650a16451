/-! THE SECOND LAYER: an int is an Int within its bounds, the store a function. Numbers -/
abbrev zV : Type := Int ⊕ (Int ⊕ (Nat ⊕ Nat))
abbrev zS : Type := Nat → Nat → Int
abbrev zL : Type := List (Nat × zV)
def zw (z : Int) : Int := (z + 2147483648) % 4294967296 - 2147483648
def zx (z : Int) : Int := (z + 9223372036854775808) % 18446744073709551616 - 9223372036854775808
def zi (z : Int) : Nat := (z % 4294967296).toNat
def zl (z : Int) : Nat := (z % 18446744073709551616).toNat
def zd (n : Nat) : Int := cond (Nat.blt n 2147483648) (n : Int) ((n : Int) - 4294967296)
def ze (n : Nat) : Int := cond (Nat.blt n 9223372036854775808) (n : Int) ((n : Int) - 18446744073709551616)
def zb (z : Int) : Int := (z + 128) % 256 - 128
def zsI (z : Int) : Prop := -2147483648 ≤ z ∧ z ≤ 2147483647
def zsL (z : Int) : Prop := -9223372036854775808 ≤ z ∧ z ≤ 9223372036854775807
def zok (v : zV) : Prop := match v with
  | .inl z => zsI z
  | .inr (.inl z) => zsL z
  | .inr (.inr _) => True
def zv (v : zV) : rx_V := match v with
  | .inl z => .inl (.inl (zi z))
  | .inr (.inl z) => .inr (.inl (.inl (zl z)))
  | .inr (.inr (.inl c)) => .inr (.inr (.inl (some c)))
  | .inr (.inr (.inr j)) => .inr (.inr (.inr j))
theorem zblt (a b : Nat) : Nat.blt a b = decide (a < b) := by
  rcases Nat.lt_or_ge a b with h | h
  · rw [decide_eq_true h]; exact Nat.ble_eq_true_of_le h
  · rw [decide_eq_false (Nat.not_lt.mpr h)]
    cases c : Nat.blt a b with
    | true => have := Nat.le_of_ble_eq_true (show Nat.ble (a + 1) b = true from c); omega
    | false => rfl
theorem zble (a b : Nat) : Nat.ble a b = decide (a ≤ b) := by
  rcases Nat.lt_or_ge b a with h | h
  · rw [decide_eq_false (Nat.not_le.mpr h)]
    cases c : Nat.ble a b with
    | true => have := Nat.le_of_ble_eq_true c; omega
    | false => rfl
  · rw [decide_eq_true h]; exact Nat.ble_eq_true_of_le h
theorem zbeq (a b : Nat) : Nat.beq a b = decide (a = b) := by
  by_cases h : a = b
  · rw [decide_eq_true h, h]; exact Nat.beq_refl b
  · rw [decide_eq_false h]; exact (rx_bnf a b).mpr h
theorem zw_ok (z : Int) : zsI (zw z) := by unfold zsI zw; omega
theorem zx_ok (z : Int) : zsL (zx z) := by unfold zsL zx; omega
theorem zw_id {z : Int} (h : zsI z) : zw z = z := by unfold zsI at h; unfold zw; omega
theorem zx_id {z : Int} (h : zsL z) : zx z = z := by unfold zsL at h; unfold zx; omega
theorem zb_ok (z : Int) : -128 ≤ zb z ∧ zb z ≤ 127 := by unfold zb; omega
theorem zi_lt (z : Int) : zi z < 4294967296 := by unfold zi; omega
theorem zl_lt (z : Int) : zl z < 18446744073709551616 := by unfold zl; omega
theorem zi_zw (z : Int) : zi (zw z) = zi z := by unfold zi zw; omega
theorem zl_zx (z : Int) : zl (zx z) = zl z := by unfold zl zx; omega
theorem zi_add (x y : Int) : (zi x + zi y) % 4294967296 = zi (zw (x + y)) := by unfold zi zw; omega
theorem zi_sub (x y : Int) : (zi x + (4294967296 - zi y % 4294967296)) % 4294967296 = zi (zw (x - y)) := by unfold zi zw; omega
theorem zl_add (x y : Int) : (zl x + zl y) % 18446744073709551616 = zl (zx (x + y)) := by unfold zl zx; omega
theorem zl_sub (x y : Int) : (zl x + (18446744073709551616 - zl y % 18446744073709551616)) % 18446744073709551616 = zl (zx (x - y)) := by unfold zl zx; omega
theorem zi_mul (x y : Int) : (zi x * zi y) % 4294967296 = zi (zw (x * y)) := by
  rw [zi_zw]
  have hx : ((zi x : Nat) : Int) = x % 4294967296 := by unfold zi; omega
  have hy : ((zi y : Nat) : Int) = y % 4294967296 := by unfold zi; omega
  have hz : ((zi (x * y) : Nat) : Int) = (x * y) % 4294967296 := by unfold zi; omega
  refine Int.ofNat.inj ?_
  show (((zi x * zi y) % 4294967296 : Nat) : Int) = ((zi (x * y) : Nat) : Int)
  rw [Int.natCast_emod, Int.natCast_mul, hx, hy, hz]
  exact (Int.mul_emod x y 4294967296).symm
theorem zl_mul (x y : Int) : (zl x * zl y) % 18446744073709551616 = zl (zx (x * y)) := by
  rw [zl_zx]
  have hx : ((zl x : Nat) : Int) = x % 18446744073709551616 := by unfold zl; omega
  have hy : ((zl y : Nat) : Int) = y % 18446744073709551616 := by unfold zl; omega
  have hz : ((zl (x * y) : Nat) : Int) = (x * y) % 18446744073709551616 := by unfold zl; omega
  refine Int.ofNat.inj ?_
  show (((zl x * zl y) % 18446744073709551616 : Nat) : Int) = ((zl (x * y) : Nat) : Int)
  rw [Int.natCast_emod, Int.natCast_mul, hx, hy, hz]
  exact (Int.mul_emod x y 18446744073709551616).symm
theorem zi_zd {n : Nat} (h : n < 4294967296) : zi (zd n) = n := by
  unfold zi zd
  rw [zblt]
  by_cases c : n < 2147483648
  · rw [decide_eq_true c]; simp only [cond_true]; omega
  · rw [decide_eq_false c]; simp only [cond_false]; omega
theorem zl_ze {n : Nat} (h : n < 18446744073709551616) : zl (ze n) = n := by
  unfold zl ze
  rw [zblt]
  by_cases c : n < 9223372036854775808
  · rw [decide_eq_true c]; simp only [cond_true]; omega
  · rw [decide_eq_false c]; simp only [cond_false]; omega
theorem zd_ok {n : Nat} (h : n < 4294967296) : zsI (zd n) := by
  unfold zsI zd
  rw [zblt]
  by_cases c : n < 2147483648
  · rw [decide_eq_true c]; simp only [cond_true]; omega
  · rw [decide_eq_false c]; simp only [cond_false]; omega
theorem ze_ok {n : Nat} (h : n < 18446744073709551616) : zsL (ze n) := by
  unfold zsL ze
  rw [zblt]
  by_cases c : n < 9223372036854775808
  · rw [decide_eq_true c]; simp only [cond_true]; omega
  · rw [decide_eq_false c]; simp only [cond_false]; omega
theorem zi_nn {z : Int} (h0 : 0 ≤ z) (h1 : z ≤ 2147483647) : zi z = z.toNat := by unfold zi; omega
theorem zl_nn {z : Int} (h0 : 0 ≤ z) (h1 : z ≤ 9223372036854775807) : zl z = z.toNat := by unfold zl; omega
theorem zi_bias {z : Int} (h : zsI z) : (zi z + 2147483648) % 4294967296 = (z + 2147483648).toNat := by unfold zsI at h; unfold zi; omega
theorem zl_bias {z : Int} (h : zsL z) : (zl z + 9223372036854775808) % 18446744073709551616 = (z + 9223372036854775808).toNat := by unfold zsL at h; unfold zl; omega
theorem zi_inj {x y : Int} (hx : zsI x) (hy : zsI y) (h : zi x = zi y) : x = y := by unfold zsI at hx hy; unfold zi at h; omega
/-- the machine's int of a number, and back -/
theorem zI_toInt (z : Int) : (nI (zi z)).toInt = zw z := by
  have h1 := rx_b_int (nI (zi z))
  rw [rx_b_nI] at h1
  have h2 : (((zi z + 2147483648) % 4294967296 : Nat) : Int) = zw z + 2147483648 := by unfold zi zw; omega
  omega
theorem zL_toInt (z : Int) : (lN (zl z)).toInt = zx z := by
  have h1 := rl_b_int (lN (zl z))
  rw [rl_b_lN] at h1
  have h2 : (((zl z + 9223372036854775808) % 18446744073709551616 : Nat) : Int) = zx z + 9223372036854775808 := by unfold zl zx; omega
  omega
theorem zI_eq {x : Int32} {z : Int} (h : x.toInt = zw z) : x = nI (zi z) := Int32.toInt_inj.mp (by rw [zI_toInt]; exact h)
theorem zL_eq {x : Int64} {z : Int} (h : x.toInt = zx z) : x = lN (zl z) := Int64.toInt_inj.mp (by rw [zL_toInt]; exact h)
theorem zbm (z : Int) : z.bmod 4294967296 = zw z := by
  rw [Int.bmod_def]
  unfold zw
  split <;> omega
theorem zbx (z : Int) : z.bmod 18446744073709551616 = zx z := by
  rw [Int.bmod_def]
  unfold zx
  split <;> omega
theorem zw_sub (x y : Int) : zw (x - zw y) = zw (x - y) := by unfold zw; omega
theorem zx_sub (x y : Int) : zx (x - zx y) = zx (x - y) := by unfold zx; omega
theorem zw_mul (x y : Int) : zw (zw x * y) = zw (x * y) := by
  have h : (zw x * y) % 4294967296 = (x * y) % 4294967296 := by
    rw [Int.mul_emod, Int.mul_emod x y]
    have h1 : zw x % 4294967296 = x % 4294967296 := by unfold zw; omega
    rw [h1]
  unfold zw at h ⊢
  omega
theorem zx_mul (x y : Int) : zx (zx x * y) = zx (x * y) := by
  have h : (zx x * y) % 18446744073709551616 = (x * y) % 18446744073709551616 := by
    rw [Int.mul_emod, Int.mul_emod x y]
    have h1 : zx x % 18446744073709551616 = x % 18446744073709551616 := by unfold zx; omega
    rw [h1]
  unfold zx at h ⊢
  omega
theorem zI_div {x y : Int} (hx : zsI x) (hy : zsI y) : nI (zi x) / nI (zi y) = nI (zi (zw (Int.tdiv x y))) := by
  refine zI_eq ?_
  rw [Int32.toInt_div, zI_toInt, zI_toInt, zw_id hx, zw_id hy, zw_id (zw_ok _)]
  exact zbm _
theorem zL_div {x y : Int} (hx : zsL x) (hy : zsL y) : lN (zl x) / lN (zl y) = lN (zl (zx (Int.tdiv x y))) := by
  refine zL_eq ?_
  rw [Int64.toInt_div, zL_toInt, zL_toInt, zx_id hx, zx_id hy, zx_id (zx_ok _)]
  exact zbx _
theorem zI_rem {x y : Int} (hx : zsI x) (hy : zsI y) : nI (zi x) - nI (zi x) / nI (zi y) * nI (zi y) = nI (zi (zw (Int.tmod x y))) := by
  refine zI_eq ?_
  rw [zI_div hx hy, Int32.toInt_sub, Int32.toInt_mul, zI_toInt, zI_toInt, zI_toInt, zw_id hx, zw_id hy, zw_id (zw_ok _), zw_id (zw_ok _)]
  rw [show (2 : Nat) ^ 32 = 4294967296 from rfl, zbm, zbm, zw_sub, ← zw_sub, zw_mul, zw_sub]
  congr 1
  have := Int.tdiv_mul_add_tmod x y
  omega
theorem zL_rem {x y : Int} (hx : zsL x) (hy : zsL y) : lN (zl x) - lN (zl x) / lN (zl y) * lN (zl y) = lN (zl (zx (Int.tmod x y))) := by
  refine zL_eq ?_
  rw [zL_div hx hy, Int64.toInt_sub, Int64.toInt_mul, zL_toInt, zL_toInt, zL_toInt, zx_id hx, zx_id hy, zx_id (zx_ok _), zx_id (zx_ok _)]
  rw [show (2 : Nat) ^ 64 = 18446744073709551616 from rfl, zbx, zbx, zx_sub, ← zx_sub, zx_mul, zx_sub]
  congr 1
  have := Int.tdiv_mul_add_tmod x y
  omega
theorem zi_ne0 {y : Int} (hy : zsI y) (h : ¬ y = 0) : ¬ nI (zi y) = 0 := by
  intro q
  have h1 := zI_toInt y
  rw [q, zw_id hy] at h1
  exact h h1.symm
theorem zl_ne0 {y : Int} (hy : zsL y) (h : ¬ y = 0) : ¬ lN (zl y) = 0 := by
  intro q
  have h1 := zL_toInt y
  rw [q, zx_id hy] at h1
  exact h h1.symm
theorem zs31 (y : Int) : zi y % 32 = (y % 32).toNat := by unfold zi; omega
theorem zs63 (y : Int) : zi y % 64 = (y % 64).toNat := by unfold zi; omega
def zpw (k : Nat) : Int := ((2 ^ k : Nat) : Int)
theorem zpw_pos (k : Nat) : 0 < zpw k := by
  have : 0 < 2 ^ k := Nat.pow_pos (by decide)
  unfold zpw
  omega
theorem zdiv_rng {x d a b : Int} (hd : 0 < d) (ha : a ≤ 0) (hb : 0 ≤ b) (h1 : a ≤ x) (h2 : x ≤ b) : a ≤ x / d ∧ x / d ≤ b := by
  constructor
  · refine (Int.le_ediv_iff_mul_le hd).mpr ?_
    have h3 : a * d ≤ a * 1 := Int.mul_le_mul_of_nonpos_left ha (by omega)
    omega
  · refine Int.le_of_lt_add_one ((Int.ediv_lt_iff_lt_mul hd).mpr ?_)
    have h3 : (b + 1) * 1 ≤ (b + 1) * d := Int.mul_le_mul_of_nonneg_left (by omega) (by omega)
    omega
theorem zI_shr {x : Int} (hx : zsI x) (y : Int) : nI (zi x) >>> (nI (zi y) &&& 31) = nI (zi (x / zpw (y % 32).toNat)) := by
  rw [rx_a31]
  have hk : zi y % 32 < 32 := Nat.mod_lt _ (by decide)
  have h0 : zsI (x / zpw (y % 32).toNat) := zdiv_rng (zpw_pos _) (by decide) (by decide) hx.1 hx.2
  refine zI_eq ?_
  rw [zw_id h0]
  show (BitVec.sshiftRight' (nI (zi x)).toBitVec ((nI (zi y % 32)).toBitVec.smod 32)).toInt = _
  rw [BitVec.toInt_sshiftRight', rx_smod _ hk, Int.shiftRight_eq_div_pow, zs31]
  have h1 : (nI (zi x)).toBitVec.toInt = x := by
    have := zI_toInt x
    rw [zw_id hx] at this
    exact this
  rw [h1]
  rfl
theorem zl_smod : ∀ k, k < 64 → ((lN k).toBitVec.smod 64).toNat = k := by decide +kernel
theorem zl_a63 (y : Int) : (nI (zi y)).toInt64 &&& 63 = lN (zi y % 64) := by
  refine rl_inj ?_
  show ((nI (zi y)).toInt64.toBitVec &&& (63 : Int64).toBitVec).toNat = _
  rw [BitVec.toNat_and, rl_tn]
  have h1 : (63 : Int64).toBitVec.toNat = 2 ^ 6 - 1 := by decide
  rw [h1, Nat.and_two_pow_sub_one_eq_mod]
  have h2 : ((nI (zi y)).toInt64.toBitVec.toNat : Int) = (zw y) % 18446744073709551616 := by
    have h3 : (nI (zi y)).toInt64.toInt = zw y := by rw [Int32.toInt_toInt64]; exact zI_toInt y
    have h4 := rl_b_int ((nI (zi y)).toInt64)
    rw [h3] at h4
    unfold rl_b at h4
    have h5 := (nI (zi y)).toInt64.toBitVec.isLt
    have h6 := zw_ok y
    unfold zsI at h6
    omega
  have h7 : zi y % 64 < 64 := Nat.mod_lt _ (by decide)
  have h8 : ((nI (zi y)).toInt64.toBitVec.toNat) % 64 = zi y % 64 := by
    unfold zi zw at *
    omega
  show _ % 64 = _
  rw [h8]
  omega
theorem zL_shr {x : Int} (hx : zsL x) (y : Int) : lN (zl x) >>> ((nI (zi y)).toInt64 &&& 63) = lN (zl (x / zpw (y % 64).toNat)) := by
  rw [zl_a63]
  have hk : zi y % 64 < 64 := Nat.mod_lt _ (by decide)
  have h0 : zsL (x / zpw (y % 64).toNat) := zdiv_rng (zpw_pos _) (by decide) (by decide) hx.1 hx.2
  refine zL_eq ?_
  rw [zx_id h0]
  show (BitVec.sshiftRight' (lN (zl x)).toBitVec ((lN (zi y % 64)).toBitVec.smod 64)).toInt = _
  rw [BitVec.toInt_sshiftRight', zl_smod _ hk, Int.shiftRight_eq_div_pow, zs63]
  have h1 : (lN (zl x)).toBitVec.toInt = x := by
    have := zL_toInt x
    rw [zx_id hx] at this
    exact this
  rw [h1]
  rfl
theorem zL_shl (x y : Int) : lN (zl x) <<< ((nI (zi y)).toInt64 &&& 63) = lN (zl (ze ((zl x * 2 ^ (zi y % 64)) % 18446744073709551616))) := by
  rw [zl_a63, zl_ze (Nat.mod_lt _ (by decide)), rl_mod]
  have hk : zi y % 64 < 64 := Nat.mod_lt _ (by decide)
  refine rl_inj ?_
  show ((lN (zl x)).toBitVec <<< ((lN (zi y % 64)).toBitVec.smod 64)).toNat = _
  rw [BitVec.shiftLeft_eq', BitVec.toNat_shiftLeft, zl_smod _ hk, rl_tn, rl_tn, Nat.shiftLeft_eq, Nat.mod_mul_mod]
theorem zI_l {x : Int} (hx : zsI x) : (nI (zi x)).toInt64 = lN (zl x) := by
  refine zL_eq ?_
  rw [Int32.toInt_toInt64, zI_toInt, zw_id hx, zx_id]
  unfold zsI at hx
  unfold zsL
  omega
