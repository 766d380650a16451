/-! longs -/
theorem rl_tn (n : Nat) : (lN n).toBitVec.toNat = n % 18446744073709551616 := by
  show (BitVec.ofNat 64 n).toNat = _
  rw [BitVec.toNat_ofNat]
theorem rl_inj {x y : Int64} (h : x.toBitVec.toNat = y.toBitVec.toNat) : x = y := Int64.toBitVec_inj.mp (BitVec.eq_of_toNat_eq h)
theorem rl_eq {a b : Nat} (h : a % 18446744073709551616 = b % 18446744073709551616) : lN a = lN b := rl_inj (by rw [rl_tn, rl_tn, h])
theorem rl_mod (a : Nat) : lN (a % 18446744073709551616) = lN a := rl_eq (by omega)
theorem rl_add (a b : Nat) : lN ((a + b) % 18446744073709551616) = lN a + lN b := by rw [rl_mod, lN_add]
theorem rl_mul (a b : Nat) : lN ((a * b) % 18446744073709551616) = lN a * lN b := by rw [rl_mod, lN_mul]
theorem rl_sub (a b : Nat) : lN ((a + (18446744073709551616 - b % 18446744073709551616)) % 18446744073709551616) = lN a - lN b := by
  rw [rl_mod]
  have h1 : lN a = lN (a + (18446744073709551616 - b % 18446744073709551616)) + lN b := by
    rw [lN_add]
    exact rl_eq (by omega)
  rw [h1]
  have h2 : ∀ x y : Int64, x = x + y - y := fun x y => by
    rw [Int64.sub_eq_add_neg, Int64.add_assoc, ← Int64.sub_eq_add_neg, Int64.sub_self, Int64.add_zero]
  exact h2 _ _
theorem rl_and (a b : Nat) : lN (Nat.land a b) = lN a &&& lN b := by
  refine rl_inj ?_
  show _ = ((lN a).toBitVec &&& (lN b).toBitVec).toNat
  rw [rl_tn, BitVec.toNat_and, rl_tn, rl_tn]
  exact Nat.and_mod_two_pow (a := a) (b := b) (n := 64)
theorem rl_or (a b : Nat) : lN (Nat.lor a b) = lN a ||| lN b := by
  refine rl_inj ?_
  show _ = ((lN a).toBitVec ||| (lN b).toBitVec).toNat
  rw [rl_tn, BitVec.toNat_or, rl_tn, rl_tn]
  exact Nat.or_mod_two_pow (a := a) (b := b) (n := 64)
theorem rl_div {a b : Nat} (ha : a < 9223372036854775808) (hb : b < 9223372036854775808) (h0 : 0 < b) : lN (a / b) = lN a / lN b := (pk_lDiv ha h0 hb).symm
theorem rl_rem {a b : Nat} (ha : a < 9223372036854775808) (hb : b < 9223372036854775808) (h0 : 0 < b) : lN (a % b) = lN a - lN a / lN b * lN b := (pk_lRem ha h0 hb).symm
theorem rl_ne0 {b : Nat} (hb : b < 9223372036854775808) (h0 : 0 < b) : ¬ lN b = 0 := by
  intro h
  have := (pk_lEQ (a := b) (b := 0) hb (by decide)).mp h
  omega
theorem rx_div {a b : Nat} (ha : a < 2147483648) (hb : b < 2147483648) (h0 : 0 < b) : nI (a / b) = nI a / nI b := (pk_div ha h0 hb).symm
theorem rx_rem' {a b : Nat} (ha : a < 2147483648) (hb : b < 2147483648) (h0 : 0 < b) : nI (a % b) = nI a - nI a / nI b * nI b := (pk_rem ha h0 hb).symm
def rl_b (x : Int64) : Nat := (x.toBitVec.toNat + 9223372036854775808) % 18446744073709551616
theorem rl_b_int (x : Int64) : (rl_b x : Int) = x.toInt + 9223372036854775808 := by
  have h : x.toInt = x.toBitVec.toInt := rfl
  have h1 := x.toBitVec.isLt
  rw [h, BitVec.toInt_eq_toNat_cond]
  unfold rl_b
  split <;> omega
theorem rl_lt (x y : Int64) : x < y ↔ rl_b x < rl_b y := by
  rw [Int64.lt_iff_toInt_lt]
  have h1 := rl_b_int x
  have h2 := rl_b_int y
  omega
theorem rl_eqv (x y : Int64) : x = y ↔ rl_b x = rl_b y := by
  rw [← Int64.toInt_inj]
  have h1 := rl_b_int x
  have h2 := rl_b_int y
  omega
theorem rl_b_lN (n : Nat) : rl_b (lN n) = (n + 9223372036854775808) % 18446744073709551616 := by
  unfold rl_b
  rw [rl_tn]
  omega
theorem rl_cmp (x y : Nat) : nI (cond (Nat.blt ((x + 9223372036854775808) % 18446744073709551616) ((y + 9223372036854775808) % 18446744073709551616)) 4294967295 (cond (Nat.blt ((y + 9223372036854775808) % 18446744073709551616) ((x + 9223372036854775808) % 18446744073709551616)) 1 0)) = lg_cmp (lN x) (lN y) := by
  have hb : ∀ a b : Nat, Nat.blt a b = decide (a < b) := fun a b => by
    rcases Nat.lt_or_ge a b with h | h
    · rw [decide_eq_true h]; exact Nat.ble_eq_true_of_le h
    · rw [decide_eq_false (Nat.not_lt.mpr h)]
      cases c : Nat.blt a b with
      | true => have := Nat.le_of_ble_eq_true (show Nat.ble (a + 1) b = true from c); omega
      | false => rfl
  rw [hb, hb, ← rl_b_lN, ← rl_b_lN]
  unfold lg_cmp
  simp only [gt_iff_lt, rl_lt, rl_eqv]
  generalize rl_b (lN x) = a
  generalize rl_b (lN y) = b
  rcases Nat.lt_or_ge a b with h | h
  · have h2 : ¬ b < a := by omega
    have h3 : ¬ a = b := by omega
    simp only [h, h2, h3, decide_true, cond_true, if_false]
    decide
  · rcases Nat.lt_or_ge b a with h2 | h2
    · have h3 : ¬ a < b := by omega
      simp only [h2, h3, decide_true, decide_false, cond_true, cond_false, if_true]
      decide
    · have h3 : ¬ a < b := by omega
      have h4 : ¬ b < a := by omega
      have h5 : a = b := by omega
      simp only [h3, h4, decide_false, cond_false, if_false, h5, if_true]
      simp
      decide
