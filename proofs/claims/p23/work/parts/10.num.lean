/-! NUMBERS: an int by its key, the order's own number -/
def rx_b (x : Int32) : Nat := (x.toBitVec.toNat + 2147483648) % 4294967296
theorem rx_b_int (x : Int32) : (rx_b x : Int) = x.toInt + 2147483648 := by
  have h : x.toInt = x.toBitVec.toInt := rfl
  have h1 := x.toBitVec.isLt
  rw [h, BitVec.toInt_eq_toNat_cond]
  unfold rx_b
  split <;> omega
theorem rx_lt (x y : Int32) : x < y ↔ rx_b x < rx_b y := by
  rw [Int32.lt_iff_toInt_lt]
  have h1 := rx_b_int x
  have h2 := rx_b_int y
  omega
theorem rx_le (x y : Int32) : x ≤ y ↔ rx_b x ≤ rx_b y := by
  rw [Int32.le_iff_toInt_le]
  have h1 := rx_b_int x
  have h2 := rx_b_int y
  omega
theorem rx_eq (x y : Int32) : x = y ↔ rx_b x = rx_b y := by
  rw [← Int32.toInt_inj]
  have h1 := rx_b_int x
  have h2 := rx_b_int y
  omega
theorem rx_tn (n : Nat) : (nI n).toBitVec.toNat = n % 4294967296 := by
  show (BitVec.ofNat 32 n).toNat = _
  rw [BitVec.toNat_ofNat]
theorem rx_b_nI (n : Nat) : rx_b (nI n) = (n + 2147483648) % 4294967296 := by
  unfold rx_b
  rw [rx_tn]
  omega
theorem rx_b_lt (x : Int32) : rx_b x < 4294967296 := Nat.mod_lt _ (by decide)
theorem rx_nI_eq {a b : Nat} (h : a % 4294967296 = b % 4294967296) : nI a = nI b := by
  rw [rx_eq, rx_b_nI, rx_b_nI]
  omega
theorem rx_nI_mod (a : Nat) : nI (a % 4294967296) = nI a := rx_nI_eq (by omega)
theorem rx_add (a b : Nat) : nI ((a + b) % 4294967296) = nI a + nI b := by rw [rx_nI_mod, nI_add]
theorem rx_mul (a b : Nat) : nI ((a * b) % 4294967296) = nI a * nI b := by rw [rx_nI_mod, pk_mul]
theorem rx_sub (a b : Nat) : nI ((a + (4294967296 - b % 4294967296)) % 4294967296) = nI a - nI b := by
  rw [rx_nI_mod]
  have h1 : nI a = nI (a + (4294967296 - b % 4294967296)) + nI b := by
    rw [nI_add]
    exact rx_nI_eq (by omega)
  rw [h1]
  have h2 : ∀ x y : Int32, x = x + y - y := fun x y => by
    rw [Int32.sub_eq_add_neg, Int32.add_assoc, ← Int32.sub_eq_add_neg, Int32.sub_self, Int32.add_zero]
  exact h2 _ _
theorem rx_bv (n : Nat) : (nI n).toBitVec = BitVec.ofNat 32 n := rfl
theorem rx_inj {x y : Int32} (h : x.toBitVec.toNat = y.toBitVec.toNat) : x = y := Int32.toBitVec_inj.mp (BitVec.eq_of_toNat_eq h)
theorem rx_and (a b : Nat) : nI (Nat.land a b) = nI a &&& nI b := by
  refine rx_inj ?_
  show _ = ((nI a).toBitVec &&& (nI b).toBitVec).toNat
  rw [rx_tn, BitVec.toNat_and, rx_tn, rx_tn]
  exact Nat.and_mod_two_pow (a := a) (b := b) (n := 32)
theorem rx_or (a b : Nat) : nI (Nat.lor a b) = nI a ||| nI b := by
  refine rx_inj ?_
  show _ = ((nI a).toBitVec ||| (nI b).toBitVec).toNat
  rw [rx_tn, BitVec.toNat_or, rx_tn, rx_tn]
  exact Nat.or_mod_two_pow (a := a) (b := b) (n := 32)
theorem rx_xor (a b : Nat) : nI (Nat.xor a b) = nI a ^^^ nI b := by
  refine rx_inj ?_
  show _ = ((nI a).toBitVec ^^^ (nI b).toBitVec).toNat
  rw [rx_tn, BitVec.toNat_xor, rx_tn, rx_tn]
  exact Nat.xor_mod_two_pow (a := a) (b := b) (n := 32)
theorem rx_a31 (s : Nat) : nI s &&& 31 = nI (s % 32) := by
  rw [show (31 : Int32) = nI 31 from rfl, ← rx_and]
  exact congrArg nI (Nat.and_two_pow_sub_one_eq_mod s 5)
theorem rx_smod : ∀ k, k < 32 → ((nI k).toBitVec.smod 32).toNat = k := by decide +kernel
theorem rx_umod : ∀ k, k < 32 → (((nI k).toUInt32 &&& Int32.toUInt32 31).toBitVec % 32).toNat = k := by decide +kernel
theorem rx_shl (x s : Nat) : nI ((x * 2 ^ (s % 32)) % 4294967296) = nI x <<< (nI s &&& 31) := by
  have hk : s % 32 < 32 := Nat.mod_lt _ (by decide)
  rw [rx_a31]
  refine rx_inj ?_
  rw [pk_shl (nI x) (nI (s % 32)) (s % 32) (rx_smod _ hk), rx_tn, rx_tn]
  rw [Nat.mod_mod, Nat.mod_mul_mod]
theorem rx_shr {x : Nat} (s : Nat) (hx : x < 2147483648) : nI (x / 2 ^ (s % 32)) = nI x >>> (nI s &&& 31) := by
  rw [rx_a31]
  exact (pk_shrN hx (nI (s % 32)) (s % 32) (rx_smod _ (Nat.mod_lt _ (by decide)))).symm
theorem rx_ushr (x s : Nat) : nI (x % 4294967296 / 2 ^ (s % 32)) = ((nI x).toUInt32 >>> ((nI s).toUInt32 &&& Int32.toUInt32 31)).toInt32 := by
  have h0 : (nI s).toUInt32 &&& Int32.toUInt32 31 = (nI (s % 32)).toUInt32 &&& Int32.toUInt32 31 := by
    have h1 : nI s &&& 31 = nI (s % 32) &&& 31 := by rw [rx_a31, rx_a31, Nat.mod_mod]
    exact congrArg Int32.toUInt32 h1
  rw [h0, ← rx_nI_mod x]
  exact (pk_ushrN (Nat.mod_lt _ (by decide)) (nI (s % 32)) (s % 32) (rx_umod _ (Nat.mod_lt _ (by decide)))).symm
theorem rx_neg (x : Nat) : nI ((4294967296 - x % 4294967296) % 4294967296) = - nI x := by
  have h := rx_sub 0 x
  rw [Nat.zero_add] at h
  rw [h, nI_0, Int32.zero_sub]
theorem rx_i2b (x : Nat) : nI (cond (Nat.blt (x % 256) 128) (x % 256) (x % 256 + 4294967040)) = (nI x).toInt8.toInt32 := by
  have h : ∀ k, k < 256 → nI (cond (Nat.blt k 128) k (k + 4294967040)) = (nI k).toInt8.toInt32 := by decide +kernel
  rw [h _ (Nat.mod_lt _ (by decide))]
  have h8 : (nI (x % 256)).toInt8 = (nI x).toInt8 := by
    refine Int8.toBitVec_inj.mp (BitVec.eq_of_toNat_eq ?_)
    show ((nI (x % 256)).toBitVec.signExtend 8).toNat = ((nI x).toBitVec.signExtend 8).toNat
    rw [rx_bv, rx_bv, BitVec.signExtend_eq_setWidth_of_le _ (by decide), BitVec.signExtend_eq_setWidth_of_le _ (by decide), BitVec.toNat_setWidth, BitVec.toNat_setWidth, BitVec.toNat_ofNat, BitVec.toNat_ofNat]
    omega
  rw [h8]
