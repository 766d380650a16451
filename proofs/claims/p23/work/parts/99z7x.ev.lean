/-! sums worked out: what waits, of which kind, and its value -/
def xlm (v : Int) : Int := if 1000000 < v then 1000000 else if v < -1000000 then -1000000 else v
def xtw (s a b : Int) : Int := if s = 31 then xlm (a + b) else if s = 32 then xlm (a - b) else if s = 33 then xlm (a * b) else if s = 34 then (if b = 0 then 0 else xlm (Int.fdiv a b)) else if s = 35 then (if b = 0 then 0 else xlm (Int.fmod a b)) else if s = 36 then (if a < b then a else b) else if s = 37 then (if b < a then a else b) else if s = 38 then (if a < b then 1 else 0) else if s = 39 then (if b < a then 1 else 0) else if s = 40 then (if a = b then 1 else 0) else if s = 41 then (if a = 1 ∧ b = 1 then 1 else 0) else (if a = 1 ∨ b = 1 then 1 else 0)
theorem xlm_b (v : Int) : -1000000 ≤ xlm v ∧ xlm v ≤ 1000000 := by
  unfold xlm
  split
  · omega
  · split <;> omega
theorem xtw_31 (a b : Int) : xtw 31 a b = xlm (a + b) := by unfold xtw; rw [if_pos rfl]
theorem xtw_32 (a b : Int) : xtw 32 a b = xlm (a - b) := by unfold xtw; rw [if_neg (by decide), if_pos rfl]
theorem xtw_33 (a b : Int) : xtw 33 a b = xlm (a * b) := by unfold xtw; rw [if_neg (by decide), if_neg (by decide), if_pos rfl]
theorem xtw_34 (a b : Int) : xtw 34 a b = if b = 0 then 0 else xlm (Int.fdiv a b) := by unfold xtw; rw [if_neg (by decide), if_neg (by decide), if_neg (by decide), if_pos rfl]
theorem xtw_35 (a b : Int) : xtw 35 a b = if b = 0 then 0 else xlm (Int.fmod a b) := by unfold xtw; rw [if_neg (by decide), if_neg (by decide), if_neg (by decide), if_neg (by decide), if_pos rfl]
theorem xtw_36 (a b : Int) : xtw 36 a b = if a < b then a else b := by unfold xtw; rw [if_neg (by decide), if_neg (by decide), if_neg (by decide), if_neg (by decide), if_neg (by decide), if_pos rfl]
theorem xtw_37 (a b : Int) : xtw 37 a b = if b < a then a else b := by unfold xtw; rw [if_neg (by decide), if_neg (by decide), if_neg (by decide), if_neg (by decide), if_neg (by decide), if_neg (by decide), if_pos rfl]
theorem xtw_38 (a b : Int) : xtw 38 a b = if a < b then 1 else 0 := by unfold xtw; rw [if_neg (by decide), if_neg (by decide), if_neg (by decide), if_neg (by decide), if_neg (by decide), if_neg (by decide), if_neg (by decide), if_pos rfl]
theorem xtw_39 (a b : Int) : xtw 39 a b = if b < a then 1 else 0 := by unfold xtw; rw [if_neg (by decide), if_neg (by decide), if_neg (by decide), if_neg (by decide), if_neg (by decide), if_neg (by decide), if_neg (by decide), if_neg (by decide), if_pos rfl]
theorem xtw_40 (a b : Int) : xtw 40 a b = if a = b then 1 else 0 := by unfold xtw; rw [if_neg (by decide), if_neg (by decide), if_neg (by decide), if_neg (by decide), if_neg (by decide), if_neg (by decide), if_neg (by decide), if_neg (by decide), if_neg (by decide), if_pos rfl]
theorem xtw_41 (a b : Int) : xtw 41 a b = if a = 1 ∧ b = 1 then 1 else 0 := by unfold xtw; rw [if_neg (by decide), if_neg (by decide), if_neg (by decide), if_neg (by decide), if_neg (by decide), if_neg (by decide), if_neg (by decide), if_neg (by decide), if_neg (by decide), if_neg (by decide), if_pos rfl]
theorem xtw_42 (a b : Int) : xtw 42 a b = if a = 1 ∨ b = 1 then 1 else 0 := by unfold xtw; rw [if_neg (by decide), if_neg (by decide), if_neg (by decide), if_neg (by decide), if_neg (by decide), if_neg (by decide), if_neg (by decide), if_neg (by decide), if_neg (by decide), if_neg (by decide), if_neg (by decide)]
/-- bounds and kinds of what joins gives -/
theorem xtw_b {s a b : Int} (hs : 31 ≤ s ∧ s ≤ 42) (ha : -1000000 ≤ a ∧ a ≤ 1000000) (hb : -1000000 ≤ b ∧ b ≤ 1000000) : (-1000000 ≤ xtw s a b ∧ xtw s a b ≤ 1000000) ∧ (38 ≤ s → xtw s a b = 0 ∨ xtw s a b = 1) := by
  rcases (show s = 31 ∨ s = 32 ∨ s = 33 ∨ s = 34 ∨ s = 35 ∨ s = 36 ∨ s = 37 ∨ s = 38 ∨ s = 39 ∨ s = 40 ∨ s = 41 ∨ s = 42 by omega) with rfl | rfl | rfl | rfl | rfl | rfl | rfl | rfl | rfl | rfl | rfl | rfl
  · rw [xtw_31]; exact ⟨xlm_b _, fun z => absurd z (by decide)⟩
  · rw [xtw_32]; exact ⟨xlm_b _, fun z => absurd z (by decide)⟩
  · rw [xtw_33]; exact ⟨xlm_b _, fun z => absurd z (by decide)⟩
  · rw [xtw_34]
    refine ⟨?_, fun z => absurd z (by decide)⟩
    split
    · omega
    · exact xlm_b _
  · rw [xtw_35]
    refine ⟨?_, fun z => absurd z (by decide)⟩
    split
    · omega
    · exact xlm_b _
  · rw [xtw_36]
    refine ⟨?_, fun z => absurd z (by decide)⟩
    split <;> omega
  · rw [xtw_37]
    refine ⟨?_, fun z => absurd z (by decide)⟩
    split <;> omega
  · rw [xtw_38]
    split <;> omega
  · rw [xtw_39]
    split <;> omega
  · rw [xtw_40]
    split <;> omega
  · rw [xtw_41]
    split <;> omega
  · rw [xtw_42]
    split <;> omega
/-- the greatest whole number not above, by what the machine's division gives -/
theorem xfd_n {a b : Int} (h : (a < 0 ∧ 0 < b) ∨ (0 ≤ a ∧ b < 0)) (hm : ¬ Int.tmod a b = 0) : Int.fdiv a b = Int.tdiv a b - 1 := by
  have hd : ¬ b ∣ a := fun z => hm (Int.tmod_eq_zero_of_dvd z)
  rw [Int.fdiv_eq_tdiv, if_neg hd]
  rcases h with ⟨h1, h2⟩ | ⟨h1, h2⟩
  · rw [if_neg (by omega), if_pos (by omega), Int.sign_eq_one_of_pos h2]
  · rw [if_pos h1, if_neg (by omega)]
theorem xfd_s {a b : Int} (hb : ¬ b = 0) (h : ¬ ((a < 0 ∧ 0 < b) ∨ (0 ≤ a ∧ b < 0)) ∨ Int.tmod a b = 0) : Int.fdiv a b = Int.tdiv a b := by
  by_cases hm : Int.tmod a b = 0
  · rw [Int.fdiv_eq_tdiv, if_pos (Int.dvd_of_tmod_eq_zero hm), Int.sub_zero]
  · have hd : ¬ b ∣ a := fun z => hm (Int.tmod_eq_zero_of_dvd z)
    have h : ¬ ((a < 0 ∧ 0 < b) ∨ (0 ≤ a ∧ b < 0)) := by
      rcases h with h | h
      · exact h
      · exact absurd h hm
    rw [Int.fdiv_eq_tdiv, if_neg hd]
    by_cases h1 : 0 ≤ a
    · rw [if_pos h1, if_pos (by omega), Int.sub_zero]
    · rw [if_neg h1, if_neg (by omega), Int.sign_eq_neg_one_of_neg (by omega)]
      omega
theorem xfm_n {a b : Int} (h : (a < 0 ∧ 0 < b) ∨ (0 ≤ a ∧ b < 0)) (hm : ¬ Int.tmod a b = 0) : Int.fmod a b = Int.tmod a b + b := by
  rw [Int.fmod_def, xfd_n h hm, Int.mul_sub, Int.mul_one, Int.tmod_def]
  omega
theorem xfm_s {a b : Int} (hb : ¬ b = 0) (h : ¬ ((a < 0 ∧ 0 < b) ∨ (0 ≤ a ∧ b < 0)) ∨ Int.tmod a b = 0) : Int.fmod a b = Int.tmod a b := by
  rw [Int.fmod_def, xfd_s hb h, Int.tmod_def]
theorem xtd_b {a b m : Int} (h : -m ≤ a ∧ a ≤ m) : -m ≤ Int.tdiv a b ∧ Int.tdiv a b ≤ m := by
  have z := Int.natAbs_tdiv_le_natAbs a b
  omega
theorem xtm_b {a b m : Int} (h : -m ≤ a ∧ a ≤ m) : -m ≤ Int.tmod a b ∧ Int.tmod a b ≤ m := by
  have z : (Int.tmod a b).natAbs ≤ a.natAbs := by
    rw [Int.natAbs_tmod]
    exact Nat.mod_le _ _
  omega
theorem xbt {n : Nat} (h : n < 4294967296) : Nat.testBit n 31 = decide (2147483648 ≤ n) := by
  rw [Nat.testBit_eq_decide_div_mod_eq]
  refine decide_eq_decide.mpr ?_
  show n / 2147483648 % 2 = 1 ↔ 2147483648 ≤ n
  omega
theorem xxor_neg {x y : Int} (hx : -2147483648 ≤ x ∧ x ≤ 2147483647) (hy : -2147483648 ≤ y ∧ y ≤ 2147483647) : zd (Nat.xor (zi x) (zi y)) < 0 ↔ ¬ (x < 0 ↔ y < 0) := by
  have h1 := xbt (zi_lt x)
  have h2 := xbt (zi_lt y)
  have h3 := xbt (Nat.xor_lt_two_pow (n := 32) (zi_lt x) (zi_lt y))
  have h4 : Nat.testBit (Nat.xor (zi x) (zi y)) 31 = (Nat.testBit (zi x) 31 ^^ Nat.testBit (zi y) 31) := Nat.testBit_xor _ _ _
  have h5 : Nat.xor (zi x) (zi y) < 4294967296 := Nat.xor_lt_two_pow (n := 32) (zi_lt x) (zi_lt y)
  have e : zd (Nat.xor (zi x) (zi y)) < 0 ↔ 2147483648 ≤ Nat.xor (zi x) (zi y) := by
    unfold zd
    rw [zblt]
    by_cases q : Nat.xor (zi x) (zi y) < 2147483648
    · rw [decide_eq_true q, cond_true]; omega
    · rw [decide_eq_false q, cond_false]; omega
  rw [e]
  have ex : 2147483648 ≤ zi x ↔ x < 0 := by unfold zi; omega
  have ey : 2147483648 ≤ zi y ↔ y < 0 := by unfold zi; omega
  have h6 : decide (2147483648 ≤ Nat.xor (zi x) (zi y)) = (decide (2147483648 ≤ zi x) ^^ decide (2147483648 ≤ zi y)) := by
    rw [← h1, ← h2, ← h4]
    exact h3.symm
  by_cases a1 : x < 0
  · by_cases a2 : y < 0
    · rw [decide_eq_true (ex.mpr a1), decide_eq_true (ey.mpr a2)] at h6
      have h7 : ¬ 2147483648 ≤ Nat.xor (zi x) (zi y) := of_decide_eq_false h6
      omega
    · rw [decide_eq_true (ex.mpr a1), decide_eq_false (fun z => a2 (ey.mp z))] at h6
      have h7 : 2147483648 ≤ Nat.xor (zi x) (zi y) := of_decide_eq_true h6
      omega
  · by_cases a2 : y < 0
    · rw [decide_eq_false (fun z => a1 (ex.mp z)), decide_eq_true (ey.mpr a2)] at h6
      have h7 : 2147483648 ≤ Nat.xor (zi x) (zi y) := of_decide_eq_true h6
      omega
    · rw [decide_eq_false (fun z => a1 (ex.mp z)), decide_eq_false (fun z => a2 (ey.mp z))] at h6
      have h7 : ¬ 2147483648 ≤ Nat.xor (zi x) (zi y) := of_decide_eq_false h6
      omega
theorem zand_b {x y : Int} (hx : x = 0 ∨ x = 1) (hy : y = 0 ∨ y = 1) : zd (Nat.land (zi x) (zi y)) = if x = 1 ∧ y = 1 then 1 else 0 := by
  rcases hx with rfl | rfl <;> rcases hy with rfl | rfl <;> decide
theorem zor_b {x y : Int} (hx : x = 0 ∨ x = 1) (hy : y = 0 ∨ y = 1) : zd (Nat.lor (zi x) (zi y)) = if x = 1 ∨ y = 1 then 1 else 0 := by
  rcases hx with rfl | rfl <;> rcases hy with rfl | rfl <;> decide
theorem zandl_b {x y : Int} (hx : x = 0 ∨ x = 1) (hy : y = 0 ∨ y = 1) : ze (Nat.land (zl x) (zl y)) = if x = 1 ∧ y = 1 then 1 else 0 := by
  rcases hx with rfl | rfl <;> rcases hy with rfl | rfl <;> decide
theorem zorl_b {x y : Int} (hx : x = 0 ∨ x = 1) (hy : y = 0 ∨ y = 1) : ze (Nat.lor (zl x) (zl y)) = if x = 1 ∨ y = 1 then 1 else 0 := by
  rcases hx with rfl | rfl <;> rcases hy with rfl | rfl <;> decide
/-- products of what is bounded -/
theorem xmul_b {a b : Int} (ha : -1000000 ≤ a ∧ a ≤ 1000000) (hb : -1000000 ≤ b ∧ b ≤ 1000000) : -1000000000000 ≤ a * b ∧ a * b ≤ 1000000000000 := by
  have h : (a * b).natAbs ≤ 1000000 * 1000000 := by
    rw [Int.natAbs_mul]
    exact Nat.mul_le_mul (by omega) (by omega)
  omega
/-! the kinds: true, a test's; false, a sum's -/
def xfg (cv : Prop) (c : Int) : Prop := c = 1 ∨ c = 2 ∨ (¬ cv ∧ 3 ≤ c ∧ c ≤ 6) ∨ (cv ∧ 7 ≤ c ∧ c ≤ 9)
def xT1 (cv : Prop) (c : Int) (a m : List Bool) : Prop := (c % 64 = 0 ∧ (0 ≤ c / 64 ∧ c / 64 ≤ 9999) ∧ a.length < 64 ∧ m = false :: a) ∨ (xfg cv c ∧ a.length < 64 ∧ m = false :: a) ∨ (c = 30 ∧ a.length < 64 ∧ m = true :: a) ∨ ((31 ≤ c ∧ c ≤ 37) ∧ ∃ t, a = false :: false :: t ∧ m = false :: t) ∨ ((38 ≤ c ∧ c ≤ 40) ∧ ∃ t, a = false :: false :: t ∧ m = true :: t) ∨ ((c = 41 ∨ c = 42) ∧ ∃ t, a = true :: true :: t ∧ m = true :: t) ∨ (c = 43 ∧ ∃ t, a = true :: t ∧ m = true :: t) ∨ (c = 44 ∧ ∃ t, a = false :: false :: true :: t ∧ m = false :: t)
def xTY (cv : Prop) : List Int → List Bool → List Bool → Prop
  | [], a, b => a = b
  | c :: l, a, b => ∃ m, xT1 cv c a m ∧ xTY cv l m b
theorem xTY_app {cv : Prop} {l2 : List Int} {m b : List Bool} (k : xTY cv l2 m b) : ∀ {l1 : List Int} {a : List Bool}, xTY cv l1 a m → xTY cv (l1 ++ l2) a b := by
  intro l1
  induction l1 with
  | nil =>
    intro a h
    have h : a = m := h
    rw [h]
    exact k
  | cons c l ih =>
    intro a h
    obtain ⟨m', h1, h2⟩ := h
    exact ⟨m', h1, ih h2⟩
theorem xTY_cons {cv : Prop} {c : Int} {l : List Int} {a m b : List Bool} (h : xT1 cv c a m) (k : xTY cv l m b) : xTY cv (c :: l) a b := ⟨m, h, k⟩
theorem xTY_1 {cv : Prop} {c : Int} {a m : List Bool} (h : xT1 cv c a m) : xTY cv [c] a m := ⟨m, h, rfl⟩
def xbd : Nat → Int
  | 0 => 38
  | 1 => 38
  | 2 => 37
  | 3 => 37
  | 4 => 36
  | 5 => 41
  | 6 => 41
  | 7 => 40
  | 8 => 40
  | _ => 39
def xin (n : Nat) (a : List Bool) : List Bool := match n with
  | 1 => false :: a
  | 3 => false :: a
  | 6 => true :: a
  | 8 => true :: a
  | _ => a
def xou (n : Nat) (a : List Bool) : List Bool := match n with
  | 0 => false :: a
  | 1 => false :: a
  | 2 => false :: a
  | 3 => false :: a
  | 4 => false :: a
  | _ => true :: a
def xR (cv : Prop) (tag : Nat) (o _p _q : Int) (c : List Int) : Prop := 0 ≤ o → o ≤ 7 → ∀ a : List Bool, (a.length : Int) + xbd tag - 5 * o ≤ 64 → xTY cv c (xin tag a) (xou tag a)
theorem sop_a {v : Int} (h : v = 43 ∨ v = 45 ∨ v = 42 ∨ v = 47 ∨ v = 37) : 31 ≤ sop v ∧ sop v ≤ 37 := by
  rcases h with rfl | rfl | rfl | rfl | rfl <;> decide
theorem sop_c {v : Int} (h : v = 60 ∨ v = 61 ∨ v = 62) : 38 ≤ sop v ∧ sop v ≤ 40 := by
  rcases h with rfl | rfl | rfl <;> decide
theorem figS_x {cv : Prop} {v : Int} (h : figOk cv v) : xfg cv (figS v) := by
  unfold figOk at h
  unfold xfg
  rcases h with rfl | rfl | ⟨h, rfl | rfl | rfl | rfl⟩ | ⟨h, rfl | rfl | rfl⟩
  · exact Or.inl (by decide)
  · exact Or.inr (Or.inl (by decide))
  · exact Or.inr (Or.inr (Or.inl ⟨h, by decide, by decide⟩))
  · exact Or.inr (Or.inr (Or.inl ⟨h, by decide, by decide⟩))
  · exact Or.inr (Or.inr (Or.inl ⟨h, by decide, by decide⟩))
  · exact Or.inr (Or.inr (Or.inl ⟨h, by decide, by decide⟩))
  · exact Or.inr (Or.inr (Or.inr ⟨h, by decide, by decide⟩))
  · exact Or.inr (Or.inr (Or.inr ⟨h, by decide, by decide⟩))
  · exact Or.inr (Or.inr (Or.inr ⟨h, by decide, by decide⟩))
theorem xT_ar {cv : Prop} {c : Int} {t : List Bool} (h : 31 ≤ c ∧ c ≤ 37) : xT1 cv c (false :: false :: t) (false :: t) := Or.inr (Or.inr (Or.inr (Or.inl ⟨h, t, rfl, rfl⟩)))
theorem xT_cm {cv : Prop} {c : Int} {t : List Bool} (h : 38 ≤ c ∧ c ≤ 40) : xT1 cv c (false :: false :: t) (true :: t) := Or.inr (Or.inr (Or.inr (Or.inr (Or.inl ⟨h, t, rfl, rfl⟩))))
theorem xT_bo {cv : Prop} {c : Int} {t : List Bool} (h : c = 41 ∨ c = 42) : xT1 cv c (true :: true :: t) (true :: t) := Or.inr (Or.inr (Or.inr (Or.inr (Or.inr (Or.inl ⟨h, t, rfl, rfl⟩)))))
theorem xT_no {cv : Prop} {t : List Bool} : xT1 cv 43 (true :: t) (true :: t) := Or.inr (Or.inr (Or.inr (Or.inr (Or.inr (Or.inr (Or.inl ⟨rfl, t, rfl, rfl⟩))))))
theorem xT_if {cv : Prop} {t : List Bool} : xT1 cv 44 (false :: false :: true :: t) (false :: t) := Or.inr (Or.inr (Or.inr (Or.inr (Or.inr (Or.inr (Or.inr ⟨rfl, t, rfl, rfl⟩))))))
section XEV
variable {t : Int → Int} {n : Int} {cv : Prop}
theorem xlen1 (b : Bool) (a : List Bool) : ((b :: a).length : Int) = (a.length : Int) + 1 := by rw [List.length_cons]; omega
/-- the codes of the grammar go through: never dry, never deeper than 64 -/
theorem Gr_TY {tag : Nat} {o p q : Int} {c : List Int} (h : Gr t n cv tag o p q c) : xR cv tag o p q c := by
  refine h (xR cv) ⟨?_, ?_, ?_, ?_, ?_, ?_, ?_, ?_, ?_, ?_, ?_, ?_, ?_, ?_, ?_, ?_, ?_, ?_, ?_, ?_, ?_, ?_⟩
  · intro o p q r c1 c2 h1 h2 z0 z7 a hb
    have hb : (a.length : Int) + 38 - 5 * o ≤ 64 := hb
    have k1 : xTY cv c1 a (false :: a) := h1 z0 z7 a (show (a.length : Int) + 37 - 5 * o ≤ 64 by omega)
    have k2 : xTY cv c2 (false :: a) (false :: a) := h2 z0 z7 a hb
    exact xTY_app k2 k1
  · intro o p k v e h1 h2 z0 z7 a hb
    exact (show (false :: a) = false :: a from rfl)
  · intro o p v e q r c1 c2 h1 h2 h3 h4 z0 z7 a hb
    have hb : (a.length : Int) + 38 - 5 * o ≤ 64 := hb
    have l1 := xlen1 false a
    have k1 : xTY cv c1 (false :: a) (false :: false :: a) := h3 z0 z7 (false :: a) (show ((false :: a).length : Int) + 37 - 5 * o ≤ 64 by omega)
    have k2 : xTY cv c2 (false :: a) (false :: a) := h4 z0 z7 a hb
    exact xTY_app (xTY_cons (xT_ar (sop_a (by omega))) k2) k1
  · intro o p q r c1 c2 h1 h2 z0 z7 a hb
    have hb : (a.length : Int) + 37 - 5 * o ≤ 64 := hb
    have k1 : xTY cv c1 a (false :: a) := h1 z0 z7 a (show (a.length : Int) + 36 - 5 * o ≤ 64 by omega)
    have k2 : xTY cv c2 (false :: a) (false :: a) := h2 z0 z7 a hb
    exact xTY_app k2 k1
  · intro o p k v e h1 h2 z0 z7 a hb
    exact (show (false :: a) = false :: a from rfl)
  · intro o p v e q r c1 c2 h1 h2 h3 h4 z0 z7 a hb
    have hb : (a.length : Int) + 37 - 5 * o ≤ 64 := hb
    have l1 := xlen1 false a
    have k1 : xTY cv c1 (false :: a) (false :: false :: a) := h3 z0 z7 (false :: a) (show ((false :: a).length : Int) + 36 - 5 * o ≤ 64 by omega)
    have k2 : xTY cv c2 (false :: a) (false :: a) := h4 z0 z7 a hb
    exact xTY_app (xTY_cons (xT_ar (sop_a (by omega))) k2) k1
  · intro o p v e h1 z0 z7 a hb
    have hb : (a.length : Int) + 36 - 5 * o ≤ 64 := hb
    have hv := tk_num h1
    exact xTY_1 (a := a) (m := false :: a) (Or.inl ⟨by omega, by omega, by omega, rfl⟩)
  · intro o p v e h1 h2 z0 z7 a hb
    have hb : (a.length : Int) + 36 - 5 * o ≤ 64 := hb
    exact xTY_1 (a := a) (m := false :: a) (Or.inr (Or.inl ⟨figS_x h2, by omega, rfl⟩))
  · intro o p e q e1 c1 h1 h2 h3 h4 z0 z7 a hb
    have hb : (a.length : Int) + 36 - 5 * o ≤ 64 := hb
    exact h3 (by omega) (by omega) a (show (a.length : Int) + 38 - 5 * (o + 1) ≤ 64 by omega)
  · intro o p v e e1 q e2 q2 e3 c1 c2 h1 h2 h3 h4 h5 h6 h7 h8 z0 z7 a hb
    have hb : (a.length : Int) + 36 - 5 * o ≤ 64 := hb
    have l1 := xlen1 false a
    have k1 : xTY cv c1 a (false :: a) := h5 (by omega) (by omega) a (show (a.length : Int) + 38 - 5 * (o + 1) ≤ 64 by omega)
    have k2 : xTY cv c2 (false :: a) (false :: false :: a) := h7 (by omega) (by omega) (false :: a) (show ((false :: a).length : Int) + 38 - 5 * (o + 1) ≤ 64 by omega)
    have hs : 31 ≤ twoS v ∧ twoS v ≤ 37 := by rcases h2 with rfl | rfl <;> decide
    exact xTY_app (xTY_app (xTY_1 (xT_ar hs)) k2) k1
  · intro o p e e1 q e2 q2 e3 q3 e4 c1 c2 c3 h1 h2 h3 h4 h5 h6 h7 h8 h9 z0 z7 a hb
    have hb : (a.length : Int) + 36 - 5 * o ≤ 64 := hb
    have l1 := xlen1 true a
    have l2 := xlen1 false (true :: a)
    have k1 : xTY cv c1 a (true :: a) := h4 (by omega) (by omega) a (show (a.length : Int) + 41 - 5 * (o + 1) ≤ 64 by omega)
    have k2 : xTY cv c2 (true :: a) (false :: true :: a) := h6 (by omega) (by omega) (true :: a) (show ((true :: a).length : Int) + 38 - 5 * (o + 1) ≤ 64 by omega)
    have k3 : xTY cv c3 (false :: true :: a) (false :: false :: true :: a) := h8 (by omega) (by omega) (false :: true :: a) (show ((false :: true :: a).length : Int) + 38 - 5 * (o + 1) ≤ 64 by omega)
    exact xTY_app (xTY_app (xTY_app (xTY_1 xT_if) k3) k2) k1
  · intro o p q r c1 c2 h1 h2 z0 z7 a hb
    have hb : (a.length : Int) + 41 - 5 * o ≤ 64 := hb
    have k1 : xTY cv c1 a (true :: a) := h1 z0 z7 a (show (a.length : Int) + 40 - 5 * o ≤ 64 by omega)
    have k2 : xTY cv c2 (true :: a) (true :: a) := h2 z0 z7 a hb
    exact xTY_app k2 k1
  · intro o p k v e h1 h2 z0 z7 a hb
    exact (show (true :: a) = true :: a from rfl)
  · intro o p e q r c1 c2 h1 h3 h4 z0 z7 a hb
    have hb : (a.length : Int) + 41 - 5 * o ≤ 64 := hb
    have l1 := xlen1 true a
    have k1 : xTY cv c1 (true :: a) (true :: true :: a) := h3 z0 z7 (true :: a) (show ((true :: a).length : Int) + 40 - 5 * o ≤ 64 by omega)
    have k2 : xTY cv c2 (true :: a) (true :: a) := h4 z0 z7 a hb
    exact xTY_app (xTY_cons (xT_bo (Or.inr rfl)) k2) k1
  · intro o p q r c1 c2 h1 h2 z0 z7 a hb
    have hb : (a.length : Int) + 40 - 5 * o ≤ 64 := hb
    have k1 : xTY cv c1 a (true :: a) := h1 z0 z7 a (show (a.length : Int) + 39 - 5 * o ≤ 64 by omega)
    have k2 : xTY cv c2 (true :: a) (true :: a) := h2 z0 z7 a hb
    exact xTY_app k2 k1
  · intro o p k v e h1 h2 z0 z7 a hb
    exact (show (true :: a) = true :: a from rfl)
  · intro o p e q r c1 c2 h1 h3 h4 z0 z7 a hb
    have hb : (a.length : Int) + 40 - 5 * o ≤ 64 := hb
    have l1 := xlen1 true a
    have k1 : xTY cv c1 (true :: a) (true :: true :: a) := h3 z0 z7 (true :: a) (show ((true :: a).length : Int) + 39 - 5 * o ≤ 64 by omega)
    have k2 : xTY cv c2 (true :: a) (true :: a) := h4 z0 z7 a hb
    exact xTY_app (xTY_cons (xT_bo (Or.inl rfl)) k2) k1
  · intro o p e q c1 h1 h2 h3 z0 z7 a hb
    have hb : (a.length : Int) + 39 - 5 * o ≤ 64 := hb
    have k1 : xTY cv c1 a (true :: a) := h3 (by omega) (by omega) a (show (a.length : Int) + 39 - 5 * (o + 1) ≤ 64 by omega)
    exact xTY_app (xTY_1 xT_no) k1
  · intro o p e q e1 c1 h1 h2 h3 h4 z0 z7 a hb
    have hb : (a.length : Int) + 39 - 5 * o ≤ 64 := hb
    exact h3 (by omega) (by omega) a (show (a.length : Int) + 41 - 5 * (o + 1) ≤ 64 by omega)
  · intro o p e h1 z0 z7 a hb
    have hb : (a.length : Int) + 39 - 5 * o ≤ 64 := hb
    exact xTY_1 (a := a) (m := true :: a) (Or.inr (Or.inr (Or.inl ⟨rfl, by omega, rfl⟩)))
  · intro o p k v e q c1 h1 h2 h3 h4 z0 z7 a hb
    exact h4 z0 z7 a hb
  · intro o p q v e r c1 c2 h1 h2 h3 h4 z0 z7 a hb
    have hb : (a.length : Int) + 39 - 5 * o ≤ 64 := hb
    have l1 := xlen1 false a
    have k1 : xTY cv c1 a (false :: a) := h1 z0 z7 a (show (a.length : Int) + 38 - 5 * o ≤ 64 by omega)
    have k2 : xTY cv c2 (false :: a) (false :: false :: a) := h4 z0 z7 (false :: a) (show ((false :: a).length : Int) + 38 - 5 * o ≤ 64 by omega)
    exact xTY_app (xTY_app (xTY_1 (xT_cm (sop_c h3))) k2) k1
theorem Gr_sumT {p q : Int} {c : List Int} (h : Gr t n cv 0 0 p q c) : xTY cv c [] [false] := Gr_TY h (by omega) (by omega) [] (by decide)
theorem Gr_tstT {p q : Int} {c : List Int} (h : Gr t n cv 5 0 p q c) : xTY cv c [] [true] := Gr_TY h (by omega) (by omega) [] (by decide)
end XEV
/-! values -/
def xVT : List Bool → Int → (Nat → Int) → Prop
  | [], n, _ => n = 0
  | b :: a, n, V => (-1000000 ≤ V (n - 1).toNat ∧ V (n - 1).toNat ≤ 1000000) ∧ (b = true → V (n - 1).toNat = 0 ∨ V (n - 1).toNat = 1) ∧ xVT a (n - 1) V
theorem xVT_len : ∀ {a : List Bool} {n : Int} {V : Nat → Int}, xVT a n V → n = (a.length : Int) := by
  intro a
  induction a with
  | nil => intro n V h; exact h
  | cons b a ih =>
    intro n V h
    have z := ih h.2.2
    rw [List.length_cons]
    omega
theorem xVT_e : ∀ {a : List Bool} {n : Int} {V V' : Nat → Int}, xVT a n V → (∀ j : Nat, (j : Int) < n → V' j = V j) → xVT a n V' := by
  intro a
  induction a with
  | nil => intro n V V' h e; exact h
  | cons b a ih =>
    intro n V V' h e
    have hl := xVT_len h
    rw [List.length_cons] at hl
    obtain ⟨h1, h2, h3⟩ := h
    have z := e (n - 1).toNat (by omega)
    refine ⟨?_, ?_, ih h3 (fun j hj => e j (by omega))⟩
    · rw [z]; exact h1
    · rw [z]; exact h2
def xn1 (c n : Int) : Int := if c % 64 = 0 then n + 1 else if c ≤ 30 then n + 1 else if c = 43 then n else if c = 44 then n - 2 else n - 1
def xv1 (f : Int → Int) (c n : Int) (V : Nat → Int) : Nat → Int := if c % 64 = 0 then up1 V n.toNat (c / 64) else if c = 30 then up1 V n.toNat 1 else if c ≤ 30 then up1 V n.toNat (f c) else if c = 43 then up1 V (n - 1).toNat (1 - V (n - 1).toNat) else if c = 44 then up1 V (n - 3).toNat (if V (n - 3).toNat = 1 then V (n - 2).toNat else V (n - 1).toNat) else up1 V (n - 2).toNat (xtw c (V (n - 2).toNat) (V (n - 1).toNat))
section XV1
variable (f : Int → Int) {c : Int} (n : Int) (V : Nat → Int)
theorem xc_num (h : c % 64 = 0) : xn1 c n = n + 1 ∧ xv1 f c n V = up1 V n.toNat (c / 64) := by
  unfold xn1 xv1
  rw [if_pos h, if_pos h]
  exact ⟨rfl, rfl⟩
theorem xc_all : xn1 30 n = n + 1 ∧ xv1 f 30 n V = up1 V n.toNat 1 := by
  unfold xn1 xv1
  rw [if_neg (by decide), if_pos (by decide), if_neg (by decide), if_pos rfl]
  exact ⟨rfl, rfl⟩
theorem xc_fig (h : 1 ≤ c ∧ c ≤ 9) : xn1 c n = n + 1 ∧ xv1 f c n V = up1 V n.toNat (f c) := by
  unfold xn1 xv1
  rw [if_neg (by omega), if_pos (by omega), if_neg (by omega), if_neg (by omega), if_pos (by omega)]
  exact ⟨rfl, rfl⟩
theorem xc_not : xn1 43 n = n ∧ xv1 f 43 n V = up1 V (n - 1).toNat (1 - V (n - 1).toNat) := by
  unfold xn1 xv1
  rw [if_neg (by decide), if_neg (by decide), if_pos rfl, if_neg (by decide), if_neg (by decide), if_neg (by decide), if_pos rfl]
  exact ⟨rfl, rfl⟩
theorem xc_if : xn1 44 n = n - 2 ∧ xv1 f 44 n V = up1 V (n - 3).toNat (if V (n - 3).toNat = 1 then V (n - 2).toNat else V (n - 1).toNat) := by
  unfold xn1 xv1
  rw [if_neg (by decide), if_neg (by decide), if_neg (by decide), if_pos rfl, if_neg (by decide), if_neg (by decide), if_neg (by decide), if_neg (by decide), if_pos rfl]
  exact ⟨rfl, rfl⟩
theorem xc_two (h : 31 ≤ c ∧ c ≤ 42) : xn1 c n = n - 1 ∧ xv1 f c n V = up1 V (n - 2).toNat (xtw c (V (n - 2).toNat) (V (n - 1).toNat)) := by
  unfold xn1 xv1
  rw [if_neg (by omega), if_neg (by omega), if_neg (by omega), if_neg (by omega), if_neg (by omega), if_neg (by omega), if_neg (by omega), if_neg (by omega), if_neg (by omega)]
  exact ⟨rfl, rfl⟩
end XV1
def xev (f : Int → Int) : List Int → Int → (Nat → Int) → Int
  | [], n, V => V (n - 1).toNat
  | c :: l, n, V => xev f l (xn1 c n) (xv1 f c n V)
def xfb (cv : Prop) (f : Int → Int) : Prop := ∀ s : Int, xfg cv s → -1000000 ≤ f s ∧ f s ≤ 1000000
theorem xfg_b {cv : Prop} {c : Int} (h : xfg cv c) : 1 ≤ c ∧ c ≤ 9 := by
  unfold xfg at h
  omega
theorem xput {t : List Bool} {p : Int} {V V' : Nat → Int} {v : Int} {b : Bool} (k : xVT t p V) (e : ∀ j : Nat, (j : Int) < p → V' j = V j) (h1 : -1000000 ≤ v ∧ v ≤ 1000000) (h2 : b = true → v = 0 ∨ v = 1) : xVT (b :: t) (p + 1) (up1 V p.toNat v) ∧ ∀ j : Nat, (j : Int) < p + 1 → up1 V' p.toNat v j = up1 V p.toNat v j := by
  have e1 : up1 V p.toNat v (p + 1 - 1).toNat = v := by rw [show (p + 1 - 1).toNat = p.toNat by omega, up1_e]
  have hl := xVT_len k
  refine ⟨⟨by rw [e1]; exact h1, by rw [e1]; exact h2, ?_⟩, ?_⟩
  · rw [show p + 1 - 1 = p by omega]
    exact xVT_e k (fun j hj => up1_n _ _ (by omega))
  · intro j hj
    by_cases q : j = p.toNat
    · rw [q, up1_e, up1_e]
    · rw [up1_n _ _ q, up1_n _ _ q]
      exact e j (by omega)
theorem xstep2 {f : Int → Int} {c n : Int} {b1 b2 b : Bool} {t : List Bool} {V V' : Nat → Int} (hc : 31 ≤ c ∧ c ≤ 42) (k : xVT (b1 :: b2 :: t) n V) (e : ∀ j : Nat, (j : Int) < n → V' j = V j) (hb : b = true → 38 ≤ c) : xVT (b :: t) (xn1 c n) (xv1 f c n V) ∧ (∀ j : Nat, (j : Int) < xn1 c n → xv1 f c n V' j = xv1 f c n V j) := by
  obtain ⟨k1, k2, k3, k4, k5⟩ := k
  rw [show n - 1 - 1 = n - 2 by omega] at k3 k4 k5
  have hl := xVT_len k5
  have e2 := e (n - 2).toNat (by omega)
  have e1 := e (n - 1).toNat (by omega)
  have w := xtw_b hc k3 k1
  have g := xput (V' := V') (v := xtw c (V (n - 2).toNat) (V (n - 1).toNat)) (b := b) k5 (fun j hj => e j (by omega)) w.1 (fun z => w.2 (hb z))
  rw [show n - 2 + 1 = n - 1 by omega] at g
  rw [(xc_two f n V hc).1, (xc_two f n V hc).2, (xc_two f n V' hc).2, e1, e2]
  exact g
/-- one code more -/
theorem xstep {cv : Prop} {f : Int → Int} (hf : xfb cv f) {c n : Int} {a m : List Bool} {V V' : Nat → Int} (h : xT1 cv c a m) (k : xVT a n V) (e : ∀ j : Nat, (j : Int) < n → V' j = V j) : xVT m (xn1 c n) (xv1 f c n V) ∧ (∀ j : Nat, (j : Int) < xn1 c n → xv1 f c n V' j = xv1 f c n V j) := by
  rcases h with ⟨h1, h2, h3, rfl⟩ | ⟨h1, h2, rfl⟩ | ⟨rfl, h2, rfl⟩ | ⟨h1, t, rfl, rfl⟩ | ⟨h1, t, rfl, rfl⟩ | ⟨h1, t, rfl, rfl⟩ | ⟨rfl, t, rfl, rfl⟩ | ⟨rfl, t, rfl, rfl⟩
  · rw [(xc_num f n V h1).1, (xc_num f n V h1).2, (xc_num f n V' h1).2]
    exact xput k e (by omega) (fun z => by cases z)
  · have hb := xfg_b h1
    rw [(xc_fig f n V hb).1, (xc_fig f n V hb).2, (xc_fig f n V' hb).2]
    exact xput k e (hf c h1) (fun z => by cases z)
  · rw [(xc_all f n V).1, (xc_all f n V).2, (xc_all f n V').2]
    exact xput k e (by decide) (fun _ => Or.inr rfl)
  · exact xstep2 (by omega) k e (fun z => by cases z)
  · exact xstep2 (by omega) k e (fun _ => by omega)
  · exact xstep2 (by omega) k e (fun _ => by omega)
  · obtain ⟨k1, k2, k3⟩ := k
    have hl := xVT_len k3
    have e1 := e (n - 1).toNat (by omega)
    have kb := k2 rfl
    have g := xput (V' := V') (v := 1 - V (n - 1).toNat) (b := true) k3 (fun j hj => e j (by omega)) (by omega) (fun _ => by omega)
    rw [show n - 1 + 1 = n by omega] at g
    rw [(xc_not f n V).1, (xc_not f n V).2, (xc_not f n V').2, e1]
    exact g
  · obtain ⟨k1, k2, k3, k4, k5, k6, k7⟩ := k
    rw [show n - 1 - 1 - 1 = n - 3 by omega] at k5 k6 k7
    rw [show n - 1 - 1 = n - 2 by omega] at k3 k4
    have hl := xVT_len k7
    have e1 := e (n - 1).toNat (by omega)
    have e2 := e (n - 2).toNat (by omega)
    have e3 := e (n - 3).toNat (by omega)
    have g := xput (V' := V') (v := if V (n - 3).toNat = 1 then V (n - 2).toNat else V (n - 1).toNat) (b := false) k7 (fun j hj => e j (by omega)) (by split; exact k3; exact k1) (fun z => by cases z)
    rw [show n - 3 + 1 = n - 2 by omega] at g
    rw [(xc_if f n V).1, (xc_if f n V).2, (xc_if f n V').2, e1, e2, e3]
    exact g
/-- the value hangs on what waits alone -/
theorem xev_e {cv : Prop} {f : Int → Int} (hf : xfb cv f) {b : Bool} : ∀ {l : List Int} {a : List Bool} {n : Int} {V V' : Nat → Int}, xTY cv l a [b] → xVT a n V → (∀ j : Nat, (j : Int) < n → V' j = V j) → xev f l n V' = xev f l n V := by
  intro l
  induction l with
  | nil =>
    intro a n V V' h k e
    have h : a = [b] := h
    rw [h] at k
    have hl := xVT_len k
    rw [List.length_singleton] at hl
    exact e (n - 1).toNat (by omega)
  | cons c l ih =>
    intro a n V V' h k e
    obtain ⟨m, h1, h2⟩ := h
    obtain ⟨g1, g2⟩ := xstep hf h1 k e
    exact ih h2 g1 g2
theorem xev_0 {cv : Prop} {f : Int → Int} (hf : xfb cv f) {b : Bool} {l : List Int} {V V' : Nat → Int} (h : xTY cv l [] [b]) : xev f l 0 V' = xev f l 0 V := xev_e hf h (show xVT [] 0 V from rfl) (fun j hj => by omega)
/-- its bounds, and its kind -/
theorem xev_b {cv : Prop} {f : Int → Int} (hf : xfb cv f) {b : Bool} : ∀ {l : List Int} {a : List Bool} {n : Int} {V : Nat → Int}, xTY cv l a [b] → xVT a n V → (-1000000 ≤ xev f l n V ∧ xev f l n V ≤ 1000000) ∧ (b = true → xev f l n V = 0 ∨ xev f l n V = 1) := by
  intro l
  induction l with
  | nil =>
    intro a n V h k
    have h : a = [b] := h
    rw [h] at k
    exact ⟨k.1, k.2.1⟩
  | cons c l ih =>
    intro a n V h k
    obtain ⟨m, h1, h2⟩ := h
    exact ih h2 (xstep hf h1 k (fun j _ => rfl)).1
theorem xdrop : ∀ {c : List Int} {i : Nat}, i < c.length → c.drop i = c.getD i 0 :: c.drop (i + 1) := by
  intro c
  induction c with
  | nil => intro i h; exact absurd h (by rw [List.length_nil]; omega)
  | cons x l ih =>
    intro i h
    cases i with
    | zero => rfl
    | succ i => exact ih (by rw [List.length_cons] at h; omega)
theorem xdrop_e : ∀ {c : List Int} {i : Nat}, c.length ≤ i → c.drop i = [] := fun h => List.drop_eq_nil_of_le h
/-! codes as they lie: the class's, and the reference's -/
def CCA (e : Int) (A : Nat → Int) (fr : Int) (c : List Int) : Prop := 0 ≤ fr ∧ fr + (c.length : Int) < e ∧ (∀ i : Nat, i < c.length → A (fr.toNat + i) = cenc (c.getD i 0)) ∧ A (fr + (c.length : Int)).toNat = 13238272
def RCA (S V : Nat → Int) (fr : Int) (c : List Int) : Prop := 0 ≤ fr ∧ ∀ i : Nat, i < c.length → S (fr.toNat + i) = c.getD i 0 % 64 ∧ (c.getD i 0 % 64 = 0 → V (fr.toNat + i) = c.getD i 0 / 64)
theorem xhd {cv : Prop} {c : List Int} {fr i : Int} {a : List Bool} {b : Bool} (h0 : fr ≤ i) (h1 : i ≤ fr + (c.length : Int)) (ty : xTY cv (c.drop (i - fr).toNat) a [b]) : (i = fr + (c.length : Int) ∧ c.drop (i - fr).toNat = [] ∧ a = [b]) ∨ (i < fr + (c.length : Int) ∧ ∃ (x : Int) (m : List Bool), x = c.getD (i - fr).toNat 0 ∧ c.drop (i - fr).toNat = x :: c.drop (i + 1 - fr).toNat ∧ xT1 cv x a m ∧ xTY cv (c.drop (i + 1 - fr).toNat) m [b]) := by
  by_cases q : i < fr + (c.length : Int)
  · have e := xdrop (c := c) (i := (i - fr).toNat) (by omega)
    have e2 : (i - fr).toNat + 1 = (i + 1 - fr).toNat := by omega
    rw [e2] at e
    rw [e] at ty
    obtain ⟨m, t1, t2⟩ := ty
    exact Or.inr ⟨q, _, m, rfl, e, t1, t2⟩
  · have e := xdrop_e (c := c) (i := (i - fr).toNat) (by omega)
    rw [e] at ty
    exact Or.inl ⟨by omega, e, ty⟩
/-- what the class makes of a sort -/
def cwh (x : Int) : Int := if x = 31 then 43 else if x = 32 then 45 else if x = 33 then 42 else if x = 34 then 47 else if x = 35 then 37 else if x = 36 then 24 else if x = 37 then 25 else if x = 38 then 60 else if x = 39 then 62 else if x = 40 then 61 else if x = 41 then 21 else if x = 42 then 20 else if x = 43 then 22 else 19
def fgw (x : Int) : Int := if x = 1 then 11 else if x = 2 then 13 else if x = 3 then 14 else if x = 4 then 8 else if x = 5 then 4 else if x = 6 then 15 else if x = 7 then 16 else if x = 8 then 17 else 18
theorem l65535 {a : Int} (h : 0 ≤ a ∧ a < 2147483648) : zd (Nat.land (zi a) (zi 65535)) = a % 65536 := by
  have e : Nat.land (zi a) (zi 65535) = zi a % 65536 := Nat.and_two_pow_sub_one_eq_mod (zi a) 16
  rw [e]
  unfold zd
  rw [zblt, decide_eq_true (show zi a % 65536 < 2147483648 by omega)]
  show ((zi a % 65536 : Nat) : Int) = a % 65536
  unfold zi
  omega
theorem shr16 (a : Int) : a / zpw ((16 : Int) % 32).toNat = a / 65536 := by
  rw [show zpw ((16 : Int) % 32).toNat = 65536 from by decide]
theorem xcenc_num {x : Int} (h : x % 64 = 0) : cenc x = 13107200 + x / 64 := by unfold cenc; rw [if_pos h]
theorem cenc_fig {x : Int} (h : 1 ≤ x ∧ x ≤ 9) : cenc x = 13172736 + fgw x := by
  rcases (show x = 1 ∨ x = 2 ∨ x = 3 ∨ x = 4 ∨ x = 5 ∨ x = 6 ∨ x = 7 ∨ x = 8 ∨ x = 9 by omega) with rfl | rfl | rfl | rfl | rfl | rfl | rfl | rfl | rfl <;> decide
theorem fgw_b (x : Int) : 4 ≤ fgw x ∧ fgw x ≤ 18 := by
  unfold fgw
  (repeat' split) <;> omega
theorem cenc_op {x : Int} (h : 31 ≤ x ∧ x ≤ 44) : cenc x = 65536 * cwh x := by
  rcases (show x = 31 ∨ x = 32 ∨ x = 33 ∨ x = 34 ∨ x = 35 ∨ x = 36 ∨ x = 37 ∨ x = 38 ∨ x = 39 ∨ x = 40 ∨ x = 41 ∨ x = 42 ∨ x = 43 ∨ x = 44 by omega) with rfl | rfl | rfl | rfl | rfl | rfl | rfl | rfl | rfl | rfl | rfl | rfl | rfl | rfl <;> decide
theorem cwh_b {x : Int} (h : 31 ≤ x ∧ x ≤ 44) : 19 ≤ cwh x ∧ cwh x ≤ 62 := by
  unfold cwh
  (repeat' split) <;> omega
theorem fgw_g {x : Int} (h : 1 ≤ x ∧ x ≤ 9) : fgw x = 11 ∨ fgw x = 13 ∨ fgw x = 14 ∨ fgw x = 8 ∨ fgw x = 4 ∨ fgw x = 15 ∨ fgw x = 16 ∨ fgw x = 17 ∨ fgw x = 18 := by
  unfold fgw
  (repeat' split) <;> omega
/-- how far up values are bounded -/
theorem xVT_b : ∀ {a : List Bool} {n : Int} {V : Nat → Int}, xVT a n V → ∀ j : Nat, (j : Int) < n → -1000000 ≤ V j ∧ V j ≤ 1000000 := by
  intro a
  induction a with
  | nil =>
    intro n V h j hj
    have h : n = 0 := h
    omega
  | cons b a ih =>
    intro n V h j hj
    obtain ⟨h1, h2, h3⟩ := h
    by_cases q : j = (n - 1).toNat
    · rw [q]; exact h1
    · exact ih h3 j (by omega)
