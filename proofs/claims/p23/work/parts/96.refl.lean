/-! what the reference holds of a token -/
def RW (sg vl wd sa se la k v s e : Int) : Prop := sa = s ∧ ((k = 0 ∧ sg = 0 ∧ se = e ∧ la = -1) ∨ (k = 1 ∧ sg = 1 ∧ wd = v ∧ se = e ∧ la = -1) ∨ (k = 2 ∧ sg = 2 ∧ vl = v ∧ se = e ∧ la = -1) ∨ (k = 3 ∧ sg = 3 ∧ vl = v ∧ se = e ∧ la = -1) ∨ (k = 5 ∧ ¬ la = -1 ∧ (sg = 1 ∨ sg = 2)))
def mof (le : Int) : Int := if le = 1 then 6 else 4
def RLn (t : Int → Int) (n a0 cu le wd vl la : Int) : Prop := (0 ≤ a0 ∧ a0 < n ∧ a0 ≤ cu ∧ cu ≤ n) ∧ ((nbp t a0 → ¬ la = -1) ∧ (¬ nbp t a0 → (cu - a0 ≤ mof le → la = -1) ∧ (mof le < cu - a0 → ¬ la = -1))) ∧
  ((le = 1 ∧ wle (t a0) ∧ (∀ j : Int, a0 ≤ j → j < cu → wle (t j)) ∧ (cu - a0 ≤ 6 → wd = pk8 t a0 (cu - a0).toNat)) ∨ (le = 0 ∧ wdi (t a0) ∧ (∀ j : Int, a0 ≤ j → j < cu → wdi (t j)) ∧ (cu - a0 ≤ 4 → vl = pkd t a0 (cu - a0).toNat)))
theorem or8 {p c : Int} (hp : 0 ≤ p ∧ p < 1099511627776) (hc : 0 ≤ c ∧ c < 256) : ze (Nat.lor (zl (ze ((zl p * 2 ^ (zi 8 % 64)) % 18446744073709551616))) (zl c)) = 256 * p + c := by
  have e1 : zl p = p.toNat := zl_nn hp.1 (by omega)
  have e2 : zl c = c.toNat := zl_nn hc.1 (by omega)
  have e3 : (zl p * 2 ^ (zi 8 % 64)) % 18446744073709551616 = 2 ^ 8 * p.toNat := by
    rw [e1]
    show (p.toNat * 256) % 18446744073709551616 = 256 * p.toNat
    omega
  rw [e3, zl_ze (show 2 ^ 8 * p.toNat < 18446744073709551616 by show 256 * p.toNat < 18446744073709551616; omega), e2]
  have e4 : Nat.lor (2 ^ 8 * p.toNat) c.toNat = 2 ^ 8 * p.toNat + c.toNat := (Nat.two_pow_add_eq_or_of_lt (i := 8) (b := c.toNat) (show c.toNat < 256 by omega) p.toNat).symm
  rw [e4]
  unfold ze
  rw [zblt, decide_eq_true (show 2 ^ 8 * p.toNat + c.toNat < 9223372036854775808 by show 256 * p.toNat + c.toNat < 9223372036854775808; omega)]
  show ((256 * p.toNat + c.toNat : Nat) : Int) = 256 * p + c
  omega
/-- the run's end: the token -/
theorem RLn_end {t : Int → Int} {n p a0 cu le wd vl la sg : Int} (hw : wrn (fun j => wbl (tcc t n j)) p a0) (h : RLn t n a0 cu le wd vl la) (hs : (le = 1 → sg = 1) ∧ (le = 0 → sg = 2)) (he : cu = n ∨ ((le = 1 → ¬ wle (t cu)) ∧ (le = 0 → ¬ wdi (t cu)))) : ∃ k v s e : Int, TK t n p k v s e ∧ RW sg vl wd a0 cu la k v s e := by
  obtain ⟨⟨b1, b2, b3, b4⟩, ⟨l1, l2⟩, h⟩ := h
  rcases h with ⟨h1, h2, h3, h4⟩ | ⟨h1, h2, h3, h4⟩
  · have em : mof le = 6 := by unfold mof; rw [if_pos h1]
    rw [em] at l2
    have hr : wrn (fun j => wle (tcc t n j)) a0 cu := by
      refine ⟨b3, fun j z1 z2 => ?_, fun z => ?_⟩
      · show wle (tcc t n j)
        rw [tcc_in (by omega)]
        exact h3 j z1 z2
      · have z : wle (tcc t n cu) := z
        have z1 := tcc_le z
        rw [z1.2] at z
        rcases he with q | q
        · omega
        · exact q.1 h1 z
    by_cases c1 : nbp t a0
    · exact ⟨5, 0, a0, cu, ⟨hw, Or.inr (Or.inl ⟨b2, h2, cu, hr, Or.inl ⟨Or.inl c1, rfl, rfl, rfl⟩⟩)⟩, rfl, Or.inr (Or.inr (Or.inr (Or.inr ⟨rfl, l1 c1, Or.inl (hs.1 h1)⟩)))⟩
    · by_cases c2 : 6 < cu - a0
      · exact ⟨5, 0, a0, cu, ⟨hw, Or.inr (Or.inl ⟨b2, h2, cu, hr, Or.inl ⟨Or.inr c2, rfl, rfl, rfl⟩⟩)⟩, rfl, Or.inr (Or.inr (Or.inr (Or.inr ⟨rfl, (l2 c1).2 c2, Or.inl (hs.1 h1)⟩)))⟩
      · exact ⟨1, pk8 t a0 (cu - a0).toNat, a0, cu, ⟨hw, Or.inr (Or.inl ⟨b2, h2, cu, hr, Or.inr ⟨c1, by omega, rfl, rfl, rfl⟩⟩)⟩, rfl, Or.inr (Or.inl ⟨rfl, hs.1 h1, h4 (by omega), rfl, (l2 c1).1 (by omega)⟩)⟩
  · have em : mof le = 4 := by unfold mof; rw [if_neg (by omega)]
    rw [em] at l2
    have hr : wrn (fun j => wdi (tcc t n j)) a0 cu := by
      refine ⟨b3, fun j z1 z2 => ?_, fun z => ?_⟩
      · show wdi (tcc t n j)
        rw [tcc_in (by omega)]
        exact h3 j z1 z2
      · have z : wdi (tcc t n cu) := z
        have z1 := tcc_di z
        rw [z1.2] at z
        rcases he with q | q
        · omega
        · exact q.2 h1 z
    by_cases c1 : nbp t a0
    · exact ⟨5, 0, a0, cu, ⟨hw, Or.inr (Or.inr (Or.inl ⟨b2, h2, cu, hr, Or.inl ⟨Or.inl c1, rfl, rfl, rfl⟩⟩))⟩, rfl, Or.inr (Or.inr (Or.inr (Or.inr ⟨rfl, l1 c1, Or.inr (hs.2 h1)⟩)))⟩
    · by_cases c2 : 4 < cu - a0
      · exact ⟨5, 0, a0, cu, ⟨hw, Or.inr (Or.inr (Or.inl ⟨b2, h2, cu, hr, Or.inl ⟨Or.inr c2, rfl, rfl, rfl⟩⟩))⟩, rfl, Or.inr (Or.inr (Or.inr (Or.inr ⟨rfl, (l2 c1).2 c2, Or.inr (hs.2 h1)⟩)))⟩
      · exact ⟨2, pkd t a0 (cu - a0).toNat, a0, cu, ⟨hw, Or.inr (Or.inr (Or.inl ⟨b2, h2, cu, hr, Or.inr ⟨c1, by omega, rfl, rfl, rfl⟩⟩))⟩, rfl, Or.inr (Or.inr (Or.inl ⟨rfl, hs.2 h1, h4 (by omega), rfl, (l2 c1).1 (by omega)⟩))⟩
/-- one character more -/
theorem RLn_s {t : Int → Int} {n a0 cu le wd vl la wd' vl' la' : Int} (h : RLn t n a0 cu le wd vl la) (hn : cu < n) (hc : (le = 1 → wle (t cu)) ∧ (le = 0 → wdi (t cu))) (hl : (cu - a0 = mof le ∧ la = -1 → la' = cu) ∧ (¬ (cu - a0 = mof le ∧ la = -1) → la' = la)) (hw : cu - a0 < mof le → le = 1 → wd' = 256 * wd + t cu) (hv : cu - a0 < mof le → le = 0 → vl' = 10 * vl + (t cu - 48)) : RLn t n a0 (cu + 1) le wd' vl' la' := by
  obtain ⟨⟨b1, b2, b3, b4⟩, ⟨l1, l2⟩, h⟩ := h
  refine ⟨⟨b1, b2, by omega, by omega⟩, ⟨fun z => ?_, fun z => ⟨fun z1 => ?_, fun z1 => ?_⟩⟩, ?_⟩
  · have := l1 z
    by_cases q : cu - a0 = mof le ∧ la = -1
    · exact absurd q.2 this
    · rw [hl.2 q]; exact this
  · have q := (l2 z).1 (by omega)
    rw [hl.2 (by omega)]
    exact q
  · by_cases q : cu - a0 = mof le ∧ la = -1
    · rw [hl.1 q]; omega
    · rw [hl.2 q]
      by_cases q2 : cu - a0 = mof le
      · exact fun z2 => q ⟨q2, z2⟩
      · exact (l2 z).2 (by omega)
  · rcases h with ⟨h1, h2, h3, h4⟩ | ⟨h1, h2, h3, h4⟩
    · have em : mof le = 6 := by unfold mof; rw [if_pos h1]
      rw [em] at hw
      refine Or.inl ⟨h1, h2, fun j z1 z2 => ?_, fun z => ?_⟩
      · by_cases q : j = cu
        · rw [q]; exact hc.1 h1
        · exact h3 j z1 (by omega)
      · rw [hw (by omega) h1, h4 (by omega), show (cu + 1 - a0).toNat = (cu - a0).toNat + 1 by omega, pk8_s, show a0 + (((cu - a0).toNat : Nat) : Int) = cu by omega]
    · have em : mof le = 4 := by unfold mof; rw [if_neg (by omega)]
      rw [em] at hv
      refine Or.inr ⟨h1, h2, fun j z1 z2 => ?_, fun z => ?_⟩
      · by_cases q : j = cu
        · rw [q]; exact hc.2 h1
        · exact h3 j z1 (by omega)
      · rw [hv (by omega) h1, h4 (by omega), show (cu + 1 - a0).toNat = (cu - a0).toNat + 1 by omega, pkd_s, show a0 + (((cu - a0).toNat : Nat) : Int) = cu by omega]
theorem pk8_b {t : Int → Int} {s : Int} {m : Nat} (hl : ∀ j : Int, s ≤ j → j < s + (m : Int) → wle (t j)) (h5 : m ≤ 5) : 0 ≤ pk8 t s m ∧ pk8 t s m < 1099511627776 := by
  have key : ∀ i : Nat, i ≤ m → 0 ≤ pk8 t s i ∧ pk8 t s i < 256 ^ i := by
    intro i
    induction i with
    | zero => intro _; exact ⟨Int.le_refl _, (by show (0 : Int) < 1; decide)⟩
    | succ i ih =>
      intro h
      have q := ih (by omega)
      have z := hl (s + (i : Int)) (by omega) (by omega)
      unfold wle at z
      rw [pk8_s, Int.pow_succ]
      omega
  have q := key m (Nat.le_refl _)
  refine ⟨q.1, ?_⟩
  rcases (show m = 0 ∨ m = 1 ∨ m = 2 ∨ m = 3 ∨ m = 4 ∨ m = 5 by omega) with rfl | rfl | rfl | rfl | rfl | rfl
  · have q2 : pk8 t s 0 < 1 := q.2
    omega
  · have q2 : pk8 t s 1 < 256 := q.2
    omega
  · have q2 : pk8 t s 2 < 65536 := q.2
    omega
  · have q2 : pk8 t s 3 < 16777216 := q.2
    omega
  · have q2 : pk8 t s 4 < 4294967296 := q.2
    omega
  · exact q.2
theorem pkd_b {t : Int → Int} {s : Int} {m : Nat} (hl : ∀ j : Int, s ≤ j → j < s + (m : Int) → wdi (t j)) (h4 : m ≤ 4) : 0 ≤ pkd t s m ∧ pkd t s m < 10000 := by
  have key : ∀ i : Nat, i ≤ m → 0 ≤ pkd t s i ∧ pkd t s i < 10 ^ i := by
    intro i
    induction i with
    | zero => intro _; exact ⟨Int.le_refl _, (by show (0 : Int) < 1; decide)⟩
    | succ i ih =>
      intro h
      have q := ih (by omega)
      have z := hl (s + (i : Int)) (by omega) (by omega)
      unfold wdi at z
      rw [pkd_s, Int.pow_succ]
      omega
  have q := key m (Nat.le_refl _)
  refine ⟨q.1, ?_⟩
  rcases (show m = 0 ∨ m = 1 ∨ m = 2 ∨ m = 3 ∨ m = 4 by omega) with rfl | rfl | rfl | rfl | rfl
  · have q2 : pkd t s 0 < 1 := q.2
    omega
  · have q2 : pkd t s 1 < 10 := q.2
    omega
  · have q2 : pkd t s 2 < 100 := q.2
    omega
  · have q2 : pkd t s 3 < 1000 := q.2
    omega
  · exact q.2
/-- bounds while a run is read -/
theorem RLn_b {t : Int → Int} {n a0 cu le wd vl la : Int} (h : RLn t n a0 cu le wd vl la) : (le = 1 → cu - a0 < 6 → 0 ≤ wd ∧ wd < 1099511627776) ∧ (le = 0 → cu - a0 < 4 → 0 ≤ vl ∧ vl < 10000) := by
  obtain ⟨⟨b1, b2, b3, b4⟩, -, h⟩ := h
  rcases h with ⟨h1, h2, h3, h4⟩ | ⟨h1, h2, h3, h4⟩
  · refine ⟨fun _ z => ?_, fun z => by omega⟩
    rw [h4 (by omega)]
    exact pk8_b (fun j z1 z2 => h3 j z1 (by omega)) (by omega)
  · refine ⟨fun z => by omega, fun _ z => ?_⟩
    rw [h4 (by omega)]
    exact pkd_b (fun j z1 z2 => h3 j z1 (by omega)) (by omega)
/-! kept closed, that omega may not look in -/
def LQd (n mo la0 la ax : Int) : Prop := (n = mo ∧ la0 = -1 → la = ax) ∧ (¬ (n = mo ∧ la0 = -1) → la = la0)
def WQd (n mo le w0 w1 c : Int) : Prop := n < mo → le = 1 → w1 = 256 * w0 + c
def VQd (n mo le v0 v1 c : Int) : Prop := n < mo → le = 0 → v1 = 10 * v0 + (c - 48)
def SGd (le sg : Int) : Prop := (le = 1 → sg = 1) ∧ (le = 0 → sg = 2)
def CHd (le c : Int) : Prop := (le = 1 → wle c) ∧ (le = 0 → wdi c)
def LXd (t : Int → Int) (le di ax la : Int) : Prop := (((le = 1 ∨ di = 1) ∧ nbp t ax) → ¬ la = -1) ∧ (¬ ((le = 1 ∨ di = 1) ∧ nbp t ax) → la = -1)
