/-! by hand: floorMod, floorDiv -/
theorem zt_rem {x y : Int} (hy : zsI y) (h0 : ¬ y = 0) : zsI (Int.tmod x y) ∧ (0 < y → - y < Int.tmod x y ∧ Int.tmod x y < y) ∧ (0 ≤ x → 0 ≤ Int.tmod x y) ∧ (x ≤ 0 → Int.tmod x y ≤ 0) := by
  have key : ∀ y : Int, 0 < y → - y < Int.tmod x y ∧ Int.tmod x y < y := by
    intro y hy
    have h1 := Int.tmod_lt_of_pos x hy
    have h2 := Int.tmod_lt_of_pos (-x) hy
    rw [Int.neg_tmod] at h2
    omega
  have hn : x ≤ 0 → Int.tmod x y ≤ 0 := by
    intro hx
    have := Int.tmod_nonneg y (show 0 ≤ -x by omega)
    rw [Int.neg_tmod] at this
    omega
  refine ⟨?_, key y, fun hx => Int.tmod_nonneg y hx, hn⟩
  unfold zsI at *
  rcases Int.lt_or_gt_of_ne h0 with c | c
  · have := key (-y) (by omega)
    rw [Int.tmod_neg] at this
    omega
  · have := key y c
    omega
theorem zxor_neg {x y : Int} (hx : zsI x) (hy : zsI y) : (0 ≤ zd (Nat.xor (zi x) (zi y))) ↔ ((0 ≤ x) ↔ (0 ≤ y)) := by
  have hb : ∀ z : Int, zsI z → ((zi z).testBit 31 = true ↔ z < 0) := by
    intro z hz
    unfold zsI at hz
    rw [Nat.testBit_eq_decide_div_mod_eq]
    have h1 : zi z / 2 ^ 31 % 2 = (if z < 0 then 1 else 0) := by
      unfold zi
      split <;> omega
    rw [h1]
    split <;> simp_all
  have h2 : (0 ≤ zd (Nat.xor (zi x) (zi y))) ↔ (Nat.xor (zi x) (zi y)).testBit 31 = false := by
    have hlt := zlxor x y
    have h3 : (Nat.xor (zi x) (zi y)).testBit 31 = decide (2147483648 ≤ Nat.xor (zi x) (zi y)) := by
      rw [Nat.testBit_eq_decide_div_mod_eq]
      by_cases c : 2147483648 ≤ Nat.xor (zi x) (zi y)
      · rw [decide_eq_true c, decide_eq_true (by omega)]
      · rw [decide_eq_false c, decide_eq_false (by omega)]
    rw [h3]
    unfold zd
    rw [zblt]
    by_cases c : Nat.xor (zi x) (zi y) < 2147483648
    · rw [decide_eq_true c, decide_eq_false (by omega)]
      simp only [cond_true]
      exact ⟨fun _ => trivial, fun _ => by omega⟩
    · rw [decide_eq_false c, decide_eq_true (by omega)]
      simp only [cond_false]
      exact ⟨fun h => by omega, fun h => by cases h⟩
  rw [h2]
  have h4 : (Nat.xor (zi x) (zi y)).testBit 31 = ((zi x).testBit 31 ^^ (zi y).testBit 31) := Nat.testBit_xor ..
  rw [h4]
  have hbx := hb x hx
  have hby := hb y hy
  cases c1 : (zi x).testBit 31 <;> cases c2 : (zi y).testBit 31 <;> simp [c1, c2] at hbx hby ⊢ <;> omega
theorem zh_floorMod {Sh : List zC} {call : zCall} {Rt : zQ} {K : zG} (hcl : zcl Sh rx_m29 3 1 call Rt K) {x y : Int} {st : zS} (hx : zsI x) (hy : zsI y) (h0 : ¬ y = 0) (hQ : ∀ z, zsI z → (0 < y → 0 ≤ z ∧ z < y) → Rt (some (.inl z)) st) : K rx_m29 [(0, .inl x), (1, .inl y)] [] st := by
  refine zr1_ok (wc := zno) (stp := []) zno_m hcl 20 ?_
  show ¬ y = 0 ∧ ((0 ≤ zd (Nat.xor (zi x) (zi y)) → Rt (some (.inl (zw (Int.tmod x y)))) st) ∧ (¬ 0 ≤ zd (Nat.xor (zi x) (zi y)) → ((zw (Int.tmod x y) = 0 → Rt (some (.inl (zw (Int.tmod x y)))) st) ∧ (¬ zw (Int.tmod x y) = 0 → Rt (some (.inl (zw (zw (Int.tmod x y) + y)))) st))))
  obtain ⟨r1, r2, r3, r4⟩ := zt_rem (x := x) hy h0
  rw [zw_id r1]
  have hxn := zxor_neg hx hy
  refine ⟨h0, fun c => hQ _ r1 (fun hp => ?_), fun c => ⟨fun e => hQ _ r1 (fun hp => ?_), fun e => hQ _ (zw_ok _) (fun hp => ?_)⟩⟩
  · have := r2 hp
    have := hxn.mp c
    omega
  · have := r2 hp
    omega
  · have h5 := r2 hp
    have h6 : ¬ (0 ≤ x ↔ 0 ≤ y) := fun q => c (hxn.mpr q)
    have h7 := r4 (by omega)
    rw [zw_id (by unfold zsI at *; omega)]
    omega
theorem zh_floorDiv {Sh : List zC} {call : zCall} {Rt : zQ} {K : zG} (hcl : zcl Sh rx_m304 3 1 call Rt K) {x y : Int} {st : zS} (h0 : ¬ y = 0) (hQ : ∀ z, zsI z → Rt (some (.inl z)) st) : K rx_m304 [(0, .inl x), (1, .inl y)] [] st := by
  refine zr1_ok (wc := zno) (stp := []) zno_m hcl 24 ?_
  show ¬ y = 0 ∧ ((0 ≤ zd (Nat.xor (zi x) (zi y)) → Rt (some (.inl (zw (Int.tdiv x y)))) st) ∧ (¬ 0 ≤ zd (Nat.xor (zi x) (zi y)) → ((zw (zw (Int.tdiv x y) * y) = x → Rt (some (.inl (zw (Int.tdiv x y)))) st) ∧ (¬ zw (zw (Int.tdiv x y) * y) = x → Rt (some (.inl (zw (zw (Int.tdiv x y) - 1)))) st))))
  exact ⟨h0, fun _ => hQ _ (zw_ok _), fun _ => ⟨fun _ => hQ _ (zw_ok _), fun _ => hQ _ (zw_ok _)⟩⟩
