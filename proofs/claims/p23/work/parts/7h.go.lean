/-! bits, draws, the route as it goes -/
theorem bits_lt {a : Int} (h : -2147483648 ≤ a ∧ a ≤ 2147483647) (h0 : ¬ a = 0) : zi (zd (Nat.land (zi a) (zi (zw (a - 1))))) < zi a := by
  have l1 : Nat.land (zi a) (zi (zw (a - 1))) ≤ zi (zw (a - 1)) := Nat.and_le_right
  have l2 := zi_lt (zw (a - 1))
  rw [zi_zd (by omega)]
  have l3 : zi (zw (a - 1)) < zi a := by
    rw [zi_zw]
    unfold zi
    omega
  omega
theorem dr_ok {a : Int} (h0 : 0 ≤ a) (h1 : a ≤ 9223372036854775807) : (0 : Int) ≤ zx (Int.tmod a 2147483648) ∧ zx (Int.tmod a 2147483648) ≤ 2147483647 := by
  rw [Int.tmod_eq_emod_of_nonneg h0]
  rw [zx_id (by unfold zsL; omega)]
  omega
theorem jgd_go {s : zS} {v : Int} (ha : goA s) (hm : s 202 v.toNat = s 170 62) (hc : ∀ j : Int, 0 ≤ j → j < s 170 62 → s 203 (30 * v + j).toNat = s 210 j.toNat) : jgd s v := by
  intro k h1 h2
  rw [hm] at h2
  have c1 := hc k (by omega) h2
  have c2 := hc (k - 1) (by omega) (by omega)
  rw [show 30 * v + (k - 1) = 30 * v + k - 1 by omega] at c2
  rw [c1, c2]
  exact ha k h1 h2
