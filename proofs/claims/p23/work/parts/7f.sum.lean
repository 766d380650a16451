/-! sums: how deep the stack is at a code -/
theorem zland_ok (a b : Int) : zsL (ze (Nat.land (zl a) (zl b))) := ze_ok (Nat.lt_of_le_of_lt Nat.and_le_left (zl_lt a))
def rkb (st : zS) (w : Int) : Int := 1600 * st 170 13 + st 186 (2 * st 170 13 + w).toNat
noncomputable def rkd (st : zS) (w c : Int) : Int := jdp st (rkb st w) (c - rkb st w).toNat
theorem rkd_0 (st : zS) (w : Int) : rkd st w (rkb st w) = 0 := by
  unfold rkd
  rw [show (rkb st w - rkb st w).toNat = 0 by omega]
  rfl
theorem rkd_s {st : zS} {w c : Int} (h : rkb st w ≤ c) : (st 188 c.toNat ≤ 30 → rkd st w (c + 1) = rkd st w c + 1) ∧ (st 188 c.toNat = 43 → rkd st w (c + 1) = rkd st w c) ∧ (st 188 c.toNat = 44 → rkd st w (c + 1) = rkd st w c - 2) ∧ (30 < st 188 c.toNat → ¬ st 188 c.toNat = 43 → ¬ st 188 c.toNat = 44 → rkd st w (c + 1) = rkd st w c - 1) := by
  have e : rkd st w (c + 1) = rkd st w c + jdl (st 188 c.toNat) := by
    unfold rkd
    rw [show (c + 1 - rkb st w).toNat = (c - rkb st w).toNat + 1 by omega]
    show jdp st (rkb st w) (c - rkb st w).toNat + jdl (st 188 (rkb st w + ((c - rkb st w).toNat : Int)).toNat) = _
    rw [show rkb st w + ((c - rkb st w).toNat : Int) = c by omega]
  rw [e]
  unfold jdl
  refine ⟨fun q => ?_, fun q => ?_, fun q => ?_, fun q q1 q2 => ?_⟩
  · rw [if_pos q]
  · rw [if_neg (by omega), if_pos q]; omega
  · rw [if_neg (by omega), if_neg (by omega), if_pos q]; omega
  · rw [if_neg (by omega), if_neg q1, if_neg q2]; omega
theorem rkd_g {st : zS} {w c : Int} (hC : jC st) (h0 : 0 ≤ w) (h1 : w ≤ 1) (ht : ¬ st 186 (2 * st 170 13 + w).toNat = -1) (hb : rkb st w ≤ c) (he : c < 1600 * st 170 13 + st 187 (2 * st 170 13 + w).toNat) : 0 ≤ st 188 c.toNat ∧ (st 188 c.toNat ≤ 9 ∨ 30 ≤ st 188 c.toNat) ∧ st 188 c.toNat ≤ 44 ∧ 0 ≤ rkd st w c ∧ rkd st w c ≤ 400 ∧ (st 188 c.toNat = 43 → 1 ≤ rkd st w c) ∧ (st 188 c.toNat = 44 → 3 ≤ rkd st w c) ∧ (30 < st 188 c.toNat → ¬ st 188 c.toNat = 43 → ¬ st 188 c.toNat = 44 → 2 ≤ rkd st w c) := by
  have eb : rkb st w = 1600 * st 170 13 + st 186 (2 * st 170 13 + w).toNat := rfl
  have h := hC w h0 h1 ht (c - rkb st w).toNat (by omega)
  have e : (1600 * st 170 13 + st 186 (2 * st 170 13 + w).toNat) + ((c - rkb st w).toNat : Int) = c := by omega
  rw [e] at h
  obtain ⟨⟨a1, a2, a3⟩, a4, a5⟩ := h
  change jnd (st 188 c.toNat) ≤ rkd st w c at a4
  change rkd st w c ≤ 400 at a5
  refine ⟨a1, a2, a3, ?_, a5, fun q => ?_, fun q => ?_, fun q q1 q2 => ?_⟩
  · refine Int.le_trans ?_ a4
    unfold jnd
    split
    · omega
    · split
      · omega
      · split <;> omega
  · unfold jnd at a4
    rw [if_neg (by omega), if_pos q] at a4
    exact a4
  · unfold jnd at a4
    rw [if_neg (by omega), if_neg (by omega), if_pos q] at a4
    exact a4
  · unfold jnd at a4
    rw [if_neg (by omega), if_neg q1, if_neg q2] at a4
    exact a4
