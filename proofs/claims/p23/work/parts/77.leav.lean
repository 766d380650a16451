/-! a loop is left out -/
def LO (st s : zS) (a l k : Int) : Prop := ∀ i : Int, 0 ≤ i → ((a ≤ i ∧ i < k - l) → s 210 i.toNat = st 210 (i + l).toNat) ∧ (¬ (a ≤ i ∧ i < k - l) → s 210 i.toNat = st 210 i.toNat)
theorem LO_start (st : zS) {a l k : Int} (h : k - l ≤ a) : LO st st a l k := fun i h0 => ⟨fun q => by omega, fun _ => rfl⟩
theorem LO_set {st s : zS} {a l k : Int} {j : Nat} {z : Int} (h : LO st s a l k) (hl : 0 < l) (ha : 0 ≤ a) (hk : a ≤ k - l) (hj : j = (k - l).toNat) (hz : z = s 210 k.toNat) : LO st (zup s 210 j z) a l (k + 1) := by
  intro i h0
  subst hj
  show ((a ≤ i ∧ i < k + 1 - l) → up1 (s 210) (k - l).toNat z i.toNat = _) ∧ (¬ (a ≤ i ∧ i < k + 1 - l) → up1 (s 210) (k - l).toNat z i.toNat = _)
  by_cases e : i = k - l
  · refine ⟨fun _ => ?_, fun q => by omega⟩
    rw [e, up1_e, hz, (h k (by omega)).2 (by omega), show k - l + l = k by omega]
  · rw [up1_n (s 210) z (show ¬ i.toNat = (k - l).toNat by omega)]
    exact ⟨fun q => (h i h0).1 (by omega), fun q => (h i h0).2 (by omega)⟩
theorem LO_goA {st s : zS} {a b l k : Int} (hg : goA st) (h : LO st s a l k) (e13 : s 170 13 = st 170 13) (e177 : ∀ i, s 177 i = st 177 i) (ha : 0 ≤ a) (hl : 0 < l) (hb : b = a + l) (hk : st 170 62 ≤ k) (hbn : b < st 170 62) (hab : st 210 a.toNat = st 210 b.toNat) : goA (zup s 170 62 (st 170 62 - l)) := by
  intro i h1 h2
  have h2 : i < st 170 62 - l := h2
  show 0 < zad s (s 210 (i - 1).toNat) (s 210 i.toNat)
  rw [zad_e e13 e177]
  have f1 := h (i - 1) (by omega)
  have f2 := h i (by omega)
  by_cases q1 : i < a
  · rw [f1.2 (by omega), f2.2 (by omega)]
    exact hg i h1 (by omega)
  · by_cases q2 : i = a
    · rw [f1.2 (by omega), f2.1 (by omega), show i + l = b by omega, ← hab, q2]
      exact hg a (by omega) (by omega)
    · rw [f1.1 (by omega), f2.1 (by omega), show i - 1 + l = i + l - 1 by omega]
      exact hg (i + l) (by omega) (by omega)
