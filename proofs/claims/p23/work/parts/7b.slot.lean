/-! slots copied: their steps stay along streets -/
theorem jgd_cp {st s : zS} {v v' : Int} (hG : gInv zgt st) (e13 : s 170 13 = st 170 13) (e177 : ∀ i, s 177 i = st 177 i) (h : jgd st v') (em : s 202 v.toNat = st 202 v'.toNat) (ec : ∀ j : Int, 0 ≤ j → j < 30 → s 203 (30 * v + j).toNat = st 203 (30 * v' + j).toNat) : jgd s v := by
  intro k h1 h2
  rw [em] at h2
  have g := g_stepMany hG v'.toNat
  have c1 := ec k (by omega) (by omega)
  have c2 := ec (k - 1) (by omega) (by omega)
  rw [show 30 * v + (k - 1) = 30 * v + k - 1 by omega, show 30 * v' + (k - 1) = 30 * v' + k - 1 by omega] at c2
  rw [zad_e e13 e177, c1, c2]
  exact h k h1 h2
theorem jG_keep {st s : zS} {f u f' u' w : Int} (hG : gInv zgt st) (h0 : jgd st 0) (hu : ∀ k : Int, 0 ≤ k → k < u → jgd st (2 + (f + k) % 20)) (hf : 0 ≤ f' ∧ f' < 20) (hr : 0 ≤ u' ∧ u' < 20) (hs : ∀ k : Int, 0 ≤ k → k < u' → ∃ j : Int, 0 ≤ j ∧ j < u ∧ (f + j) % 20 = (f' + k) % 20) (hw : w = 2 + (f' + u') % 20) (e13 : s 170 13 = st 170 13) (e177 : ∀ i, s 177 i = st 177 i) (em : s 202 w.toNat = st 202 (0 : Int).toNat) (ec : ∀ j : Int, 0 ≤ j → j < 30 → s 203 (30 * w + j).toNat = st 203 (30 * 0 + j).toNat) (eo : ∀ i : Nat, ¬ (30 * w ≤ (i : Int) ∧ (i : Int) < 30 * w + 30) → s 203 i = st 203 i) (ep : ∀ i : Nat, ¬ (i : Int) = w → s 202 i = st 202 i) : jgd s 0 ∧ ∀ k : Int, 0 ≤ k → k < u' + 1 → jgd s (2 + (f' + k) % 20) := by
  have other : ∀ v : Int, 0 ≤ v → ¬ v = w → jgd st v → jgd s v := fun v h1 h2 h3 => jgd_cp hG e13 e177 h3 (ep _ (by omega)) (fun j q1 q2 => eo _ (by omega))
  refine ⟨other 0 (by omega) (by omega) h0, fun k h1 h2 => ?_⟩
  by_cases e : k = u'
  · rw [e, ← hw]
    exact jgd_cp hG e13 e177 h0 em ec
  · obtain ⟨j, j1, j2, j3⟩ := hs k h1 (by omega)
    have h3 := hu j j1 j2
    rw [j3] at h3
    exact other _ (by omega) (by omega) h3
