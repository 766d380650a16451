/-! one slot changes: what stays of the deep invariant -/
theorem zJ_slot {st s : zS} {v : Int} (hG : gInv zgt st) (hJ : zJ st) (hv : v = 0 ∨ v = 1) (e13 : s 170 13 = st 170 13) (e56 : s 170 56 = st 170 56) (e57 : s 170 57 = st 170 57) (e172 : ∀ i, s 172 i = st 172 i) (e176 : ∀ i, s 176 i = st 176 i) (e177 : ∀ i, s 177 i = st 177 i) (e186 : ∀ i, s 186 i = st 186 i) (e187 : ∀ i, s 187 i = st 187 i) (e188 : ∀ i, s 188 i = st 188 i) (eo : ∀ i : Nat, ¬ (30 * v ≤ (i : Int) ∧ (i : Int) < 30 * v + 30) → s 203 i = st 203 i) (ep : ∀ i : Nat, ¬ (i : Int) = v → s 202 i = st 202 i) (h0 : v = 0 → jgd s 0) : zJ s := by
  have other : ∀ w : Int, 0 ≤ w → ¬ w = v → jgd st w → jgd s w := fun w h1 h2 h3 => jgd_cp hG e13 e177 h3 (ep _ (by omega)) (fun j q1 q2 => eo _ (by omega))
  refine ⟨jS_e hJ.1 e13 e177 e172 e176, ⟨?_, fun k h1 h2 => ?_⟩, jC_e hJ.2.2 e13 e186 e187 e188⟩
  · by_cases e : v = 0
    · exact h0 e
    · exact other 0 (by omega) (by omega) hJ.2.1.1
  · rw [e57] at h2
    rw [e56]
    exact other _ (by omega) (by omega) (hJ.2.1.2 k h1 h2)
theorem zJ_undo {st s : zS} {w : Int} (hG : gInv zgt st) (hJ : zJ st) (hu : 1 ≤ st 170 57) (hw : w = 2 + (st 170 56 + (st 170 57 - 1)) % 20) (e13 : s 170 13 = st 170 13) (e56 : s 170 56 = st 170 56) (e57 : s 170 57 = st 170 57 - 1) (e172 : ∀ i, s 172 i = st 172 i) (e176 : ∀ i, s 176 i = st 176 i) (e177 : ∀ i, s 177 i = st 177 i) (e186 : ∀ i, s 186 i = st 186 i) (e187 : ∀ i, s 187 i = st 187 i) (e188 : ∀ i, s 188 i = st 188 i) (em : s 202 (0 : Int).toNat = st 202 w.toNat) (ec : ∀ j : Int, 0 ≤ j → j < 30 → s 203 (30 * 0 + j).toNat = st 203 (30 * w + j).toNat) (eo : ∀ i : Nat, ¬ (30 * 0 ≤ (i : Int) ∧ (i : Int) < 30 * 0 + 30) → s 203 i = st 203 i) (ep : ∀ i : Nat, ¬ (i : Int) = 0 → s 202 i = st 202 i) : zJ s := by
  have other : ∀ v : Int, 0 ≤ v → ¬ v = 0 → jgd st v → jgd s v := fun v h1 h2 h3 => jgd_cp hG e13 e177 h3 (ep _ (by omega)) (fun j q1 q2 => eo _ (by omega))
  refine ⟨jS_e hJ.1 e13 e177 e172 e176, ⟨?_, fun k h1 h2 => ?_⟩, jC_e hJ.2.2 e13 e186 e187 e188⟩
  · have h3 := hJ.2.1.2 (st 170 57 - 1) (by omega) (by omega)
    rw [← hw] at h3
    exact jgd_cp hG e13 e177 h3 em ec
  · rw [e57] at h2
    rw [e56]
    exact other _ (by omega) (by omega) (hJ.2.1.2 k h1 (by omega))
theorem zJ_on {st s : zS} (hG : gInv zgt st) (hS : jS st) (hC : jC st) (h1 : jgd st 1) (e13 : s 170 13 = st 170 13) (e57 : s 170 57 = 0) (e172 : ∀ i, s 172 i = st 172 i) (e176 : ∀ i, s 176 i = st 176 i) (e177 : ∀ i, s 177 i = st 177 i) (e186 : ∀ i, s 186 i = st 186 i) (e187 : ∀ i, s 187 i = st 187 i) (e188 : ∀ i, s 188 i = st 188 i) (em : s 202 (0 : Int).toNat = st 202 (1 : Int).toNat) (ec : ∀ j : Int, 0 ≤ j → j < 30 → s 203 (30 * 0 + j).toNat = st 203 (30 * 1 + j).toNat) : zJ s :=
  ⟨jS_e hS e13 e177 e172 e176, ⟨jgd_cp hG e13 e177 h1 em ec, fun k h1 h2 => by rw [e57] at h2; omega⟩, jC_e hC e13 e186 e187 e188⟩
theorem jgd_add {st s : zS} {n p : Int} (h : jgd st 0) (h0 : 0 ≤ n) (e13 : s 170 13 = st 170 13) (e177 : ∀ i, s 177 i = st 177 i) (hn : st 202 (0 : Int).toNat = n) (em : s 202 (0 : Int).toNat = n + 1) (ec : s 203 n.toNat = p) (eo : ∀ i : Nat, ¬ (i : Int) = n → s 203 i = st 203 i) (hp : 0 < n → 0 < zad st (st 203 (n - 1).toNat) p) : jgd s 0 := by
  intro k h1 h2
  rw [em] at h2
  rw [zad_e e13 e177]
  by_cases e : k = n
  · rw [show (30 * 0 + k - 1 : Int) = n - 1 by omega, show (30 * 0 + k : Int) = n by omega, ec, eo (n - 1 : Int).toNat (by omega)]
    exact hp (by omega)
  · rw [eo (30 * 0 + k - 1 : Int).toNat (by omega), eo (30 * 0 + k : Int).toNat (by omega)]
    exact h k h1 (by omega)
theorem jgd_del {st s : zS} (h : jgd st 0) (e13 : s 170 13 = st 170 13) (e177 : ∀ i, s 177 i = st 177 i) (em : s 202 (0 : Int).toNat ≤ st 202 (0 : Int).toNat) (eo : ∀ i : Nat, s 203 i = st 203 i) : jgd s 0 := by
  intro k h1 h2
  rw [zad_e e13 e177, eo, eo]
  exact h k h1 (by omega)
theorem goA_e {st s : zS} (e62 : s 170 62 = st 170 62) (e13 : s 170 13 = st 170 13) (e210 : ∀ i, s 210 i = st 210 i) (e177 : ∀ i, s 177 i = st 177 i) (h : goA st) : goA s := by
  intro k h1 h2
  rw [zad_e e13 e177, e210, e210]
  exact h k h1 (by omega)
