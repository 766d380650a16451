/-! the bank that was read is taken -/
theorem zad_e {st s : zS} (e13 : s 170 13 = st 170 13) (e177 : ∀ i, s 177 i = st 177 i) (x y : Int) : zad s x y = zad st x y := by
  unfold zad
  rw [e13, e177]
theorem jS_e {st s : zS} (h : jS st) (e13 : s 170 13 = st 170 13) (e177 : ∀ i, s 177 i = st 177 i) (e172 : ∀ i, s 172 i = st 172 i) (e176 : ∀ i, s 176 i = st 176 i) : jS s := by
  intro x y h1 h2 h3 h4 h5
  rw [zad_e e13 e177] at h5 ⊢
  rw [e13, e172, e176]
  exact h x y h1 h2 h3 h4 h5
theorem jC_e {st s : zS} (h : jC st) (e13 : s 170 13 = st 170 13) (e186 : ∀ i, s 186 i = st 186 i) (e187 : ∀ i, s 187 i = st 187 i) (e188 : ∀ i, s 188 i = st 188 i) : jC s := by
  have f188 : s 188 = st 188 := funext e188
  intro w h1 h2 h3
  rw [e13, e186] at h3
  have h4 := h w h1 h2 h3
  rw [e13, e186, e187]
  show cgd (s 188) _ _
  rw [f188]
  exact h4
theorem beg_J {st s : zS} {n : Int} (hS : jS st) (hC : jC st) (h2 : TS2 (st 170 13) n (st 177) (st 179)) (e13 : s 170 13 = st 170 13) (e177 : ∀ i, s 177 i = st 177 i) (e172 : ∀ i, s 172 i = st 172 i) (e176 : ∀ i, s 176 i = st 176 i) (e186 : ∀ i, s 186 i = st 186 i) (e187 : ∀ i, s 187 i = st 187 i) (e188 : ∀ i, s 188 i = st 188 i) (e57 : s 170 57 = 0) (e202 : s 202 (0 : Int).toNat = n) (hc : ∀ j : Int, 0 ≤ j → j < n → s 203 j.toNat = st 179 (20 * st 170 13 + j).toNat) : zJ s := by
  refine ⟨jS_e hS e13 e177 e172 e176, ⟨?_, ?_⟩, jC_e hC e13 e186 e187 e188⟩
  · intro k h3 h4
    rw [e202] at h4
    rw [zad_e e13 e177, show (30 * 0 + k - 1).toNat = (k - 1).toNat by omega, show (30 * 0 + k).toNat = k.toNat by omega, hc k (by omega) h4, hc (k - 1) (by omega) (by omega)]
    have h5 := h2 k h3 h4
    unfold zad
    rw [show 20 * st 170 13 + (k - 1) = 20 * st 170 13 + k - 1 by omega]
    exact h5
  · intro k h3 h4
    omega
theorem TS_jS {s : zS} (h : TS s) : jS (zup s 170 13 (s 170 35)) := by
  intro x y h1 h2 h3 h4 h5
  have h6 := h.1 x y h1 h2 h3 h4 h5
  exact ⟨h6.1, h6.2.2⟩
theorem TS_jC {s : zS} (h : TS s) : jC (zup s 170 13 (s 170 35)) := by
  intro w h1 h2 h3
  exact (h.2.2 w h1 h2 h3).1
theorem TS_init {s : zS} (h1 : ∀ j : Int, 0 ≤ j → j < 64 → s 177 (64 * s 170 35 + j).toNat = 0) (h2 : s 178 (s 170 35).toNat = 0) (h3 : s 186 (2 * s 170 35).toNat = -1) (h4 : s 186 (2 * s 170 35 + 1).toNat = -1) : TS s := by
  refine ⟨?_, ?_, ?_⟩
  · intro x y q1 q2 q3 q4 q5
    rw [show 64 * s 170 35 + 8 * x + y = 64 * s 170 35 + (8 * x + y) by omega, h1 (8 * x + y) (by omega) (by omega)] at q5
    omega
  · intro k q1 q2
    rw [h2] at q2
    omega
  · intro w q1 q2 q3
    by_cases e : w = 0
    · rw [e, show 2 * s 170 35 + 0 = 2 * s 170 35 by omega] at q3
      exact absurd h3 q3
    · rw [show w = 1 by omega] at q3
      exact absurd h4 q3
