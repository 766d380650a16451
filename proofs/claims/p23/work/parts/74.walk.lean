/-! the route as it goes: a step more -/
theorem goA_app {st : zS} {p m : Int} (h : goA st) (h0 : 0 ≤ st 170 62) (hp : 0 < st 170 62 → 0 < zad st (st 210 (st 170 62 - 1).toNat) p) : goA (zup (zup (zup st 210 (st 170 62).toNat p) 211 (st 170 62).toNat m) 170 62 (st 170 62 + 1)) := by
  intro k h1 h2
  have h2 : k < st 170 62 + 1 := h2
  show 0 < zad st (up1 (st 210) (st 170 62).toNat p (k - 1).toNat) (up1 (st 210) (st 170 62).toNat p k.toNat)
  rw [up1_n (st 210) p (show ¬ (k - 1).toNat = (st 170 62).toNat by omega)]
  by_cases e : k = st 170 62
  · rw [show k.toNat = (st 170 62).toNat by rw [e], up1_e, e]
    exact hp (by omega)
  · rw [up1_n (st 210) p (show ¬ k.toNat = (st 170 62).toNat by omega)]
    exact h k h1 (by omega)
theorem FWs_m {st s : zS} {g k : Int} {d : Nat → Int} (e13 : s 170 13 = st 170 13) (e177 : ∀ i, s 177 i = st 177 i) (e176 : ∀ i, s 176 i = st 176 i) (h : FWs (eg st g) (wgt st) d k) : FWs (eg s g) (wgt s) d k := by
  have hz := zad_e e13 e177
  have hw : wgt s = wgt st := by
    funext a b
    unfold wgt
    rw [hz, e13, e176]
  have he : eg s g = eg st g := by
    funext a b
    unfold eg
    rw [hz]
  rw [hw, he]
  exact h
theorem jS_of {st s : zS} {m : aM} (h : jS st) (f : aFr m st s) (m13 : amf m 170 13 = false) (m170 : ama m 170 = false) (m177 : ∀ i, amf m 177 i = false) (k177 : ama m 177 = false) (m172 : ∀ i, amf m 172 i = false) (k172 : ama m 172 = false) (m176 : ∀ i, amf m 176 i = false) (k176 : ama m 176 = false) : jS s := jS_e h (f 170 13 m13 m170) (fun i => f 177 i (m177 i) k177) (fun i => f 172 i (m172 i) k172) (fun i => f 176 i (m176 i) k176)
