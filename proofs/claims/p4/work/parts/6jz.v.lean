/-! no cell below 170 is another, nor the tape -/
def zV0 (st s : zS) : Prop := ∀ c i : Nat, (c < 170 ∨ c = 171) → s c i = st c i
theorem zV0_rf (st : zS) : zV0 st st := fun _ _ _ => rfl
theorem zV0_tr {st s1 s2 : zS} (h : zV0 st s1) (k : zV0 s1 s2) : zV0 st s2 := fun c i hc => (k c i hc).trans (h c i hc)
theorem zV0_up {st s : zS} {c i : Nat} {z : Int} (h : zV0 st s) (hc : 170 ≤ c ∧ ¬ c = 171) : zV0 st (zup s c i z) := fun c' i' hc' => (zup_nc s z (show ¬ c' = c by omega)).trans (h c' i' hc')
noncomputable def mlo (m : aM) : Bool := aall (fun q => Nat.ble 170 q.1 && !(Nat.beq q.1 171)) m.1 && aall (fun c => Nat.ble 170 c && !(Nat.beq c 171)) m.2
theorem zV0_fr {m : aM} {st s : zS} (hm : mlo m = true) (h : aFr m st s) : zV0 st s := by
  intro c i hc
  obtain ⟨h1, h2⟩ := rx_an hm
  have key : ∀ x : Nat, (Nat.ble 170 x && !(Nat.beq x 171)) = true → ¬ (x < 170 ∨ x = 171) := by
    intro x hx
    obtain ⟨q1, q2⟩ := rx_an hx
    have q1 : 170 ≤ x := Nat.le_of_ble_eq_true q1
    have q3 : ¬ x = 171 := fun e => by rw [e] at q2; cases q2
    omega
  refine h c i ?_ ?_
  · cases e : amf m c i with
    | false => rfl
    | true => exact absurd hc (key c (aall_o2 h1 _ (amf_ok.mp e)))
  · cases e : ama m c with
    | false => rfl
    | true => exact absurd hc (key c (aall_o2 h2 _ (ama_ok.mp e)))
def zV1 (st s : zS) : Prop := ∀ c i : Nat, c < 170 → s c i = st c i
theorem zV1_rf (st : zS) : zV1 st st := fun _ _ _ => rfl
theorem zV1_tr {st s1 s2 : zS} (h : zV1 st s1) (k : zV1 s1 s2) : zV1 st s2 := fun c i hc => (k c i hc).trans (h c i hc)
theorem zV1_up {st s : zS} {c i : Nat} {z : Int} (h : zV1 st s) (hc : 170 ≤ c) : zV1 st (zup s c i z) := fun c' i' hc' => (zup_nc s z (show ¬ c' = c by omega)).trans (h c' i' hc')
noncomputable def mlo1 (m : aM) : Bool := aall (fun q => Nat.ble 170 q.1) m.1 && aall (fun c => Nat.ble 170 c) m.2
theorem zV1_fr {m : aM} {st s : zS} (hm : mlo1 m = true) (h : aFr m st s) : zV1 st s := by
  intro c i hc
  obtain ⟨h1, h2⟩ := rx_an hm
  refine h c i ?_ ?_
  · cases e : amf m c i with
    | false => rfl
    | true =>
      have q := aall_o2 h1 _ (amf_ok.mp e)
      have q : 170 ≤ c := Nat.le_of_ble_eq_true q
      omega
  · cases e : ama m c with
    | false => rfl
    | true =>
      have q := aall_o2 h2 _ (ama_ok.mp e)
      have q : 170 ≤ c := Nat.le_of_ble_eq_true q
      omega
