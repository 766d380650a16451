/-! no cell below 170 is another, nor the tape, the bank, what the towns tell -/
def zV0 (st s : zS) : Prop := ∀ c i : Nat, (c < 170 ∨ (171 ≤ c ∧ c ≤ 191) ∨ c = 216 ∨ c = 217 ∨ (c = 170 ∧ (i = 13 ∨ i = 71))) → s c i = st c i
def vfr (c i : Nat) : Bool := (Nat.ble 192 c && (!(Nat.beq c 216) && !(Nat.beq c 217))) || (Nat.beq c 170 && (!(Nat.beq i 13) && !(Nat.beq i 71)))
theorem vfr_no {c i : Nat} (h : vfr c i = true) : ¬ (c < 170 ∨ (171 ≤ c ∧ c ≤ 191) ∨ c = 216 ∨ c = 217 ∨ (c = 170 ∧ (i = 13 ∨ i = 71))) := by
  unfold vfr at h
  cases e1 : (Nat.ble 192 c && (!(Nat.beq c 216) && !(Nat.beq c 217))) with
  | true =>
    obtain ⟨a1, a2⟩ := rx_an e1
    obtain ⟨a3, a4⟩ := rx_an a2
    have b1 : 192 ≤ c := Nat.le_of_ble_eq_true a1
    have b2 : ¬ c = 216 := fun e => by rw [e] at a3; cases a3
    have b3 : ¬ c = 217 := fun e => by rw [e] at a4; cases a4
    omega
  | false =>
    rw [e1] at h
    obtain ⟨a1, a2⟩ := rx_an (show (Nat.beq c 170 && (!(Nat.beq i 13) && !(Nat.beq i 71))) = true from h)
    obtain ⟨a3, a4⟩ := rx_an a2
    have b1 : c = 170 := Nat.eq_of_beq_eq_true a1
    have b2 : ¬ i = 13 := fun e => by rw [e] at a3; cases a3
    have b3 : ¬ i = 71 := fun e => by rw [e] at a4; cases a4
    omega
theorem zV0_rf (st : zS) : zV0 st st := fun _ _ _ => rfl
theorem zV0_tr {st s1 s2 : zS} (h : zV0 st s1) (k : zV0 s1 s2) : zV0 st s2 := fun c i hc => (k c i hc).trans (h c i hc)
theorem zV0_up {st s : zS} {c i : Nat} {z : Int} (h : zV0 st s) (hc : vfr c i = true) : zV0 st (zup s c i z) := fun c' i' hc' => (zup_ne s z (show ¬ (c' = c ∧ i' = i) from fun e => by rw [e.1, e.2] at hc'; exact vfr_no hc hc')).trans (h c' i' hc')
noncomputable def mlo (m : aM) : Bool := aall (fun q => vfr q.1 q.2) m.1 && aall (fun c => Nat.ble 192 c && (!(Nat.beq c 216) && !(Nat.beq c 217))) m.2
theorem zV0_fr {m : aM} {st s : zS} (hm : mlo m = true) (h : aFr m st s) : zV0 st s := by
  intro c i hc
  obtain ⟨h1, h2⟩ := rx_an hm
  refine h c i ?_ ?_
  · cases e : amf m c i with
    | false => rfl
    | true => exact absurd hc (vfr_no (aall_o2 h1 _ (amf_ok.mp e)))
  · cases e : ama m c with
    | false => rfl
    | true =>
      exfalso
      obtain ⟨a1, a2⟩ := rx_an (show (Nat.ble 192 c && (!(Nat.beq c 216) && !(Nat.beq c 217))) = true from aall_o2 h2 _ (ama_ok.mp e))
      obtain ⟨a3, a4⟩ := rx_an a2
      have b1 : 192 ≤ c := Nat.le_of_ble_eq_true a1
      have b2 : ¬ c = 216 := fun e => by rw [e] at a3; cases a3
      have b3 : ¬ c = 217 := fun e => by rw [e] at a4; cases a4
      omega
def zV1 (st s : zS) : Prop := ∀ c i : Nat, (c < 170 ∨ c = 171) → s c i = st c i
theorem zV1_rf (st : zS) : zV1 st st := fun _ _ _ => rfl
theorem zV1_tr {st s1 s2 : zS} (h : zV1 st s1) (k : zV1 s1 s2) : zV1 st s2 := fun c i hc => (k c i hc).trans (h c i hc)
theorem zV1_up {st s : zS} {c i : Nat} {z : Int} (h : zV1 st s) (hc : 170 ≤ c ∧ ¬ c = 171) : zV1 st (zup s c i z) := fun c' i' hc' => (zup_nc s z (show ¬ c' = c by omega)).trans (h c' i' hc')
noncomputable def mlo1 (m : aM) : Bool := aall (fun q => Nat.ble 170 q.1 && !(Nat.beq q.1 171)) m.1 && aall (fun c => Nat.ble 170 c && !(Nat.beq c 171)) m.2
theorem zV1_fr {m : aM} {st s : zS} (hm : mlo1 m = true) (h : aFr m st s) : zV1 st s := by
  intro c i hc
  obtain ⟨h1, h2⟩ := rx_an hm
  have key : ∀ x : Nat, (Nat.ble 170 x && !(Nat.beq x 171)) = true → ¬ (x < 170 ∨ x = 171) := by
    intro x hx
    obtain ⟨q1, q2⟩ := rx_an hx
    have q1 : 170 ≤ x := Nat.le_of_ble_eq_true q1
    have q3 : ¬ x = 171 := fun e => by rw [e] at q2; cases q2
    omega
  refine h c i ?_ ?_
  · cases e : amf m c i with
    | false => rfl
    | true => exact absurd hc (key c (aall_o2 h1 _ (amf_ok.mp e)))
  · cases e : ama m c with
    | false => rfl
    | true => exact absurd hc (key c (aall_o2 h2 _ (ama_ok.mp e)))
def zV2 (st s : zS) : Prop := ∀ c i : Nat, c < 170 → s c i = st c i
theorem zV2_rf (st : zS) : zV2 st st := fun _ _ _ => rfl
theorem zV2_tr {st s1 s2 : zS} (h : zV2 st s1) (k : zV2 s1 s2) : zV2 st s2 := fun c i hc => (k c i hc).trans (h c i hc)
theorem zV2_up {st s : zS} {c i : Nat} {z : Int} (h : zV2 st s) (hc : 170 ≤ c) : zV2 st (zup s c i z) := fun c' i' hc' => (zup_nc s z (show ¬ c' = c by omega)).trans (h c' i' hc')
noncomputable def mlo2 (m : aM) : Bool := aall (fun q => Nat.ble 170 q.1) m.1 && aall (fun c => Nat.ble 170 c) m.2
theorem zV2_fr {m : aM} {st s : zS} (hm : mlo2 m = true) (h : aFr m st s) : zV2 st s := by
  intro c i hc
  obtain ⟨h1, h2⟩ := rx_an hm
  refine h c i ?_ ?_
  · cases e : amf m c i with
    | false => rfl
    | true =>
      have q := aall_o2 h1 _ (amf_ok.mp e)
      have q : 170 ≤ c := Nat.le_of_ble_eq_true q
      omega
  · cases e : ama m c with
    | false => rfl
    | true =>
      have q := aall_o2 h2 _ (ama_ok.mp e)
      have q : 170 ≤ c := Nat.le_of_ble_eq_true q
      omega
