/-! what stands of the bank in use while the other one is written: counts, names, streets, links, things, steps, heat, hot, where its sums begin -/
def brel (b : Int) (c i : Nat) : Prop := (c = 170 ∧ i = 13) ∨ ((c = 172 ∨ c = 173 ∨ c = 178 ∨ c = 181 ∨ c = 184 ∨ c = 185) ∧ (i : Int) = b) ∨ ((c = 174 ∨ c = 175 ∨ c = 176) ∧ 14 * b ≤ (i : Int) ∧ (i : Int) < 14 * b + 14) ∨ (c = 177 ∧ 64 * b ≤ (i : Int) ∧ (i : Int) < 64 * b + 64) ∨ ((c = 179 ∨ c = 180) ∧ 20 * b ≤ (i : Int) ∧ (i : Int) < 20 * b + 20) ∨ ((c = 182 ∨ c = 183 ∨ c = 190 ∨ c = 191) ∧ 8 * b ≤ (i : Int) ∧ (i : Int) < 8 * b + 8) ∨ (c = 186 ∧ 2 * b ≤ (i : Int) ∧ (i : Int) < 2 * b + 2)
def bR (st s : zS) : Prop := ∀ c i : Nat, brel (st 170 13) c i → s c i = st c i
theorem bR_rf (st : zS) : bR st st := fun _ _ _ => rfl
theorem bR_13 {st s : zS} (h : bR st s) : s 170 13 = st 170 13 := h 170 13 (Or.inl ⟨rfl, rfl⟩)
theorem bR_tr {st s1 s2 : zS} (h : bR st s1) (k : bR s1 s2) : bR st s2 := by
  intro c i hr
  have k1 := k c i (by rw [bR_13 h]; exact hr)
  rw [k1]
  exact h c i hr
theorem bR_up {st s : zS} {c i : Nat} {z : Int} (h : bR st s) (hn : ¬ brel (st 170 13) c i) : bR st (zup s c i z) := by
  intro c' i' hr
  rw [zup_ne]
  · exact h c' i' hr
  · intro q
    rw [q.1, q.2] at hr
    exact hn hr
noncomputable def mbR (m : aM) : Bool := aall (fun q => !(Nat.beq q.1 170 && Nat.beq q.2 13) && (Nat.blt q.1 172 || Nat.blt 191 q.1)) m.1 && aall (fun c => (Nat.blt c 170 || Nat.beq c 171) || ((Nat.ble 187 c && Nat.ble c 189) || Nat.blt 191 c)) m.2
theorem bR_fr {m : aM} {st s : zS} (hm : mbR m = true) (h : aFr m st s) : bR st s := by
  intro c i hr
  obtain ⟨m1, m2⟩ := rx_an hm
  have lt : ∀ a b : Nat, Nat.blt a b = true → a < b := fun a b z => Nat.lt_of_lt_of_le (Nat.lt_succ_self a) (Nat.le_of_ble_eq_true z)
  unfold brel at hr
  refine h c i ?_ ?_
  · cases e : amf m c i with
    | false => rfl
    | true =>
      exfalso
      have q := aall_o2 m1 _ (amf_ok.mp e)
      obtain ⟨q1, q2⟩ := rx_an q
      have q3 : ¬ (c = 170 ∧ i = 13) := fun z => by rw [z.1, z.2] at q1; cases q1
      rcases bor q2 with z | z
      · have := lt _ _ z
        omega
      · have := lt _ _ z
        omega
  · cases e : ama m c with
    | false => rfl
    | true =>
      exfalso
      have q := aall_o2 m2 _ (ama_ok.mp e)
      rcases bor q with z | z
      · rcases bor z with z | z
        · have := lt _ _ z
          omega
        · have : c = 171 := Nat.eq_of_beq_eq_true z
          omega
      · rcases bor z with z | z
        · obtain ⟨z1, z2⟩ := rx_an z
          have := Nat.le_of_ble_eq_true z1
          have := Nat.le_of_ble_eq_true z2
          omega
        · have := lt _ _ z
          omega
/-- the town in use stays -/
theorem RT_bR {T st s : zS} (hb : 0 ≤ st 170 13 ∧ st 170 13 ≤ 1) (h : bR st s) (k : RT (st 170 13) T st) : RT (st 170 13) T s := by
  obtain ⟨⟨n1, n2, n3⟩, ⟨t1, t2, t3⟩, ⟨s1, s2, s3, s4⟩, ⟨p1, p2, p3⟩, e1, e2, e3, e4⟩ := k
  have o : ∀ c : Nat, (c = 172 ∨ c = 173 ∨ c = 178 ∨ c = 181 ∨ c = 184 ∨ c = 185) → s c (st 170 13).toNat = st c (st 170 13).toNat := fun c hc => h c _ (Or.inr (Or.inl ⟨hc, by omega⟩))
  refine ⟨⟨?_, n2, ?_⟩, ⟨?_, t2, ?_⟩, ⟨?_, s2, ?_, ?_⟩, ⟨?_, p2, ?_⟩, ?_, ?_, ?_, ?_⟩
  · rw [o 172 (by omega)]; exact n1
  · intro j z1 z2
    rw [h 190 _ (by unfold brel; omega)]
    exact n3 j z1 z2
  · rw [o 181 (by omega)]; exact t1
  · intro j z1 z2
    rw [h 191 _ (by unfold brel; omega), h 182 _ (by unfold brel; omega), h 183 _ (by unfold brel; omega)]
    exact t3 j z1 z2
  · rw [o 173 (by omega)]; exact s1
  · intro j z1 z2
    rw [h 174 _ (by unfold brel; omega), h 175 _ (by unfold brel; omega), h 176 _ (by unfold brel; omega)]
    exact s3 j z1 z2
  · intro j z1 z2
    rw [h 177 _ (by unfold brel; omega)]
    exact s4 j z1 z2
  · rw [o 178 (by omega)]; exact p1
  · intro j z1 z2
    rw [h 179 _ (by unfold brel; omega), h 180 _ (by unfold brel; omega)]
    exact p3 j z1 z2
  · rw [o 184 (by omega)]; exact e1
  · rw [o 185 (by omega)]; exact e2
  · rw [h 186 _ (by unfold brel; omega)]; exact e3
  · rw [h 186 _ (by unfold brel; omega)]; exact e4
