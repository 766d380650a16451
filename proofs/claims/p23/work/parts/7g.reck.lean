/-! printed by wip/p32/libl.py: sums reckoned -/
def en_within (a : Int) (st : zS) (r : Int) : Prop := (-1000000 ≤ r ∧ r ≤ 1000000)
def ct_within (a : Int) (st : zS) (Q : zQ) : Prop := ∀ (r : Int), en_within a st r → Q (some (.inr (.inl r))) st
theorem ct_within_m {a : Int} {st : zS} {Q Q' : zQ} (hQ : ∀ r st', Q r st' → Q' r st') (h : ct_within a st Q) : ct_within a st Q' := fun x0 x1 => hQ _ _ (h x0 x1)
def k_within : zCall := fun _ as st Q => match as with
  | [.inr (.inl a)] => ct_within a st Q
  | _ => False
theorem k_within_mon : zmon k_within := by
  intro nu as st Q Q' hQ h
  unfold k_within at h ⊢
  split at h
  · exact ct_within_m hQ h
  · exact h.elim
def en_floor (a : Int) (b : Int) (st : zS) (r : Int) : Prop := (-9223372036854775808 ≤ r ∧ r ≤ 9223372036854775807)
def ct_floor (a : Int) (b : Int) (st : zS) (Q : zQ) : Prop := ∀ (r : Int), en_floor a b st r → Q (some (.inr (.inl r))) st
theorem ct_floor_m {a b : Int} {st : zS} {Q Q' : zQ} (hQ : ∀ r st', Q r st' → Q' r st') (h : ct_floor a b st Q) : ct_floor a b st Q' := fun x0 x1 => hQ _ _ (h x0 x1)
def k_floor : zCall := fun _ as st Q => match as with
  | [.inr (.inl a), .inr (.inl b)] => ct_floor a b st Q
  | _ => False
theorem k_floor_mon : zmon k_floor := by
  intro nu as st Q Q' hQ h
  unfold k_floor at h ⊢
  split at h
  · exact ct_floor_m hQ h
  · exact h.elim
def rq_two (k : Int) (a : Int) (b : Int) (st : zS) : Prop := (-9223372036854775808 ≤ a ∧ a ≤ 9223372036854775807 ∧ -9223372036854775808 ≤ b ∧ b ≤ 9223372036854775807)
def en_two (k : Int) (a : Int) (b : Int) (st : zS) (r : Int) : Prop := (-9223372036854775808 ≤ r ∧ r ≤ 9223372036854775807)
def ct_two (k : Int) (a : Int) (b : Int) (st : zS) (Q : zQ) : Prop := rq_two k a b st ∧ (∀ (r : Int), en_two k a b st r → Q (some (.inr (.inl r))) st)
theorem ct_two_m {k a b : Int} {st : zS} {Q Q' : zQ} (hQ : ∀ r st', Q r st' → Q' r st') (h : ct_two k a b st Q) : ct_two k a b st Q' := ⟨h.1, fun x0 x1 => hQ _ _ (h.2 x0 x1)⟩
def k_two : zCall := fun _ as st Q => match as with
  | [.inl k, .inr (.inl a), .inr (.inl b)] => ct_two k a b st Q
  | _ => False
theorem k_two_mon : zmon k_two := by
  intro nu as st Q Q' hQ h
  unfold k_two at h ⊢
  split at h
  · exact ct_two_m hQ h
  · exact h.elim
def m_reckons : aM := ([], [207])
def rq_reckons (w : Int) (st : zS) : Prop := gInv zgt st ∧ (jC st) ∧ (0 ≤ w ∧ w ≤ 1) ∧ (¬ st 186 (2 * st 170 13 + w : Int).toNat = -1)
def en_reckons (w : Int) (st : zS) (r : Int) (s1 : zS) : Prop := gInv zgt s1 ∧ aFr m_reckons st s1 ∧ (-9223372036854775808 ≤ r ∧ r ≤ 9223372036854775807)
def ct_reckons (w : Int) (st : zS) (Q : zQ) : Prop := rq_reckons w st ∧ (∀ (r : Int) (s1 : zS), en_reckons w st r s1 → Q (some (.inr (.inl r))) s1)
theorem ct_reckons_m {w : Int} {st : zS} {Q Q' : zQ} (hQ : ∀ r st', Q r st' → Q' r st') (h : ct_reckons w st Q) : ct_reckons w st Q' := ⟨h.1, fun x0 x1 x2 => hQ _ _ (h.2 x0 x1 x2)⟩
def k_reckons : zCall := fun _ as st Q => match as with
  | [.inr (.inr (.inl z_o)), .inl w] => z_o = 170 ∧ ct_reckons w st Q
  | _ => False
theorem k_reckons_mon : zmon k_reckons := by
  intro nu as st Q Q' hQ h
  unfold k_reckons at h ⊢
  split at h
  · exact ⟨h.1, ct_reckons_m hQ h.2⟩
  · exact h.elim
section R7g
variable {cl : Nat → zCall}
set_option maxHeartbeats 40000000 in
set_option maxRecDepth 100000 in
theorem c_within (hTb : aTb zSh rx_tb cl) {D : Nat} (hD : 1 ≤ D) {a : Int} {st : zS} {Q : zQ} (h : ct_within a st Q) : cl D 212 [.inr (.inl a)] st Q := by
  obtain ⟨d, rfl⟩ : ∃ d, D = d + 1 := ⟨D - 1, by omega⟩
  refine hTb d 212 (rx_m212, 2, 0, 0, 5) rfl _ _ _ (Nat.le_of_ble_eq_true rfl) (fun K hcl hsf hsl => ?_)
  have hcm : zmo (zno) (cl d) := zno_m
  have hQ := h
  refine yr1_ok (Rt := Q) (wc := (zno)) (stp := []) hcm hcl [] 34 ?_
  show (∀ (w1 : Int), (a < 1000000 ∧ w1 = -1 ∨ a = 1000000 ∧ w1 = 0 ∨ 1000000 < a ∧ w1 = 1) → ((w1 ≤ (0 : Int) → (∀ (w2 : Int), (a < (-1000000) ∧ w2 = -1 ∨ a = (-1000000) ∧ w2 = 0 ∨ (-1000000) < a ∧ w2 = 1) → (((0 : Int) ≤ w2 → Q (some (.inr (.inl a))) st) ∧ (¬ ((0 : Int) ≤ w2) → Q (some (.inr (.inl (-1000000)))) st)))) ∧ (¬ (w1 ≤ (0 : Int)) → Q (some (.inr (.inl 1000000))) st)))
  intro w1 hw1
  refine ⟨fun h3 => ?_, fun h3 => ?_⟩
  · intro w2 hw2
    refine ⟨fun h4 => ?_, fun h4 => ?_⟩
    · exact hQ _ (show -1000000 ≤ a ∧ a ≤ 1000000 from by omega)
    · exact hQ _ (show -1000000 ≤ ((-1000000) : Int) ∧ ((-1000000) : Int) ≤ 1000000 from by omega)
  · exact hQ _ (show -1000000 ≤ (1000000 : Int) ∧ (1000000 : Int) ≤ 1000000 from by omega)
theorem k_within_m (hTb : aTb zSh rx_tb cl) {D : Nat} (hD : 1 ≤ D) : ∀ as st (Q Q' : zQ), (∀ r st', Q r st' → Q' r st') → k_within 212 as st Q → cl D 212 as st Q' := by
  intro as st Q Q' hQ h
  unfold k_within at h
  split at h
  · exact c_within hTb hD (ct_within_m hQ h)
  · exact h.elim
set_option maxHeartbeats 40000000 in
set_option maxRecDepth 100000 in
theorem c_floor (hTb : aTb zSh rx_tb cl) {D : Nat} (hD : 1 ≤ D) {a b : Int} {st : zS} {Q : zQ} (h : ct_floor a b st Q) : cl D 213 [.inr (.inl a), .inr (.inl b)] st Q := by
  obtain ⟨d, rfl⟩ : ∃ d, D = d + 1 := ⟨D - 1, by omega⟩
  refine hTb d 213 (rx_m213, 6, 0, 0, 5) rfl _ _ _ (Nat.le_of_ble_eq_true rfl) (fun K hcl hsf hsl => ?_)
  have hcm : zmo (zno) (cl d) := zno_m
  have hQ := h
  refine yr1_ok (Rt := Q) (wc := (zno)) (stp := []) hcm hcl [49] 57 ?_
  show (∀ (w1 : Int), (b < 0 ∧ w1 = -1 ∨ b = 0 ∧ w1 = 0 ∨ 0 < b ∧ w1 = 1) → ((¬ w1 = (0 : Int) → ((¬ b = 0) ∧ ((¬ b = 0) ∧ (∀ (w2 : Int), (zx (Int.tmod a b) < 0 ∧ w2 = -1 ∨ zx (Int.tmod a b) = 0 ∧ w2 = 0 ∨ 0 < zx (Int.tmod a b) ∧ w2 = 1) → ((w2 = (0 : Int) → Q (some (.inr (.inl (zx (Int.tdiv a b))))) st) ∧ (¬ (w2 = (0 : Int)) → (∀ (w3 : Int), (a < 0 ∧ w3 = -1 ∨ a = 0 ∧ w3 = 0 ∨ 0 < a ∧ w3 = 1) → (((0 : Int) ≤ w3 → (∀ (w4 : Int), (b < 0 ∧ w4 = -1 ∨ b = 0 ∧ w4 = 0 ∨ 0 < b ∧ w4 = 1) → (((0 : Int) ≤ w4 → (((0 : Int) = (0 : Int) → Q (some (.inr (.inl (zx (Int.tdiv a b))))) st) ∧ (¬ ((0 : Int) = (0 : Int)) → _))) ∧ (¬ ((0 : Int) ≤ w4) → (((0 : Int) = (1 : Int) → _) ∧ (¬ ((0 : Int) = (1 : Int)) → Q (some (.inr (.inl (zx ((zx (Int.tdiv a b)) - 1))))) st)))))) ∧ (¬ ((0 : Int) ≤ w3) → (∀ (w5 : Int), (b < 0 ∧ w5 = -1 ∨ b = 0 ∧ w5 = 0 ∨ 0 < b ∧ w5 = 1) → (((0 : Int) ≤ w5 → (((1 : Int) = (0 : Int) → _) ∧ (¬ ((1 : Int) = (0 : Int)) → Q (some (.inr (.inl (zx ((zx (Int.tdiv a b)) - 1))))) st))) ∧ (¬ ((0 : Int) ≤ w5) → (((1 : Int) = (1 : Int) → Q (some (.inr (.inl (zx (Int.tdiv a b))))) st) ∧ (¬ ((1 : Int) = (1 : Int)) → _)))))))))))))) ∧ (¬ (¬ w1 = (0 : Int)) → Q (some (.inr (.inl 0))) st)))
  intro w1 hw1
  refine ⟨fun h6 => ?_, fun h6 => ?_⟩
  · refine ⟨by omega, ?_⟩
    refine ⟨by omega, ?_⟩
    intro w2 hw2
    refine ⟨fun h7 => ?_, fun h7 => ?_⟩
    · exact hQ _ (show -9223372036854775808 ≤ (zx (Int.tdiv a b)) ∧ (zx (Int.tdiv a b)) ≤ 9223372036854775807 from zx_ok _)
    · intro w3 hw3
      refine ⟨fun h8 => ?_, fun h8 => ?_⟩
      · intro w4 hw4
        refine ⟨fun h9 => ?_, fun h9 => ?_⟩
        · refine ⟨fun h10 => ?_, fun h10 => absurd (by decide) h10⟩
          exact hQ _ (show -9223372036854775808 ≤ (zx (Int.tdiv a b)) ∧ (zx (Int.tdiv a b)) ≤ 9223372036854775807 from zx_ok _)
        · refine ⟨fun h11 => absurd h11 (by decide), fun h11 => ?_⟩
          exact hQ _ (show -9223372036854775808 ≤ (zx ((zx (Int.tdiv a b)) - 1)) ∧ (zx ((zx (Int.tdiv a b)) - 1)) ≤ 9223372036854775807 from zx_ok _)
      · intro w5 hw5
        refine ⟨fun h12 => ?_, fun h12 => ?_⟩
        · refine ⟨fun h13 => absurd h13 (by decide), fun h13 => ?_⟩
          exact hQ _ (show -9223372036854775808 ≤ (zx ((zx (Int.tdiv a b)) - 1)) ∧ (zx ((zx (Int.tdiv a b)) - 1)) ≤ 9223372036854775807 from zx_ok _)
        · refine ⟨fun h14 => ?_, fun h14 => absurd (by decide) h14⟩
          exact hQ _ (show -9223372036854775808 ≤ (zx (Int.tdiv a b)) ∧ (zx (Int.tdiv a b)) ≤ 9223372036854775807 from zx_ok _)
  · exact hQ _ (show -9223372036854775808 ≤ (0 : Int) ∧ (0 : Int) ≤ 9223372036854775807 from by omega)
theorem k_floor_m (hTb : aTb zSh rx_tb cl) {D : Nat} (hD : 1 ≤ D) : ∀ as st (Q Q' : zQ), (∀ r st', Q r st' → Q' r st') → k_floor 213 as st Q → cl D 213 as st Q' := by
  intro as st Q Q' hQ h
  unfold k_floor at h
  split at h
  · exact c_floor hTb hD (ct_floor_m hQ h)
  · exact h.elim
set_option maxHeartbeats 40000000 in
set_option maxRecDepth 100000 in
theorem c_two (hTb : aTb zSh rx_tb cl) {D : Nat} (hD : 2 ≤ D) {k a b : Int} {st : zS} {Q : zQ} (h : ct_two k a b st Q) : cl D 214 [.inl k, .inr (.inl a), .inr (.inl b)] st Q := by
  obtain ⟨d, rfl⟩ : ∃ d, D = d + 1 := ⟨D - 1, by omega⟩
  refine hTb d 214 (rx_m214, 5, 0, 0, 5) rfl _ _ _ (Nat.le_of_ble_eq_true rfl) (fun K hcl hsf hsl => ?_)
  have hcm : zmo (wcL [(212, k_within), (213, k_floor)]) (cl d) := (wcL_m (wm_cons (k_within_m hTb (by omega)) (wm_cons (k_floor_m hTb (by omega)) wm_nil)))
  obtain ⟨hR, hQ⟩ := h
  have hr0 := hR
  change -9223372036854775808 ≤ a ∧ a ≤ 9223372036854775807 ∧ -9223372036854775808 ≤ b ∧ b ≤ 9223372036854775807 at hr0
  refine yr1_ok (Rt := Q) (wc := (wcL [(212, k_within), (213, k_floor)])) (stp := []) hcm hcl [62, 69, 76, 107, 108] 105 ?_
  show ((k < 31 → Q (some (.inr (.inl (ze (Nat.lor (zl a) (zl b)))))) st) ∧ (41 < k → Q (some (.inr (.inl (ze (Nat.lor (zl a) (zl b)))))) st) ∧ (k = 31 → (∀ (r1 : Int), en_within (zx (a + b)) st r1 → Q (some (.inr (.inl r1))) st)) ∧ (k = 32 → (∀ (r2 : Int), en_within (zx (a - b)) st r2 → Q (some (.inr (.inl r2))) st)) ∧ (k = 33 → (∀ (r3 : Int), en_within (zx (a * b)) st r3 → Q (some (.inr (.inl r3))) st)) ∧ (k = 34 → (∀ (r4 : Int), en_floor a b st r4 → (∀ (r5 : Int), en_within r4 st r5 → Q (some (.inr (.inl r5))) st))) ∧ (k = 35 → (∀ (w6 : Int), (b < 0 ∧ w6 = -1 ∨ b = 0 ∧ w6 = 0 ∨ 0 < b ∧ w6 = 1) → ((¬ w6 = (0 : Int) → (∀ (r7 : Int), en_floor a b st r7 → (∀ (r8 : Int), en_within (zx (a - (zx (b * r7)))) st r8 → Q (some (.inr (.inl r8))) st))) ∧ (¬ (¬ w6 = (0 : Int)) → Q (some (.inr (.inl 0))) st)))) ∧ (k = 36 → (∀ (w9 : Int), (a < b ∧ w9 = -1 ∨ a = b ∧ w9 = 0 ∨ b < a ∧ w9 = 1) → (((0 : Int) ≤ w9 → Q (some (.inr (.inl b))) st) ∧ (¬ ((0 : Int) ≤ w9) → Q (some (.inr (.inl a))) st)))) ∧ (k = 37 → (∀ (w10 : Int), (a < b ∧ w10 = -1 ∨ a = b ∧ w10 = 0 ∨ b < a ∧ w10 = 1) → ((w10 ≤ (0 : Int) → Q (some (.inr (.inl b))) st) ∧ (¬ (w10 ≤ (0 : Int)) → Q (some (.inr (.inl a))) st)))) ∧ (k = 38 → (∀ (w11 : Int), (a < b ∧ w11 = -1 ∨ a = b ∧ w11 = 0 ∨ b < a ∧ w11 = 1) → (((0 : Int) ≤ w11 → Q (some (.inr (.inl 0))) st) ∧ (¬ ((0 : Int) ≤ w11) → Q (some (.inr (.inl 1))) st)))) ∧ (k = 39 → (∀ (w12 : Int), (a < b ∧ w12 = -1 ∨ a = b ∧ w12 = 0 ∨ b < a ∧ w12 = 1) → ((w12 ≤ (0 : Int) → Q (some (.inr (.inl 0))) st) ∧ (¬ (w12 ≤ (0 : Int)) → Q (some (.inr (.inl 1))) st)))) ∧ (k = 40 → (∀ (w13 : Int), (a < b ∧ w13 = -1 ∨ a = b ∧ w13 = 0 ∨ b < a ∧ w13 = 1) → ((¬ w13 = (0 : Int) → Q (some (.inr (.inl 0))) st) ∧ (¬ (¬ w13 = (0 : Int)) → Q (some (.inr (.inl 1))) st)))) ∧ (k = 41 → Q (some (.inr (.inl (ze (Nat.land (zl a) (zl b)))))) st) ∧ True)
  refine ⟨fun h14 => ?_, fun h14 => ?_, fun h14 => ?_, fun h14 => ?_, fun h14 => ?_, fun h14 => ?_, fun h14 => ?_, fun h14 => ?_, fun h14 => ?_, fun h14 => ?_, fun h14 => ?_, fun h14 => ?_, fun h14 => ?_, True.intro⟩
  · exact hQ _ (show -9223372036854775808 ≤ (ze (Nat.lor (zl a) (zl b))) ∧ (ze (Nat.lor (zl a) (zl b))) ≤ 9223372036854775807 from zlor_ok _ _)
  · exact hQ _ (show -9223372036854775808 ≤ (ze (Nat.lor (zl a) (zl b))) ∧ (ze (Nat.lor (zl a) (zl b))) ≤ 9223372036854775807 from zlor_ok _ _)
  · refine fun r1 q1 => ?_
    have e1 := q1
    change -1000000 ≤ r1 ∧ r1 ≤ 1000000 at e1
    exact hQ _ (show -9223372036854775808 ≤ r1 ∧ r1 ≤ 9223372036854775807 from by omega)
  · refine fun r2 q2 => ?_
    have e2 := q2
    change -1000000 ≤ r2 ∧ r2 ≤ 1000000 at e2
    exact hQ _ (show -9223372036854775808 ≤ r2 ∧ r2 ≤ 9223372036854775807 from by omega)
  · refine fun r3 q3 => ?_
    have e3 := q3
    change -1000000 ≤ r3 ∧ r3 ≤ 1000000 at e3
    exact hQ _ (show -9223372036854775808 ≤ r3 ∧ r3 ≤ 9223372036854775807 from by omega)
  · refine fun r4 q4 => ?_
    have e4 := q4
    change -9223372036854775808 ≤ r4 ∧ r4 ≤ 9223372036854775807 at e4
    refine fun r5 q5 => ?_
    have e5 := q5
    change -1000000 ≤ r5 ∧ r5 ≤ 1000000 at e5
    exact hQ _ (show -9223372036854775808 ≤ r5 ∧ r5 ≤ 9223372036854775807 from by omega)
  · intro w6 hw6
    refine ⟨fun h15 => ?_, fun h15 => ?_⟩
    · refine fun r7 q7 => ?_
      have e7 := q7
      change -9223372036854775808 ≤ r7 ∧ r7 ≤ 9223372036854775807 at e7
      refine fun r8 q8 => ?_
      have e8 := q8
      change -1000000 ≤ r8 ∧ r8 ≤ 1000000 at e8
      exact hQ _ (show -9223372036854775808 ≤ r8 ∧ r8 ≤ 9223372036854775807 from by omega)
    · exact hQ _ (show -9223372036854775808 ≤ (0 : Int) ∧ (0 : Int) ≤ 9223372036854775807 from by omega)
  · intro w9 hw9
    refine ⟨fun h16 => ?_, fun h16 => ?_⟩
    · exact hQ _ (show -9223372036854775808 ≤ b ∧ b ≤ 9223372036854775807 from by omega)
    · exact hQ _ (show -9223372036854775808 ≤ a ∧ a ≤ 9223372036854775807 from by omega)
  · intro w10 hw10
    refine ⟨fun h17 => ?_, fun h17 => ?_⟩
    · exact hQ _ (show -9223372036854775808 ≤ b ∧ b ≤ 9223372036854775807 from by omega)
    · exact hQ _ (show -9223372036854775808 ≤ a ∧ a ≤ 9223372036854775807 from by omega)
  · intro w11 hw11
    refine ⟨fun h18 => ?_, fun h18 => ?_⟩
    · exact hQ _ (show -9223372036854775808 ≤ (0 : Int) ∧ (0 : Int) ≤ 9223372036854775807 from by omega)
    · exact hQ _ (show -9223372036854775808 ≤ (1 : Int) ∧ (1 : Int) ≤ 9223372036854775807 from by omega)
  · intro w12 hw12
    refine ⟨fun h19 => ?_, fun h19 => ?_⟩
    · exact hQ _ (show -9223372036854775808 ≤ (0 : Int) ∧ (0 : Int) ≤ 9223372036854775807 from by omega)
    · exact hQ _ (show -9223372036854775808 ≤ (1 : Int) ∧ (1 : Int) ≤ 9223372036854775807 from by omega)
  · intro w13 hw13
    refine ⟨fun h20 => ?_, fun h20 => ?_⟩
    · exact hQ _ (show -9223372036854775808 ≤ (0 : Int) ∧ (0 : Int) ≤ 9223372036854775807 from by omega)
    · exact hQ _ (show -9223372036854775808 ≤ (1 : Int) ∧ (1 : Int) ≤ 9223372036854775807 from by omega)
  · exact hQ _ (show -9223372036854775808 ≤ (ze (Nat.land (zl a) (zl b))) ∧ (ze (Nat.land (zl a) (zl b))) ≤ 9223372036854775807 from zland_ok _ _)
theorem k_two_m (hTb : aTb zSh rx_tb cl) {D : Nat} (hD : 2 ≤ D) : ∀ as st (Q Q' : zQ), (∀ r st', Q r st' → Q' r st') → k_two 214 as st Q → cl D 214 as st Q' := by
  intro as st Q Q' hQ h
  unfold k_two at h
  split at h
  · exact c_two hTb hD (ct_two_m hQ h)
  · exact h.elim
set_option maxHeartbeats 40000000 in
set_option maxRecDepth 100000 in
theorem c_reckons (hTb : aTb zSh rx_tb cl) {D : Nat} (hD : 3 ≤ D) {w : Int} {st : zS} {Q : zQ} (h : ct_reckons w st Q) : cl D 215 [.inr (.inr (.inl 170)), .inl w] st Q := by
  obtain ⟨d, rfl⟩ : ∃ d, D = d + 1 := ⟨D - 1, by omega⟩
  refine hTb d 215 (rx_m215, 5, 0, 0, 5) rfl _ _ _ (Nat.le_of_ble_eq_true rfl) (fun K hcl hsf hsl => ?_)
  have hcm : zmo (wcL [(214, k_two)]) (cl d) := (wcL_m (wm_cons (k_two_m hTb (by omega)) wm_nil))
  obtain ⟨hR, hQ⟩ := h
  obtain ⟨hG, jc, ww, tt⟩ := hR
  change jC st at jc
  change 0 ≤ w ∧ w ≤ 1 at ww
  change ¬ st 186 (2 * st 170 13 + w : Int).toNat = -1 at tt
  have lp : ∀ (u : Nat) (c : Int) (n : Int) (s_lp : zS), gInv zgt s_lp ∧ aFr m_reckons st s_lp ∧ (rkb st w ≤ c ∧ n = rkd st w c ∧ 0 ≤ n ∧ n ≤ 401) → (1600 * st 170 13 + st 187 (2 * st 170 13 + w : Int).toNat - c).toNat = u → K (rx_find rx_m215 25) [(3, .inl c), (2, .inl n), (0, .inr (.inr (.inl 170))), (1, .inl w)] [] s_lp := by
    intro u
    induction u using Nat.strongRecOn with
    | _ u ih =>
      intro c n s_lp hi hu
      obtain ⟨gI_lp, fI_lp, i_lp⟩ := hi
      have zs := rkd_s (st := st) (w := w) (c := c) i_lp.1
      have zg := fun z => rkd_g (st := st) (w := w) (c := c) jc ww.1 ww.2 tt i_lp.1 z
      have zb : rkb st w = 1600 * st 170 13 + st 186 (2 * st 170 13 + w : Int).toNat := rfl
      have g1 := g_bank hG
      have g2 := g_sumBehind hG (2 * st 170 13 + w : Int).toNat
      have e3 : s_lp 170 13 = st 170 13 := fI_lp 170 13 rfl rfl
      have g5 := g_sumFrom hG (2 * st 170 13 + w : Int).toNat
      have e4 : s_lp 186 (2 * st 170 13 + w : Int).toNat = st 186 (2 * st 170 13 + w : Int).toNat := fI_lp 186 (2 * st 170 13 + w : Int).toNat rfl rfl
      have e6 : s_lp 187 (2 * st 170 13 + w : Int).toNat = st 187 (2 * st 170 13 + w : Int).toNat := fI_lp 187 (2 * st 170 13 + w : Int).toNat rfl rfl
      refine yr1_ok (Rt := Q) (wc := (wcL [(214, k_two)])) (stp := [25]) hcm hcl [135] 160 ?_
      show ((-2147483648 ≤ (1600 : Int) * (s_lp 170 13) ∧ (1600 : Int) * (s_lp 170 13) ≤ 2147483647) ∧ ((-2147483648 ≤ (2 : Int) * (s_lp 170 13) ∧ (2 : Int) * (s_lp 170 13) ≤ 2147483647) ∧ ((-2147483648 ≤ ((2 : Int) * (s_lp 170 13)) + w ∧ ((2 : Int) * (s_lp 170 13)) + w ≤ 2147483647) ∧ ((0 ≤ ((2 : Int) * (s_lp 170 13)) + w ∧ ((2 : Int) * (s_lp 170 13)) + w < 4) ∧ ((-2147483648 ≤ ((1600 : Int) * (s_lp 170 13)) + (s_lp 187 (((2 : Int) * (s_lp 170 13)) + w : Int).toNat) ∧ ((1600 : Int) * (s_lp 170 13)) + (s_lp 187 (((2 : Int) * (s_lp 170 13)) + w : Int).toNat) ≤ 2147483647) ∧ ((((1600 : Int) * (s_lp 170 13)) + (s_lp 187 (((2 : Int) * (s_lp 170 13)) + w : Int).toNat) ≤ c → ((0 ≤ (0 : Int) ∧ (0 : Int) < 500) ∧ Q (some (.inr (.inl (s_lp 207 (0 : Int).toNat)))) s_lp)) ∧ (¬ (((1600 : Int) * (s_lp 170 13)) + (s_lp 187 (((2 : Int) * (s_lp 170 13)) + w : Int).toNat) ≤ c) → ((0 ≤ c ∧ c < 3200) ∧ (((30 : Int) < s_lp 188 (c : Int).toNat → ((¬ s_lp 188 (c : Int).toNat = (43 : Int) → ((¬ s_lp 188 (c : Int).toNat = (44 : Int) → ((-2147483648 ≤ n + (-1) ∧ n + (-1) ≤ 2147483647) ∧ ((-2147483648 ≤ (n + (-1)) - 1 ∧ (n + (-1)) - 1 ≤ 2147483647) ∧ ((-2147483648 ≤ (n + (-1)) - 1 ∧ (n + (-1)) - 1 ≤ 2147483647) ∧ ((0 ≤ (n + (-1)) - 1 ∧ (n + (-1)) - 1 < 500) ∧ ((0 ≤ n + (-1) ∧ n + (-1) < 500) ∧ (rq_two (s_lp 188 (c : Int).toNat) (s_lp 207 ((n + (-1)) - 1 : Int).toNat) (s_lp 207 (n + (-1) : Int).toNat) s_lp ∧ (∀ (r7 : Int), en_two (s_lp 188 (c : Int).toNat) (s_lp 207 ((n + (-1)) - 1 : Int).toNat) (s_lp 207 (n + (-1) : Int).toNat) s_lp r7 → ((0 ≤ (n + (-1)) - 1 ∧ (n + (-1)) - 1 < 500) ∧ ((-2147483648 ≤ c + 1 ∧ c + 1 ≤ 2147483647) ∧ K (rx_find rx_m215 25) [(3, .inl (c + 1)), (2, .inl (n + (-1))), (4, .inl (s_lp 188 (c : Int).toNat)), (0, .inr (.inr (.inl 170))), (1, .inl w)] [] (zup s_lp 207 ((n + (-1)) - 1 : Int).toNat r7))))))))))) ∧ (¬ (¬ s_lp 188 (c : Int).toNat = (44 : Int)) → ((-2147483648 ≤ n + (-2) ∧ n + (-2) ≤ 2147483647) ∧ ((-2147483648 ≤ (n + (-2)) - 1 ∧ (n + (-2)) - 1 ≤ 2147483647) ∧ ((-2147483648 ≤ (n + (-2)) - 1 ∧ (n + (-2)) - 1 ≤ 2147483647) ∧ ((0 ≤ (n + (-2)) - 1 ∧ (n + (-2)) - 1 < 500) ∧ (∀ (w8 : Int), (s_lp 207 ((n + (-2)) - 1 : Int).toNat < 1 ∧ w8 = -1 ∨ s_lp 207 ((n + (-2)) - 1 : Int).toNat = 1 ∧ w8 = 0 ∨ 1 < s_lp 207 ((n + (-2)) - 1 : Int).toNat ∧ w8 = 1) → ((¬ w8 = (0 : Int) → ((-2147483648 ≤ (n + (-2)) + 1 ∧ (n + (-2)) + 1 ≤ 2147483647) ∧ ((0 ≤ (n + (-2)) + 1 ∧ (n + (-2)) + 1 < 500) ∧ ((0 ≤ (n + (-2)) - 1 ∧ (n + (-2)) - 1 < 500) ∧ ((-2147483648 ≤ c + 1 ∧ c + 1 ≤ 2147483647) ∧ K (rx_find rx_m215 25) [(3, .inl (c + 1)), (2, .inl (n + (-2))), (4, .inl (s_lp 188 (c : Int).toNat)), (0, .inr (.inr (.inl 170))), (1, .inl w)] [] (zup s_lp 207 ((n + (-2)) - 1 : Int).toNat (s_lp 207 ((n + (-2)) + 1 : Int).toNat))))))) ∧ (¬ (¬ w8 = (0 : Int)) → ((0 ≤ n + (-2) ∧ n + (-2) < 500) ∧ ((0 ≤ (n + (-2)) - 1 ∧ (n + (-2)) - 1 < 500) ∧ ((-2147483648 ≤ c + 1 ∧ c + 1 ≤ 2147483647) ∧ K (rx_find rx_m215 25) [(3, .inl (c + 1)), (2, .inl (n + (-2))), (4, .inl (s_lp 188 (c : Int).toNat)), (0, .inr (.inr (.inl 170))), (1, .inl w)] [] (zup s_lp 207 ((n + (-2)) - 1 : Int).toNat (s_lp 207 (n + (-2) : Int).toNat))))))))))))))) ∧ (¬ (¬ s_lp 188 (c : Int).toNat = (43 : Int)) → ((-2147483648 ≤ n - 1 ∧ n - 1 ≤ 2147483647) ∧ ((-2147483648 ≤ n - 1 ∧ n - 1 ≤ 2147483647) ∧ ((0 ≤ n - 1 ∧ n - 1 < 500) ∧ ((0 ≤ n - 1 ∧ n - 1 < 500) ∧ ((-2147483648 ≤ c + 1 ∧ c + 1 ≤ 2147483647) ∧ K (rx_find rx_m215 25) [(3, .inl (c + 1)), (4, .inl (s_lp 188 (c : Int).toNat)), (2, .inl n), (0, .inr (.inr (.inl 170))), (1, .inl w)] [] (zup s_lp 207 (n - 1 : Int).toNat (zx ((1 : Int) - (s_lp 207 (n - 1 : Int).toNat)))))))))))) ∧ (¬ ((30 : Int) < s_lp 188 (c : Int).toNat) → ((¬ s_lp 188 (c : Int).toNat = (0 : Int) → ((¬ s_lp 188 (c : Int).toNat = (30 : Int) → ((0 ≤ s_lp 188 (c : Int).toNat ∧ s_lp 188 (c : Int).toNat < 12) ∧ ((0 ≤ n ∧ n < 500) ∧ ((-2147483648 ≤ n + 1 ∧ n + 1 ≤ 2147483647) ∧ ((-2147483648 ≤ c + 1 ∧ c + 1 ≤ 2147483647) ∧ K (rx_find rx_m215 25) [(3, .inl (c + 1)), (2, .inl (n + 1)), (4, .inl (s_lp 188 (c : Int).toNat)), (0, .inr (.inr (.inl 170))), (1, .inl w)] [] (zup s_lp 207 (n : Int).toNat (s_lp 208 (s_lp 188 (c : Int).toNat : Int).toNat))))))) ∧ (¬ (¬ s_lp 188 (c : Int).toNat = (30 : Int)) → ((0 ≤ n ∧ n < 500) ∧ ((-2147483648 ≤ n + 1 ∧ n + 1 ≤ 2147483647) ∧ ((-2147483648 ≤ c + 1 ∧ c + 1 ≤ 2147483647) ∧ K (rx_find rx_m215 25) [(3, .inl (c + 1)), (2, .inl (n + 1)), (4, .inl (s_lp 188 (c : Int).toNat)), (0, .inr (.inr (.inl 170))), (1, .inl w)] [] (zup s_lp 207 (n : Int).toNat 1))))))) ∧ (¬ (¬ s_lp 188 (c : Int).toNat = (0 : Int)) → ((0 ≤ c ∧ c < 3200) ∧ ((0 ≤ n ∧ n < 500) ∧ ((-2147483648 ≤ n + 1 ∧ n + 1 ≤ 2147483647) ∧ ((-2147483648 ≤ c + 1 ∧ c + 1 ≤ 2147483647) ∧ K (rx_find rx_m215 25) [(3, .inl (c + 1)), (2, .inl (n + 1)), (4, .inl (s_lp 188 (c : Int).toNat)), (0, .inr (.inr (.inl 170))), (1, .inl w)] [] (zup s_lp 207 (n : Int).toNat (s_lp 189 (c : Int).toNat))))))))))))))))))
      refine ⟨by omega, ?_⟩
      refine ⟨by omega, ?_⟩
      refine ⟨by omega, ?_⟩
      have g10 := g_sumBehind hG (((2 : Int) * (st 170 13)) + w : Int).toNat
      have e9 : s_lp 187 (((2 : Int) * (s_lp 170 13)) + w : Int).toNat = st 187 (((2 : Int) * (st 170 13)) + w : Int).toNat := (fI_lp 187 (((2 : Int) * (s_lp 170 13)) + w : Int).toNat rfl rfl).trans (by rw [e3] <;> rfl)
      refine ⟨by omega, ?_⟩
      refine ⟨by omega, ?_⟩
      refine ⟨fun h11 => ?_, fun h11 => ?_⟩
      · have g12 := g_stack gI_lp (0 : Int).toNat
        refine ⟨by omega, ?_⟩
        exact hQ _ _ ⟨gI_lp, fI_lp, (show -9223372036854775808 ≤ (s_lp 207 (0 : Int).toNat) ∧ (s_lp 207 (0 : Int).toNat) ≤ 9223372036854775807 from by omega)⟩
      · have g14 := g_codeSort hG (c : Int).toNat
        have e13 : s_lp 188 (c : Int).toNat = st 188 (c : Int).toNat := fI_lp 188 (c : Int).toNat rfl rfl
        refine ⟨by omega, ?_⟩
        refine ⟨fun h15 => ?_, fun h15 => ?_⟩
        · refine ⟨fun h16 => ?_, fun h16 => ?_⟩
          · refine ⟨fun h17 => ?_, fun h17 => ?_⟩
            · refine ⟨by omega, ?_⟩
              refine ⟨by omega, ?_⟩
              refine ⟨by omega, ?_⟩
              have g18 := g_stack gI_lp ((n + (-1)) - 1 : Int).toNat
              refine ⟨by omega, ?_⟩
              have g19 := g_stack gI_lp (n + (-1) : Int).toNat
              refine ⟨by omega, ?_⟩
              refine ⟨(show -9223372036854775808 ≤ (s_lp 207 ((n + (-1)) - 1 : Int).toNat) ∧ (s_lp 207 ((n + (-1)) - 1 : Int).toNat) ≤ 9223372036854775807 ∧ -9223372036854775808 ≤ (s_lp 207 (n + (-1) : Int).toNat) ∧ (s_lp 207 (n + (-1) : Int).toNat) ≤ 9223372036854775807 from by omega), fun r7 q7 => ?_⟩
              have e7 := q7
              change -9223372036854775808 ≤ r7 ∧ r7 ≤ 9223372036854775807 at e7
              refine ⟨by omega, ?_⟩
              refine ⟨by omega, ?_⟩
              exact hsl _ _ _ _ _ (sb_cons (.head _) (sb_cons (.tail _ (.head _)) (sb_cons (.tail _ (.tail _ (.tail _ (.head _)))) (sb_cons (.tail _ (.tail _ (.tail _ (.tail _ (.head _))))) sb_nil)))) (ih _ (show (1600 * st 170 13 + st 187 (2 * st 170 13 + w : Int).toNat - (c + 1) : Int).toNat < u from by omega) (c + 1) (n + (-1)) (zup s_lp 207 ((n + (-1)) - 1 : Int).toNat r7) ⟨(gInv_up gI_lp (p_stack (by omega))), (fr_a fI_lp rfl), (show rkb st w ≤ (c + 1) ∧ (n + (-1)) = rkd st w (c + 1) ∧ 0 ≤ (n + (-1)) ∧ (n + (-1)) ≤ 401 from by omega)⟩ rfl)
            · refine ⟨by omega, ?_⟩
              refine ⟨by omega, ?_⟩
              refine ⟨by omega, ?_⟩
              have g20 := g_stack gI_lp ((n + (-2)) - 1 : Int).toNat
              refine ⟨by omega, ?_⟩
              intro w8 hw8
              refine ⟨fun h21 => ?_, fun h21 => ?_⟩
              · refine ⟨by omega, ?_⟩
                have g22 := g_stack gI_lp ((n + (-2)) + 1 : Int).toNat
                refine ⟨by omega, ?_⟩
                refine ⟨by omega, ?_⟩
                refine ⟨by omega, ?_⟩
                exact hsl _ _ _ _ _ (sb_cons (.head _) (sb_cons (.tail _ (.head _)) (sb_cons (.tail _ (.tail _ (.tail _ (.head _)))) (sb_cons (.tail _ (.tail _ (.tail _ (.tail _ (.head _))))) sb_nil)))) (ih _ (show (1600 * st 170 13 + st 187 (2 * st 170 13 + w : Int).toNat - (c + 1) : Int).toNat < u from by omega) (c + 1) (n + (-2)) (zup s_lp 207 ((n + (-2)) - 1 : Int).toNat (s_lp 207 ((n + (-2)) + 1 : Int).toNat)) ⟨(gInv_up gI_lp (p_stack (by omega))), (fr_a fI_lp rfl), (show rkb st w ≤ (c + 1) ∧ (n + (-2)) = rkd st w (c + 1) ∧ 0 ≤ (n + (-2)) ∧ (n + (-2)) ≤ 401 from by omega)⟩ rfl)
              · have g23 := g_stack gI_lp (n + (-2) : Int).toNat
                refine ⟨by omega, ?_⟩
                refine ⟨by omega, ?_⟩
                refine ⟨by omega, ?_⟩
                exact hsl _ _ _ _ _ (sb_cons (.head _) (sb_cons (.tail _ (.head _)) (sb_cons (.tail _ (.tail _ (.tail _ (.head _)))) (sb_cons (.tail _ (.tail _ (.tail _ (.tail _ (.head _))))) sb_nil)))) (ih _ (show (1600 * st 170 13 + st 187 (2 * st 170 13 + w : Int).toNat - (c + 1) : Int).toNat < u from by omega) (c + 1) (n + (-2)) (zup s_lp 207 ((n + (-2)) - 1 : Int).toNat (s_lp 207 (n + (-2) : Int).toNat)) ⟨(gInv_up gI_lp (p_stack (by omega))), (fr_a fI_lp rfl), (show rkb st w ≤ (c + 1) ∧ (n + (-2)) = rkd st w (c + 1) ∧ 0 ≤ (n + (-2)) ∧ (n + (-2)) ≤ 401 from by omega)⟩ rfl)
          · refine ⟨by omega, ?_⟩
            refine ⟨by omega, ?_⟩
            have g24 := g_stack gI_lp (n - 1 : Int).toNat
            refine ⟨by omega, ?_⟩
            refine ⟨by omega, ?_⟩
            refine ⟨by omega, ?_⟩
            exact hsl _ _ _ _ _ (sb_cons (.head _) (sb_cons (.tail _ (.tail _ (.head _))) (sb_cons (.tail _ (.tail _ (.tail _ (.head _)))) (sb_cons (.tail _ (.tail _ (.tail _ (.tail _ (.head _))))) sb_nil)))) (ih _ (show (1600 * st 170 13 + st 187 (2 * st 170 13 + w : Int).toNat - (c + 1) : Int).toNat < u from by omega) (c + 1) n (zup s_lp 207 (n - 1 : Int).toNat (zx ((1 : Int) - (s_lp 207 (n - 1 : Int).toNat)))) ⟨(gInv_up gI_lp (p_stack (zx_ok _))), (fr_a fI_lp rfl), (show rkb st w ≤ (c + 1) ∧ n = rkd st w (c + 1) ∧ 0 ≤ n ∧ n ≤ 401 from by omega)⟩ rfl)
        · refine ⟨fun h25 => ?_, fun h25 => ?_⟩
          · refine ⟨fun h26 => ?_, fun h26 => ?_⟩
            · have g28 := g_askedOf hG (st 188 (c : Int).toNat : Int).toNat
              have e27 : s_lp 208 (s_lp 188 (c : Int).toNat : Int).toNat = st 208 (st 188 (c : Int).toNat : Int).toNat := (fI_lp 208 (s_lp 188 (c : Int).toNat : Int).toNat rfl rfl).trans (by rw [e13] <;> rfl)
              refine ⟨by omega, ?_⟩
              refine ⟨by omega, ?_⟩
              refine ⟨by omega, ?_⟩
              refine ⟨by omega, ?_⟩
              exact hsl _ _ _ _ _ (sb_cons (.head _) (sb_cons (.tail _ (.head _)) (sb_cons (.tail _ (.tail _ (.tail _ (.head _)))) (sb_cons (.tail _ (.tail _ (.tail _ (.tail _ (.head _))))) sb_nil)))) (ih _ (show (1600 * st 170 13 + st 187 (2 * st 170 13 + w : Int).toNat - (c + 1) : Int).toNat < u from by omega) (c + 1) (n + 1) (zup s_lp 207 (n : Int).toNat (s_lp 208 (s_lp 188 (c : Int).toNat : Int).toNat)) ⟨(gInv_up gI_lp (p_stack (by omega))), (fr_a fI_lp rfl), (show rkb st w ≤ (c + 1) ∧ (n + 1) = rkd st w (c + 1) ∧ 0 ≤ (n + 1) ∧ (n + 1) ≤ 401 from by omega)⟩ rfl)
            · refine ⟨by omega, ?_⟩
              refine ⟨by omega, ?_⟩
              refine ⟨by omega, ?_⟩
              exact hsl _ _ _ _ _ (sb_cons (.head _) (sb_cons (.tail _ (.head _)) (sb_cons (.tail _ (.tail _ (.tail _ (.head _)))) (sb_cons (.tail _ (.tail _ (.tail _ (.tail _ (.head _))))) sb_nil)))) (ih _ (show (1600 * st 170 13 + st 187 (2 * st 170 13 + w : Int).toNat - (c + 1) : Int).toNat < u from by omega) (c + 1) (n + 1) (zup s_lp 207 (n : Int).toNat 1) ⟨(gInv_up gI_lp (p_stack (by omega))), (fr_a fI_lp rfl), (show rkb st w ≤ (c + 1) ∧ (n + 1) = rkd st w (c + 1) ∧ 0 ≤ (n + 1) ∧ (n + 1) ≤ 401 from by omega)⟩ rfl)
          · have g30 := g_codeValue hG (c : Int).toNat
            have e29 : s_lp 189 (c : Int).toNat = st 189 (c : Int).toNat := fI_lp 189 (c : Int).toNat rfl rfl
            refine ⟨by omega, ?_⟩
            refine ⟨by omega, ?_⟩
            refine ⟨by omega, ?_⟩
            refine ⟨by omega, ?_⟩
            exact hsl _ _ _ _ _ (sb_cons (.head _) (sb_cons (.tail _ (.head _)) (sb_cons (.tail _ (.tail _ (.tail _ (.head _)))) (sb_cons (.tail _ (.tail _ (.tail _ (.tail _ (.head _))))) sb_nil)))) (ih _ (show (1600 * st 170 13 + st 187 (2 * st 170 13 + w : Int).toNat - (c + 1) : Int).toNat < u from by omega) (c + 1) (n + 1) (zup s_lp 207 (n : Int).toNat (s_lp 189 (c : Int).toNat)) ⟨(gInv_up gI_lp (p_stack (by omega))), (fr_a fI_lp rfl), (show rkb st w ≤ (c + 1) ∧ (n + 1) = rkd st w (c + 1) ∧ 0 ≤ (n + 1) ∧ (n + 1) ≤ 401 from by omega)⟩ rfl)
  have g31 := g_bank hG
  have g32 := g_sumFrom hG (2 * st 170 13 + w : Int).toNat
  have g33 := g_sumBehind hG (2 * st 170 13 + w : Int).toNat
  refine yr1_ok (Rt := Q) (wc := (wcL [(214, k_two)])) (stp := [25]) hcm hcl [135] 160 ?_
  show ((-2147483648 ≤ (1600 : Int) * (st 170 13) ∧ (1600 : Int) * (st 170 13) ≤ 2147483647) ∧ ((-2147483648 ≤ (2 : Int) * (st 170 13) ∧ (2 : Int) * (st 170 13) ≤ 2147483647) ∧ ((-2147483648 ≤ ((2 : Int) * (st 170 13)) + w ∧ ((2 : Int) * (st 170 13)) + w ≤ 2147483647) ∧ ((0 ≤ ((2 : Int) * (st 170 13)) + w ∧ ((2 : Int) * (st 170 13)) + w < 4) ∧ ((-2147483648 ≤ ((1600 : Int) * (st 170 13)) + (st 186 (((2 : Int) * (st 170 13)) + w : Int).toNat) ∧ ((1600 : Int) * (st 170 13)) + (st 186 (((2 : Int) * (st 170 13)) + w : Int).toNat) ≤ 2147483647) ∧ K (rx_find rx_m215 25) [(3, .inl (((1600 : Int) * (st 170 13)) + (st 186 (((2 : Int) * (st 170 13)) + w : Int).toNat))), (2, .inl 0), (0, .inr (.inr (.inl 170))), (1, .inl w)] [] st)))))
  refine ⟨by omega, ?_⟩
  refine ⟨by omega, ?_⟩
  refine ⟨by omega, ?_⟩
  have g34 := g_sumFrom hG (((2 : Int) * (st 170 13)) + w : Int).toNat
  refine ⟨by omega, ?_⟩
  refine ⟨by omega, ?_⟩
  exact lp _ (((1600 : Int) * (st 170 13)) + (st 186 (((2 : Int) * (st 170 13)) + w : Int).toNat)) 0 st ⟨hG, (fr_rf _ _), (show rkb st w ≤ (((1600 : Int) * (st 170 13)) + (st 186 (((2 : Int) * (st 170 13)) + w : Int).toNat)) ∧ (0 : Int) = rkd st w (((1600 : Int) * (st 170 13)) + (st 186 (((2 : Int) * (st 170 13)) + w : Int).toNat)) ∧ 0 ≤ (0 : Int) ∧ (0 : Int) ≤ 401 from ⟨Int.le_refl _, (rkd_0 st w).symm, by omega, by omega⟩)⟩ rfl
theorem k_reckons_m (hTb : aTb zSh rx_tb cl) {D : Nat} (hD : 3 ≤ D) : ∀ as st (Q Q' : zQ), (∀ r st', Q r st' → Q' r st') → k_reckons 215 as st Q → cl D 215 as st Q' := by
  intro as st Q Q' hQ h
  unfold k_reckons at h
  split at h
  · obtain ⟨rfl, h⟩ := h
    exact c_reckons hTb hD (ct_reckons_m hQ h)
  · exact h.elim
end R7g
