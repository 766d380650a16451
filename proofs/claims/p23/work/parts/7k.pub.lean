/-! printed by wip/p32/libo.py: the rest of the public methods -/
theorem shr8 {m : Int} (h : 0 < m) : (m / zpw ((8 : Int) % 64).toNat).toNat < m.toNat := by
  have e : zpw ((8 : Int) % 64).toNat = 256 := by decide
  rw [e]
  omega
theorem so_q {st : zS} {k p m : Int} {j : Nat} (hk : 0 < k) (h : 0 < zad st (st 203 (30 + k - 1).toNat) p) : 0 < zad (zup (zup st 203 (30 + k).toNat p) 204 j m) ((zup (zup st 203 (30 + k).toNat p) 204 j m) 203 (30 * 1 + k - 1).toNat) ((zup (zup st 203 (30 + k).toNat p) 204 j m) 203 (30 * 1 + k).toNat) := by
  rw [show (30 * 1 + k : Int) = 30 + k by omega]
  show 0 < zad st (up1 (st 203) (30 + k).toNat p (30 + k - 1).toNat) (up1 (st 203) (30 + k).toNat p (30 + k).toNat)
  rw [up1_e, up1_n (st 203) p (show ¬ (30 + k - 1).toNat = (30 + k).toNat by omega)]
  exact h
def rq_letter (so : Int) (wh : Int) (k : Int) (st : zS) : Prop := gInv zgt st ∧ zJ st
def en_letter (so : Int) (wh : Int) (k : Int) (st : zS) (r : Int) (s1 : zS) : Prop := gInv zgt s1 ∧ zJ s1 ∧ s1 170 1 = st 170 1 ∧ zV0 st s1
def ct_letter (so : Int) (wh : Int) (k : Int) (st : zS) (Q : zQ) : Prop := rq_letter so wh k st ∧ (∀ (r : Int) (s1 : zS), en_letter so wh k st r s1 → Q (some (.inl r)) s1)
theorem ct_letter_m {so wh k : Int} {st : zS} {Q Q' : zQ} (hQ : ∀ r st', Q r st' → Q' r st') (h : ct_letter so wh k st Q) : ct_letter so wh k st Q' := ⟨h.1, fun x0 x1 x2 => hQ _ _ (h.2 x0 x1 x2)⟩
def k_letter : zCall := fun _ as st Q => match as with
  | [.inr (.inr (.inl z_o)), .inl so, .inl wh, .inl k] => z_o = 170 ∧ ct_letter so wh k st Q
  | _ => False
theorem k_letter_mon : zmon k_letter := by
  intro nu as st Q Q' hQ h
  unfold k_letter at h ⊢
  split at h
  · exact ⟨h.1, ct_letter_m hQ h.2⟩
  · exact h.elim
def rq_half  (st : zS) : Prop := gInv zgt st ∧ zJ st
def en_half  (st : zS) (r : Int) (s1 : zS) : Prop := gInv zgt s1 ∧ zJ s1 ∧ zV1 st s1 ∧ (s1 170 1 = 0)
def ct_half  (st : zS) (Q : zQ) : Prop := rq_half  st ∧ (∀ (r : Int) (s1 : zS), en_half  st r s1 → Q (some (.inl r)) s1)
theorem ct_half_m {st : zS} {Q Q' : zQ} (hQ : ∀ r st', Q r st' → Q' r st') (h : ct_half  st Q) : ct_half  st Q' := ⟨h.1, fun x0 x1 x2 => hQ _ _ (h.2 x0 x1 x2)⟩
def k_half : zCall := fun _ as st Q => match as with
  | [.inr (.inr (.inl z_o))] => z_o = 170 ∧ ct_half  st Q
  | _ => False
theorem k_half_mon : zmon k_half := by
  intro nu as st Q Q' hQ h
  unfold k_half at h ⊢
  split at h
  · exact ⟨h.1, ct_half_m hQ h.2⟩
  · exact h.elim
def m_writes : aM := ([(170, 77)], [220])
def rq_writes (x : Int) (st : zS) : Prop := gInv zgt st ∧ (st 170 77 ≤ 99)
def en_writes (x : Int) (st : zS) (s1 : zS) : Prop := gInv zgt s1 ∧ aFr m_writes st s1 ∧ (s1 170 77 = st 170 77 + 1)
def ct_writes (x : Int) (st : zS) (Q : zQ) : Prop := rq_writes x st ∧ (∀ (s1 : zS), en_writes x st s1 → Q none s1)
theorem ct_writes_m {x : Int} {st : zS} {Q Q' : zQ} (hQ : ∀ r st', Q r st' → Q' r st') (h : ct_writes x st Q) : ct_writes x st Q' := ⟨h.1, fun x0 x1 => hQ _ _ (h.2 x0 x1)⟩
def k_writes : zCall := fun _ as st Q => match as with
  | [.inr (.inr (.inl z_o)), .inl x] => z_o = 170 ∧ ct_writes x st Q
  | _ => False
theorem k_writes_mon : zmon k_writes := by
  intro nu as st Q Q' hQ h
  unfold k_writes at h ⊢
  split at h
  · exact ⟨h.1, ct_writes_m hQ h.2⟩
  · exact h.elim
def m_image : aM := ([(170, 77)], [220])
def rq_image  (st : zS) : Prop := gInv zgt st ∧ zJ st
def en_image  (st : zS) (r : Int) (s1 : zS) : Prop := gInv zgt s1 ∧ aFr m_image st s1 ∧ zJ s1
def ct_image  (st : zS) (Q : zQ) : Prop := rq_image  st ∧ (∀ (r : Int) (s1 : zS), en_image  st r s1 → Q (some (.inl r)) s1)
theorem ct_image_m {st : zS} {Q Q' : zQ} (hQ : ∀ r st', Q r st' → Q' r st') (h : ct_image  st Q) : ct_image  st Q' := ⟨h.1, fun x0 x1 x2 => hQ _ _ (h.2 x0 x1 x2)⟩
def k_image : zCall := fun _ as st Q => match as with
  | [.inr (.inr (.inl z_o))] => z_o = 170 ∧ ct_image  st Q
  | _ => False
theorem k_image_mon : zmon k_image := by
  intro nu as st Q Q' hQ h
  unfold k_image at h ⊢
  split at h
  · exact ⟨h.1, ct_image_m hQ h.2⟩
  · exact h.elim
def m_stepOn : aM := ([], [203, 204])
def rq_stepOn (k : Int) (f : Int) (st : zS) : Prop := gInv zgt st ∧ (0 ≤ k ∧ k < 30 ∧ 0 ≤ f ∧ f < 1599)
def en_stepOn (k : Int) (f : Int) (st : zS) (r : Int) (s1 : zS) : Prop := gInv zgt s1 ∧ aFr m_stepOn st s1 ∧ ((r = 0 ∨ r = 1)) ∧ (r = 1 → 0 < k → 0 < zad s1 (s1 203 (30 * 1 + k - 1 : Int).toNat) (s1 203 (30 * 1 + k : Int).toNat)) ∧ (∀ i : Nat, ¬ (i : Int) = 30 + k → s1 203 i = st 203 i)
def ct_stepOn (k : Int) (f : Int) (st : zS) (Q : zQ) : Prop := rq_stepOn k f st ∧ (∀ (r : Int) (s1 : zS), en_stepOn k f st r s1 → Q (some (.inl r)) s1)
theorem ct_stepOn_m {k f : Int} {st : zS} {Q Q' : zQ} (hQ : ∀ r st', Q r st' → Q' r st') (h : ct_stepOn k f st Q) : ct_stepOn k f st Q' := ⟨h.1, fun x0 x1 x2 => hQ _ _ (h.2 x0 x1 x2)⟩
def k_stepOn : zCall := fun _ as st Q => match as with
  | [.inr (.inr (.inl z_o)), .inl k, .inl f] => z_o = 170 ∧ ct_stepOn k f st Q
  | _ => False
theorem k_stepOn_mon : zmon k_stepOn := by
  intro nu as st Q Q' hQ h
  unfold k_stepOn at h ⊢
  split at h
  · exact ⟨h.1, ct_stepOn_m hQ h.2⟩
  · exact h.elim
def m_comesOn : aM := ([], [199, 200, 201, 202, 203, 204, 205, 206])
def rq_comesOn (n : Int) (st : zS) : Prop := gInv zgt st ∧ (0 ≤ n ∧ n ≤ 1600)
def en_comesOn (n : Int) (st : zS) (r : Int) (s1 : zS) : Prop := gInv zgt s1 ∧ aFr m_comesOn st s1 ∧ ((r = 0 ∨ r = 1)) ∧ (r = 1 → jgd s1 1) ∧ (∀ i : Nat, ¬ (30 * 1 ≤ (i : Int) ∧ (i : Int) < 30 * 1 + 30) → s1 203 i = st 203 i) ∧ (∀ i : Nat, ¬ (i : Int) = 1 → s1 202 i = st 202 i)
def ct_comesOn (n : Int) (st : zS) (Q : zQ) : Prop := rq_comesOn n st ∧ (∀ (r : Int) (s1 : zS), en_comesOn n st r s1 → Q (some (.inl r)) s1)
theorem ct_comesOn_m {n : Int} {st : zS} {Q Q' : zQ} (hQ : ∀ r st', Q r st' → Q' r st') (h : ct_comesOn n st Q) : ct_comesOn n st Q' := ⟨h.1, fun x0 x1 x2 => hQ _ _ (h.2 x0 x1 x2)⟩
def k_comesOn : zCall := fun _ as st Q => match as with
  | [.inr (.inr (.inl z_o)), .inl n] => z_o = 170 ∧ ct_comesOn n st Q
  | _ => False
theorem k_comesOn_mon : zmon k_comesOn := by
  intro nu as st Q Q' hQ h
  unfold k_comesOn at h ⊢
  split at h
  · exact ⟨h.1, ct_comesOn_m hQ h.2⟩
  · exact h.elim
def rq_on  (st : zS) : Prop := gInv zgt st ∧ zJ st
def en_on  (st : zS) (r : Int) (s1 : zS) : Prop := gInv zgt s1 ∧ zJ s1 ∧ zV0 st s1 ∧ (s1 170 1 = 0)
def ct_on  (st : zS) (Q : zQ) : Prop := rq_on  st ∧ (∀ (r : Int) (s1 : zS), en_on  st r s1 → Q (some (.inl r)) s1)
theorem ct_on_m {st : zS} {Q Q' : zQ} (hQ : ∀ r st', Q r st' → Q' r st') (h : ct_on  st Q) : ct_on  st Q' := ⟨h.1, fun x0 x1 x2 => hQ _ _ (h.2 x0 x1 x2)⟩
def k_on : zCall := fun _ as st Q => match as with
  | [.inr (.inr (.inl z_o))] => z_o = 170 ∧ ct_on  st Q
  | _ => False
theorem k_on_mon : zmon k_on := by
  intro nu as st Q Q' hQ h
  unfold k_on at h ⊢
  split at h
  · exact ⟨h.1, ct_on_m hQ h.2⟩
  · exact h.elim
section R7k
variable {cl : Nat → zCall}
set_option maxHeartbeats 40000000 in
set_option maxRecDepth 100000 in
theorem c_letter (hTb : aTb zSh rx_tb cl) {D : Nat} (hD : 2 ≤ D) {so wh k : Int} {st : zS} {Q : zQ} (h : ct_letter so wh k st Q) : cl D 46 [.inr (.inr (.inl 170)), .inl so, .inl wh, .inl k] st Q := by
  obtain ⟨d, rfl⟩ : ∃ d, D = d + 1 := ⟨D - 1, by omega⟩
  refine hTb d 46 (rx_m46, 9, 0, 0, 1) rfl _ _ _ (Nat.le_of_ble_eq_true rfl) (fun K hcl hsf hsl => ?_)
  have hcm : zmo (wcL [(8, k_is), (55, k_manyOf), (186, k_nameOf)]) (cl d) := (wcL_m (wm_cons (k_is_m hTb (by omega)) (wm_cons (k_manyOf_m hTb (by omega)) (wm_cons (k_nameOf_m hTb (by omega)) wm_nil))))
  obtain ⟨hR, hQ⟩ := h
  obtain ⟨hG, hJ⟩ := hR
  have lp : ∀ (u : Nat) (mo : Int) (n : Int) (nw : Int), (mo).toNat = u → K (rx_find rx_m46 58) [(7, .inr (.inl mo)), (6, .inl n), (4, .inr (.inl nw)), (0, .inr (.inr (.inl 170))), (1, .inl so), (2, .inl wh), (3, .inl k)] [] st := by
    intro u_lp
    induction u_lp using Nat.strongRecOn with
    | _ u_lp ih_lp =>
      intro mo n nw hu_lp
      refine yr1_ok (Rt := Q) (wc := (wcL [(8, k_is), (55, k_manyOf), (186, k_nameOf)])) (stp := [58]) hcm hcl [65, 95, 97, 98, 104, 107, 109] 86 ?_
      show (∀ (w1 : Int), (mo < 0 ∧ w1 = -1 ∨ mo = 0 ∧ w1 = 0 ∨ 0 < mo ∧ w1 = 1) → ((w1 ≤ (0 : Int) → ((k < n → Q (some (.inl (zw ((zw ((zw (ze (Nat.land (zl (nw / zpw ((zw ((8 : Int) * (zw ((zw (n - 1)) - k)))) % 64).toNat)) (zl 255)))) - 97)) + 1)))) st) ∧ (¬ (k < n) → Q (some (.inl 0)) st))) ∧ (¬ (w1 ≤ (0 : Int)) → K (rx_find rx_m46 58) [(7, .inr (.inl (mo / zpw ((8 : Int) % 64).toNat))), (6, .inl (zw (n + 1))), (4, .inr (.inl nw)), (0, .inr (.inr (.inl 170))), (1, .inl so), (2, .inl wh), (3, .inl k)] [] st)))
      intro w1 hw1
      refine ⟨fun h2 => ?_, fun h2 => ?_⟩
      · refine ⟨fun h3 => ?_, fun h3 => ?_⟩
        · exact hQ _ _ ⟨hG, hJ, rfl, (zV0_rf _)⟩
        · exact hQ _ _ ⟨hG, hJ, rfl, (zV0_rf _)⟩
      · exact ih_lp _ (show ((mo / zpw ((8 : Int) % 64).toNat) : Int).toNat < u_lp from by (have z := shr8 (m := mo) (by omega); omega)) (mo / zpw ((8 : Int) % 64).toNat) (zw (n + 1)) nw rfl
  have g4 := g_bank hG
  refine yr1_ok (Rt := Q) (wc := (wcL [(8, k_is), (55, k_manyOf), (186, k_nameOf)])) (stp := [58]) hcm hcl [65, 95, 97, 98, 104, 107, 109] 86 ?_
  show (∀ (r5 : Int), en_is so (0) (1) st r5 → ((r5 = (0 : Int) → Q (some (.inl (-1))) st) ∧ (¬ (r5 = (0 : Int)) → (170 = 170 ∧ (rq_manyOf (st 170 13) so st ∧ (∀ (r6 : Int), en_manyOf (st 170 13) so st r6 → ((-2147483648 ≤ r6 - 1 ∧ r6 - 1 ≤ 2147483647) ∧ (∀ (r7 : Int), en_is wh (0) (r6 - 1) st r7 → ((r7 = (0 : Int) → Q (some (.inl (-1))) st) ∧ (¬ (r7 = (0 : Int)) → (∀ (r8 : Int), en_is k (0) (5) st r8 → ((¬ r8 = (0 : Int) → (170 = 170 ∧ (rq_nameOf (st 170 13) so wh st ∧ (∀ (r9 : Int), K (rx_find rx_m46 58) [(7, .inr (.inl r9)), (6, .inl 0), (4, .inr (.inl r9)), (0, .inr (.inr (.inl 170))), (1, .inl so), (2, .inl wh), (3, .inl k)] [] st)))) ∧ (¬ (¬ r8 = (0 : Int)) → Q (some (.inl (-1))) st)))))))))))))
  refine fun r5 q5 => ?_
  have b5 := q5
  change (r5 = 0 ∨ r5 = 1) ∧ (r5 = 1 ↔ (0) ≤ so ∧ so ≤ (1)) at b5
  refine ⟨fun h10 => ?_, fun h10 => ?_⟩
  · exact hQ _ _ ⟨hG, hJ, rfl, (zV0_rf _)⟩
  · refine ⟨rfl, (show 0 ≤ (st 170 13) ∧ (st 170 13) ≤ 1 from by omega), fun r6 q6 => ?_⟩
    have b6 := q6
    change (so = 0 → r6 = st 172 ((st 170 13) : Int).toNat) ∧ (¬ so = 0 → r6 = st 181 ((st 170 13) : Int).toNat) at b6
    have g11 := g_places hG ((st 170 13) : Int).toNat
    have g12 := g_things hG ((st 170 13) : Int).toNat
    refine ⟨by omega, ?_⟩
    refine fun r7 q7 => ?_
    have b7 := q7
    change (r7 = 0 ∨ r7 = 1) ∧ (r7 = 1 ↔ (0) ≤ wh ∧ wh ≤ (r6 - 1)) at b7
    refine ⟨fun h13 => ?_, fun h13 => ?_⟩
    · exact hQ _ _ ⟨hG, hJ, rfl, (zV0_rf _)⟩
    · refine fun r8 q8 => ?_
      have b8 := q8
      change (r8 = 0 ∨ r8 = 1) ∧ (r8 = 1 ↔ (0) ≤ k ∧ k ≤ (5)) at b8
      refine ⟨fun h14 => ?_, fun h14 => ?_⟩
      · refine ⟨rfl, (show 0 ≤ (st 170 13) ∧ (st 170 13) ≤ 1 ∧ 0 ≤ wh ∧ wh < 8 from by omega), fun r9 => ?_⟩
        exact lp _ r9 0 r9 rfl
      · exact hQ _ _ ⟨hG, hJ, rfl, (zV0_rf _)⟩
theorem k_letter_m (hTb : aTb zSh rx_tb cl) {D : Nat} (hD : 2 ≤ D) : ∀ as st (Q Q' : zQ), (∀ r st', Q r st' → Q' r st') → k_letter 46 as st Q → cl D 46 as st Q' := by
  intro as st Q Q' hQ h
  unfold k_letter at h
  split at h
  · obtain ⟨rfl, h⟩ := h
    exact c_letter hTb hD (ct_letter_m hQ h)
  · exact h.elim
set_option maxHeartbeats 40000000 in
set_option maxRecDepth 100000 in
theorem c_half (hTb : aTb zSh rx_tb cl) {D : Nat} (hD : 2 ≤ D) {st : zS} {Q : zQ} (h : ct_half  st Q) : cl D 164 [.inr (.inr (.inl 170))] st Q := by
  obtain ⟨d, rfl⟩ : ∃ d, D = d + 1 := ⟨D - 1, by omega⟩
  refine hTb d 164 (rx_m164, 4, 0, 0, 1) rfl _ _ _ (Nat.le_of_ble_eq_true rfl) (fun K hcl hsf hsl => ?_)
  have hcm : zmo (wcL [(67, k_isPlace), (58, k_refuses)]) (cl d) := (wcL_m (wm_cons (k_isPlace_m hTb (by omega)) (wm_cons (k_refuses_m hTb (by omega)) wm_nil)))
  obtain ⟨hR, hQ⟩ := h
  obtain ⟨hG, hJ⟩ := hR
  have l2 : ∀ (u : Nat) (k : Int) (s_l2 : zS), gInv zgt s_l2 ∧ zJ s_l2 ∧ zV1 st s_l2 ∧ (s_l2 170 1 = 0) ∧ (0 ≤ k ∧ k ≤ s_l2 170 71) → (s_l2 170 71 - k).toNat = u → K (rx_find rx_m164 100) [(3, .inl k), (0, .inr (.inr (.inl 170)))] [] s_l2 := by
    intro u_l2
    induction u_l2 using Nat.strongRecOn with
    | _ u_l2 ih_l2 =>
      intro k s_l2 hi hu_l2
      obtain ⟨gI_l2, jI_l2, vI_l2, tz_l2, i_l2⟩ := hi
      have g1 := g_taped gI_l2
      have g2 := g_rows gI_l2
      refine yr1_ok (Rt := Q) (wc := (wcL [(67, k_isPlace), (58, k_refuses)])) (stp := [100]) hcm hcl [] 111 ?_
      show ((s_l2 170 71 ≤ k → Q (some (.inl (s_l2 170 71))) s_l2) ∧ (¬ (s_l2 170 71 ≤ k) → ((-2147483648 ≤ (2 : Int) * k ∧ (2 : Int) * k ≤ 2147483647) ∧ ((0 ≤ (2 : Int) * k ∧ (2 : Int) * k < 1800) ∧ ((0 ≤ k ∧ k < 20) ∧ ((-2147483648 ≤ (2 : Int) * k ∧ (2 : Int) * k ≤ 2147483647) ∧ ((-2147483648 ≤ ((2 : Int) * k) + 1 ∧ ((2 : Int) * k) + 1 ≤ 2147483647) ∧ ((0 ≤ ((2 : Int) * k) + 1 ∧ ((2 : Int) * k) + 1 < 1800) ∧ ((0 ≤ k ∧ k < 20) ∧ ((-2147483648 ≤ k + 1 ∧ k + 1 ≤ 2147483647) ∧ K (rx_find rx_m164 100) [(3, .inl (k + 1)), (0, .inr (.inr (.inl 170)))] [] (zup (zup s_l2 216 (k : Int).toNat (s_l2 171 ((2 : Int) * k : Int).toNat)) 217 (k : Int).toNat (s_l2 171 (((2 : Int) * k) + 1 : Int).toNat))))))))))))
      refine ⟨fun h3 => ?_, fun h3 => ?_⟩
      · exact hQ _ _ ⟨gI_l2, jI_l2, vI_l2, (show s_l2 170 1 = 0 from by omega)⟩
      · refine ⟨by omega, ?_⟩
        have g4 := g_tape gI_l2 ((2 : Int) * k : Int).toNat
        refine ⟨by omega, ?_⟩
        refine ⟨by omega, ?_⟩
        refine ⟨by omega, ?_⟩
        refine ⟨by omega, ?_⟩
        have g5 := g_tape gI_l2 (((2 : Int) * k) + 1 : Int).toNat
        refine ⟨by omega, ?_⟩
        refine ⟨by omega, ?_⟩
        refine ⟨by omega, ?_⟩
        exact ih_l2 _ (show (s_l2 170 71 - (k + 1) : Int).toNat < u_l2 from by omega) (k + 1) (zup (zup s_l2 216 (k : Int).toNat (s_l2 171 ((2 : Int) * k : Int).toNat)) 217 (k : Int).toNat (s_l2 171 (((2 : Int) * k) + 1 : Int).toNat)) ⟨(gInv_up (gInv_up gI_l2 (p_rowNumber (by omega))) (p_rowPlace (by omega))), (zJ_up rfl (zJ_up rfl jI_l2)), (zV1_up (zV1_up vI_l2 (by first | decide | rfl)) (by first | decide | rfl)), (show s_l2 170 1 = 0 from by omega), (show 0 ≤ (k + 1) ∧ (k + 1) ≤ s_l2 170 71 from by omega)⟩ rfl
  have l1 : ∀ (u : Nat) (k : Int) (ca : Int) (n : Int), (0 ≤ k ∧ k % 2 = 0 ∧ 0 ≤ n ∧ n ≤ 1600 ∧ k ≤ n + 1 ∧ (ca = 0 ∨ ca = 1) ∧ (ca = 1 → 0 < n ∧ n % 2 = 0 ∧ n ≤ 40)) → (n + 2 - k).toNat = u → K (rx_find rx_m164 34) [(3, .inl k), (2, .inl ca), (1, .inl n), (0, .inr (.inr (.inl 170)))] [] (zup st 170 1 0) := by
    intro u_l1
    induction u_l1 using Nat.strongRecOn with
    | _ u_l1 ih_l1 =>
      intro k ca n hi hu_l1
      have i_l1 := hi
      refine yr1_ok (Rt := Q) (wc := (wcL [(67, k_isPlace), (58, k_refuses)])) (stp := [34, 100]) hcm hcl [] 111 ?_
      show ((n ≤ k → ((¬ ca = (0 : Int) → ((0 ≤ n ∧ n ≤ 2147483647 ∧ 0 < (2 : Int)) ∧ K (rx_find rx_m164 100) [(3, .inl 0), (2, .inl ca), (1, .inl n), (0, .inr (.inr (.inl 170)))] [] (zup (zup st 170 1 0) 170 71 (n / 2)))) ∧ (¬ (¬ ca = (0 : Int)) → (170 = 170 ∧ (rq_refuses (5) (zup st 170 1 0) ∧ (∀ (r6 : Int) (s6 : zS), en_refuses (5) (zup st 170 1 0) r6 s6 → Q (some (.inl r6)) s6)))))) ∧ (¬ (n ≤ k) → ((ca = (0 : Int) → ((¬ ca = (0 : Int) → ((0 ≤ n ∧ n ≤ 2147483647 ∧ 0 < (2 : Int)) ∧ K (rx_find rx_m164 100) [(3, .inl 0), (2, .inl ca), (1, .inl n), (0, .inr (.inr (.inl 170)))] [] (zup (zup st 170 1 0) 170 71 (n / 2)))) ∧ (¬ (¬ ca = (0 : Int)) → (170 = 170 ∧ (rq_refuses (5) (zup st 170 1 0) ∧ (∀ (r7 : Int) (s7 : zS), en_refuses (5) (zup st 170 1 0) r7 s7 → Q (some (.inl r7)) s7)))))) ∧ (¬ (ca = (0 : Int)) → ((0 ≤ k ∧ k < 1800) ∧ (((20 : Int) ≤ st 171 (k : Int).toNat → ((-2147483648 ≤ k + 2 ∧ k + 2 ≤ 2147483647) ∧ K (rx_find rx_m164 34) [(3, .inl (k + 2)), (2, .inl 0), (1, .inl n), (0, .inr (.inr (.inl 170)))] [] (zup st 170 1 0))) ∧ (¬ ((20 : Int) ≤ st 171 (k : Int).toNat) → ((-2147483648 ≤ k + 1 ∧ k + 1 ≤ 2147483647) ∧ ((0 ≤ k + 1 ∧ k + 1 < 1800) ∧ (170 = 170 ∧ (rq_isPlace (st 171 (k + 1 : Int).toNat) (zup st 170 1 0) ∧ (∀ (r8 : Int), en_isPlace (st 171 (k + 1 : Int).toNat) (zup st 170 1 0) r8 → ((r8 = (0 : Int) → ((-2147483648 ≤ k + 2 ∧ k + 2 ≤ 2147483647) ∧ K (rx_find rx_m164 34) [(3, .inl (k + 2)), (2, .inl 0), (1, .inl n), (0, .inr (.inr (.inl 170)))] [] (zup st 170 1 0))) ∧ (¬ (r8 = (0 : Int)) → ((-2147483648 ≤ k + 2 ∧ k + 2 ≤ 2147483647) ∧ K (rx_find rx_m164 34) [(3, .inl (k + 2)), (2, .inl 1), (1, .inl n), (0, .inr (.inr (.inl 170)))] [] (zup st 170 1 0))))))))))))))))
      refine ⟨fun h9 => ?_, fun h9 => ?_⟩
      · refine ⟨fun h10 => ?_, fun h10 => ?_⟩
        · refine ⟨by omega, ?_⟩
          exact hsl _ _ _ _ _ (sb_cons (.head _) (sb_cons (.tail _ (.tail _ (.tail _ (.head _)))) sb_nil)) (l2 _ 0 (zup (zup st 170 1 0) 170 71 (n / 2)) ⟨(gInv_up (gInv_up hG (p_taped (by omega))) (p_rows (by omega))), (zJ_up rfl (zJ_up rfl hJ)), (zV1_up (zV1_up (zV1_rf _) (by first | decide | rfl)) (by first | decide | rfl)), (show 0 = 0 from by omega), (show 0 ≤ (0 : Int) ∧ (0 : Int) ≤ (n / 2) from by omega)⟩ rfl)
        · refine ⟨rfl, ⟨(gInv_up hG (p_taped (by omega))), (show 0 ≤ (5) ∧ (5) ≤ 5 from by omega)⟩, fun r6 s6 q6 => ?_⟩
          obtain ⟨gs6, fs6, e6⟩ := q6
          change r6 = -1 at e6
          have e11 : s6 170 1 = 0 := fs6 170 1 rfl rfl
          exact hQ _ _ ⟨gs6, (zJ_fr rfl fs6 (zJ_up rfl hJ)), (zV1_tr (zV1_up (zV1_rf _) (by first | decide | rfl)) (zV1_fr rfl fs6)), (show s6 170 1 = 0 from by omega)⟩
      · refine ⟨fun h12 => ?_, fun h12 => ?_⟩
        · refine ⟨fun h13 => ?_, fun h13 => ?_⟩
          · refine ⟨by omega, ?_⟩
            exact hsl _ _ _ _ _ (sb_cons (.head _) (sb_cons (.tail _ (.tail _ (.tail _ (.head _)))) sb_nil)) (l2 _ 0 (zup (zup st 170 1 0) 170 71 (n / 2)) ⟨(gInv_up (gInv_up hG (p_taped (by omega))) (p_rows (by omega))), (zJ_up rfl (zJ_up rfl hJ)), (zV1_up (zV1_up (zV1_rf _) (by first | decide | rfl)) (by first | decide | rfl)), (show 0 = 0 from by omega), (show 0 ≤ (0 : Int) ∧ (0 : Int) ≤ (n / 2) from by omega)⟩ rfl)
          · refine ⟨rfl, ⟨(gInv_up hG (p_taped (by omega))), (show 0 ≤ (5) ∧ (5) ≤ 5 from by omega)⟩, fun r7 s7 q7 => ?_⟩
            obtain ⟨gs7, fs7, e7⟩ := q7
            change r7 = -1 at e7
            have e14 : s7 170 1 = 0 := fs7 170 1 rfl rfl
            exact hQ _ _ ⟨gs7, (zJ_fr rfl fs7 (zJ_up rfl hJ)), (zV1_tr (zV1_up (zV1_rf _) (by first | decide | rfl)) (zV1_fr rfl fs7)), (show s7 170 1 = 0 from by omega)⟩
        · have g15 := g_tape hG (k : Int).toNat
          refine ⟨by omega, ?_⟩
          refine ⟨fun h16 => ?_, fun h16 => ?_⟩
          · refine ⟨by omega, ?_⟩
            exact ih_l1 _ (show (n + 2 - (k + 2) : Int).toNat < u_l1 from by omega) (k + 2) 0 n (show 0 ≤ (k + 2) ∧ (k + 2) % 2 = 0 ∧ 0 ≤ n ∧ n ≤ 1600 ∧ (k + 2) ≤ n + 1 ∧ ((0 : Int) = 0 ∨ (0 : Int) = 1) ∧ ((0 : Int) = 1 → 0 < n ∧ n % 2 = 0 ∧ n ≤ 40) from by omega) rfl
          · refine ⟨by omega, ?_⟩
            have g17 := g_tape hG (k + 1 : Int).toNat
            refine ⟨by omega, ?_⟩
            refine ⟨rfl, (gInv_up hG (p_taped (by omega))), fun r8 q8 => ?_⟩
            have b8 := q8
            change (r8 = 0 ∨ r8 = 1) ∧ (r8 = 1 ↔ 0 ≤ (st 171 (k + 1 : Int).toNat) ∧ (st 171 (k + 1 : Int).toNat) < st 172 (st 170 13 : Int).toNat) at b8
            have g18 := g_bank hG
            have g19 := g_places hG (st 170 13 : Int).toNat
            refine ⟨fun h20 => ?_, fun h20 => ?_⟩
            · refine ⟨by omega, ?_⟩
              exact ih_l1 _ (show (n + 2 - (k + 2) : Int).toNat < u_l1 from by omega) (k + 2) 0 n (show 0 ≤ (k + 2) ∧ (k + 2) % 2 = 0 ∧ 0 ≤ n ∧ n ≤ 1600 ∧ (k + 2) ≤ n + 1 ∧ ((0 : Int) = 0 ∨ (0 : Int) = 1) ∧ ((0 : Int) = 1 → 0 < n ∧ n % 2 = 0 ∧ n ≤ 40) from by omega) rfl
            · refine ⟨by omega, ?_⟩
              exact ih_l1 _ (show (n + 2 - (k + 2) : Int).toNat < u_l1 from by omega) (k + 2) 1 n (show 0 ≤ (k + 2) ∧ (k + 2) % 2 = 0 ∧ 0 ≤ n ∧ n ≤ 1600 ∧ (k + 2) ≤ n + 1 ∧ ((1 : Int) = 0 ∨ (1 : Int) = 1) ∧ ((1 : Int) = 1 → 0 < n ∧ n % 2 = 0 ∧ n ≤ 40) from by omega) rfl
  have g21 := g_taped hG
  refine yr1_ok (Rt := Q) (wc := (wcL [(67, k_isPlace), (58, k_refuses)])) (stp := [34, 100]) hcm hcl [] 111 ?_
  show ((st 170 1 ≤ (0 : Int) → K (rx_find rx_m164 34) [(3, .inl 0), (2, .inl 0), (1, .inl (st 170 1)), (0, .inr (.inr (.inl 170)))] [] (zup st 170 1 0)) ∧ (¬ (st 170 1 ≤ (0 : Int)) → ((0 ≤ st 170 1 ∧ st 170 1 ≤ 2147483647 ∧ 0 < (2 : Int)) ∧ ((¬ (st 170 1) % 2 = (0 : Int) → K (rx_find rx_m164 34) [(3, .inl 0), (2, .inl 0), (1, .inl (st 170 1)), (0, .inr (.inr (.inl 170)))] [] (zup st 170 1 0)) ∧ (¬ (¬ (st 170 1) % 2 = (0 : Int)) → (((40 : Int) < st 170 1 → K (rx_find rx_m164 34) [(3, .inl 0), (2, .inl 0), (1, .inl (st 170 1)), (0, .inr (.inr (.inl 170)))] [] (zup st 170 1 0)) ∧ (¬ ((40 : Int) < st 170 1) → K (rx_find rx_m164 34) [(3, .inl 0), (2, .inl 1), (1, .inl (st 170 1)), (0, .inr (.inr (.inl 170)))] [] (zup st 170 1 0))))))))
  refine ⟨fun h22 => ?_, fun h22 => ?_⟩
  · exact l1 _ 0 0 (st 170 1) (show 0 ≤ (0 : Int) ∧ (0 : Int) % 2 = 0 ∧ 0 ≤ (st 170 1) ∧ (st 170 1) ≤ 1600 ∧ (0 : Int) ≤ (st 170 1) + 1 ∧ ((0 : Int) = 0 ∨ (0 : Int) = 1) ∧ ((0 : Int) = 1 → 0 < (st 170 1) ∧ (st 170 1) % 2 = 0 ∧ (st 170 1) ≤ 40) from by omega) rfl
  · refine ⟨by omega, ?_⟩
    refine ⟨fun h23 => ?_, fun h23 => ?_⟩
    · exact l1 _ 0 0 (st 170 1) (show 0 ≤ (0 : Int) ∧ (0 : Int) % 2 = 0 ∧ 0 ≤ (st 170 1) ∧ (st 170 1) ≤ 1600 ∧ (0 : Int) ≤ (st 170 1) + 1 ∧ ((0 : Int) = 0 ∨ (0 : Int) = 1) ∧ ((0 : Int) = 1 → 0 < (st 170 1) ∧ (st 170 1) % 2 = 0 ∧ (st 170 1) ≤ 40) from by omega) rfl
    · refine ⟨fun h24 => ?_, fun h24 => ?_⟩
      · exact l1 _ 0 0 (st 170 1) (show 0 ≤ (0 : Int) ∧ (0 : Int) % 2 = 0 ∧ 0 ≤ (st 170 1) ∧ (st 170 1) ≤ 1600 ∧ (0 : Int) ≤ (st 170 1) + 1 ∧ ((0 : Int) = 0 ∨ (0 : Int) = 1) ∧ ((0 : Int) = 1 → 0 < (st 170 1) ∧ (st 170 1) % 2 = 0 ∧ (st 170 1) ≤ 40) from by omega) rfl
      · exact l1 _ 0 1 (st 170 1) (show 0 ≤ (0 : Int) ∧ (0 : Int) % 2 = 0 ∧ 0 ≤ (st 170 1) ∧ (st 170 1) ≤ 1600 ∧ (0 : Int) ≤ (st 170 1) + 1 ∧ ((1 : Int) = 0 ∨ (1 : Int) = 1) ∧ ((1 : Int) = 1 → 0 < (st 170 1) ∧ (st 170 1) % 2 = 0 ∧ (st 170 1) ≤ 40) from by omega) rfl
theorem k_half_m (hTb : aTb zSh rx_tb cl) {D : Nat} (hD : 2 ≤ D) : ∀ as st (Q Q' : zQ), (∀ r st', Q r st' → Q' r st') → k_half 164 as st Q → cl D 164 as st Q' := by
  intro as st Q Q' hQ h
  unfold k_half at h
  split at h
  · obtain ⟨rfl, h⟩ := h
    exact c_half hTb hD (ct_half_m hQ h)
  · exact h.elim
set_option maxHeartbeats 40000000 in
set_option maxRecDepth 100000 in
theorem c_writes (hTb : aTb zSh rx_tb cl) {D : Nat} (hD : 1 ≤ D) {x : Int} {st : zS} {Q : zQ} (h : ct_writes x st Q) : cl D 94 [.inr (.inr (.inl 170)), .inl x] st Q := by
  obtain ⟨d, rfl⟩ : ∃ d, D = d + 1 := ⟨D - 1, by omega⟩
  refine hTb d 94 (rx_m94, 2, 0, 0, 0) rfl _ _ _ (Nat.le_of_ble_eq_true rfl) (fun K hcl hsf hsl => ?_)
  have hcm : zmo (zno) (cl d) := zno_m
  obtain ⟨hR, hQ⟩ := h
  obtain ⟨hG, r⟩ := hR
  change st 170 77 ≤ 99 at r
  have g1 := g_outs hG
  refine yr1_ok (Rt := Q) (wc := (zno)) (stp := []) hcm hcl [] 35 ?_
  show ((0 ≤ st 170 77 ∧ st 170 77 < 100) ∧ ((-2147483648 ≤ (st 170 77) + 1 ∧ (st 170 77) + 1 ≤ 2147483647) ∧ Q none (zup (zup st 220 (st 170 77 : Int).toNat (zd (Nat.land (zi x) (zi 255)))) 170 77 ((st 170 77) + 1))))
  refine ⟨by omega, ?_⟩
  refine ⟨by omega, ?_⟩
  exact hQ _ ⟨(gInv_up (gInv_up hG (p_out (zdand_ok _ _))) (p_outs (by omega))), (fr_f (fr_a (fr_rf _ _) rfl) rfl), (show ((st 170 77) + 1) = st 170 77 + 1 from by omega)⟩
theorem k_writes_m (hTb : aTb zSh rx_tb cl) {D : Nat} (hD : 1 ≤ D) : ∀ as st (Q Q' : zQ), (∀ r st', Q r st' → Q' r st') → k_writes 94 as st Q → cl D 94 as st Q' := by
  intro as st Q Q' hQ h
  unfold k_writes at h
  split at h
  · obtain ⟨rfl, h⟩ := h
    exact c_writes hTb hD (ct_writes_m hQ h)
  · exact h.elim
set_option maxHeartbeats 40000000 in
set_option maxRecDepth 100000 in
theorem c_image (hTb : aTb zSh rx_tb cl) {D : Nat} (hD : 2 ≤ D) {st : zS} {Q : zQ} (h : ct_image  st Q) : cl D 173 [.inr (.inr (.inl 170))] st Q := by
  obtain ⟨d, rfl⟩ : ∃ d, D = d + 1 := ⟨D - 1, by omega⟩
  refine hTb d 173 (rx_m173, 3, 0, 0, 1) rfl _ _ _ (Nat.le_of_ble_eq_true rfl) (fun K hcl hsf hsl => ?_)
  have hcm : zmo (wcL [(94, k_writes), (201, k_has2)]) (cl d) := (wcL_m (wm_cons (k_writes_m hTb (by omega)) (wm_cons (k_has2_m hTb (by omega)) wm_nil)))
  obtain ⟨hR, hQ⟩ := h
  obtain ⟨hG, hJ⟩ := hR
  have l4 : ∀ (u : Nat) (k : Int) (su : Int) (s_l4 : zS), gInv zgt s_l4 ∧ aFr m_image st s_l4 ∧ (0 ≤ k ∧ k ≤ s_l4 170 77 ∧ s_l4 170 77 ≤ 90) → (s_l4 170 77 - k).toNat = u → K (rx_find rx_m173 156) [(2, .inl k), (1, .inl su), (0, .inr (.inr (.inl 170)))] [] s_l4 := by
    intro u_l4
    induction u_l4 using Nat.strongRecOn with
    | _ u_l4 ih_l4 =>
      intro k su s_l4 hi hu_l4
      obtain ⟨gI_l4, fI_l4, i_l4⟩ := hi
      have g1 := g_outs gI_l4
      refine yr1_ok (Rt := Q) (wc := (wcL [(94, k_writes), (201, k_has2)])) (stp := [156]) hcm hcl [166, 173, 177] 132 ?_
      show ((s_l4 170 77 ≤ k → (170 = 170 ∧ (rq_writes su s_l4 ∧ (∀ (s2 : zS), en_writes su s_l4 s2 → Q (some (.inl (s2 170 77))) s2)))) ∧ (¬ (s_l4 170 77 ≤ k) → ((0 ≤ k ∧ k < 100) ∧ ((¬ (251 : Int) = 0) ∧ ((-2147483648 ≤ k + 1 ∧ k + 1 ≤ 2147483647) ∧ K (rx_find rx_m173 156) [(2, .inl (k + 1)), (1, .inl (zw (Int.tmod (zw ((zw ((5 : Int) * su)) + (s_l4 220 (k : Int).toNat))) 251))), (0, .inr (.inr (.inl 170)))] [] s_l4)))))
      refine ⟨fun h3 => ?_, fun h3 => ?_⟩
      · refine ⟨rfl, ⟨gI_l4, (show s_l4 170 77 ≤ 99 from by omega)⟩, fun s2 q2 => ?_⟩
        obtain ⟨gs2, fs2, t2⟩ := q2
        change s2 170 77 = s_l4 170 77 + 1 at t2
        have g4 := g_outs gs2
        exact hQ _ _ ⟨gs2, (fr_tr fI_l4 fs2 rfl), (zJ_fr rfl fs2 (zJ_fr rfl fI_l4 hJ))⟩
      · have g5 := g_out gI_l4 (k : Int).toNat
        refine ⟨by omega, ?_⟩
        refine ⟨by omega, ?_⟩
        refine ⟨by omega, ?_⟩
        exact ih_l4 _ (show (s_l4 170 77 - (k + 1) : Int).toNat < u_l4 from by omega) (k + 1) (zw (Int.tmod (zw ((zw ((5 : Int) * su)) + (s_l4 220 (k : Int).toNat))) 251)) s_l4 ⟨gI_l4, fI_l4, (show 0 ≤ (k + 1) ∧ (k + 1) ≤ s_l4 170 77 ∧ s_l4 170 77 ≤ 90 from by omega)⟩ rfl
  have l3 : ∀ (u : Nat) (k : Int) (s_l3 : zS), gInv zgt s_l3 ∧ aFr m_image st s_l3 ∧ (0 ≤ k ∧ k ≤ 30 ∧ 0 ≤ s_l3 170 77 ∧ s_l3 170 77 ≤ 25 + 2 * k) → (30 - k).toNat = u → K (rx_find rx_m173 114) [(1, .inl k), (0, .inr (.inr (.inl 170)))] [] s_l3 := by
    intro u_l3
    induction u_l3 using Nat.strongRecOn with
    | _ u_l3 ih_l3 =>
      intro k s_l3 hi hu_l3
      obtain ⟨gI_l3, fI_l3, i_l3⟩ := hi
      have g6 := g_outs gI_l3
      have g8 := g_bank hG
      have e7 : s_l3 170 13 = st 170 13 := fI_l3 170 13 rfl rfl
      refine yr1_ok (Rt := Q) (wc := (wcL [(94, k_writes), (201, k_has2)])) (stp := [114, 156]) hcm hcl [166, 173, 177] 132 ?_
      show ((0 ≤ (0 : Int) ∧ (0 : Int) < 22) ∧ ((s_l3 202 (0 : Int).toNat ≤ k → K (rx_find rx_m173 156) [(2, .inl 0), (1, .inl 197), (0, .inr (.inr (.inl 170)))] [] s_l3) ∧ (¬ (s_l3 202 (0 : Int).toNat ≤ k) → ((0 ≤ k ∧ k < 660) ∧ (170 = 170 ∧ (rq_writes (s_l3 203 (k : Int).toNat) s_l3 ∧ (∀ (s9 : zS), en_writes (s_l3 203 (k : Int).toNat) s_l3 s9 → ((0 ≤ k ∧ k < 660) ∧ (170 = 170 ∧ (rq_writes (s9 204 (k : Int).toNat) s9 ∧ (∀ (s10 : zS), en_writes (s9 204 (k : Int).toNat) s9 s10 → ((-2147483648 ≤ k + 1 ∧ k + 1 ≤ 2147483647) ∧ K (rx_find rx_m173 114) [(1, .inl (k + 1)), (0, .inr (.inr (.inl 170)))] [] s10))))))))))))
      have g12 := g_stepMany hG (0 : Int).toNat
      have e11 : s_l3 202 (0 : Int).toNat = st 202 (0 : Int).toNat := fI_l3 202 (0 : Int).toNat rfl rfl
      refine ⟨by omega, ?_⟩
      refine ⟨fun h13 => ?_, fun h13 => ?_⟩
      · exact l4 _ 0 197 s_l3 ⟨gI_l3, fI_l3, (show 0 ≤ (0 : Int) ∧ (0 : Int) ≤ s_l3 170 77 ∧ s_l3 170 77 ≤ 90 from by omega)⟩ rfl
      · have g15 := g_stepPlace hG (k : Int).toNat
        have e14 : s_l3 203 (k : Int).toNat = st 203 (k : Int).toNat := fI_l3 203 (k : Int).toNat rfl rfl
        refine ⟨by omega, ?_⟩
        refine ⟨rfl, ⟨gI_l3, (show s_l3 170 77 ≤ 99 from by omega)⟩, fun s9 q9 => ?_⟩
        obtain ⟨gs9, fs9, t9⟩ := q9
        change s9 170 77 = s_l3 170 77 + 1 at t9
        have g16 := g_outs gs9
        have g19 := g_stepMinutes hG (k : Int).toNat
        have e18 : s_l3 204 (k : Int).toNat = st 204 (k : Int).toNat := fI_l3 204 (k : Int).toNat rfl rfl
        have e17 : s9 204 (k : Int).toNat = s_l3 204 (k : Int).toNat := fs9 204 (k : Int).toNat rfl rfl
        refine ⟨by omega, ?_⟩
        refine ⟨rfl, ⟨gs9, (show s9 170 77 ≤ 99 from by omega)⟩, fun s10 q10 => ?_⟩
        obtain ⟨gs10, fs10, t10⟩ := q10
        change s10 170 77 = s9 170 77 + 1 at t10
        have g20 := g_outs gs10
        refine ⟨by omega, ?_⟩
        exact ih_l3 _ (show (30 - (k + 1) : Int).toNat < u_l3 from by omega) (k + 1) s10 ⟨gs10, (fr_tr (fr_tr fI_l3 fs9 rfl) fs10 rfl), (show 0 ≤ (k + 1) ∧ (k + 1) ≤ 30 ∧ 0 ≤ s10 170 77 ∧ s10 170 77 ≤ 25 + 2 * (k + 1) from by omega)⟩ rfl
  have l2 : ∀ (u : Nat) (k : Int) (s_l2 : zS), gInv zgt s_l2 ∧ aFr m_image st s_l2 ∧ (0 ≤ k ∧ k ≤ 8 ∧ 0 ≤ s_l2 170 77 ∧ s_l2 170 77 ≤ 16 + k) → (8 - k).toNat = u → K (rx_find rx_m173 73) [(1, .inl k), (0, .inr (.inr (.inl 170)))] [] s_l2 := by
    intro u_l2
    induction u_l2 using Nat.strongRecOn with
    | _ u_l2 ih_l2 =>
      intro k s_l2 hi hu_l2
      obtain ⟨gI_l2, fI_l2, i_l2⟩ := hi
      have g21 := g_outs gI_l2
      have g23 := g_bank hG
      have e22 : s_l2 170 13 = st 170 13 := fI_l2 170 13 rfl rfl
      refine yr1_ok (Rt := Q) (wc := (wcL [(94, k_writes), (201, k_has2)])) (stp := [73, 114, 156]) hcm hcl [166, 173, 177] 132 ?_
      show ((0 ≤ s_l2 170 13 ∧ s_l2 170 13 < 2) ∧ ((s_l2 181 (s_l2 170 13 : Int).toNat ≤ k → ((0 ≤ (0 : Int) ∧ (0 : Int) < 22) ∧ (170 = 170 ∧ (rq_writes (s_l2 202 (0 : Int).toNat) s_l2 ∧ (∀ (s24 : zS), en_writes (s_l2 202 (0 : Int).toNat) s_l2 s24 → K (rx_find rx_m173 114) [(1, .inl 0), (0, .inr (.inr (.inl 170)))] [] s24))))) ∧ (¬ (s_l2 181 (s_l2 170 13 : Int).toNat ≤ k) → ((0 ≤ k ∧ k < 176) ∧ (170 = 170 ∧ (rq_writes (s_l2 201 (k : Int).toNat) s_l2 ∧ (∀ (s25 : zS), en_writes (s_l2 201 (k : Int).toNat) s_l2 s25 → ((-2147483648 ≤ k + 1 ∧ k + 1 ≤ 2147483647) ∧ K (rx_find rx_m173 73) [(1, .inl (k + 1)), (0, .inr (.inr (.inl 170)))] [] s25))))))))
      have g27 := g_things hG (st 170 13 : Int).toNat
      have e26 : s_l2 181 (s_l2 170 13 : Int).toNat = st 181 (st 170 13 : Int).toNat := (fI_l2 181 (s_l2 170 13 : Int).toNat rfl rfl).trans (by rw [e22] <;> rfl)
      refine ⟨by omega, ?_⟩
      refine ⟨fun h28 => ?_, fun h28 => ?_⟩
      · have g30 := g_stepMany hG (0 : Int).toNat
        have e29 : s_l2 202 (0 : Int).toNat = st 202 (0 : Int).toNat := fI_l2 202 (0 : Int).toNat rfl rfl
        refine ⟨by omega, ?_⟩
        refine ⟨rfl, ⟨gI_l2, (show s_l2 170 77 ≤ 99 from by omega)⟩, fun s24 q24 => ?_⟩
        obtain ⟨gs24, fs24, t24⟩ := q24
        change s24 170 77 = s_l2 170 77 + 1 at t24
        have g31 := g_outs gs24
        exact l3 _ 0 s24 ⟨gs24, (fr_tr fI_l2 fs24 rfl), (show 0 ≤ (0 : Int) ∧ (0 : Int) ≤ 30 ∧ 0 ≤ s24 170 77 ∧ s24 170 77 ≤ 25 + 2 * (0 : Int) from by omega)⟩ rfl
      · have g33 := g_thingAt hG (k : Int).toNat
        have e32 : s_l2 201 (k : Int).toNat = st 201 (k : Int).toNat := fI_l2 201 (k : Int).toNat rfl rfl
        refine ⟨by omega, ?_⟩
        refine ⟨rfl, ⟨gI_l2, (show s_l2 170 77 ≤ 99 from by omega)⟩, fun s25 q25 => ?_⟩
        obtain ⟨gs25, fs25, t25⟩ := q25
        change s25 170 77 = s_l2 170 77 + 1 at t25
        have g34 := g_outs gs25
        refine ⟨by omega, ?_⟩
        exact ih_l2 _ (show (8 - (k + 1) : Int).toNat < u_l2 from by omega) (k + 1) s25 ⟨gs25, (fr_tr fI_l2 fs25 rfl), (show 0 ≤ (k + 1) ∧ (k + 1) ≤ 8 ∧ 0 ≤ s25 170 77 ∧ s25 170 77 ≤ 16 + (k + 1) from by omega)⟩ rfl
  have l1 : ∀ (u : Nat) (k : Int) (s_l1 : zS), gInv zgt s_l1 ∧ aFr m_image st s_l1 ∧ (0 ≤ k ∧ k ≤ 14 ∧ 0 ≤ s_l1 170 77 ∧ s_l1 170 77 ≤ 2 + k) → (14 - k).toNat = u → K (rx_find rx_m173 30) [(1, .inl k), (0, .inr (.inr (.inl 170)))] [] s_l1 := by
    intro u_l1
    induction u_l1 using Nat.strongRecOn with
    | _ u_l1 ih_l1 =>
      intro k s_l1 hi hu_l1
      obtain ⟨gI_l1, fI_l1, i_l1⟩ := hi
      have g35 := g_outs gI_l1
      have g37 := g_bank hG
      have e36 : s_l1 170 13 = st 170 13 := fI_l1 170 13 rfl rfl
      refine yr1_ok (Rt := Q) (wc := (wcL [(94, k_writes), (201, k_has2)])) (stp := [30, 73, 114, 156]) hcm hcl [166, 173, 177] 132 ?_
      show ((0 ≤ s_l1 170 13 ∧ s_l1 170 13 < 2) ∧ ((s_l1 173 (s_l1 170 13 : Int).toNat ≤ k → K (rx_find rx_m173 73) [(1, .inl 0), (0, .inr (.inr (.inl 170)))] [] s_l1) ∧ (¬ (s_l1 173 (s_l1 170 13 : Int).toNat ≤ k) → ((0 ≤ (0 : Int) ∧ (0 : Int) < 22) ∧ (∀ (r38 : Int), en_has2 (s_l1 200 (0 : Int).toNat) k s_l1 r38 → ((r38 = (0 : Int) → (170 = 170 ∧ (rq_writes (0) s_l1 ∧ (∀ (s39 : zS), en_writes (0) s_l1 s39 → ((-2147483648 ≤ k + 1 ∧ k + 1 ≤ 2147483647) ∧ K (rx_find rx_m173 30) [(1, .inl (k + 1)), (0, .inr (.inr (.inl 170)))] [] s39))))) ∧ (¬ (r38 = (0 : Int)) → (170 = 170 ∧ (rq_writes (1) s_l1 ∧ (∀ (s40 : zS), en_writes (1) s_l1 s40 → ((-2147483648 ≤ k + 1 ∧ k + 1 ≤ 2147483647) ∧ K (rx_find rx_m173 30) [(1, .inl (k + 1)), (0, .inr (.inr (.inl 170)))] [] s40)))))))))))
      have g42 := g_streets hG (st 170 13 : Int).toNat
      have e41 : s_l1 173 (s_l1 170 13 : Int).toNat = st 173 (st 170 13 : Int).toNat := (fI_l1 173 (s_l1 170 13 : Int).toNat rfl rfl).trans (by rw [e36] <;> rfl)
      refine ⟨by omega, ?_⟩
      refine ⟨fun h43 => ?_, fun h43 => ?_⟩
      · exact l2 _ 0 s_l1 ⟨gI_l1, fI_l1, (show 0 ≤ (0 : Int) ∧ (0 : Int) ≤ 8 ∧ 0 ≤ s_l1 170 77 ∧ s_l1 170 77 ≤ 16 + (0 : Int) from by omega)⟩ rfl
      · have g45 := g_shutOf hG (0 : Int).toNat
        have e44 : s_l1 200 (0 : Int).toNat = st 200 (0 : Int).toNat := fI_l1 200 (0 : Int).toNat rfl rfl
        refine ⟨by omega, ?_⟩
        refine fun r38 q38 => ?_
        have b38 := q38
        change (r38 = 0 ∨ r38 = 1) ∧ r38 = hb (s_l1 200 (0 : Int).toNat) k at b38
        refine ⟨fun h46 => ?_, fun h46 => ?_⟩
        · refine ⟨rfl, ⟨gI_l1, (show s_l1 170 77 ≤ 99 from by omega)⟩, fun s39 q39 => ?_⟩
          obtain ⟨gs39, fs39, t39⟩ := q39
          change s39 170 77 = s_l1 170 77 + 1 at t39
          have g47 := g_outs gs39
          refine ⟨by omega, ?_⟩
          exact ih_l1 _ (show (14 - (k + 1) : Int).toNat < u_l1 from by omega) (k + 1) s39 ⟨gs39, (fr_tr fI_l1 fs39 rfl), (show 0 ≤ (k + 1) ∧ (k + 1) ≤ 14 ∧ 0 ≤ s39 170 77 ∧ s39 170 77 ≤ 2 + (k + 1) from by omega)⟩ rfl
        · refine ⟨rfl, ⟨gI_l1, (show s_l1 170 77 ≤ 99 from by omega)⟩, fun s40 q40 => ?_⟩
          obtain ⟨gs40, fs40, t40⟩ := q40
          change s40 170 77 = s_l1 170 77 + 1 at t40
          have g48 := g_outs gs40
          refine ⟨by omega, ?_⟩
          exact ih_l1 _ (show (14 - (k + 1) : Int).toNat < u_l1 from by omega) (k + 1) s40 ⟨gs40, (fr_tr fI_l1 fs40 rfl), (show 0 ≤ (k + 1) ∧ (k + 1) ≤ 14 ∧ 0 ≤ s40 170 77 ∧ s40 170 77 ≤ 2 + (k + 1) from by omega)⟩ rfl
  refine yr1_ok (Rt := Q) (wc := (wcL [(94, k_writes), (201, k_has2)])) (stp := [30, 73, 114, 156]) hcm hcl [166, 173, 177] 132 ?_
  show ((0 ≤ (0 : Int) ∧ (0 : Int) < 22) ∧ (170 = 170 ∧ (rq_writes ((st 199 (0 : Int).toNat) / zpw ((8 : Int) % 32).toNat) (zup st 170 77 0) ∧ (∀ (s49 : zS), en_writes ((st 199 (0 : Int).toNat) / zpw ((8 : Int) % 32).toNat) (zup st 170 77 0) s49 → ((0 ≤ (0 : Int) ∧ (0 : Int) < 22) ∧ (170 = 170 ∧ (rq_writes (s49 199 (0 : Int).toNat) s49 ∧ (∀ (s50 : zS), en_writes (s49 199 (0 : Int).toNat) s49 s50 → K (rx_find rx_m173 30) [(1, .inl 0), (0, .inr (.inr (.inl 170)))] [] s50))))))))
  have g51 := g_yearOf hG (0 : Int).toNat
  refine ⟨by omega, ?_⟩
  refine ⟨rfl, ⟨(gInv_up hG (p_outs (by omega))), (show 0 ≤ 99 from by omega)⟩, fun s49 q49 => ?_⟩
  obtain ⟨gs49, fs49, t49⟩ := q49
  change s49 170 77 = 0 + 1 at t49
  have g52 := g_outs gs49
  have e53 : s49 199 (0 : Int).toNat = st 199 (0 : Int).toNat := fs49 199 (0 : Int).toNat rfl rfl
  refine ⟨by omega, ?_⟩
  refine ⟨rfl, ⟨gs49, (show s49 170 77 ≤ 99 from by omega)⟩, fun s50 q50 => ?_⟩
  obtain ⟨gs50, fs50, t50⟩ := q50
  change s50 170 77 = s49 170 77 + 1 at t50
  have g54 := g_outs gs50
  exact l1 _ 0 s50 ⟨gs50, (fr_tr (fr_tr (fr_f (fr_rf _ _) rfl) fs49 rfl) fs50 rfl), (show 0 ≤ (0 : Int) ∧ (0 : Int) ≤ 14 ∧ 0 ≤ s50 170 77 ∧ s50 170 77 ≤ 2 + (0 : Int) from by omega)⟩ rfl
theorem k_image_m (hTb : aTb zSh rx_tb cl) {D : Nat} (hD : 2 ≤ D) : ∀ as st (Q Q' : zQ), (∀ r st', Q r st' → Q' r st') → k_image 173 as st Q → cl D 173 as st Q' := by
  intro as st Q Q' hQ h
  unfold k_image at h
  split at h
  · obtain ⟨rfl, h⟩ := h
    exact c_image hTb hD (ct_image_m hQ h)
  · exact h.elim
set_option maxHeartbeats 40000000 in
set_option maxRecDepth 100000 in
theorem c_stepOn (hTb : aTb zSh rx_tb cl) {D : Nat} (hD : 2 ≤ D) {k f : Int} {st : zS} {Q : zQ} (h : ct_stepOn k f st Q) : cl D 223 [.inr (.inr (.inl 170)), .inl k, .inl f] st Q := by
  obtain ⟨d, rfl⟩ : ∃ d, D = d + 1 := ⟨D - 1, by omega⟩
  refine hTb d 223 (rx_m223, 4, 0, 0, 2) rfl _ _ _ (Nat.le_of_ble_eq_true rfl) (fun K hcl hsf hsl => ?_)
  have hcm : zmo (wcL [(67, k_isPlace), (0, k_between)]) (cl d) := (wcL_m (wm_cons (k_isPlace_m hTb (by omega)) (wm_cons (k_between_m hTb (by omega)) wm_nil)))
  obtain ⟨hR, hQ⟩ := h
  obtain ⟨hG, kk⟩ := hR
  change 0 ≤ k ∧ k < 30 ∧ 0 ≤ f ∧ f < 1599 at kk
  have g1 := g_bank hG
  refine yr1_ok (Rt := Q) (wc := (wcL [(67, k_isPlace), (0, k_between)])) (stp := []) hcm hcl [] 78 ?_
  show ((0 ≤ f ∧ f < 1800) ∧ (170 = 170 ∧ (rq_isPlace (st 171 (f : Int).toNat) st ∧ (∀ (r2 : Int), en_isPlace (st 171 (f : Int).toNat) st r2 → ((r2 = (0 : Int) → ((0 = (0 : Int) ∨ 0 = (1 : Int)) ∧ Q (some (.inl 0)) st)) ∧ (¬ (r2 = (0 : Int)) → ((-2147483648 ≤ f + 1 ∧ f + 1 ≤ 2147483647) ∧ ((0 ≤ f + 1 ∧ f + 1 < 1800) ∧ ((st 171 (f + 1 : Int).toNat ≤ (30 : Int) → ((k ≤ (0 : Int) → ((-2147483648 ≤ (30 : Int) + k ∧ (30 : Int) + k ≤ 2147483647) ∧ ((0 ≤ (30 : Int) + k ∧ (30 : Int) + k < 660) ∧ ((-2147483648 ≤ (30 : Int) + k ∧ (30 : Int) + k ≤ 2147483647) ∧ ((-2147483648 ≤ f + 1 ∧ f + 1 ≤ 2147483647) ∧ ((0 ≤ f + 1 ∧ f + 1 < 1800) ∧ ((0 ≤ (30 : Int) + k ∧ (30 : Int) + k < 660) ∧ ((1 = (0 : Int) ∨ 1 = (1 : Int)) ∧ Q (some (.inl 1)) (zup (zup st 203 ((30 : Int) + k : Int).toNat (st 171 (f : Int).toNat)) 204 ((30 : Int) + k : Int).toNat (st 171 (f + 1 : Int).toNat)))))))))) ∧ (¬ (k ≤ (0 : Int)) → ((-2147483648 ≤ (30 : Int) + k ∧ (30 : Int) + k ≤ 2147483647) ∧ ((-2147483648 ≤ ((30 : Int) + k) - 1 ∧ ((30 : Int) + k) - 1 ≤ 2147483647) ∧ ((0 ≤ ((30 : Int) + k) - 1 ∧ ((30 : Int) + k) - 1 < 660) ∧ (170 = 170 ∧ (rq_between (st 170 13) (st 203 (((30 : Int) + k) - 1 : Int).toNat) (st 171 (f : Int).toNat) st ∧ (∀ (r3 : Int), en_between (st 170 13) (st 203 (((30 : Int) + k) - 1 : Int).toNat) (st 171 (f : Int).toNat) st r3 → ((¬ r3 = (0 : Int) → ((-2147483648 ≤ (30 : Int) + k ∧ (30 : Int) + k ≤ 2147483647) ∧ ((0 ≤ (30 : Int) + k ∧ (30 : Int) + k < 660) ∧ ((-2147483648 ≤ (30 : Int) + k ∧ (30 : Int) + k ≤ 2147483647) ∧ ((-2147483648 ≤ f + 1 ∧ f + 1 ≤ 2147483647) ∧ ((0 ≤ f + 1 ∧ f + 1 < 1800) ∧ ((0 ≤ (30 : Int) + k ∧ (30 : Int) + k < 660) ∧ ((1 = (0 : Int) ∨ 1 = (1 : Int)) ∧ Q (some (.inl 1)) (zup (zup st 203 ((30 : Int) + k : Int).toNat (st 171 (f : Int).toNat)) 204 ((30 : Int) + k : Int).toNat (st 171 (f + 1 : Int).toNat)))))))))) ∧ (¬ (¬ r3 = (0 : Int)) → ((0 = (0 : Int) ∨ 0 = (1 : Int)) ∧ Q (some (.inl 0)) st)))))))))))) ∧ (¬ (st 171 (f + 1 : Int).toNat ≤ (30 : Int)) → ((0 = (0 : Int) ∨ 0 = (1 : Int)) ∧ Q (some (.inl 0)) st)))))))))))
  have g4 := g_tape hG (f : Int).toNat
  refine ⟨by omega, ?_⟩
  refine ⟨rfl, hG, fun r2 q2 => ?_⟩
  have b2 := q2
  change (r2 = 0 ∨ r2 = 1) ∧ (r2 = 1 ↔ 0 ≤ (st 171 (f : Int).toNat) ∧ (st 171 (f : Int).toNat) < st 172 (st 170 13 : Int).toNat) at b2
  have g5 := g_places hG (st 170 13 : Int).toNat
  refine ⟨fun h6 => ?_, fun h6 => ?_⟩
  · refine ⟨by omega, ?_⟩
    exact hQ _ _ ⟨hG, (fr_rf _ _), (show ((0 : Int) = 0 ∨ (0 : Int) = 1) from by omega), (show (0 : Int) = 1 → 0 < k → 0 < zad st (st 203 (30 * 1 + k - 1 : Int).toNat) (st 203 (30 * 1 + k : Int).toNat) from fun z => absurd z (by decide)), (show ∀ i : Nat, ¬ (i : Int) = 30 + k → st 203 i = st 203 i from fun i z => rfl)⟩
  · refine ⟨by omega, ?_⟩
    have g7 := g_tape hG (f + 1 : Int).toNat
    refine ⟨by omega, ?_⟩
    refine ⟨fun h8 => ?_, fun h8 => ?_⟩
    · refine ⟨fun h9 => ?_, fun h9 => ?_⟩
      · refine ⟨by omega, ?_⟩
        refine ⟨by omega, ?_⟩
        refine ⟨by omega, ?_⟩
        refine ⟨by omega, ?_⟩
        refine ⟨by omega, ?_⟩
        refine ⟨by omega, ?_⟩
        refine ⟨by omega, ?_⟩
        exact hQ _ _ ⟨(gInv_up (gInv_up hG (p_stepPlace (by omega))) (p_stepMinutes (by omega))), (fr_a (fr_a (fr_rf _ _) rfl) rfl), (show ((1 : Int) = 0 ∨ (1 : Int) = 1) from by omega), (show (1 : Int) = 1 → 0 < k → 0 < zad (zup (zup st 203 ((30 : Int) + k : Int).toNat (st 171 (f : Int).toNat)) 204 ((30 : Int) + k : Int).toNat (st 171 (f + 1 : Int).toNat)) ((zup (zup st 203 ((30 : Int) + k : Int).toNat (st 171 (f : Int).toNat)) 204 ((30 : Int) + k : Int).toNat (st 171 (f + 1 : Int).toNat)) 203 (30 * 1 + k - 1 : Int).toNat) ((zup (zup st 203 ((30 : Int) + k : Int).toNat (st 171 (f : Int).toNat)) 204 ((30 : Int) + k : Int).toNat (st 171 (f + 1 : Int).toNat)) 203 (30 * 1 + k : Int).toNat) from fun _ z => by omega), (show ∀ i : Nat, ¬ (i : Int) = 30 + k → (zup (zup st 203 ((30 : Int) + k : Int).toNat (st 171 (f : Int).toNat)) 204 ((30 : Int) + k : Int).toNat (st 171 (f + 1 : Int).toNat)) 203 i = st 203 i from fun i z => up1_n (st 203) _ (by omega))⟩
      · refine ⟨by omega, ?_⟩
        refine ⟨by omega, ?_⟩
        have g10 := g_stepPlace hG (((30 : Int) + k) - 1 : Int).toNat
        refine ⟨by omega, ?_⟩
        refine ⟨rfl, (show 0 ≤ (st 170 13) ∧ (st 170 13) ≤ 1 ∧ 0 ≤ (st 203 (((30 : Int) + k) - 1 : Int).toNat) ∧ (st 203 (((30 : Int) + k) - 1 : Int).toNat) < 8 ∧ 0 ≤ (st 171 (f : Int).toNat) ∧ (st 171 (f : Int).toNat) < 8 from by omega), fun r3 q3 => ?_⟩
        have e3 := q3
        change r3 = st 177 (64 * (st 170 13) + 8 * (st 203 (((30 : Int) + k) - 1 : Int).toNat) + (st 171 (f : Int).toNat) : Int).toNat at e3
        have g11 := g_streetAt hG (64 * (st 170 13) + 8 * (st 203 (((30 : Int) + k) - 1 : Int).toNat) + (st 171 (f : Int).toNat) : Int).toNat
        refine ⟨fun h12 => ?_, fun h12 => ?_⟩
        · refine ⟨by omega, ?_⟩
          refine ⟨by omega, ?_⟩
          refine ⟨by omega, ?_⟩
          refine ⟨by omega, ?_⟩
          refine ⟨by omega, ?_⟩
          refine ⟨by omega, ?_⟩
          refine ⟨by omega, ?_⟩
          exact hQ _ _ ⟨(gInv_up (gInv_up hG (p_stepPlace (by omega))) (p_stepMinutes (by omega))), (fr_a (fr_a (fr_rf _ _) rfl) rfl), (show ((1 : Int) = 0 ∨ (1 : Int) = 1) from by omega), (show (1 : Int) = 1 → 0 < k → 0 < zad (zup (zup st 203 ((30 : Int) + k : Int).toNat (st 171 (f : Int).toNat)) 204 ((30 : Int) + k : Int).toNat (st 171 (f + 1 : Int).toNat)) ((zup (zup st 203 ((30 : Int) + k : Int).toNat (st 171 (f : Int).toNat)) 204 ((30 : Int) + k : Int).toNat (st 171 (f + 1 : Int).toNat)) 203 (30 * 1 + k - 1 : Int).toNat) ((zup (zup st 203 ((30 : Int) + k : Int).toNat (st 171 (f : Int).toNat)) 204 ((30 : Int) + k : Int).toNat (st 171 (f + 1 : Int).toNat)) 203 (30 * 1 + k : Int).toNat) from fun _ z => so_q z (by show 0 < st 177 (64 * st 170 13 + 8 * st 203 (30 + k - 1 : Int).toNat + st 171 (f : Int).toNat : Int).toNat; omega)), (show ∀ i : Nat, ¬ (i : Int) = 30 + k → (zup (zup st 203 ((30 : Int) + k : Int).toNat (st 171 (f : Int).toNat)) 204 ((30 : Int) + k : Int).toNat (st 171 (f + 1 : Int).toNat)) 203 i = st 203 i from fun i z => up1_n (st 203) _ (by omega))⟩
        · refine ⟨by omega, ?_⟩
          exact hQ _ _ ⟨hG, (fr_rf _ _), (show ((0 : Int) = 0 ∨ (0 : Int) = 1) from by omega), (show (0 : Int) = 1 → 0 < k → 0 < zad st (st 203 (30 * 1 + k - 1 : Int).toNat) (st 203 (30 * 1 + k : Int).toNat) from fun z => absurd z (by decide)), (show ∀ i : Nat, ¬ (i : Int) = 30 + k → st 203 i = st 203 i from fun i z => rfl)⟩
    · refine ⟨by omega, ?_⟩
      exact hQ _ _ ⟨hG, (fr_rf _ _), (show ((0 : Int) = 0 ∨ (0 : Int) = 1) from by omega), (show (0 : Int) = 1 → 0 < k → 0 < zad st (st 203 (30 * 1 + k - 1 : Int).toNat) (st 203 (30 * 1 + k : Int).toNat) from fun z => absurd z (by decide)), (show ∀ i : Nat, ¬ (i : Int) = 30 + k → st 203 i = st 203 i from fun i z => rfl)⟩
theorem k_stepOn_m (hTb : aTb zSh rx_tb cl) {D : Nat} (hD : 2 ≤ D) : ∀ as st (Q Q' : zQ), (∀ r st', Q r st' → Q' r st') → k_stepOn 223 as st Q → cl D 223 as st Q' := by
  intro as st Q Q' hQ h
  unfold k_stepOn at h
  split at h
  · obtain ⟨rfl, h⟩ := h
    exact c_stepOn hTb hD (ct_stepOn_m hQ h)
  · exact h.elim
set_option maxHeartbeats 40000000 in
set_option maxRecDepth 100000 in
theorem c_comesOn (hTb : aTb zSh rx_tb cl) {D : Nat} (hD : 3 ≤ D) {n : Int} {st : zS} {Q : zQ} (h : ct_comesOn n st Q) : cl D 177 [.inr (.inr (.inl 170)), .inl n] st Q := by
  obtain ⟨d, rfl⟩ : ∃ d, D = d + 1 := ⟨D - 1, by omega⟩
  refine hTb d 177 (rx_m177, 6, 0, 0, 2) rfl _ _ _ (Nat.le_of_ble_eq_true rfl) (fun K hcl hsf hsl => ?_)
  have hcm : zmo (wcL [(60, k_copies), (67, k_isPlace), (223, k_stepOn)]) (cl d) := (wcL_m (wm_cons (k_copies_m hTb (by omega)) (wm_cons (k_isPlace_m hTb (by omega)) (wm_cons (k_stepOn_m hTb (by omega)) wm_nil))))
  obtain ⟨hR, hQ⟩ := h
  obtain ⟨hG, nn⟩ := hR
  change 0 ≤ n ∧ n ≤ 1600 at nn
  have ld : ∀ (u : Nat) (k : Int) (sa : Int) (ta : Int) (s_ld : zS), gInv zgt s_ld ∧ aFr m_comesOn st s_ld ∧ (∀ i : Nat, ¬ (30 * 1 ≤ (i : Int) ∧ (i : Int) < 30 * 1 + 30) → s_ld 203 i = st 203 i) ∧ (∀ i : Nat, ¬ (i : Int) = 1 → s_ld 202 i = st 202 i) ∧ (s_ld 202 (1 : Int).toNat = st 171 (sa : Int).toNat) ∧ (ta = 2 + st 173 (st 170 13 : Int).toNat ∧ sa = ta + st 181 (st 170 13 : Int).toNat ∧ n = sa + 2 + 2 * st 171 (sa : Int).toNat ∧ st 171 (sa : Int).toNat ≤ 30) ∧ (0 ≤ k ∧ k ≤ 30) ∧ (∀ j : Int, 0 < j → j < k → 0 < zad s_ld (s_ld 203 (30 * 1 + j - 1 : Int).toNat) (s_ld 203 (30 * 1 + j : Int).toNat)) → (30 - k).toNat = u → K (rx_find rx_m177 311) [(5, .inl k), (3, .inl sa), (2, .inl ta), (0, .inr (.inr (.inl 170))), (1, .inl n)] [] s_ld := by
    intro u_ld
    induction u_ld using Nat.strongRecOn with
    | _ u_ld ih_ld =>
      intro k sa ta s_ld hi hu_ld
      obtain ⟨gI_ld, fI_ld, o_ld, pp_ld, m_ld, a_ld, i_ld, c_ld⟩ := hi
      have g1 := g_stepMany gI_ld (1 : Int).toNat
      have g2 := g_tape hG (sa : Int).toNat
      have g3 := g_bank hG
      have g4 := g_streets hG (st 170 13 : Int).toNat
      have g5 := g_things hG (st 170 13 : Int).toNat
      have e6 : s_ld 170 13 = st 170 13 := fI_ld 170 13 rfl rfl
      have e7 : s_ld 173 (st 170 13 : Int).toNat = st 173 (st 170 13 : Int).toNat := fI_ld 173 (st 170 13 : Int).toNat rfl rfl
      have e8 : s_ld 181 (st 170 13 : Int).toNat = st 181 (st 170 13 : Int).toNat := fI_ld 181 (st 170 13 : Int).toNat rfl rfl
      refine yr1_ok (Rt := Q) (wc := (wcL [(60, k_copies), (67, k_isPlace), (223, k_stepOn)])) (stp := [311]) hcm hcl [99, 107, 111] 236 ?_
      show ((0 ≤ (1 : Int) ∧ (1 : Int) < 22) ∧ ((s_ld 202 (1 : Int).toNat ≤ k → ((1 = (0 : Int) ∨ 1 = (1 : Int)) ∧ Q (some (.inl 1)) s_ld)) ∧ (¬ (s_ld 202 (1 : Int).toNat ≤ k) → ((-2147483648 ≤ sa + 1 ∧ sa + 1 ≤ 2147483647) ∧ ((-2147483648 ≤ (2 : Int) * k ∧ (2 : Int) * k ≤ 2147483647) ∧ ((-2147483648 ≤ (sa + 1) + ((2 : Int) * k) ∧ (sa + 1) + ((2 : Int) * k) ≤ 2147483647) ∧ (170 = 170 ∧ (rq_stepOn k ((sa + 1) + ((2 : Int) * k)) s_ld ∧ (∀ (r9 : Int) (s9 : zS), en_stepOn k ((sa + 1) + ((2 : Int) * k)) s_ld r9 s9 → ((¬ r9 = (0 : Int) → ((-2147483648 ≤ k + 1 ∧ k + 1 ≤ 2147483647) ∧ K (rx_find rx_m177 311) [(5, .inl (k + 1)), (3, .inl sa), (2, .inl ta), (0, .inr (.inr (.inl 170))), (1, .inl n)] [] s9)) ∧ (¬ (¬ r9 = (0 : Int)) → ((0 = (0 : Int) ∨ 0 = (1 : Int)) ∧ Q (some (.inl 0)) s9))))))))))))
      refine ⟨by omega, ?_⟩
      refine ⟨fun h10 => ?_, fun h10 => ?_⟩
      · refine ⟨by omega, ?_⟩
        exact hQ _ _ ⟨gI_ld, fI_ld, (show ((1 : Int) = 0 ∨ (1 : Int) = 1) from by omega), (show (1 : Int) = 1 → jgd s_ld 1 from fun _ j z1 z2 => c_ld j z1 (by have z3 : j < s_ld 202 (1 : Int).toNat := z2; omega)), (show ∀ i : Nat, ¬ (30 * 1 ≤ (i : Int) ∧ (i : Int) < 30 * 1 + 30) → s_ld 203 i = st 203 i from o_ld), (show ∀ i : Nat, ¬ (i : Int) = 1 → s_ld 202 i = st 202 i from pp_ld)⟩
      · refine ⟨by omega, ?_⟩
        refine ⟨by omega, ?_⟩
        refine ⟨by omega, ?_⟩
        refine ⟨rfl, ⟨gI_ld, (show 0 ≤ k ∧ k < 30 ∧ 0 ≤ ((sa + 1) + ((2 : Int) * k)) ∧ ((sa + 1) + ((2 : Int) * k)) < 1599 from by omega)⟩, fun r9 s9 q9 => ?_⟩
        obtain ⟨gs9, fs9, b9, q9, o9⟩ := q9
        change (r9 = 0 ∨ r9 = 1) at b9
        change r9 = 1 → 0 < k → 0 < zad s9 (s9 203 (30 * 1 + k - 1 : Int).toNat) (s9 203 (30 * 1 + k : Int).toNat) at q9
        change ∀ i : Nat, ¬ (i : Int) = 30 + k → s9 203 i = s_ld 203 i at o9
        refine ⟨fun h11 => ?_, fun h11 => ?_⟩
        · refine ⟨by omega, ?_⟩
          have e12 : s9 202 (1 : Int).toNat = s_ld 202 (1 : Int).toNat := fs9 202 (1 : Int).toNat rfl rfl
          exact ih_ld _ (show (30 - (k + 1) : Int).toNat < u_ld from by omega) (k + 1) sa ta s9 ⟨gs9, (fr_tr fI_ld fs9 rfl), (show ∀ i : Nat, ¬ (30 * 1 ≤ (i : Int) ∧ (i : Int) < 30 * 1 + 30) → s9 203 i = st 203 i from fun i z1 => (o9 i (by omega)).trans (o_ld i z1)), (show ∀ i : Nat, ¬ (i : Int) = 1 → s9 202 i = st 202 i from fun i z1 => (fs9 202 i rfl rfl).trans (pp_ld i z1)), (show s9 202 (1 : Int).toNat = st 171 (sa : Int).toNat from (fs9 202 _ rfl rfl).trans m_ld), (show ta = 2 + st 173 (st 170 13 : Int).toNat ∧ sa = ta + st 181 (st 170 13 : Int).toNat ∧ n = sa + 2 + 2 * st 171 (sa : Int).toNat ∧ st 171 (sa : Int).toNat ≤ 30 from by omega), (show 0 ≤ (k + 1) ∧ (k + 1) ≤ 30 from by omega), (show ∀ j : Int, 0 < j → j < (k + 1) → 0 < zad s9 (s9 203 (30 * 1 + j - 1 : Int).toNat) (s9 203 (30 * 1 + j : Int).toNat) from fun j z1 z2 => by
            by_cases z3 : j = k
            · subst z3
              exact q9 (by omega) z1
            · rw [zad_e (fs9 170 13 rfl rfl) (fun i => fs9 177 i rfl rfl), o9 (30 * 1 + j - 1 : Int).toNat (by omega), o9 (30 * 1 + j : Int).toNat (by omega)]
              exact c_ld j z1 (by omega))⟩ rfl
        · refine ⟨by omega, ?_⟩
          exact hQ _ _ ⟨gs9, (fr_tr fI_ld fs9 rfl), (show ((0 : Int) = 0 ∨ (0 : Int) = 1) from by omega), (show (0 : Int) = 1 → jgd s9 1 from fun z => absurd z (by decide)), (show ∀ i : Nat, ¬ (30 * 1 ≤ (i : Int) ∧ (i : Int) < 30 * 1 + 30) → s9 203 i = st 203 i from fun i z1 => (o9 i (by omega)).trans (o_ld i z1)), (show ∀ i : Nat, ¬ (i : Int) = 1 → s9 202 i = st 202 i from fun i z1 => (fs9 202 i rfl rfl).trans (pp_ld i z1))⟩
  have lc : ∀ (u : Nat) (k : Int) (sa : Int) (ta : Int) (s_lc : zS), gInv zgt s_lc ∧ aFr m_comesOn st s_lc ∧ (∀ i : Nat, ¬ (30 * 1 ≤ (i : Int) ∧ (i : Int) < 30 * 1 + 30) → s_lc 203 i = st 203 i) ∧ (∀ i : Nat, ¬ (i : Int) = 1 → s_lc 202 i = st 202 i) ∧ (s_lc 202 (1 : Int).toNat = st 171 (sa : Int).toNat) ∧ (ta = 2 + st 173 (st 170 13 : Int).toNat ∧ sa = ta + st 181 (st 170 13 : Int).toNat ∧ n = sa + 2 + 2 * st 171 (sa : Int).toNat ∧ st 171 (sa : Int).toNat ≤ 30) ∧ (0 ≤ k ∧ k ≤ 8) → (8 - k).toNat = u → K (rx_find rx_m177 251) [(5, .inl k), (3, .inl sa), (2, .inl ta), (0, .inr (.inr (.inl 170))), (1, .inl n)] [] s_lc := by
    intro u_lc
    induction u_lc using Nat.strongRecOn with
    | _ u_lc ih_lc =>
      intro k sa ta s_lc hi hu_lc
      obtain ⟨gI_lc, fI_lc, o_lc, pp_lc, m_lc, a_lc, i_lc⟩ := hi
      have g13 := g_stepMany gI_lc (1 : Int).toNat
      have g14 := g_tape hG (sa : Int).toNat
      have g15 := g_bank hG
      have g16 := g_streets hG (st 170 13 : Int).toNat
      have g17 := g_things hG (st 170 13 : Int).toNat
      have e18 : s_lc 170 13 = st 170 13 := fI_lc 170 13 rfl rfl
      have e19 : s_lc 173 (st 170 13 : Int).toNat = st 173 (st 170 13 : Int).toNat := fI_lc 173 (st 170 13 : Int).toNat rfl rfl
      have e20 : s_lc 181 (st 170 13 : Int).toNat = st 181 (st 170 13 : Int).toNat := fI_lc 181 (st 170 13 : Int).toNat rfl rfl
      refine yr1_ok (Rt := Q) (wc := (wcL [(60, k_copies), (67, k_isPlace), (223, k_stepOn)])) (stp := [251, 311]) hcm hcl [99, 107, 111] 236 ?_
      show ((0 ≤ s_lc 170 13 ∧ s_lc 170 13 < 2) ∧ ((s_lc 181 (s_lc 170 13 : Int).toNat ≤ k → K (rx_find rx_m177 311) [(5, .inl 0), (3, .inl sa), (2, .inl ta), (0, .inr (.inr (.inl 170))), (1, .inl n)] [] s_lc) ∧ (¬ (s_lc 181 (s_lc 170 13 : Int).toNat ≤ k) → ((-2147483648 ≤ ta + k ∧ ta + k ≤ 2147483647) ∧ ((0 ≤ ta + k ∧ ta + k < 1800) ∧ (170 = 170 ∧ (rq_isPlace (s_lc 171 (ta + k : Int).toNat) s_lc ∧ (∀ (r21 : Int), en_isPlace (s_lc 171 (ta + k : Int).toNat) s_lc r21 → ((¬ r21 = (0 : Int) → ((-2147483648 ≤ (8 : Int) + k ∧ (8 : Int) + k ≤ 2147483647) ∧ ((-2147483648 ≤ ta + k ∧ ta + k ≤ 2147483647) ∧ ((0 ≤ ta + k ∧ ta + k < 1800) ∧ ((0 ≤ (8 : Int) + k ∧ (8 : Int) + k < 176) ∧ ((-2147483648 ≤ k + 1 ∧ k + 1 ≤ 2147483647) ∧ K (rx_find rx_m177 251) [(5, .inl (k + 1)), (3, .inl sa), (2, .inl ta), (0, .inr (.inr (.inl 170))), (1, .inl n)] [] (zup s_lc 201 ((8 : Int) + k : Int).toNat (s_lc 171 (ta + k : Int).toNat)))))))) ∧ (¬ (¬ r21 = (0 : Int)) → ((0 = (0 : Int) ∨ 0 = (1 : Int)) ∧ Q (some (.inl 0)) s_lc)))))))))))
      have e22 : s_lc 181 (s_lc 170 13 : Int).toNat = st 181 (st 170 13 : Int).toNat := (fI_lc 181 (s_lc 170 13 : Int).toNat rfl rfl).trans (by rw [e18] <;> rfl)
      refine ⟨by omega, ?_⟩
      refine ⟨fun h23 => ?_, fun h23 => ?_⟩
      · exact ld _ 0 sa ta s_lc ⟨gI_lc, fI_lc, (show ∀ i : Nat, ¬ (30 * 1 ≤ (i : Int) ∧ (i : Int) < 30 * 1 + 30) → s_lc 203 i = st 203 i from o_lc), (show ∀ i : Nat, ¬ (i : Int) = 1 → s_lc 202 i = st 202 i from pp_lc), (show s_lc 202 (1 : Int).toNat = st 171 (sa : Int).toNat from m_lc), (show ta = 2 + st 173 (st 170 13 : Int).toNat ∧ sa = ta + st 181 (st 170 13 : Int).toNat ∧ n = sa + 2 + 2 * st 171 (sa : Int).toNat ∧ st 171 (sa : Int).toNat ≤ 30 from by omega), (show 0 ≤ (0 : Int) ∧ (0 : Int) ≤ 30 from by omega), (show ∀ j : Int, 0 < j → j < (0 : Int) → 0 < zad s_lc (s_lc 203 (30 * 1 + j - 1 : Int).toNat) (s_lc 203 (30 * 1 + j : Int).toNat) from fun j z1 z2 => by omega)⟩ rfl
      · refine ⟨by omega, ?_⟩
        have g25 := g_tape hG (ta + k : Int).toNat
        have e24 : s_lc 171 (ta + k : Int).toNat = st 171 (ta + k : Int).toNat := fI_lc 171 (ta + k : Int).toNat rfl rfl
        refine ⟨by omega, ?_⟩
        refine ⟨rfl, gI_lc, fun r21 q21 => ?_⟩
        have b21 := q21
        change (r21 = 0 ∨ r21 = 1) ∧ (r21 = 1 ↔ 0 ≤ (s_lc 171 (ta + k : Int).toNat) ∧ (s_lc 171 (ta + k : Int).toNat) < s_lc 172 (s_lc 170 13 : Int).toNat) at b21
        have g27 := g_places hG (st 170 13 : Int).toNat
        have e26 : s_lc 172 (s_lc 170 13 : Int).toNat = st 172 (st 170 13 : Int).toNat := (fI_lc 172 (s_lc 170 13 : Int).toNat rfl rfl).trans (by rw [e18] <;> rfl)
        refine ⟨fun h28 => ?_, fun h28 => ?_⟩
        · refine ⟨by omega, ?_⟩
          refine ⟨by omega, ?_⟩
          refine ⟨by omega, ?_⟩
          refine ⟨by omega, ?_⟩
          refine ⟨by omega, ?_⟩
          exact ih_lc _ (show (8 - (k + 1) : Int).toNat < u_lc from by omega) (k + 1) sa ta (zup s_lc 201 ((8 : Int) + k : Int).toNat (s_lc 171 (ta + k : Int).toNat)) ⟨(gInv_up gI_lc (p_thingAt (by omega))), (fr_a fI_lc rfl), (show ∀ i : Nat, ¬ (30 * 1 ≤ (i : Int) ∧ (i : Int) < 30 * 1 + 30) → (zup s_lc 201 ((8 : Int) + k : Int).toNat (s_lc 171 (ta + k : Int).toNat)) 203 i = st 203 i from o_lc), (show ∀ i : Nat, ¬ (i : Int) = 1 → (zup s_lc 201 ((8 : Int) + k : Int).toNat (s_lc 171 (ta + k : Int).toNat)) 202 i = st 202 i from pp_lc), (show s_lc 202 (1 : Int).toNat = st 171 (sa : Int).toNat from m_lc), (show ta = 2 + st 173 (st 170 13 : Int).toNat ∧ sa = ta + st 181 (st 170 13 : Int).toNat ∧ n = sa + 2 + 2 * st 171 (sa : Int).toNat ∧ st 171 (sa : Int).toNat ≤ 30 from by omega), (show 0 ≤ (k + 1) ∧ (k + 1) ≤ 8 from by omega)⟩ rfl
        · refine ⟨by omega, ?_⟩
          exact hQ _ _ ⟨gI_lc, fI_lc, (show ((0 : Int) = 0 ∨ (0 : Int) = 1) from by omega), (show (0 : Int) = 1 → jgd s_lc 1 from fun z => absurd z (by decide)), (show ∀ i : Nat, ¬ (30 * 1 ≤ (i : Int) ∧ (i : Int) < 30 * 1 + 30) → s_lc 203 i = st 203 i from o_lc), (show ∀ i : Nat, ¬ (i : Int) = 1 → s_lc 202 i = st 202 i from pp_lc)⟩
  have lb : ∀ (u : Nat) (k : Int) (sa : Int) (ta : Int) (s_lb : zS), gInv zgt s_lb ∧ aFr m_comesOn st s_lb ∧ (∀ i : Nat, ¬ (30 * 1 ≤ (i : Int) ∧ (i : Int) < 30 * 1 + 30) → s_lb 203 i = st 203 i) ∧ (∀ i : Nat, ¬ (i : Int) = 1 → s_lb 202 i = st 202 i) ∧ (s_lb 202 (1 : Int).toNat = st 171 (sa : Int).toNat) ∧ (ta = 2 + st 173 (st 170 13 : Int).toNat ∧ sa = ta + st 181 (st 170 13 : Int).toNat ∧ n = sa + 2 + 2 * st 171 (sa : Int).toNat ∧ st 171 (sa : Int).toNat ≤ 30) ∧ (0 ≤ k ∧ k ≤ 14) → (14 - k).toNat = u → K (rx_find rx_m177 192) [(5, .inl k), (3, .inl sa), (2, .inl ta), (0, .inr (.inr (.inl 170))), (1, .inl n)] [] s_lb := by
    intro u_lb
    induction u_lb using Nat.strongRecOn with
    | _ u_lb ih_lb =>
      intro k sa ta s_lb hi hu_lb
      obtain ⟨gI_lb, fI_lb, o_lb, pp_lb, m_lb, a_lb, i_lb⟩ := hi
      have g29 := g_stepMany gI_lb (1 : Int).toNat
      have g30 := g_tape hG (sa : Int).toNat
      have g31 := g_bank hG
      have g32 := g_streets hG (st 170 13 : Int).toNat
      have g33 := g_things hG (st 170 13 : Int).toNat
      have e34 : s_lb 170 13 = st 170 13 := fI_lb 170 13 rfl rfl
      have e35 : s_lb 173 (st 170 13 : Int).toNat = st 173 (st 170 13 : Int).toNat := fI_lb 173 (st 170 13 : Int).toNat rfl rfl
      have e36 : s_lb 181 (st 170 13 : Int).toNat = st 181 (st 170 13 : Int).toNat := fI_lb 181 (st 170 13 : Int).toNat rfl rfl
      refine yr1_ok (Rt := Q) (wc := (wcL [(60, k_copies), (67, k_isPlace), (223, k_stepOn)])) (stp := [192, 251, 311]) hcm hcl [99, 107, 111] 236 ?_
      show ((0 ≤ s_lb 170 13 ∧ s_lb 170 13 < 2) ∧ ((s_lb 173 (s_lb 170 13 : Int).toNat ≤ k → K (rx_find rx_m177 251) [(5, .inl 0), (3, .inl sa), (2, .inl ta), (0, .inr (.inr (.inl 170))), (1, .inl n)] [] s_lb) ∧ (¬ (s_lb 173 (s_lb 170 13 : Int).toNat ≤ k) → ((-2147483648 ≤ (2 : Int) + k ∧ (2 : Int) + k ≤ 2147483647) ∧ ((0 ≤ (2 : Int) + k ∧ (2 : Int) + k < 1800) ∧ ((s_lb 171 ((2 : Int) + k : Int).toNat ≤ (1 : Int) → ((0 ≤ (1 : Int) ∧ (1 : Int) < 22) ∧ ((-2147483648 ≤ (2 : Int) + k ∧ (2 : Int) + k ≤ 2147483647) ∧ ((0 ≤ (2 : Int) + k ∧ (2 : Int) + k < 1800) ∧ ((0 ≤ (1 : Int) ∧ (1 : Int) < 22) ∧ ((-2147483648 ≤ k + 1 ∧ k + 1 ≤ 2147483647) ∧ K (rx_find rx_m177 192) [(5, .inl (k + 1)), (3, .inl sa), (2, .inl ta), (0, .inr (.inr (.inl 170))), (1, .inl n)] [] (zup s_lb 200 (1 : Int).toNat (zd (Nat.lor (zi (s_lb 200 (1 : Int).toNat)) (zi (zd ((zi (s_lb 171 ((2 : Int) + k : Int).toNat) * 2 ^ (zi k % 32)) % 4294967296)))))))))))) ∧ (¬ (s_lb 171 ((2 : Int) + k : Int).toNat ≤ (1 : Int)) → ((0 = (0 : Int) ∨ 0 = (1 : Int)) ∧ Q (some (.inl 0)) s_lb))))))))
      have e37 : s_lb 173 (s_lb 170 13 : Int).toNat = st 173 (st 170 13 : Int).toNat := (fI_lb 173 (s_lb 170 13 : Int).toNat rfl rfl).trans (by rw [e34] <;> rfl)
      refine ⟨by omega, ?_⟩
      refine ⟨fun h38 => ?_, fun h38 => ?_⟩
      · exact lc _ 0 sa ta s_lb ⟨gI_lb, fI_lb, (show ∀ i : Nat, ¬ (30 * 1 ≤ (i : Int) ∧ (i : Int) < 30 * 1 + 30) → s_lb 203 i = st 203 i from o_lb), (show ∀ i : Nat, ¬ (i : Int) = 1 → s_lb 202 i = st 202 i from pp_lb), (show s_lb 202 (1 : Int).toNat = st 171 (sa : Int).toNat from m_lb), (show ta = 2 + st 173 (st 170 13 : Int).toNat ∧ sa = ta + st 181 (st 170 13 : Int).toNat ∧ n = sa + 2 + 2 * st 171 (sa : Int).toNat ∧ st 171 (sa : Int).toNat ≤ 30 from by omega), (show 0 ≤ (0 : Int) ∧ (0 : Int) ≤ 8 from by omega)⟩ rfl
      · refine ⟨by omega, ?_⟩
        have g40 := g_tape hG ((2 : Int) + k : Int).toNat
        have e39 : s_lb 171 ((2 : Int) + k : Int).toNat = st 171 ((2 : Int) + k : Int).toNat := fI_lb 171 ((2 : Int) + k : Int).toNat rfl rfl
        refine ⟨by omega, ?_⟩
        refine ⟨fun h41 => ?_, fun h41 => ?_⟩
        · have g42 := g_shutOf gI_lb (1 : Int).toNat
          refine ⟨by omega, ?_⟩
          refine ⟨by omega, ?_⟩
          refine ⟨by omega, ?_⟩
          refine ⟨by omega, ?_⟩
          refine ⟨by omega, ?_⟩
          exact ih_lb _ (show (14 - (k + 1) : Int).toNat < u_lb from by omega) (k + 1) sa ta (zup s_lb 200 (1 : Int).toNat (zd (Nat.lor (zi (s_lb 200 (1 : Int).toNat)) (zi (zd ((zi (s_lb 171 ((2 : Int) + k : Int).toNat) * 2 ^ (zi k % 32)) % 4294967296)))))) ⟨(gInv_up gI_lb (p_shutOf (zdor_ok _ _))), (fr_a fI_lb rfl), (show ∀ i : Nat, ¬ (30 * 1 ≤ (i : Int) ∧ (i : Int) < 30 * 1 + 30) → (zup s_lb 200 (1 : Int).toNat (zd (Nat.lor (zi (s_lb 200 (1 : Int).toNat)) (zi (zd ((zi (s_lb 171 ((2 : Int) + k : Int).toNat) * 2 ^ (zi k % 32)) % 4294967296)))))) 203 i = st 203 i from o_lb), (show ∀ i : Nat, ¬ (i : Int) = 1 → (zup s_lb 200 (1 : Int).toNat (zd (Nat.lor (zi (s_lb 200 (1 : Int).toNat)) (zi (zd ((zi (s_lb 171 ((2 : Int) + k : Int).toNat) * 2 ^ (zi k % 32)) % 4294967296)))))) 202 i = st 202 i from pp_lb), (show s_lb 202 (1 : Int).toNat = st 171 (sa : Int).toNat from m_lb), (show ta = 2 + st 173 (st 170 13 : Int).toNat ∧ sa = ta + st 181 (st 170 13 : Int).toNat ∧ n = sa + 2 + 2 * st 171 (sa : Int).toNat ∧ st 171 (sa : Int).toNat ≤ 30 from by omega), (show 0 ≤ (k + 1) ∧ (k + 1) ≤ 14 from by omega)⟩ rfl
        · refine ⟨by omega, ?_⟩
          exact hQ _ _ ⟨gI_lb, fI_lb, (show ((0 : Int) = 0 ∨ (0 : Int) = 1) from by omega), (show (0 : Int) = 1 → jgd s_lb 1 from fun z => absurd z (by decide)), (show ∀ i : Nat, ¬ (30 * 1 ≤ (i : Int) ∧ (i : Int) < 30 * 1 + 30) → s_lb 203 i = st 203 i from o_lb), (show ∀ i : Nat, ¬ (i : Int) = 1 → s_lb 202 i = st 202 i from pp_lb)⟩
  have la : ∀ (u : Nat) (k : Int) (su : Int) (sa : Int) (ta : Int), (ta = 2 + st 173 (st 170 13 : Int).toNat ∧ sa = ta + st 181 (st 170 13 : Int).toNat ∧ n = sa + 2 + 2 * st 171 (sa : Int).toNat ∧ st 171 (sa : Int).toNat ≤ 30) ∧ (0 ≤ k ∧ k ≤ n) → (n - k).toNat = u → K (rx_find rx_m177 88) [(5, .inl k), (4, .inl su), (3, .inl sa), (2, .inl ta), (0, .inr (.inr (.inl 170))), (1, .inl n)] [] st := by
    intro u_la
    induction u_la using Nat.strongRecOn with
    | _ u_la ih_la =>
      intro k su sa ta hi hu_la
      obtain ⟨a_la, i_la⟩ := hi
      have g43 := g_bank hG
      have g44 := g_streets hG (st 170 13 : Int).toNat
      have g45 := g_things hG (st 170 13 : Int).toNat
      have g46 := g_tape hG (sa : Int).toNat
      refine yr1_ok (Rt := Q) (wc := (wcL [(60, k_copies), (67, k_isPlace), (223, k_stepOn)])) (stp := [88, 192, 251, 311]) hcm hcl [99, 107, 111] 236 ?_
      show ((-2147483648 ≤ n - 1 ∧ n - 1 ≤ 2147483647) ∧ ((n - 1 ≤ k → ((-2147483648 ≤ n - 1 ∧ n - 1 ≤ 2147483647) ∧ ((0 ≤ n - 1 ∧ n - 1 < 1800) ∧ ((st 171 (n - 1 : Int).toNat = su → (170 = 170 ∧ (rq_copies (1) (0) st ∧ (∀ (s47 : zS), en_copies (1) (0) st s47 → ((0 ≤ (0 : Int) ∧ (0 : Int) < 1800) ∧ ((0 ≤ (1 : Int) ∧ (1 : Int) < 1800) ∧ ((0 ≤ (1 : Int) ∧ (1 : Int) < 22) ∧ ((0 ≤ (1 : Int) ∧ (1 : Int) < 22) ∧ ((0 ≤ (1 : Int) ∧ (1 : Int) < 22) ∧ ((0 ≤ sa ∧ sa < 1800) ∧ ((0 ≤ (1 : Int) ∧ (1 : Int) < 22) ∧ K (rx_find rx_m177 192) [(5, .inl 0), (4, .inl su), (3, .inl sa), (2, .inl ta), (0, .inr (.inr (.inl 170))), (1, .inl n)] [] (zup (zup (zup (zup s47 199 (1 : Int).toNat (zd (Nat.lor (zi (zd ((zi (s47 171 (0 : Int).toNat) * 2 ^ (zi 8 % 32)) % 4294967296))) (zi (s47 171 (1 : Int).toNat))))) 200 (1 : Int).toNat 0) 205 (1 : Int).toNat 0) 202 (1 : Int).toNat (s47 171 (sa : Int).toNat))))))))))))) ∧ (¬ (st 171 (n - 1 : Int).toNat = su) → ((0 = (0 : Int) ∨ 0 = (1 : Int)) ∧ Q (some (.inl 0)) st)))))) ∧ (¬ (n - 1 ≤ k) → ((0 ≤ k ∧ k < 1800) ∧ ((¬ (251 : Int) = 0) ∧ ((-2147483648 ≤ k + 1 ∧ k + 1 ≤ 2147483647) ∧ K (rx_find rx_m177 88) [(5, .inl (k + 1)), (4, .inl (zw (Int.tmod (zw ((zw ((5 : Int) * su)) + (st 171 (k : Int).toNat))) 251))), (3, .inl sa), (2, .inl ta), (0, .inr (.inr (.inl 170))), (1, .inl n)] [] st))))))
      refine ⟨by omega, ?_⟩
      refine ⟨fun h48 => ?_, fun h48 => ?_⟩
      · refine ⟨by omega, ?_⟩
        have g49 := g_tape hG (n - 1 : Int).toNat
        refine ⟨by omega, ?_⟩
        refine ⟨fun h50 => ?_, fun h50 => ?_⟩
        · refine ⟨rfl, ⟨hG, (show 0 ≤ (1) ∧ (1) ≤ 21 ∧ 0 ≤ (0) ∧ (0) ≤ 21 ∧ ¬ (1) = (0) from by omega)⟩, fun s47 q47 => ?_⟩
          obtain ⟨gs47, fs47, c47, o47, m47, pp47⟩ := q47
          change ∀ j : Int, 0 ≤ j → j < 30 → s47 203 (30 * (1) + j).toNat = st 203 (30 * (0) + j).toNat at c47
          change ∀ i : Nat, ¬ (30 * (1) ≤ (i : Int) ∧ (i : Int) < 30 * (1) + 30) → s47 203 i = st 203 i at o47
          change s47 202 ((1) : Int).toNat = st 202 ((0) : Int).toNat at m47
          change ∀ i : Nat, ¬ (i : Int) = (1) → s47 202 i = st 202 i at pp47
          have g52 := g_tape hG (0 : Int).toNat
          have e51 : s47 171 (0 : Int).toNat = st 171 (0 : Int).toNat := fs47 171 (0 : Int).toNat rfl rfl
          refine ⟨by omega, ?_⟩
          have g54 := g_tape hG (1 : Int).toNat
          have e53 : s47 171 (1 : Int).toNat = st 171 (1 : Int).toNat := fs47 171 (1 : Int).toNat rfl rfl
          refine ⟨by omega, ?_⟩
          refine ⟨by omega, ?_⟩
          refine ⟨by omega, ?_⟩
          refine ⟨by omega, ?_⟩
          have e55 : s47 171 (sa : Int).toNat = st 171 (sa : Int).toNat := fs47 171 (sa : Int).toNat rfl rfl
          refine ⟨by omega, ?_⟩
          refine ⟨by omega, ?_⟩
          have u56 : (zup (zup (zup (zup s47 199 (1 : Int).toNat (zd (Nat.lor (zi (zd ((zi (s47 171 (0 : Int).toNat) * 2 ^ (zi 8 % 32)) % 4294967296))) (zi (s47 171 (1 : Int).toNat))))) 200 (1 : Int).toNat 0) 205 (1 : Int).toNat 0) 202 (1 : Int).toNat (s47 171 (sa : Int).toNat)) 202 (1 : Int).toNat = (s47 171 (sa : Int).toNat) := zup_eq _ _ _ _
          exact hsl _ _ _ _ _ (sb_cons (.head _) (sb_cons (.tail _ (.tail _ (.head _))) (sb_cons (.tail _ (.tail _ (.tail _ (.head _)))) (sb_cons (.tail _ (.tail _ (.tail _ (.tail _ (.head _))))) (sb_cons (.tail _ (.tail _ (.tail _ (.tail _ (.tail _ (.head _)))))) sb_nil))))) (lb _ 0 sa ta (zup (zup (zup (zup s47 199 (1 : Int).toNat (zd (Nat.lor (zi (zd ((zi (s47 171 (0 : Int).toNat) * 2 ^ (zi 8 % 32)) % 4294967296))) (zi (s47 171 (1 : Int).toNat))))) 200 (1 : Int).toNat 0) 205 (1 : Int).toNat 0) 202 (1 : Int).toNat (s47 171 (sa : Int).toNat)) ⟨(gInv_up (gInv_up (gInv_up (gInv_up gs47 (p_yearOf (zdor_ok _ _))) (p_shutOf (by omega))) (p_keptMany (by omega))) (p_stepMany (by omega))), (fr_a (fr_a (fr_a (fr_a (fr_tr (fr_rf _ _) fs47 rfl) rfl) rfl) rfl) rfl), (show ∀ i : Nat, ¬ (30 * 1 ≤ (i : Int) ∧ (i : Int) < 30 * 1 + 30) → (zup (zup (zup (zup s47 199 (1 : Int).toNat (zd (Nat.lor (zi (zd ((zi (s47 171 (0 : Int).toNat) * 2 ^ (zi 8 % 32)) % 4294967296))) (zi (s47 171 (1 : Int).toNat))))) 200 (1 : Int).toNat 0) 205 (1 : Int).toNat 0) 202 (1 : Int).toNat (s47 171 (sa : Int).toNat)) 203 i = st 203 i from o47), (show ∀ i : Nat, ¬ (i : Int) = 1 → (zup (zup (zup (zup s47 199 (1 : Int).toNat (zd (Nat.lor (zi (zd ((zi (s47 171 (0 : Int).toNat) * 2 ^ (zi 8 % 32)) % 4294967296))) (zi (s47 171 (1 : Int).toNat))))) 200 (1 : Int).toNat 0) 205 (1 : Int).toNat 0) 202 (1 : Int).toNat (s47 171 (sa : Int).toNat)) 202 i = st 202 i from fun i z1 => (up1_n (s47 202) _ (by omega)).trans (pp47 i z1)), (show (zup (zup (zup (zup s47 199 (1 : Int).toNat (zd (Nat.lor (zi (zd ((zi (s47 171 (0 : Int).toNat) * 2 ^ (zi 8 % 32)) % 4294967296))) (zi (s47 171 (1 : Int).toNat))))) 200 (1 : Int).toNat 0) 205 (1 : Int).toNat 0) 202 (1 : Int).toNat (s47 171 (sa : Int).toNat)) 202 (1 : Int).toNat = st 171 (sa : Int).toNat from (up1_e (s47 202) _ _).trans (fs47 171 _ rfl rfl)), (show ta = 2 + st 173 (st 170 13 : Int).toNat ∧ sa = ta + st 181 (st 170 13 : Int).toNat ∧ n = sa + 2 + 2 * st 171 (sa : Int).toNat ∧ st 171 (sa : Int).toNat ≤ 30 from by omega), (show 0 ≤ (0 : Int) ∧ (0 : Int) ≤ 14 from by omega)⟩ rfl)
        · refine ⟨by omega, ?_⟩
          exact hQ _ _ ⟨hG, (fr_rf _ _), (show ((0 : Int) = 0 ∨ (0 : Int) = 1) from by omega), (show (0 : Int) = 1 → jgd st 1 from fun z => absurd z (by decide)), (show ∀ i : Nat, ¬ (30 * 1 ≤ (i : Int) ∧ (i : Int) < 30 * 1 + 30) → st 203 i = st 203 i from fun _ _ => rfl), (show ∀ i : Nat, ¬ (i : Int) = 1 → st 202 i = st 202 i from fun _ _ => rfl)⟩
      · have g57 := g_tape hG (k : Int).toNat
        refine ⟨by omega, ?_⟩
        refine ⟨by omega, ?_⟩
        refine ⟨by omega, ?_⟩
        exact ih_la _ (show (n - (k + 1) : Int).toNat < u_la from by omega) (k + 1) (zw (Int.tmod (zw ((zw ((5 : Int) * su)) + (st 171 (k : Int).toNat))) 251)) sa ta ⟨(show ta = 2 + st 173 (st 170 13 : Int).toNat ∧ sa = ta + st 181 (st 170 13 : Int).toNat ∧ n = sa + 2 + 2 * st 171 (sa : Int).toNat ∧ st 171 (sa : Int).toNat ≤ 30 from by omega), (show 0 ≤ (k + 1) ∧ (k + 1) ≤ n from by omega)⟩ rfl
  have g58 := g_bank hG
  have g59 := g_streets hG (st 170 13 : Int).toNat
  have g60 := g_things hG (st 170 13 : Int).toNat
  refine yr1_ok (Rt := Q) (wc := (wcL [(60, k_copies), (67, k_isPlace), (223, k_stepOn)])) (stp := [88, 192, 251, 311]) hcm hcl [99, 107, 111] 236 ?_
  show ((0 ≤ st 170 13 ∧ st 170 13 < 2) ∧ ((-2147483648 ≤ (2 : Int) + (st 173 (st 170 13 : Int).toNat) ∧ (2 : Int) + (st 173 (st 170 13 : Int).toNat) ≤ 2147483647) ∧ ((0 ≤ st 170 13 ∧ st 170 13 < 2) ∧ ((-2147483648 ≤ ((2 : Int) + (st 173 (st 170 13 : Int).toNat)) + (st 181 (st 170 13 : Int).toNat) ∧ ((2 : Int) + (st 173 (st 170 13 : Int).toNat)) + (st 181 (st 170 13 : Int).toNat) ≤ 2147483647) ∧ ((n ≤ ((2 : Int) + (st 173 (st 170 13 : Int).toNat)) + (st 181 (st 170 13 : Int).toNat) → ((0 = (0 : Int) ∨ 0 = (1 : Int)) ∧ Q (some (.inl 0)) st)) ∧ (¬ (n ≤ ((2 : Int) + (st 173 (st 170 13 : Int).toNat)) + (st 181 (st 170 13 : Int).toNat)) → ((0 ≤ ((2 : Int) + (st 173 (st 170 13 : Int).toNat)) + (st 181 (st 170 13 : Int).toNat) ∧ ((2 : Int) + (st 173 (st 170 13 : Int).toNat)) + (st 181 (st 170 13 : Int).toNat) < 1800) ∧ (((30 : Int) < st 171 (((2 : Int) + (st 173 (st 170 13 : Int).toNat)) + (st 181 (st 170 13 : Int).toNat) : Int).toNat → ((0 = (0 : Int) ∨ 0 = (1 : Int)) ∧ Q (some (.inl 0)) st)) ∧ (¬ ((30 : Int) < st 171 (((2 : Int) + (st 173 (st 170 13 : Int).toNat)) + (st 181 (st 170 13 : Int).toNat) : Int).toNat) → ((-2147483648 ≤ (((2 : Int) + (st 173 (st 170 13 : Int).toNat)) + (st 181 (st 170 13 : Int).toNat)) + 2 ∧ (((2 : Int) + (st 173 (st 170 13 : Int).toNat)) + (st 181 (st 170 13 : Int).toNat)) + 2 ≤ 2147483647) ∧ ((0 ≤ ((2 : Int) + (st 173 (st 170 13 : Int).toNat)) + (st 181 (st 170 13 : Int).toNat) ∧ ((2 : Int) + (st 173 (st 170 13 : Int).toNat)) + (st 181 (st 170 13 : Int).toNat) < 1800) ∧ ((-2147483648 ≤ (2 : Int) * (st 171 (((2 : Int) + (st 173 (st 170 13 : Int).toNat)) + (st 181 (st 170 13 : Int).toNat) : Int).toNat) ∧ (2 : Int) * (st 171 (((2 : Int) + (st 173 (st 170 13 : Int).toNat)) + (st 181 (st 170 13 : Int).toNat) : Int).toNat) ≤ 2147483647) ∧ ((-2147483648 ≤ ((((2 : Int) + (st 173 (st 170 13 : Int).toNat)) + (st 181 (st 170 13 : Int).toNat)) + 2) + ((2 : Int) * (st 171 (((2 : Int) + (st 173 (st 170 13 : Int).toNat)) + (st 181 (st 170 13 : Int).toNat) : Int).toNat)) ∧ ((((2 : Int) + (st 173 (st 170 13 : Int).toNat)) + (st 181 (st 170 13 : Int).toNat)) + 2) + ((2 : Int) * (st 171 (((2 : Int) + (st 173 (st 170 13 : Int).toNat)) + (st 181 (st 170 13 : Int).toNat) : Int).toNat)) ≤ 2147483647) ∧ ((¬ n = ((((2 : Int) + (st 173 (st 170 13 : Int).toNat)) + (st 181 (st 170 13 : Int).toNat)) + 2) + ((2 : Int) * (st 171 (((2 : Int) + (st 173 (st 170 13 : Int).toNat)) + (st 181 (st 170 13 : Int).toNat) : Int).toNat)) → ((0 = (0 : Int) ∨ 0 = (1 : Int)) ∧ Q (some (.inl 0)) st)) ∧ (¬ (¬ n = ((((2 : Int) + (st 173 (st 170 13 : Int).toNat)) + (st 181 (st 170 13 : Int).toNat)) + 2) + ((2 : Int) * (st 171 (((2 : Int) + (st 173 (st 170 13 : Int).toNat)) + (st 181 (st 170 13 : Int).toNat) : Int).toNat))) → ((0 ≤ (0 : Int) ∧ (0 : Int) < 1800) ∧ ((0 ≤ (1 : Int) ∧ (1 : Int) < 1800) ∧ ((zd (Nat.lor (zi (zd ((zi (st 171 (0 : Int).toNat) * 2 ^ (zi 8 % 32)) % 4294967296))) (zi (st 171 (1 : Int).toNat))) ≤ (999 : Int) → K (rx_find rx_m177 88) [(5, .inl 0), (4, .inl 197), (3, .inl (((2 : Int) + (st 173 (st 170 13 : Int).toNat)) + (st 181 (st 170 13 : Int).toNat))), (2, .inl ((2 : Int) + (st 173 (st 170 13 : Int).toNat))), (0, .inr (.inr (.inl 170))), (1, .inl n)] [] st) ∧ (¬ (zd (Nat.lor (zi (zd ((zi (st 171 (0 : Int).toNat) * 2 ^ (zi 8 % 32)) % 4294967296))) (zi (st 171 (1 : Int).toNat))) ≤ (999 : Int)) → ((0 = (0 : Int) ∨ 0 = (1 : Int)) ∧ Q (some (.inl 0)) st))))))))))))))))))))
  refine ⟨by omega, ?_⟩
  refine ⟨by omega, ?_⟩
  refine ⟨by omega, ?_⟩
  refine ⟨by omega, ?_⟩
  refine ⟨fun h61 => ?_, fun h61 => ?_⟩
  · refine ⟨by omega, ?_⟩
    exact hQ _ _ ⟨hG, (fr_rf _ _), (show ((0 : Int) = 0 ∨ (0 : Int) = 1) from by omega), (show (0 : Int) = 1 → jgd st 1 from fun z => absurd z (by decide)), (show ∀ i : Nat, ¬ (30 * 1 ≤ (i : Int) ∧ (i : Int) < 30 * 1 + 30) → st 203 i = st 203 i from fun _ _ => rfl), (show ∀ i : Nat, ¬ (i : Int) = 1 → st 202 i = st 202 i from fun _ _ => rfl)⟩
  · have g62 := g_tape hG (((2 : Int) + (st 173 (st 170 13 : Int).toNat)) + (st 181 (st 170 13 : Int).toNat) : Int).toNat
    refine ⟨by omega, ?_⟩
    refine ⟨fun h63 => ?_, fun h63 => ?_⟩
    · refine ⟨by omega, ?_⟩
      exact hQ _ _ ⟨hG, (fr_rf _ _), (show ((0 : Int) = 0 ∨ (0 : Int) = 1) from by omega), (show (0 : Int) = 1 → jgd st 1 from fun z => absurd z (by decide)), (show ∀ i : Nat, ¬ (30 * 1 ≤ (i : Int) ∧ (i : Int) < 30 * 1 + 30) → st 203 i = st 203 i from fun _ _ => rfl), (show ∀ i : Nat, ¬ (i : Int) = 1 → st 202 i = st 202 i from fun _ _ => rfl)⟩
    · refine ⟨by omega, ?_⟩
      refine ⟨by omega, ?_⟩
      refine ⟨by omega, ?_⟩
      refine ⟨by omega, ?_⟩
      refine ⟨fun h64 => ?_, fun h64 => ?_⟩
      · refine ⟨by omega, ?_⟩
        exact hQ _ _ ⟨hG, (fr_rf _ _), (show ((0 : Int) = 0 ∨ (0 : Int) = 1) from by omega), (show (0 : Int) = 1 → jgd st 1 from fun z => absurd z (by decide)), (show ∀ i : Nat, ¬ (30 * 1 ≤ (i : Int) ∧ (i : Int) < 30 * 1 + 30) → st 203 i = st 203 i from fun _ _ => rfl), (show ∀ i : Nat, ¬ (i : Int) = 1 → st 202 i = st 202 i from fun _ _ => rfl)⟩
      · have g65 := g_tape hG (0 : Int).toNat
        refine ⟨by omega, ?_⟩
        have g66 := g_tape hG (1 : Int).toNat
        refine ⟨by omega, ?_⟩
        refine ⟨fun h67 => ?_, fun h67 => ?_⟩
        · have g68 := g_tape hG ((((2 : Int) + (st 173 (st 170 13 : Int).toNat)) + (st 181 (st 170 13 : Int).toNat)) : Int).toNat
          exact la _ 0 197 (((2 : Int) + (st 173 (st 170 13 : Int).toNat)) + (st 181 (st 170 13 : Int).toNat)) ((2 : Int) + (st 173 (st 170 13 : Int).toNat)) ⟨(show ((2 : Int) + (st 173 (st 170 13 : Int).toNat)) = 2 + st 173 (st 170 13 : Int).toNat ∧ (((2 : Int) + (st 173 (st 170 13 : Int).toNat)) + (st 181 (st 170 13 : Int).toNat)) = ((2 : Int) + (st 173 (st 170 13 : Int).toNat)) + st 181 (st 170 13 : Int).toNat ∧ n = (((2 : Int) + (st 173 (st 170 13 : Int).toNat)) + (st 181 (st 170 13 : Int).toNat)) + 2 + 2 * st 171 ((((2 : Int) + (st 173 (st 170 13 : Int).toNat)) + (st 181 (st 170 13 : Int).toNat)) : Int).toNat ∧ st 171 ((((2 : Int) + (st 173 (st 170 13 : Int).toNat)) + (st 181 (st 170 13 : Int).toNat)) : Int).toNat ≤ 30 from by omega), (show 0 ≤ (0 : Int) ∧ (0 : Int) ≤ n from by omega)⟩ rfl
        · refine ⟨by omega, ?_⟩
          exact hQ _ _ ⟨hG, (fr_rf _ _), (show ((0 : Int) = 0 ∨ (0 : Int) = 1) from by omega), (show (0 : Int) = 1 → jgd st 1 from fun z => absurd z (by decide)), (show ∀ i : Nat, ¬ (30 * 1 ≤ (i : Int) ∧ (i : Int) < 30 * 1 + 30) → st 203 i = st 203 i from fun _ _ => rfl), (show ∀ i : Nat, ¬ (i : Int) = 1 → st 202 i = st 202 i from fun _ _ => rfl)⟩
theorem k_comesOn_m (hTb : aTb zSh rx_tb cl) {D : Nat} (hD : 3 ≤ D) : ∀ as st (Q Q' : zQ), (∀ r st', Q r st' → Q' r st') → k_comesOn 177 as st Q → cl D 177 as st Q' := by
  intro as st Q Q' hQ h
  unfold k_comesOn at h
  split at h
  · obtain ⟨rfl, h⟩ := h
    exact c_comesOn hTb hD (ct_comesOn_m hQ h)
  · exact h.elim
set_option maxHeartbeats 40000000 in
set_option maxRecDepth 100000 in
theorem c_on (hTb : aTb zSh rx_tb cl) {D : Nat} (hD : 4 ≤ D) {st : zS} {Q : zQ} (h : ct_on  st Q) : cl D 176 [.inr (.inr (.inl 170))] st Q := by
  obtain ⟨d, rfl⟩ : ∃ d, D = d + 1 := ⟨D - 1, by omega⟩
  refine hTb d 176 (rx_m176, 2, 0, 0, 2) rfl _ _ _ (Nat.le_of_ble_eq_true rfl) (fun K hcl hsf hsl => ?_)
  have hcm : zmo (wcL [(177, k_comesOn), (58, k_refuses), (60, k_copies)]) (cl d) := (wcL_m (wm_cons (k_comesOn_m hTb (by omega)) (wm_cons (k_refuses_m hTb (by omega)) (wm_cons (k_copies_m hTb (by omega)) wm_nil))))
  obtain ⟨hR, hQ⟩ := h
  obtain ⟨hG, hJ⟩ := hR
  have g1 := g_taped hG
  refine yr1_ok (Rt := Q) (wc := (wcL [(177, k_comesOn), (58, k_refuses), (60, k_copies)])) (stp := []) hcm hcl [] 47 ?_
  show (170 = 170 ∧ (rq_comesOn (st 170 1) (zup st 170 1 0) ∧ (∀ (r2 : Int) (s2 : zS), en_comesOn (st 170 1) (zup st 170 1 0) r2 s2 → ((¬ r2 = (0 : Int) → (170 = 170 ∧ (rq_copies (0) (1) s2 ∧ (∀ (s3 : zS), en_copies (0) (1) s2 s3 → ((1 = (0 : Int) ∨ 1 = (1 : Int)) ∧ Q (some (.inl 1)) (zup s3 170 57 0)))))) ∧ (¬ (¬ r2 = (0 : Int)) → (170 = 170 ∧ (rq_refuses (5) s2 ∧ (∀ (r4 : Int) (s4 : zS), en_refuses (5) s2 r4 s4 → ((r4 < (0 : Int) → ((0 = (0 : Int) ∨ 0 = (1 : Int)) ∧ Q (some (.inl 0)) s4)) ∧ (¬ (r4 < (0 : Int)) → ((1 = (0 : Int) ∨ 1 = (1 : Int)) ∧ Q (some (.inl 1)) s4)))))))))))
  refine ⟨rfl, ⟨(gInv_up hG (p_taped (by omega))), (show 0 ≤ (st 170 1) ∧ (st 170 1) ≤ 1600 from by omega)⟩, fun r2 s2 q2 => ?_⟩
  obtain ⟨gs2, fs2, b2, gd2, o2, pp2⟩ := q2
  change (r2 = 0 ∨ r2 = 1) at b2
  change r2 = 1 → jgd s2 1 at gd2
  change ∀ i : Nat, ¬ (30 * 1 ≤ (i : Int) ∧ (i : Int) < 30 * 1 + 30) → s2 203 i = (zup st 170 1 0) 203 i at o2
  change ∀ i : Nat, ¬ (i : Int) = 1 → s2 202 i = (zup st 170 1 0) 202 i at pp2
  refine ⟨fun h5 => ?_, fun h5 => ?_⟩
  · refine ⟨rfl, ⟨gs2, (show 0 ≤ (0) ∧ (0) ≤ 21 ∧ 0 ≤ (1) ∧ (1) ≤ 21 ∧ ¬ (0) = (1) from by omega)⟩, fun s3 q3 => ?_⟩
    obtain ⟨gs3, fs3, c3, o3, m3, pp3⟩ := q3
    change ∀ j : Int, 0 ≤ j → j < 30 → s3 203 (30 * (0) + j).toNat = s2 203 (30 * (1) + j).toNat at c3
    change ∀ i : Nat, ¬ (30 * (0) ≤ (i : Int) ∧ (i : Int) < 30 * (0) + 30) → s3 203 i = s2 203 i at o3
    change s3 202 ((0) : Int).toNat = s2 202 ((1) : Int).toNat at m3
    change ∀ i : Nat, ¬ (i : Int) = (0) → s3 202 i = s2 202 i at pp3
    refine ⟨by omega, ?_⟩
    have e7 : s2 170 1 = 0 := fs2 170 1 rfl rfl
    have e6 : s3 170 1 = s2 170 1 := fs3 170 1 rfl rfl
    exact hQ _ _ ⟨(gInv_up gs3 (p_undos (by omega))), (zJ_on (st := s2) gs2 (zJ_slot (st := st) (v := 1) hG hJ (by omega) (fs2 170 13 rfl rfl) (fs2 170 56 rfl rfl) (fs2 170 57 rfl rfl) (fun i => fs2 172 i rfl rfl) (fun i => fs2 176 i rfl rfl) (fun i => fs2 177 i rfl rfl) (fun i => fs2 186 i rfl rfl) (fun i => fs2 187 i rfl rfl) (fun i => fs2 188 i rfl rfl) o2 pp2 (fun z => by omega)).1 (zJ_slot (st := st) (v := 1) hG hJ (by omega) (fs2 170 13 rfl rfl) (fs2 170 56 rfl rfl) (fs2 170 57 rfl rfl) (fun i => fs2 172 i rfl rfl) (fun i => fs2 176 i rfl rfl) (fun i => fs2 177 i rfl rfl) (fun i => fs2 186 i rfl rfl) (fun i => fs2 187 i rfl rfl) (fun i => fs2 188 i rfl rfl) o2 pp2 (fun z => by omega)).2.2 (gd2 (by omega)) (fs3 170 13 rfl rfl) rfl (fun i => fs3 172 i rfl rfl) (fun i => fs3 176 i rfl rfl) (fun i => fs3 177 i rfl rfl) (fun i => fs3 186 i rfl rfl) (fun i => fs3 187 i rfl rfl) (fun i => fs3 188 i rfl rfl) m3 c3), (zV0_up (zV0_tr (zV0_tr (zV0_up (zV0_rf _) (by first | decide | rfl)) (zV0_fr rfl fs2)) (zV0_fr rfl fs3)) (by first | decide | rfl)), (show s3 170 1 = 0 from by omega)⟩
  · refine ⟨rfl, ⟨gs2, (show 0 ≤ (5) ∧ (5) ≤ 5 from by omega)⟩, fun r4 s4 q4 => ?_⟩
    obtain ⟨gs4, fs4, e4⟩ := q4
    change r4 = -1 at e4
    refine ⟨fun h8 => ?_, fun h8 => ?_⟩
    · refine ⟨by omega, ?_⟩
      have e10 : s2 170 1 = 0 := fs2 170 1 rfl rfl
      have e9 : s4 170 1 = s2 170 1 := fs4 170 1 rfl rfl
      exact hQ _ _ ⟨gs4, (zJ_fr rfl fs4 (zJ_slot (st := st) (v := 1) hG hJ (by omega) (fs2 170 13 rfl rfl) (fs2 170 56 rfl rfl) (fs2 170 57 rfl rfl) (fun i => fs2 172 i rfl rfl) (fun i => fs2 176 i rfl rfl) (fun i => fs2 177 i rfl rfl) (fun i => fs2 186 i rfl rfl) (fun i => fs2 187 i rfl rfl) (fun i => fs2 188 i rfl rfl) o2 pp2 (fun z => by omega))), (zV0_tr (zV0_tr (zV0_up (zV0_rf _) (by first | decide | rfl)) (zV0_fr rfl fs2)) (zV0_fr rfl fs4)), (show s4 170 1 = 0 from by omega)⟩
    · refine ⟨by omega, ?_⟩
      have e12 : s2 170 1 = 0 := fs2 170 1 rfl rfl
      have e11 : s4 170 1 = s2 170 1 := fs4 170 1 rfl rfl
      exact hQ _ _ ⟨gs4, (zJ_fr rfl fs4 (zJ_slot (st := st) (v := 1) hG hJ (by omega) (fs2 170 13 rfl rfl) (fs2 170 56 rfl rfl) (fs2 170 57 rfl rfl) (fun i => fs2 172 i rfl rfl) (fun i => fs2 176 i rfl rfl) (fun i => fs2 177 i rfl rfl) (fun i => fs2 186 i rfl rfl) (fun i => fs2 187 i rfl rfl) (fun i => fs2 188 i rfl rfl) o2 pp2 (fun z => by omega))), (zV0_tr (zV0_tr (zV0_up (zV0_rf _) (by first | decide | rfl)) (zV0_fr rfl fs2)) (zV0_fr rfl fs4)), (show s4 170 1 = 0 from by omega)⟩
theorem k_on_m (hTb : aTb zSh rx_tb cl) {D : Nat} (hD : 4 ≤ D) : ∀ as st (Q Q' : zQ), (∀ r st', Q r st' → Q' r st') → k_on 176 as st Q → cl D 176 as st Q' := by
  intro as st Q Q' hQ h
  unfold k_on at h
  split at h
  · obtain ⟨rfl, h⟩ := h
    exact c_on hTb hD (ct_on_m hQ h)
  · exact h.elim
end R7k
