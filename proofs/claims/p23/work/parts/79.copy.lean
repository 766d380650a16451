/-! printed by wip/p32/libh.py: a slot is copied -/
def m_copies : aM := ([], [199, 200, 201, 202, 203, 204, 205, 206])
def rq_copies (x : Int) (y : Int) (st : zS) : Prop := gInv zgt st ∧ (0 ≤ x ∧ x ≤ 21 ∧ 0 ≤ y ∧ y ≤ 21 ∧ ¬ x = y)
def en_copies (x : Int) (y : Int) (st : zS) (s1 : zS) : Prop := gInv zgt s1 ∧ aFr m_copies st s1 ∧ (∀ j : Int, 0 ≤ j → j < 30 → s1 203 (30 * x + j).toNat = st 203 (30 * y + j).toNat) ∧ (∀ i : Nat, ¬ (30 * x ≤ (i : Int) ∧ (i : Int) < 30 * x + 30) → s1 203 i = st 203 i) ∧ (s1 202 (x : Int).toNat = st 202 (y : Int).toNat) ∧ (∀ i : Nat, ¬ (i : Int) = x → s1 202 i = st 202 i)
def ct_copies (x : Int) (y : Int) (st : zS) (Q : zQ) : Prop := rq_copies x y st ∧ (∀ (s1 : zS), en_copies x y st s1 → Q none s1)
theorem ct_copies_m {x y : Int} {st : zS} {Q Q' : zQ} (hQ : ∀ r st', Q r st' → Q' r st') (h : ct_copies x y st Q) : ct_copies x y st Q' := ⟨h.1, fun x0 x1 => hQ _ _ (h.2 x0 x1)⟩
def k_copies : zCall := fun _ as st Q => match as with
  | [.inr (.inr (.inl z_o)), .inl x, .inl y] => z_o = 170 ∧ ct_copies x y st Q
  | _ => False
theorem k_copies_mon : zmon k_copies := by
  intro nu as st Q Q' hQ h
  unfold k_copies at h ⊢
  split at h
  · exact ⟨h.1, ct_copies_m hQ h.2⟩
  · exact h.elim
section R79
variable {cl : Nat → zCall}
set_option maxHeartbeats 40000000 in
set_option maxRecDepth 100000 in
theorem c_copies (hTb : aTb zSh rx_tb cl) {D : Nat} (hD : 1 ≤ D) {x y : Int} {st : zS} {Q : zQ} (h : ct_copies x y st Q) : cl D 60 [.inr (.inr (.inl 170)), .inl x, .inl y] st Q := by
  obtain ⟨d, rfl⟩ : ∃ d, D = d + 1 := ⟨D - 1, by omega⟩
  refine hTb d 60 (rx_m60, 4, 0, 0, 0) rfl _ _ _ (Nat.le_of_ble_eq_true rfl) (fun K hcl hsf hsl => ?_)
  have hcm : zmo (zno) (cl d) := zno_m
  obtain ⟨hR, hQ⟩ := h
  obtain ⟨hG, r⟩ := hR
  change 0 ≤ x ∧ x ≤ 21 ∧ 0 ≤ y ∧ y ≤ 21 ∧ ¬ x = y at r
  have l3 : ∀ (u : Nat) (k : Int) (s_l3 : zS), gInv zgt s_l3 ∧ aFr m_copies st s_l3 ∧ (∀ j : Int, 0 ≤ j → j < 30 → s_l3 203 (30 * x + j).toNat = st 203 (30 * y + j).toNat) ∧ (∀ i : Nat, ¬ (30 * x ≤ (i : Int) ∧ (i : Int) < 30 * x + 30) → s_l3 203 i = st 203 i) ∧ (s_l3 202 (x : Int).toNat = st 202 (y : Int).toNat) ∧ (∀ i : Nat, ¬ (i : Int) = x → s_l3 202 i = st 202 i) ∧ (0 ≤ k ∧ k ≤ 120) → (120 - k).toNat = u → K (rx_find rx_m60 144) [(3, .inl k), (0, .inr (.inr (.inl 170))), (1, .inl x), (2, .inl y)] [] s_l3 := by
    intro u_l3
    induction u_l3 using Nat.strongRecOn with
    | _ u_l3 ih_l3 =>
      intro k s_l3 hi hu_l3
      obtain ⟨gI_l3, fI_l3, c_l3, o_l3, m_l3, pp_l3, i_l3⟩ := hi
      refine yr1_ok (Rt := Q) (wc := (zno)) (stp := [144]) hcm hcl [] 143 ?_
      show ((0 ≤ y ∧ y < 22) ∧ ((-2147483648 ≤ (3 : Int) * (s_l3 205 (y : Int).toNat) ∧ (3 : Int) * (s_l3 205 (y : Int).toNat) ≤ 2147483647) ∧ (((3 : Int) * (s_l3 205 (y : Int).toNat) ≤ k → Q none s_l3) ∧ (¬ ((3 : Int) * (s_l3 205 (y : Int).toNat) ≤ k) → ((-2147483648 ≤ (120 : Int) * x ∧ (120 : Int) * x ≤ 2147483647) ∧ ((-2147483648 ≤ ((120 : Int) * x) + k ∧ ((120 : Int) * x) + k ≤ 2147483647) ∧ ((-2147483648 ≤ (120 : Int) * y ∧ (120 : Int) * y ≤ 2147483647) ∧ ((-2147483648 ≤ ((120 : Int) * y) + k ∧ ((120 : Int) * y) + k ≤ 2147483647) ∧ ((0 ≤ ((120 : Int) * y) + k ∧ ((120 : Int) * y) + k < 2640) ∧ ((0 ≤ ((120 : Int) * x) + k ∧ ((120 : Int) * x) + k < 2640) ∧ ((-2147483648 ≤ k + 1 ∧ k + 1 ≤ 2147483647) ∧ K (rx_find rx_m60 144) [(3, .inl (k + 1)), (0, .inr (.inr (.inl 170))), (1, .inl x), (2, .inl y)] [] (zup s_l3 206 (((120 : Int) * x) + k : Int).toNat (s_l3 206 (((120 : Int) * y) + k : Int).toNat)))))))))))))
      have g4 := g_keptMany gI_l3 (y : Int).toNat
      refine ⟨by omega, ?_⟩
      refine ⟨by omega, ?_⟩
      refine ⟨fun h5 => ?_, fun h5 => ?_⟩
      · exact hQ _ ⟨gI_l3, fI_l3, (show ∀ j : Int, 0 ≤ j → j < 30 → s_l3 203 (30 * x + j).toNat = st 203 (30 * y + j).toNat from c_l3), (show ∀ i : Nat, ¬ (30 * x ≤ (i : Int) ∧ (i : Int) < 30 * x + 30) → s_l3 203 i = st 203 i from o_l3), (show s_l3 202 (x : Int).toNat = st 202 (y : Int).toNat from m_l3), (show ∀ i : Nat, ¬ (i : Int) = x → s_l3 202 i = st 202 i from pp_l3)⟩
      · refine ⟨by omega, ?_⟩
        refine ⟨by omega, ?_⟩
        refine ⟨by omega, ?_⟩
        refine ⟨by omega, ?_⟩
        have g6 := g_keptRow gI_l3 (((120 : Int) * y) + k : Int).toNat
        refine ⟨by omega, ?_⟩
        refine ⟨by omega, ?_⟩
        refine ⟨by omega, ?_⟩
        exact ih_l3 _ (show (120 - (k + 1) : Int).toNat < u_l3 from by omega) (k + 1) (zup s_l3 206 (((120 : Int) * x) + k : Int).toNat (s_l3 206 (((120 : Int) * y) + k : Int).toNat)) ⟨(gInv_up gI_l3 (p_keptRow (by omega))), (fr_a fI_l3 rfl), (show ∀ j : Int, 0 ≤ j → j < 30 → (zup s_l3 206 (((120 : Int) * x) + k : Int).toNat (s_l3 206 (((120 : Int) * y) + k : Int).toNat)) 203 (30 * x + j).toNat = st 203 (30 * y + j).toNat from c_l3), (show ∀ i : Nat, ¬ (30 * x ≤ (i : Int) ∧ (i : Int) < 30 * x + 30) → (zup s_l3 206 (((120 : Int) * x) + k : Int).toNat (s_l3 206 (((120 : Int) * y) + k : Int).toNat)) 203 i = st 203 i from o_l3), (show (zup s_l3 206 (((120 : Int) * x) + k : Int).toNat (s_l3 206 (((120 : Int) * y) + k : Int).toNat)) 202 (x : Int).toNat = st 202 (y : Int).toNat from m_l3), (show ∀ i : Nat, ¬ (i : Int) = x → (zup s_l3 206 (((120 : Int) * x) + k : Int).toNat (s_l3 206 (((120 : Int) * y) + k : Int).toNat)) 202 i = st 202 i from pp_l3), (show 0 ≤ (k + 1) ∧ (k + 1) ≤ 120 from by omega)⟩ rfl
  have l2 : ∀ (u : Nat) (k : Int) (s_l2 : zS), gInv zgt s_l2 ∧ aFr m_copies st s_l2 ∧ (∀ j : Int, 0 ≤ j → j < k → s_l2 203 (30 * x + j).toNat = st 203 (30 * y + j).toNat) ∧ (∀ i : Nat, ¬ (30 * x ≤ (i : Int) ∧ (i : Int) < 30 * x + 30) → s_l2 203 i = st 203 i) ∧ (s_l2 202 (x : Int).toNat = st 202 (y : Int).toNat) ∧ (∀ i : Nat, ¬ (i : Int) = x → s_l2 202 i = st 202 i) ∧ (0 ≤ k ∧ k ≤ 30) → (30 - k).toNat = u → K (rx_find rx_m60 74) [(3, .inl k), (0, .inr (.inr (.inl 170))), (1, .inl x), (2, .inl y)] [] s_l2 := by
    intro u_l2
    induction u_l2 using Nat.strongRecOn with
    | _ u_l2 ih_l2 =>
      intro k s_l2 hi hu_l2
      obtain ⟨gI_l2, fI_l2, c_l2, o_l2, m_l2, pp_l2, i_l2⟩ := hi
      refine yr1_ok (Rt := Q) (wc := (zno)) (stp := [74, 144]) hcm hcl [] 143 ?_
      show (((30 : Int) ≤ k → ((0 ≤ y ∧ y < 22) ∧ ((0 ≤ x ∧ x < 22) ∧ K (rx_find rx_m60 144) [(3, .inl 0), (0, .inr (.inr (.inl 170))), (1, .inl x), (2, .inl y)] [] (zup s_l2 205 (x : Int).toNat (s_l2 205 (y : Int).toNat))))) ∧ (¬ ((30 : Int) ≤ k) → ((-2147483648 ≤ (30 : Int) * x ∧ (30 : Int) * x ≤ 2147483647) ∧ ((-2147483648 ≤ ((30 : Int) * x) + k ∧ ((30 : Int) * x) + k ≤ 2147483647) ∧ ((-2147483648 ≤ (30 : Int) * y ∧ (30 : Int) * y ≤ 2147483647) ∧ ((-2147483648 ≤ ((30 : Int) * y) + k ∧ ((30 : Int) * y) + k ≤ 2147483647) ∧ ((0 ≤ ((30 : Int) * y) + k ∧ ((30 : Int) * y) + k < 660) ∧ ((0 ≤ ((30 : Int) * x) + k ∧ ((30 : Int) * x) + k < 660) ∧ ((-2147483648 ≤ (30 : Int) * x ∧ (30 : Int) * x ≤ 2147483647) ∧ ((-2147483648 ≤ ((30 : Int) * x) + k ∧ ((30 : Int) * x) + k ≤ 2147483647) ∧ ((-2147483648 ≤ (30 : Int) * y ∧ (30 : Int) * y ≤ 2147483647) ∧ ((-2147483648 ≤ ((30 : Int) * y) + k ∧ ((30 : Int) * y) + k ≤ 2147483647) ∧ ((0 ≤ ((30 : Int) * y) + k ∧ ((30 : Int) * y) + k < 660) ∧ ((0 ≤ ((30 : Int) * x) + k ∧ ((30 : Int) * x) + k < 660) ∧ ((-2147483648 ≤ k + 1 ∧ k + 1 ≤ 2147483647) ∧ K (rx_find rx_m60 74) [(3, .inl (k + 1)), (0, .inr (.inr (.inl 170))), (1, .inl x), (2, .inl y)] [] (zup (zup s_l2 203 (((30 : Int) * x) + k : Int).toNat (s_l2 203 (((30 : Int) * y) + k : Int).toNat)) 204 (((30 : Int) * x) + k : Int).toNat (s_l2 204 (((30 : Int) * y) + k : Int).toNat)))))))))))))))))
      refine ⟨fun h7 => ?_, fun h7 => ?_⟩
      · have g8 := g_keptMany gI_l2 (y : Int).toNat
        refine ⟨by omega, ?_⟩
        refine ⟨by omega, ?_⟩
        exact l3 _ 0 (zup s_l2 205 (x : Int).toNat (s_l2 205 (y : Int).toNat)) ⟨(gInv_up gI_l2 (p_keptMany (by omega))), (fr_a fI_l2 rfl), (show ∀ j : Int, 0 ≤ j → j < 30 → (zup s_l2 205 (x : Int).toNat (s_l2 205 (y : Int).toNat)) 203 (30 * x + j).toNat = st 203 (30 * y + j).toNat from fun j z1 z2 => c_l2 j z1 (by omega)), (show ∀ i : Nat, ¬ (30 * x ≤ (i : Int) ∧ (i : Int) < 30 * x + 30) → (zup s_l2 205 (x : Int).toNat (s_l2 205 (y : Int).toNat)) 203 i = st 203 i from o_l2), (show (zup s_l2 205 (x : Int).toNat (s_l2 205 (y : Int).toNat)) 202 (x : Int).toNat = st 202 (y : Int).toNat from m_l2), (show ∀ i : Nat, ¬ (i : Int) = x → (zup s_l2 205 (x : Int).toNat (s_l2 205 (y : Int).toNat)) 202 i = st 202 i from pp_l2), (show 0 ≤ (0 : Int) ∧ (0 : Int) ≤ 120 from by omega)⟩ rfl
      · refine ⟨by omega, ?_⟩
        refine ⟨by omega, ?_⟩
        refine ⟨by omega, ?_⟩
        refine ⟨by omega, ?_⟩
        have g9 := g_stepPlace gI_l2 (((30 : Int) * y) + k : Int).toNat
        refine ⟨by omega, ?_⟩
        refine ⟨by omega, ?_⟩
        refine ⟨by omega, ?_⟩
        refine ⟨by omega, ?_⟩
        refine ⟨by omega, ?_⟩
        refine ⟨by omega, ?_⟩
        have g10 := g_stepMinutes gI_l2 (((30 : Int) * y) + k : Int).toNat
        refine ⟨by omega, ?_⟩
        refine ⟨by omega, ?_⟩
        refine ⟨by omega, ?_⟩
        exact ih_l2 _ (show (30 - (k + 1) : Int).toNat < u_l2 from by omega) (k + 1) (zup (zup s_l2 203 (((30 : Int) * x) + k : Int).toNat (s_l2 203 (((30 : Int) * y) + k : Int).toNat)) 204 (((30 : Int) * x) + k : Int).toNat (s_l2 204 (((30 : Int) * y) + k : Int).toNat)) ⟨(gInv_up (gInv_up gI_l2 (p_stepPlace (by omega))) (p_stepMinutes (by omega))), (fr_a (fr_a fI_l2 rfl) rfl), (show ∀ j : Int, 0 ≤ j → j < (k + 1) → (zup (zup s_l2 203 (((30 : Int) * x) + k : Int).toNat (s_l2 203 (((30 : Int) * y) + k : Int).toNat)) 204 (((30 : Int) * x) + k : Int).toNat (s_l2 204 (((30 : Int) * y) + k : Int).toNat)) 203 (30 * x + j).toNat = st 203 (30 * y + j).toNat from fun j z1 z2 => by
            by_cases z3 : j = k
            · subst z3
              exact (up1_e (s_l2 203) _ _).trans (o_l2 _ (by omega))
            · exact (up1_n (s_l2 203) _ (by omega)).trans (c_l2 j z1 (by omega))), (show ∀ i : Nat, ¬ (30 * x ≤ (i : Int) ∧ (i : Int) < 30 * x + 30) → (zup (zup s_l2 203 (((30 : Int) * x) + k : Int).toNat (s_l2 203 (((30 : Int) * y) + k : Int).toNat)) 204 (((30 : Int) * x) + k : Int).toNat (s_l2 204 (((30 : Int) * y) + k : Int).toNat)) 203 i = st 203 i from fun i z1 => (up1_n (s_l2 203) _ (by omega)).trans (o_l2 i z1)), (show (zup (zup s_l2 203 (((30 : Int) * x) + k : Int).toNat (s_l2 203 (((30 : Int) * y) + k : Int).toNat)) 204 (((30 : Int) * x) + k : Int).toNat (s_l2 204 (((30 : Int) * y) + k : Int).toNat)) 202 (x : Int).toNat = st 202 (y : Int).toNat from m_l2), (show ∀ i : Nat, ¬ (i : Int) = x → (zup (zup s_l2 203 (((30 : Int) * x) + k : Int).toNat (s_l2 203 (((30 : Int) * y) + k : Int).toNat)) 204 (((30 : Int) * x) + k : Int).toNat (s_l2 204 (((30 : Int) * y) + k : Int).toNat)) 202 i = st 202 i from pp_l2), (show 0 ≤ (k + 1) ∧ (k + 1) ≤ 30 from by omega)⟩ rfl
  have l1 : ∀ (u : Nat) (k : Int) (s_l1 : zS), gInv zgt s_l1 ∧ aFr m_copies st s_l1 ∧ (∀ i : Nat, s_l1 202 i = st 202 i) ∧ (∀ i : Nat, s_l1 203 i = st 203 i) ∧ (0 ≤ k ∧ k ≤ 8) → (8 - k).toNat = u → K (rx_find rx_m60 26) [(3, .inl k), (0, .inr (.inr (.inl 170))), (1, .inl x), (2, .inl y)] [] s_l1 := by
    intro u_l1
    induction u_l1 using Nat.strongRecOn with
    | _ u_l1 ih_l1 =>
      intro k s_l1 hi hu_l1
      obtain ⟨gI_l1, fI_l1, q_l1, q2_l1, i_l1⟩ := hi
      refine yr1_ok (Rt := Q) (wc := (zno)) (stp := [26, 74, 144]) hcm hcl [] 143 ?_
      show (((8 : Int) ≤ k → ((0 ≤ y ∧ y < 22) ∧ ((0 ≤ x ∧ x < 22) ∧ K (rx_find rx_m60 74) [(3, .inl 0), (0, .inr (.inr (.inl 170))), (1, .inl x), (2, .inl y)] [] (zup s_l1 202 (x : Int).toNat (s_l1 202 (y : Int).toNat))))) ∧ (¬ ((8 : Int) ≤ k) → ((-2147483648 ≤ (8 : Int) * x ∧ (8 : Int) * x ≤ 2147483647) ∧ ((-2147483648 ≤ ((8 : Int) * x) + k ∧ ((8 : Int) * x) + k ≤ 2147483647) ∧ ((-2147483648 ≤ (8 : Int) * y ∧ (8 : Int) * y ≤ 2147483647) ∧ ((-2147483648 ≤ ((8 : Int) * y) + k ∧ ((8 : Int) * y) + k ≤ 2147483647) ∧ ((0 ≤ ((8 : Int) * y) + k ∧ ((8 : Int) * y) + k < 176) ∧ ((0 ≤ ((8 : Int) * x) + k ∧ ((8 : Int) * x) + k < 176) ∧ ((-2147483648 ≤ k + 1 ∧ k + 1 ≤ 2147483647) ∧ K (rx_find rx_m60 26) [(3, .inl (k + 1)), (0, .inr (.inr (.inl 170))), (1, .inl x), (2, .inl y)] [] (zup s_l1 201 (((8 : Int) * x) + k : Int).toNat (s_l1 201 (((8 : Int) * y) + k : Int).toNat)))))))))))
      refine ⟨fun h11 => ?_, fun h11 => ?_⟩
      · have g12 := g_stepMany gI_l1 (y : Int).toNat
        refine ⟨by omega, ?_⟩
        refine ⟨by omega, ?_⟩
        exact l2 _ 0 (zup s_l1 202 (x : Int).toNat (s_l1 202 (y : Int).toNat)) ⟨(gInv_up gI_l1 (p_stepMany (by omega))), (fr_a fI_l1 rfl), (show ∀ j : Int, 0 ≤ j → j < (0 : Int) → (zup s_l1 202 (x : Int).toNat (s_l1 202 (y : Int).toNat)) 203 (30 * x + j).toNat = st 203 (30 * y + j).toNat from fun j z1 z2 => by omega), (show ∀ i : Nat, ¬ (30 * x ≤ (i : Int) ∧ (i : Int) < 30 * x + 30) → (zup s_l1 202 (x : Int).toNat (s_l1 202 (y : Int).toNat)) 203 i = st 203 i from fun i _ => q2_l1 i), (show (zup s_l1 202 (x : Int).toNat (s_l1 202 (y : Int).toNat)) 202 (x : Int).toNat = st 202 (y : Int).toNat from (up1_e (s_l1 202) _ _).trans (q_l1 _)), (show ∀ i : Nat, ¬ (i : Int) = x → (zup s_l1 202 (x : Int).toNat (s_l1 202 (y : Int).toNat)) 202 i = st 202 i from fun i z1 => (up1_n (s_l1 202) _ (by omega)).trans (q_l1 i)), (show 0 ≤ (0 : Int) ∧ (0 : Int) ≤ 30 from by omega)⟩ rfl
      · refine ⟨by omega, ?_⟩
        refine ⟨by omega, ?_⟩
        refine ⟨by omega, ?_⟩
        refine ⟨by omega, ?_⟩
        have g13 := g_thingAt gI_l1 (((8 : Int) * y) + k : Int).toNat
        refine ⟨by omega, ?_⟩
        refine ⟨by omega, ?_⟩
        refine ⟨by omega, ?_⟩
        exact ih_l1 _ (show (8 - (k + 1) : Int).toNat < u_l1 from by omega) (k + 1) (zup s_l1 201 (((8 : Int) * x) + k : Int).toNat (s_l1 201 (((8 : Int) * y) + k : Int).toNat)) ⟨(gInv_up gI_l1 (p_thingAt (by omega))), (fr_a fI_l1 rfl), (show ∀ i : Nat, (zup s_l1 201 (((8 : Int) * x) + k : Int).toNat (s_l1 201 (((8 : Int) * y) + k : Int).toNat)) 202 i = st 202 i from q_l1), (show ∀ i : Nat, (zup s_l1 201 (((8 : Int) * x) + k : Int).toNat (s_l1 201 (((8 : Int) * y) + k : Int).toNat)) 203 i = st 203 i from q2_l1), (show 0 ≤ (k + 1) ∧ (k + 1) ≤ 8 from by omega)⟩ rfl
  refine yr1_ok (Rt := Q) (wc := (zno)) (stp := [26, 74, 144]) hcm hcl [] 143 ?_
  show ((0 ≤ y ∧ y < 22) ∧ ((0 ≤ x ∧ x < 22) ∧ ((0 ≤ y ∧ y < 22) ∧ ((0 ≤ x ∧ x < 22) ∧ K (rx_find rx_m60 26) [(3, .inl 0), (0, .inr (.inr (.inl 170))), (1, .inl x), (2, .inl y)] [] (zup (zup st 199 (x : Int).toNat (st 199 (y : Int).toNat)) 200 (x : Int).toNat (st 200 (y : Int).toNat))))))
  have g14 := g_yearOf hG (y : Int).toNat
  refine ⟨by omega, ?_⟩
  refine ⟨by omega, ?_⟩
  have g15 := g_shutOf hG (y : Int).toNat
  refine ⟨by omega, ?_⟩
  refine ⟨by omega, ?_⟩
  exact l1 _ 0 (zup (zup st 199 (x : Int).toNat (st 199 (y : Int).toNat)) 200 (x : Int).toNat (st 200 (y : Int).toNat)) ⟨(gInv_up (gInv_up hG (p_yearOf (by omega))) (p_shutOf (by omega))), (fr_a (fr_a (fr_rf _ _) rfl) rfl), (show ∀ i : Nat, (zup (zup st 199 (x : Int).toNat (st 199 (y : Int).toNat)) 200 (x : Int).toNat (st 200 (y : Int).toNat)) 202 i = st 202 i from fun _ => rfl), (show ∀ i : Nat, (zup (zup st 199 (x : Int).toNat (st 199 (y : Int).toNat)) 200 (x : Int).toNat (st 200 (y : Int).toNat)) 203 i = st 203 i from fun _ => rfl), (show 0 ≤ (0 : Int) ∧ (0 : Int) ≤ 8 from by omega)⟩ rfl
theorem k_copies_m (hTb : aTb zSh rx_tb cl) {D : Nat} (hD : 1 ≤ D) : ∀ as st (Q Q' : zQ), (∀ r st', Q r st' → Q' r st') → k_copies 60 as st Q → cl D 60 as st Q' := by
  intro as st Q Q' hQ h
  unfold k_copies at h
  split at h
  · obtain ⟨rfl, h⟩ := h
    exact c_copies hTb hD (ct_copies_m hQ h)
  · exact h.elim
end R79
