/-! printed by wip/p32/libj.py: what an act leaves behind -/
def m_keeps : aM := ([(170, 56), (170, 57)], [199, 200, 201, 202, 203, 204, 205, 206])
def rq_keeps  (st : zS) : Prop := gInv zgt st ∧ zJ st
def en_keeps  (st : zS) (s1 : zS) : Prop := gInv zgt s1 ∧ aFr m_keeps st s1 ∧ zJ s1 ∧ (s1 202 (0 : Int).toNat = st 202 (0 : Int).toNat) ∧ (∀ i : Nat, (i : Int) < 30 → s1 203 i = st 203 i)
def ct_keeps  (st : zS) (Q : zQ) : Prop := rq_keeps  st ∧ (∀ (s1 : zS), en_keeps  st s1 → Q none s1)
theorem ct_keeps_m {st : zS} {Q Q' : zQ} (hQ : ∀ r st', Q r st' → Q' r st') (h : ct_keeps  st Q) : ct_keeps  st Q' := ⟨h.1, fun x0 x1 => hQ _ _ (h.2 x0 x1)⟩
def k_keeps : zCall := fun _ as st Q => match as with
  | [.inr (.inr (.inl z_o))] => z_o = 170 ∧ ct_keeps  st Q
  | _ => False
theorem k_keeps_mon : zmon k_keeps := by
  intro nu as st Q Q' hQ h
  unfold k_keeps at h ⊢
  split at h
  · exact ⟨h.1, ct_keeps_m hQ h.2⟩
  · exact h.elim
section R7c
variable {cl : Nat → zCall}
set_option maxHeartbeats 40000000 in
set_option maxRecDepth 100000 in
theorem c_keeps (hTb : aTb zSh rx_tb cl) {D : Nat} (hD : 2 ≤ D) {st : zS} {Q : zQ} (h : ct_keeps  st Q) : cl D 84 [.inr (.inr (.inl 170))] st Q := by
  obtain ⟨d, rfl⟩ : ∃ d, D = d + 1 := ⟨D - 1, by omega⟩
  refine hTb d 84 (rx_m84, 1, 0, 0, 0) rfl _ _ _ (Nat.le_of_ble_eq_true rfl) (fun K hcl hsf hsl => ?_)
  have hcm : zmo (wcL [(85, k_slot), (60, k_copies)]) (cl d) := (wcL_m (wm_cons (k_slot_m hTb (by omega)) (wm_cons (k_copies_m hTb (by omega)) wm_nil)))
  obtain ⟨hR, hQ⟩ := h
  obtain ⟨hG, hJ⟩ := hR
  have g1 := g_undoFirst hG
  have g2 := g_undos hG
  refine yr1_ok (Rt := Q) (wc := (wcL [(85, k_slot), (60, k_copies)])) (stp := []) hcm hcl [] 52 ?_
  show ((¬ st 170 57 = (20 : Int) → (170 = 170 ∧ (rq_slot (st 170 57) st ∧ (∀ (r3 : Int), en_slot (st 170 57) st r3 → (170 = 170 ∧ (rq_copies r3 (0) st ∧ (∀ (s4 : zS), en_copies r3 (0) st s4 → ((-2147483648 ≤ (s4 170 57) + 1 ∧ (s4 170 57) + 1 ≤ 2147483647) ∧ Q none (zup s4 170 57 ((s4 170 57) + 1)))))))))) ∧ (¬ (¬ st 170 57 = (20 : Int)) → ((-2147483648 ≤ (st 170 56) + 1 ∧ (st 170 56) + 1 ≤ 2147483647) ∧ ((0 ≤ (st 170 56) + 1 ∧ (st 170 56) + 1 ≤ 2147483647 ∧ 0 < (20 : Int)) ∧ ((-2147483648 ≤ (st 170 57) - 1 ∧ (st 170 57) - 1 ≤ 2147483647) ∧ (170 = 170 ∧ (rq_slot ((st 170 57) - 1) (zup (zup st 170 56 (((st 170 56) + 1) % 20)) 170 57 ((st 170 57) - 1)) ∧ (∀ (r5 : Int), en_slot ((st 170 57) - 1) (zup (zup st 170 56 (((st 170 56) + 1) % 20)) 170 57 ((st 170 57) - 1)) r5 → (170 = 170 ∧ (rq_copies r5 (0) (zup (zup st 170 56 (((st 170 56) + 1) % 20)) 170 57 ((st 170 57) - 1)) ∧ (∀ (s6 : zS), en_copies r5 (0) (zup (zup st 170 56 (((st 170 56) + 1) % 20)) 170 57 ((st 170 57) - 1)) s6 → ((-2147483648 ≤ (s6 170 57) + 1 ∧ (s6 170 57) + 1 ≤ 2147483647) ∧ Q none (zup s6 170 57 ((s6 170 57) + 1))))))))))))))
  refine ⟨fun h7 => ?_, fun h7 => ?_⟩
  · refine ⟨rfl, ⟨hG, (show 0 ≤ (st 170 57) ∧ (st 170 57) ≤ 20 from by omega)⟩, fun r3 q3 => ?_⟩
    have e3 := q3
    change r3 = 2 + (st 170 56 + (st 170 57)) % 20 at e3
    refine ⟨rfl, ⟨hG, (show 0 ≤ r3 ∧ r3 ≤ 21 ∧ 0 ≤ (0) ∧ (0) ≤ 21 ∧ ¬ r3 = (0) from by omega)⟩, fun s4 q4 => ?_⟩
    obtain ⟨gs4, fs4, c4, o4, m4, pp4⟩ := q4
    change ∀ j : Int, 0 ≤ j → j < 30 → s4 203 (30 * r3 + j).toNat = st 203 (30 * (0) + j).toNat at c4
    change ∀ i : Nat, ¬ (30 * r3 ≤ (i : Int) ∧ (i : Int) < 30 * r3 + 30) → s4 203 i = st 203 i at o4
    change s4 202 (r3 : Int).toNat = st 202 ((0) : Int).toNat at m4
    change ∀ i : Nat, ¬ (i : Int) = r3 → s4 202 i = st 202 i at pp4
    have e8 : s4 170 57 = st 170 57 := fs4 170 57 rfl rfl
    refine ⟨by omega, ?_⟩
    exact hQ _ ⟨(gInv_up gs4 (p_undos (by omega))), (fr_f (fr_tr (fr_rf _ _) fs4 rfl) rfl), (by
          have e56 : s4 170 56 = st 170 56 := fs4 170 56 rfl rfl
          have e57 : s4 170 57 = st 170 57 := fs4 170 57 rfl rfl
          have z := jG_keep (st := st) (s := s4) (f := st 170 56) (u := st 170 57) (f' := st 170 56) (u' := st 170 57) (w := r3) hG hJ.2.1.1 hJ.2.1.2 (by omega) (by omega) (fun k z1 z2 => ⟨k, by omega, by omega, by omega⟩) (by omega) (fs4 170 13 rfl rfl) (fun i => fs4 177 i rfl rfl) m4 c4 o4 pp4
          refine ⟨jS_e hJ.1 (fs4 170 13 rfl rfl) (fun i => fs4 177 i rfl rfl) (fun i => fs4 172 i rfl rfl) (fun i => fs4 176 i rfl rfl), ⟨z.1, fun k z1 z2 => ?_⟩, jC_e hJ.2.2 (fs4 170 13 rfl rfl) (fun i => fs4 186 i rfl rfl) (fun i => fs4 187 i rfl rfl) (fun i => fs4 188 i rfl rfl)⟩
          have z2 : k < s4 170 57 + 1 := z2
          show jgd s4 (2 + (s4 170 56 + k) % 20)
          rw [e56]
          exact z.2 k z1 (by omega)), (show (zup s4 170 57 ((s4 170 57) + 1)) 202 (0 : Int).toNat = st 202 (0 : Int).toNat from pp4 _ (by omega)), (show ∀ i : Nat, (i : Int) < 30 → (zup s4 170 57 ((s4 170 57) + 1)) 203 i = st 203 i from fun i z => o4 i (by omega))⟩
  · refine ⟨by omega, ?_⟩
    refine ⟨by omega, ?_⟩
    refine ⟨by omega, ?_⟩
    refine ⟨rfl, ⟨(gInv_up (gInv_up hG (p_undoFirst (by omega))) (p_undos (by omega))), (show 0 ≤ ((st 170 57) - 1) ∧ ((st 170 57) - 1) ≤ 20 from by omega)⟩, fun r5 q5 => ?_⟩
    have e5 := q5
    change r5 = 2 + ((((st 170 56) + 1) % 20) + ((st 170 57) - 1)) % 20 at e5
    refine ⟨rfl, ⟨(gInv_up (gInv_up hG (p_undoFirst (by omega))) (p_undos (by omega))), (show 0 ≤ r5 ∧ r5 ≤ 21 ∧ 0 ≤ (0) ∧ (0) ≤ 21 ∧ ¬ r5 = (0) from by omega)⟩, fun s6 q6 => ?_⟩
    obtain ⟨gs6, fs6, c6, o6, m6, pp6⟩ := q6
    change ∀ j : Int, 0 ≤ j → j < 30 → s6 203 (30 * r5 + j).toNat = (zup (zup st 170 56 (((st 170 56) + 1) % 20)) 170 57 ((st 170 57) - 1)) 203 (30 * (0) + j).toNat at c6
    change ∀ i : Nat, ¬ (30 * r5 ≤ (i : Int) ∧ (i : Int) < 30 * r5 + 30) → s6 203 i = (zup (zup st 170 56 (((st 170 56) + 1) % 20)) 170 57 ((st 170 57) - 1)) 203 i at o6
    change s6 202 (r5 : Int).toNat = (zup (zup st 170 56 (((st 170 56) + 1) % 20)) 170 57 ((st 170 57) - 1)) 202 ((0) : Int).toNat at m6
    change ∀ i : Nat, ¬ (i : Int) = r5 → s6 202 i = (zup (zup st 170 56 (((st 170 56) + 1) % 20)) 170 57 ((st 170 57) - 1)) 202 i at pp6
    have e9 : s6 170 57 = ((st 170 57) - 1) := fs6 170 57 rfl rfl
    refine ⟨by omega, ?_⟩
    exact hQ _ ⟨(gInv_up gs6 (p_undos (by omega))), (fr_f (fr_tr (fr_f (fr_f (fr_rf _ _) rfl) rfl) fs6 rfl) rfl), (by
          have e56 : s6 170 56 = (((st 170 56) + 1) % 20) := fs6 170 56 rfl rfl
          have e57 : s6 170 57 = ((st 170 57) - 1) := fs6 170 57 rfl rfl
          have z := jG_keep (st := st) (s := s6) (f := st 170 56) (u := st 170 57) (f' := (((st 170 56) + 1) % 20)) (u' := ((st 170 57) - 1)) (w := r5) hG hJ.2.1.1 hJ.2.1.2 (by omega) (by omega) (fun k z1 z2 => ⟨k + 1, by omega, by omega, by omega⟩) (by omega) (fs6 170 13 rfl rfl) (fun i => fs6 177 i rfl rfl) m6 c6 o6 pp6
          refine ⟨jS_e hJ.1 (fs6 170 13 rfl rfl) (fun i => fs6 177 i rfl rfl) (fun i => fs6 172 i rfl rfl) (fun i => fs6 176 i rfl rfl), ⟨z.1, fun k z1 z2 => ?_⟩, jC_e hJ.2.2 (fs6 170 13 rfl rfl) (fun i => fs6 186 i rfl rfl) (fun i => fs6 187 i rfl rfl) (fun i => fs6 188 i rfl rfl)⟩
          have z2 : k < s6 170 57 + 1 := z2
          show jgd s6 (2 + (s6 170 56 + k) % 20)
          rw [e56]
          exact z.2 k z1 (by omega)), (show (zup s6 170 57 ((s6 170 57) + 1)) 202 (0 : Int).toNat = st 202 (0 : Int).toNat from pp6 _ (by omega)), (show ∀ i : Nat, (i : Int) < 30 → (zup s6 170 57 ((s6 170 57) + 1)) 203 i = st 203 i from fun i z => o6 i (by omega))⟩
theorem k_keeps_m (hTb : aTb zSh rx_tb cl) {D : Nat} (hD : 2 ≤ D) : ∀ as st (Q Q' : zQ), (∀ r st', Q r st' → Q' r st') → k_keeps 84 as st Q → cl D 84 as st Q' := by
  intro as st Q Q' hQ h
  unfold k_keeps at h
  split at h
  · obtain ⟨rfl, h⟩ := h
    exact c_keeps hTb hD (ct_keeps_m hQ h)
  · exact h.elim
end R7c
