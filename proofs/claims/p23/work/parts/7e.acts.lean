/-! printed by wip/p32/libk.py: acts on the route -/
def rq_undo  (st : zS) : Prop := gInv zgt st ∧ zJ st
def en_undo  (st : zS) (r : Int) (s1 : zS) : Prop := gInv zgt s1 ∧ zJ s1 ∧ s1 170 1 = st 170 1 ∧ zV0 st s1
def ct_undo  (st : zS) (Q : zQ) : Prop := rq_undo  st ∧ (∀ (r : Int) (s1 : zS), en_undo  st r s1 → Q (some (.inl r)) s1)
theorem ct_undo_m {st : zS} {Q Q' : zQ} (hQ : ∀ r st', Q r st' → Q' r st') (h : ct_undo  st Q) : ct_undo  st Q' := ⟨h.1, fun x0 x1 x2 => hQ _ _ (h.2 x0 x1 x2)⟩
def k_undo : zCall := fun _ as st Q => match as with
  | [.inr (.inr (.inl z_o))] => z_o = 170 ∧ ct_undo  st Q
  | _ => False
theorem k_undo_mon : zmon k_undo := by
  intro nu as st Q Q' hQ h
  unfold k_undo at h ⊢
  split at h
  · exact ⟨h.1, ct_undo_m hQ h.2⟩
  · exact h.elim
def rq_shut (s0 : Int) (on : Int) (st : zS) : Prop := gInv zgt st ∧ zJ st
def en_shut (s0 : Int) (on : Int) (st : zS) (r : Int) (s1 : zS) : Prop := gInv zgt s1 ∧ zJ s1 ∧ s1 170 1 = st 170 1 ∧ zV0 st s1
def ct_shut (s0 : Int) (on : Int) (st : zS) (Q : zQ) : Prop := rq_shut s0 on st ∧ (∀ (r : Int) (s1 : zS), en_shut s0 on st r s1 → Q (some (.inl r)) s1)
theorem ct_shut_m {s0 on : Int} {st : zS} {Q Q' : zQ} (hQ : ∀ r st', Q r st' → Q' r st') (h : ct_shut s0 on st Q) : ct_shut s0 on st Q' := ⟨h.1, fun x0 x1 x2 => hQ _ _ (h.2 x0 x1 x2)⟩
def k_shut : zCall := fun _ as st Q => match as with
  | [.inr (.inr (.inl z_o)), .inl s0, .inl on] => z_o = 170 ∧ ct_shut s0 on st Q
  | _ => False
theorem k_shut_mon : zmon k_shut := by
  intro nu as st Q Q' hQ h
  unfold k_shut at h ⊢
  split at h
  · exact ⟨h.1, ct_shut_m hQ h.2⟩
  · exact h.elim
def rq_move (t : Int) (p : Int) (st : zS) : Prop := gInv zgt st ∧ zJ st
def en_move (t : Int) (p : Int) (st : zS) (r : Int) (s1 : zS) : Prop := gInv zgt s1 ∧ zJ s1 ∧ s1 170 1 = st 170 1 ∧ zV0 st s1
def ct_move (t : Int) (p : Int) (st : zS) (Q : zQ) : Prop := rq_move t p st ∧ (∀ (r : Int) (s1 : zS), en_move t p st r s1 → Q (some (.inl r)) s1)
theorem ct_move_m {t p : Int} {st : zS} {Q Q' : zQ} (hQ : ∀ r st', Q r st' → Q' r st') (h : ct_move t p st Q) : ct_move t p st Q' := ⟨h.1, fun x0 x1 x2 => hQ _ _ (h.2 x0 x1 x2)⟩
def k_move : zCall := fun _ as st Q => match as with
  | [.inr (.inr (.inl z_o)), .inl t, .inl p] => z_o = 170 ∧ ct_move t p st Q
  | _ => False
theorem k_move_mon : zmon k_move := by
  intro nu as st Q Q' hQ h
  unfold k_move at h ⊢
  split at h
  · exact ⟨h.1, ct_move_m hQ h.2⟩
  · exact h.elim
def rq_teach (p : Int) (m : Int) (st : zS) : Prop := gInv zgt st ∧ zJ st
def en_teach (p : Int) (m : Int) (st : zS) (r : Int) (s1 : zS) : Prop := gInv zgt s1 ∧ zJ s1 ∧ s1 170 1 = st 170 1 ∧ zV0 st s1
def ct_teach (p : Int) (m : Int) (st : zS) (Q : zQ) : Prop := rq_teach p m st ∧ (∀ (r : Int) (s1 : zS), en_teach p m st r s1 → Q (some (.inl r)) s1)
theorem ct_teach_m {p m : Int} {st : zS} {Q Q' : zQ} (hQ : ∀ r st', Q r st' → Q' r st') (h : ct_teach p m st Q) : ct_teach p m st Q' := ⟨h.1, fun x0 x1 x2 => hQ _ _ (h.2 x0 x1 x2)⟩
def k_teach : zCall := fun _ as st Q => match as with
  | [.inr (.inr (.inl z_o)), .inl p, .inl m] => z_o = 170 ∧ ct_teach p m st Q
  | _ => False
theorem k_teach_mon : zmon k_teach := by
  intro nu as st Q Q' hQ h
  unfold k_teach at h ⊢
  split at h
  · exact ⟨h.1, ct_teach_m hQ h.2⟩
  · exact h.elim
def rq_forget  (st : zS) : Prop := gInv zgt st ∧ zJ st
def en_forget  (st : zS) (r : Int) (s1 : zS) : Prop := gInv zgt s1 ∧ zJ s1 ∧ s1 170 1 = st 170 1 ∧ zV0 st s1
def ct_forget  (st : zS) (Q : zQ) : Prop := rq_forget  st ∧ (∀ (r : Int) (s1 : zS), en_forget  st r s1 → Q (some (.inl r)) s1)
theorem ct_forget_m {st : zS} {Q Q' : zQ} (hQ : ∀ r st', Q r st' → Q' r st') (h : ct_forget  st Q) : ct_forget  st Q' := ⟨h.1, fun x0 x1 x2 => hQ _ _ (h.2 x0 x1 x2)⟩
def k_forget : zCall := fun _ as st Q => match as with
  | [.inr (.inr (.inl z_o))] => z_o = 170 ∧ ct_forget  st Q
  | _ => False
theorem k_forget_mon : zmon k_forget := by
  intro nu as st Q Q' hQ h
  unfold k_forget at h ⊢
  split at h
  · exact ⟨h.1, ct_forget_m hQ h.2⟩
  · exact h.elim
section R7e
variable {cl : Nat → zCall}
set_option maxHeartbeats 40000000 in
set_option maxRecDepth 100000 in
theorem c_undo (hTb : aTb zSh rx_tb cl) {D : Nat} (hD : 2 ≤ D) {st : zS} {Q : zQ} (h : ct_undo  st Q) : cl D 169 [.inr (.inr (.inl 170))] st Q := by
  obtain ⟨d, rfl⟩ : ∃ d, D = d + 1 := ⟨D - 1, by omega⟩
  refine hTb d 169 (rx_m169, 1, 0, 0, 2) rfl _ _ _ (Nat.le_of_ble_eq_true rfl) (fun K hcl hsf hsl => ?_)
  have hcm : zmo (wcL [(58, k_refuses), (85, k_slot), (60, k_copies)]) (cl d) := (wcL_m (wm_cons (k_refuses_m hTb (by omega)) (wm_cons (k_slot_m hTb (by omega)) (wm_cons (k_copies_m hTb (by omega)) wm_nil))))
  obtain ⟨hR, hQ⟩ := h
  obtain ⟨hG, hJ⟩ := hR
  have g1 := g_undoFirst hG
  have g2 := g_undos hG
  refine yr1_ok (Rt := Q) (wc := (wcL [(58, k_refuses), (85, k_slot), (60, k_copies)])) (stp := []) hcm hcl [] 46 ?_
  show ((¬ st 170 57 = (0 : Int) → ((-2147483648 ≤ (st 170 57) - 1 ∧ (st 170 57) - 1 ≤ 2147483647) ∧ (170 = 170 ∧ (rq_slot ((st 170 57) - 1) (zup st 170 57 ((st 170 57) - 1)) ∧ (∀ (r3 : Int), en_slot ((st 170 57) - 1) (zup st 170 57 ((st 170 57) - 1)) r3 → (170 = 170 ∧ (rq_copies (0) r3 (zup st 170 57 ((st 170 57) - 1)) ∧ (∀ (s4 : zS), en_copies (0) r3 (zup st 170 57 ((st 170 57) - 1)) s4 → ((1 = (0 : Int) ∨ 1 = (1 : Int)) ∧ Q (some (.inl 1)) s4))))))))) ∧ (¬ (¬ st 170 57 = (0 : Int)) → (170 = 170 ∧ (rq_refuses (4) st ∧ (∀ (r5 : Int) (s5 : zS), en_refuses (4) st r5 s5 → ((r5 < (0 : Int) → ((0 = (0 : Int) ∨ 0 = (1 : Int)) ∧ Q (some (.inl 0)) s5)) ∧ (¬ (r5 < (0 : Int)) → ((1 = (0 : Int) ∨ 1 = (1 : Int)) ∧ Q (some (.inl 1)) s5))))))))
  refine ⟨fun h6 => ?_, fun h6 => ?_⟩
  · refine ⟨by omega, ?_⟩
    refine ⟨rfl, ⟨(gInv_up hG (p_undos (by omega))), (show 0 ≤ ((st 170 57) - 1) ∧ ((st 170 57) - 1) ≤ 20 from by omega)⟩, fun r3 q3 => ?_⟩
    have e3 := q3
    change r3 = 2 + (st 170 56 + ((st 170 57) - 1)) % 20 at e3
    refine ⟨rfl, ⟨(gInv_up hG (p_undos (by omega))), (show 0 ≤ (0) ∧ (0) ≤ 21 ∧ 0 ≤ r3 ∧ r3 ≤ 21 ∧ ¬ (0) = r3 from by omega)⟩, fun s4 q4 => ?_⟩
    obtain ⟨gs4, fs4, c4, o4, m4, pp4⟩ := q4
    change ∀ j : Int, 0 ≤ j → j < 30 → s4 203 (30 * (0) + j).toNat = (zup st 170 57 ((st 170 57) - 1)) 203 (30 * r3 + j).toNat at c4
    change ∀ i : Nat, ¬ (30 * (0) ≤ (i : Int) ∧ (i : Int) < 30 * (0) + 30) → s4 203 i = (zup st 170 57 ((st 170 57) - 1)) 203 i at o4
    change s4 202 ((0) : Int).toNat = (zup st 170 57 ((st 170 57) - 1)) 202 (r3 : Int).toNat at m4
    change ∀ i : Nat, ¬ (i : Int) = (0) → s4 202 i = (zup st 170 57 ((st 170 57) - 1)) 202 i at pp4
    refine ⟨by omega, ?_⟩
    exact hQ _ _ ⟨gs4, (zJ_undo (st := st) (w := r3) hG hJ (by omega) e3 (fs4 170 13 rfl rfl) (fs4 170 56 rfl rfl) (fs4 170 57 rfl rfl) (fun i => (fs4 172 i rfl rfl)) (fun i => (fs4 176 i rfl rfl)) (fun i => (fs4 177 i rfl rfl)) (fun i => (fs4 186 i rfl rfl)) (fun i => (fs4 187 i rfl rfl)) (fun i => (fs4 188 i rfl rfl)) m4 c4 o4 pp4), (fs4 170 1 rfl rfl), (zV0_tr (zV0_up (zV0_rf _) (by first | decide | rfl)) (zV0_fr rfl fs4))⟩
  · refine ⟨rfl, ⟨hG, (show 0 ≤ (4) ∧ (4) ≤ 5 from by omega)⟩, fun r5 s5 q5 => ?_⟩
    obtain ⟨gs5, fs5, e5⟩ := q5
    change r5 = -1 at e5
    refine ⟨fun h7 => ?_, fun h7 => ?_⟩
    · refine ⟨by omega, ?_⟩
      exact hQ _ _ ⟨gs5, (zJ_fr rfl fs5 hJ), (fs5 170 1 rfl rfl), (zV0_tr (zV0_rf _) (zV0_fr rfl fs5))⟩
    · refine ⟨by omega, ?_⟩
      exact hQ _ _ ⟨gs5, (zJ_fr rfl fs5 hJ), (fs5 170 1 rfl rfl), (zV0_tr (zV0_rf _) (zV0_fr rfl fs5))⟩
theorem k_undo_m (hTb : aTb zSh rx_tb cl) {D : Nat} (hD : 2 ≤ D) : ∀ as st (Q Q' : zQ), (∀ r st', Q r st' → Q' r st') → k_undo 169 as st Q → cl D 169 as st Q' := by
  intro as st Q Q' hQ h
  unfold k_undo at h
  split at h
  · obtain ⟨rfl, h⟩ := h
    exact c_undo hTb hD (ct_undo_m hQ h)
  · exact h.elim
set_option maxHeartbeats 40000000 in
set_option maxRecDepth 100000 in
theorem c_shut (hTb : aTb zSh rx_tb cl) {D : Nat} (hD : 3 ≤ D) {s0 on : Int} {st : zS} {Q : zQ} (h : ct_shut s0 on st Q) : cl D 132 [.inr (.inr (.inl 170)), .inl s0, .inl on] st Q := by
  obtain ⟨d, rfl⟩ : ∃ d, D = d + 1 := ⟨D - 1, by omega⟩
  refine hTb d 132 (rx_m132, 3, 0, 0, 2) rfl _ _ _ (Nat.le_of_ble_eq_true rfl) (fun K hcl hsf hsl => ?_)
  have hcm : zmo (wcL [(8, k_is), (201, k_has2), (58, k_refuses), (84, k_keeps)]) (cl d) := (wcL_m (wm_cons (k_is_m hTb (by omega)) (wm_cons (k_has2_m hTb (by omega)) (wm_cons (k_refuses_m hTb (by omega)) (wm_cons (k_keeps_m hTb (by omega)) wm_nil)))))
  obtain ⟨hR, hQ⟩ := h
  obtain ⟨hG, hJ⟩ := hR
  have g1 := g_bank hG
  refine yr1_ok (Rt := Q) (wc := (wcL [(8, k_is), (201, k_has2), (58, k_refuses), (84, k_keeps)])) (stp := []) hcm hcl [] 71 ?_
  show ((0 ≤ st 170 13 ∧ st 170 13 < 2) ∧ ((-2147483648 ≤ (st 173 (st 170 13 : Int).toNat) - 1 ∧ (st 173 (st 170 13 : Int).toNat) - 1 ≤ 2147483647) ∧ (∀ (r2 : Int), en_is s0 (0) ((st 173 (st 170 13 : Int).toNat) - 1) st r2 → ((r2 = (0 : Int) → (170 = 170 ∧ (rq_refuses (3) st ∧ (∀ (r3 : Int) (s3 : zS), en_refuses (3) st r3 s3 → ((r3 < (0 : Int) → ((0 = (0 : Int) ∨ 0 = (1 : Int)) ∧ Q (some (.inl 0)) s3)) ∧ (¬ (r3 < (0 : Int)) → ((1 = (0 : Int) ∨ 1 = (1 : Int)) ∧ Q (some (.inl 1)) s3))))))) ∧ (¬ (r2 = (0 : Int)) → (∀ (r4 : Int), en_is on (0) (1) st r4 → ((r4 = (0 : Int) → (170 = 170 ∧ (rq_refuses (3) st ∧ (∀ (r5 : Int) (s5 : zS), en_refuses (3) st r5 s5 → ((r5 < (0 : Int) → ((0 = (0 : Int) ∨ 0 = (1 : Int)) ∧ Q (some (.inl 0)) s5)) ∧ (¬ (r5 < (0 : Int)) → ((1 = (0 : Int) ∨ 1 = (1 : Int)) ∧ Q (some (.inl 1)) s5))))))) ∧ (¬ (r4 = (0 : Int)) → ((0 ≤ (0 : Int) ∧ (0 : Int) < 22) ∧ (∀ (r6 : Int), en_has2 (st 200 (0 : Int).toNat) s0 st r6 → ((¬ on = (1 : Int) → ((¬ r6 = (0 : Int) → (170 = 170 ∧ (rq_keeps  st ∧ (∀ (s7 : zS), en_keeps  st s7 → ((0 ≤ (0 : Int) ∧ (0 : Int) < 22) ∧ ((0 ≤ (0 : Int) ∧ (0 : Int) < 22) ∧ ((1 = (0 : Int) ∨ 1 = (1 : Int)) ∧ Q (some (.inl 1)) (zup s7 200 (0 : Int).toNat (zd (Nat.xor (zi (s7 200 (0 : Int).toNat)) (zi (zd ((zi 1 * 2 ^ (zi s0 % 32)) % 4294967296))))))))))))) ∧ (¬ (¬ r6 = (0 : Int)) → (170 = 170 ∧ (rq_refuses (3) st ∧ (∀ (r8 : Int) (s8 : zS), en_refuses (3) st r8 s8 → ((r8 < (0 : Int) → ((0 = (0 : Int) ∨ 0 = (1 : Int)) ∧ Q (some (.inl 0)) s8)) ∧ (¬ (r8 < (0 : Int)) → ((1 = (0 : Int) ∨ 1 = (1 : Int)) ∧ Q (some (.inl 1)) s8))))))))) ∧ (¬ (¬ on = (1 : Int)) → ((¬ r6 = (1 : Int) → (170 = 170 ∧ (rq_keeps  st ∧ (∀ (s9 : zS), en_keeps  st s9 → ((0 ≤ (0 : Int) ∧ (0 : Int) < 22) ∧ ((0 ≤ (0 : Int) ∧ (0 : Int) < 22) ∧ ((1 = (0 : Int) ∨ 1 = (1 : Int)) ∧ Q (some (.inl 1)) (zup s9 200 (0 : Int).toNat (zd (Nat.xor (zi (s9 200 (0 : Int).toNat)) (zi (zd ((zi 1 * 2 ^ (zi s0 % 32)) % 4294967296))))))))))))) ∧ (¬ (¬ r6 = (1 : Int)) → (170 = 170 ∧ (rq_refuses (3) st ∧ (∀ (r10 : Int) (s10 : zS), en_refuses (3) st r10 s10 → ((r10 < (0 : Int) → ((0 = (0 : Int) ∨ 0 = (1 : Int)) ∧ Q (some (.inl 0)) s10)) ∧ (¬ (r10 < (0 : Int)) → ((1 = (0 : Int) ∨ 1 = (1 : Int)) ∧ Q (some (.inl 1)) s10))))))))))))))))))))
  have g11 := g_streets hG (st 170 13 : Int).toNat
  refine ⟨by omega, ?_⟩
  refine ⟨by omega, ?_⟩
  refine fun r2 q2 => ?_
  have b2 := q2
  change (r2 = 0 ∨ r2 = 1) ∧ (r2 = 1 ↔ (0) ≤ s0 ∧ s0 ≤ ((st 173 (st 170 13 : Int).toNat) - 1)) at b2
  refine ⟨fun h12 => ?_, fun h12 => ?_⟩
  · refine ⟨rfl, ⟨hG, (show 0 ≤ (3) ∧ (3) ≤ 5 from by omega)⟩, fun r3 s3 q3 => ?_⟩
    obtain ⟨gs3, fs3, e3⟩ := q3
    change r3 = -1 at e3
    refine ⟨fun h13 => ?_, fun h13 => ?_⟩
    · refine ⟨by omega, ?_⟩
      exact hQ _ _ ⟨gs3, (zJ_fr rfl fs3 hJ), (fs3 170 1 rfl rfl), (zV0_tr (zV0_rf _) (zV0_fr rfl fs3))⟩
    · refine ⟨by omega, ?_⟩
      exact hQ _ _ ⟨gs3, (zJ_fr rfl fs3 hJ), (fs3 170 1 rfl rfl), (zV0_tr (zV0_rf _) (zV0_fr rfl fs3))⟩
  · refine fun r4 q4 => ?_
    have b4 := q4
    change (r4 = 0 ∨ r4 = 1) ∧ (r4 = 1 ↔ (0) ≤ on ∧ on ≤ (1)) at b4
    refine ⟨fun h14 => ?_, fun h14 => ?_⟩
    · refine ⟨rfl, ⟨hG, (show 0 ≤ (3) ∧ (3) ≤ 5 from by omega)⟩, fun r5 s5 q5 => ?_⟩
      obtain ⟨gs5, fs5, e5⟩ := q5
      change r5 = -1 at e5
      refine ⟨fun h15 => ?_, fun h15 => ?_⟩
      · refine ⟨by omega, ?_⟩
        exact hQ _ _ ⟨gs5, (zJ_fr rfl fs5 hJ), (fs5 170 1 rfl rfl), (zV0_tr (zV0_rf _) (zV0_fr rfl fs5))⟩
      · refine ⟨by omega, ?_⟩
        exact hQ _ _ ⟨gs5, (zJ_fr rfl fs5 hJ), (fs5 170 1 rfl rfl), (zV0_tr (zV0_rf _) (zV0_fr rfl fs5))⟩
    · have g16 := g_shutOf hG (0 : Int).toNat
      refine ⟨by omega, ?_⟩
      refine fun r6 q6 => ?_
      have b6 := q6
      change (r6 = 0 ∨ r6 = 1) ∧ r6 = hb (st 200 (0 : Int).toNat) s0 at b6
      refine ⟨fun h17 => ?_, fun h17 => ?_⟩
      · refine ⟨fun h18 => ?_, fun h18 => ?_⟩
        · refine ⟨rfl, ⟨hG, hJ⟩, fun s7 q7 => ?_⟩
          obtain ⟨gs7, fs7, js7, n7, n37⟩ := q7
          change s7 202 (0 : Int).toNat = st 202 (0 : Int).toNat at n7
          change ∀ i : Nat, (i : Int) < 30 → s7 203 i = st 203 i at n37
          have g19 := g_shutOf gs7 (0 : Int).toNat
          refine ⟨by omega, ?_⟩
          refine ⟨by omega, ?_⟩
          refine ⟨by omega, ?_⟩
          exact hQ _ _ ⟨(gInv_up gs7 (p_shutOf (zdxor_ok _ _))), (zJ_up rfl js7), (fs7 170 1 rfl rfl), (zV0_up (zV0_tr (zV0_rf _) (zV0_fr rfl fs7)) (by first | decide | rfl))⟩
        · refine ⟨rfl, ⟨hG, (show 0 ≤ (3) ∧ (3) ≤ 5 from by omega)⟩, fun r8 s8 q8 => ?_⟩
          obtain ⟨gs8, fs8, e8⟩ := q8
          change r8 = -1 at e8
          refine ⟨fun h20 => ?_, fun h20 => ?_⟩
          · refine ⟨by omega, ?_⟩
            exact hQ _ _ ⟨gs8, (zJ_fr rfl fs8 hJ), (fs8 170 1 rfl rfl), (zV0_tr (zV0_rf _) (zV0_fr rfl fs8))⟩
          · refine ⟨by omega, ?_⟩
            exact hQ _ _ ⟨gs8, (zJ_fr rfl fs8 hJ), (fs8 170 1 rfl rfl), (zV0_tr (zV0_rf _) (zV0_fr rfl fs8))⟩
      · refine ⟨fun h21 => ?_, fun h21 => ?_⟩
        · refine ⟨rfl, ⟨hG, hJ⟩, fun s9 q9 => ?_⟩
          obtain ⟨gs9, fs9, js9, n9, n39⟩ := q9
          change s9 202 (0 : Int).toNat = st 202 (0 : Int).toNat at n9
          change ∀ i : Nat, (i : Int) < 30 → s9 203 i = st 203 i at n39
          have g22 := g_shutOf gs9 (0 : Int).toNat
          refine ⟨by omega, ?_⟩
          refine ⟨by omega, ?_⟩
          refine ⟨by omega, ?_⟩
          exact hQ _ _ ⟨(gInv_up gs9 (p_shutOf (zdxor_ok _ _))), (zJ_up rfl js9), (fs9 170 1 rfl rfl), (zV0_up (zV0_tr (zV0_rf _) (zV0_fr rfl fs9)) (by first | decide | rfl))⟩
        · refine ⟨rfl, ⟨hG, (show 0 ≤ (3) ∧ (3) ≤ 5 from by omega)⟩, fun r10 s10 q10 => ?_⟩
          obtain ⟨gs10, fs10, e10⟩ := q10
          change r10 = -1 at e10
          refine ⟨fun h23 => ?_, fun h23 => ?_⟩
          · refine ⟨by omega, ?_⟩
            exact hQ _ _ ⟨gs10, (zJ_fr rfl fs10 hJ), (fs10 170 1 rfl rfl), (zV0_tr (zV0_rf _) (zV0_fr rfl fs10))⟩
          · refine ⟨by omega, ?_⟩
            exact hQ _ _ ⟨gs10, (zJ_fr rfl fs10 hJ), (fs10 170 1 rfl rfl), (zV0_tr (zV0_rf _) (zV0_fr rfl fs10))⟩
theorem k_shut_m (hTb : aTb zSh rx_tb cl) {D : Nat} (hD : 3 ≤ D) : ∀ as st (Q Q' : zQ), (∀ r st', Q r st' → Q' r st') → k_shut 132 as st Q → cl D 132 as st Q' := by
  intro as st Q Q' hQ h
  unfold k_shut at h
  split at h
  · obtain ⟨rfl, h⟩ := h
    exact c_shut hTb hD (ct_shut_m hQ h)
  · exact h.elim
set_option maxHeartbeats 40000000 in
set_option maxRecDepth 100000 in
theorem c_move (hTb : aTb zSh rx_tb cl) {D : Nat} (hD : 3 ≤ D) {t p : Int} {st : zS} {Q : zQ} (h : ct_move t p st Q) : cl D 133 [.inr (.inr (.inl 170)), .inl t, .inl p] st Q := by
  obtain ⟨d, rfl⟩ : ∃ d, D = d + 1 := ⟨D - 1, by omega⟩
  refine hTb d 133 (rx_m133, 3, 0, 0, 2) rfl _ _ _ (Nat.le_of_ble_eq_true rfl) (fun K hcl hsf hsl => ?_)
  have hcm : zmo (wcL [(8, k_is), (67, k_isPlace), (58, k_refuses), (84, k_keeps)]) (cl d) := (wcL_m (wm_cons (k_is_m hTb (by omega)) (wm_cons (k_isPlace_m hTb (by omega)) (wm_cons (k_refuses_m hTb (by omega)) (wm_cons (k_keeps_m hTb (by omega)) wm_nil)))))
  obtain ⟨hR, hQ⟩ := h
  obtain ⟨hG, hJ⟩ := hR
  have g1 := g_bank hG
  refine yr1_ok (Rt := Q) (wc := (wcL [(8, k_is), (67, k_isPlace), (58, k_refuses), (84, k_keeps)])) (stp := []) hcm hcl [] 58 ?_
  show ((0 ≤ st 170 13 ∧ st 170 13 < 2) ∧ ((-2147483648 ≤ (st 181 (st 170 13 : Int).toNat) - 1 ∧ (st 181 (st 170 13 : Int).toNat) - 1 ≤ 2147483647) ∧ (∀ (r2 : Int), en_is t (0) ((st 181 (st 170 13 : Int).toNat) - 1) st r2 → ((r2 = (0 : Int) → (170 = 170 ∧ (rq_refuses (3) st ∧ (∀ (r3 : Int) (s3 : zS), en_refuses (3) st r3 s3 → ((r3 < (0 : Int) → ((0 = (0 : Int) ∨ 0 = (1 : Int)) ∧ Q (some (.inl 0)) s3)) ∧ (¬ (r3 < (0 : Int)) → ((1 = (0 : Int) ∨ 1 = (1 : Int)) ∧ Q (some (.inl 1)) s3))))))) ∧ (¬ (r2 = (0 : Int)) → (170 = 170 ∧ (rq_isPlace p st ∧ (∀ (r4 : Int), en_isPlace p st r4 → ((r4 = (0 : Int) → (170 = 170 ∧ (rq_refuses (3) st ∧ (∀ (r5 : Int) (s5 : zS), en_refuses (3) st r5 s5 → ((r5 < (0 : Int) → ((0 = (0 : Int) ∨ 0 = (1 : Int)) ∧ Q (some (.inl 0)) s5)) ∧ (¬ (r5 < (0 : Int)) → ((1 = (0 : Int) ∨ 1 = (1 : Int)) ∧ Q (some (.inl 1)) s5))))))) ∧ (¬ (r4 = (0 : Int)) → ((0 ≤ t ∧ t < 176) ∧ ((¬ st 201 (t : Int).toNat = p → (170 = 170 ∧ (rq_keeps  st ∧ (∀ (s6 : zS), en_keeps  st s6 → ((0 ≤ t ∧ t < 176) ∧ ((1 = (0 : Int) ∨ 1 = (1 : Int)) ∧ Q (some (.inl 1)) (zup s6 201 (t : Int).toNat p))))))) ∧ (¬ (¬ st 201 (t : Int).toNat = p) → (170 = 170 ∧ (rq_refuses (3) st ∧ (∀ (r7 : Int) (s7 : zS), en_refuses (3) st r7 s7 → ((r7 < (0 : Int) → ((0 = (0 : Int) ∨ 0 = (1 : Int)) ∧ Q (some (.inl 0)) s7)) ∧ (¬ (r7 < (0 : Int)) → ((1 = (0 : Int) ∨ 1 = (1 : Int)) ∧ Q (some (.inl 1)) s7)))))))))))))))))))
  have g8 := g_things hG (st 170 13 : Int).toNat
  refine ⟨by omega, ?_⟩
  refine ⟨by omega, ?_⟩
  refine fun r2 q2 => ?_
  have b2 := q2
  change (r2 = 0 ∨ r2 = 1) ∧ (r2 = 1 ↔ (0) ≤ t ∧ t ≤ ((st 181 (st 170 13 : Int).toNat) - 1)) at b2
  refine ⟨fun h9 => ?_, fun h9 => ?_⟩
  · refine ⟨rfl, ⟨hG, (show 0 ≤ (3) ∧ (3) ≤ 5 from by omega)⟩, fun r3 s3 q3 => ?_⟩
    obtain ⟨gs3, fs3, e3⟩ := q3
    change r3 = -1 at e3
    refine ⟨fun h10 => ?_, fun h10 => ?_⟩
    · refine ⟨by omega, ?_⟩
      exact hQ _ _ ⟨gs3, (zJ_fr rfl fs3 hJ), (fs3 170 1 rfl rfl), (zV0_tr (zV0_rf _) (zV0_fr rfl fs3))⟩
    · refine ⟨by omega, ?_⟩
      exact hQ _ _ ⟨gs3, (zJ_fr rfl fs3 hJ), (fs3 170 1 rfl rfl), (zV0_tr (zV0_rf _) (zV0_fr rfl fs3))⟩
  · refine ⟨rfl, hG, fun r4 q4 => ?_⟩
    have b4 := q4
    change (r4 = 0 ∨ r4 = 1) ∧ (r4 = 1 ↔ 0 ≤ p ∧ p < st 172 (st 170 13 : Int).toNat) at b4
    have g11 := g_places hG (st 170 13 : Int).toNat
    refine ⟨fun h12 => ?_, fun h12 => ?_⟩
    · refine ⟨rfl, ⟨hG, (show 0 ≤ (3) ∧ (3) ≤ 5 from by omega)⟩, fun r5 s5 q5 => ?_⟩
      obtain ⟨gs5, fs5, e5⟩ := q5
      change r5 = -1 at e5
      refine ⟨fun h13 => ?_, fun h13 => ?_⟩
      · refine ⟨by omega, ?_⟩
        exact hQ _ _ ⟨gs5, (zJ_fr rfl fs5 hJ), (fs5 170 1 rfl rfl), (zV0_tr (zV0_rf _) (zV0_fr rfl fs5))⟩
      · refine ⟨by omega, ?_⟩
        exact hQ _ _ ⟨gs5, (zJ_fr rfl fs5 hJ), (fs5 170 1 rfl rfl), (zV0_tr (zV0_rf _) (zV0_fr rfl fs5))⟩
    · have g14 := g_thingAt hG (t : Int).toNat
      refine ⟨by omega, ?_⟩
      refine ⟨fun h15 => ?_, fun h15 => ?_⟩
      · refine ⟨rfl, ⟨hG, hJ⟩, fun s6 q6 => ?_⟩
        obtain ⟨gs6, fs6, js6, n6, n36⟩ := q6
        change s6 202 (0 : Int).toNat = st 202 (0 : Int).toNat at n6
        change ∀ i : Nat, (i : Int) < 30 → s6 203 i = st 203 i at n36
        refine ⟨by omega, ?_⟩
        refine ⟨by omega, ?_⟩
        exact hQ _ _ ⟨(gInv_up gs6 (p_thingAt (by omega))), (zJ_up rfl js6), (fs6 170 1 rfl rfl), (zV0_up (zV0_tr (zV0_rf _) (zV0_fr rfl fs6)) (by first | decide | rfl))⟩
      · refine ⟨rfl, ⟨hG, (show 0 ≤ (3) ∧ (3) ≤ 5 from by omega)⟩, fun r7 s7 q7 => ?_⟩
        obtain ⟨gs7, fs7, e7⟩ := q7
        change r7 = -1 at e7
        refine ⟨fun h16 => ?_, fun h16 => ?_⟩
        · refine ⟨by omega, ?_⟩
          exact hQ _ _ ⟨gs7, (zJ_fr rfl fs7 hJ), (fs7 170 1 rfl rfl), (zV0_tr (zV0_rf _) (zV0_fr rfl fs7))⟩
        · refine ⟨by omega, ?_⟩
          exact hQ _ _ ⟨gs7, (zJ_fr rfl fs7 hJ), (fs7 170 1 rfl rfl), (zV0_tr (zV0_rf _) (zV0_fr rfl fs7))⟩
theorem k_move_m (hTb : aTb zSh rx_tb cl) {D : Nat} (hD : 3 ≤ D) : ∀ as st (Q Q' : zQ), (∀ r st', Q r st' → Q' r st') → k_move 133 as st Q → cl D 133 as st Q' := by
  intro as st Q Q' hQ h
  unfold k_move at h
  split at h
  · obtain ⟨rfl, h⟩ := h
    exact c_move hTb hD (ct_move_m hQ h)
  · exact h.elim
set_option maxHeartbeats 40000000 in
set_option maxRecDepth 100000 in
theorem c_teach (hTb : aTb zSh rx_tb cl) {D : Nat} (hD : 3 ≤ D) {p m : Int} {st : zS} {Q : zQ} (h : ct_teach p m st Q) : cl D 134 [.inr (.inr (.inl 170)), .inl p, .inl m] st Q := by
  obtain ⟨d, rfl⟩ : ∃ d, D = d + 1 := ⟨D - 1, by omega⟩
  refine hTb d 134 (rx_m134, 4, 0, 0, 2) rfl _ _ _ (Nat.le_of_ble_eq_true rfl) (fun K hcl hsf hsl => ?_)
  have hcm : zmo (wcL [(67, k_isPlace), (8, k_is), (0, k_between), (58, k_refuses), (84, k_keeps)]) (cl d) := (wcL_m (wm_cons (k_isPlace_m hTb (by omega)) (wm_cons (k_is_m hTb (by omega)) (wm_cons (k_between_m hTb (by omega)) (wm_cons (k_refuses_m hTb (by omega)) (wm_cons (k_keeps_m hTb (by omega)) wm_nil))))))
  obtain ⟨hR, hQ⟩ := h
  obtain ⟨hG, hJ⟩ := hR
  have g1 := g_bank hG
  have g2 := g_stepMany hG (0 : Int).toNat
  refine yr1_ok (Rt := Q) (wc := (wcL [(67, k_isPlace), (8, k_is), (0, k_between), (58, k_refuses), (84, k_keeps)])) (stp := []) hcm hcl [] 81 ?_
  show ((0 ≤ (0 : Int) ∧ (0 : Int) < 22) ∧ (170 = 170 ∧ (rq_isPlace p st ∧ (∀ (r3 : Int), en_isPlace p st r3 → ((r3 = (0 : Int) → (170 = 170 ∧ (rq_refuses (3) st ∧ (∀ (r4 : Int) (s4 : zS), en_refuses (3) st r4 s4 → ((r4 < (0 : Int) → ((0 = (0 : Int) ∨ 0 = (1 : Int)) ∧ Q (some (.inl 0)) s4)) ∧ (¬ (r4 < (0 : Int)) → ((1 = (0 : Int) ∨ 1 = (1 : Int)) ∧ Q (some (.inl 1)) s4))))))) ∧ (¬ (r3 = (0 : Int)) → (∀ (r5 : Int), en_is m (0) (30) st r5 → ((r5 = (0 : Int) → (170 = 170 ∧ (rq_refuses (3) st ∧ (∀ (r6 : Int) (s6 : zS), en_refuses (3) st r6 s6 → ((r6 < (0 : Int) → ((0 = (0 : Int) ∨ 0 = (1 : Int)) ∧ Q (some (.inl 0)) s6)) ∧ (¬ (r6 < (0 : Int)) → ((1 = (0 : Int) ∨ 1 = (1 : Int)) ∧ Q (some (.inl 1)) s6))))))) ∧ (¬ (r5 = (0 : Int)) → ((st 202 (0 : Int).toNat = (30 : Int) → (170 = 170 ∧ (rq_refuses (3) st ∧ (∀ (r7 : Int) (s7 : zS), en_refuses (3) st r7 s7 → ((r7 < (0 : Int) → ((0 = (0 : Int) ∨ 0 = (1 : Int)) ∧ Q (some (.inl 0)) s7)) ∧ (¬ (r7 < (0 : Int)) → ((1 = (0 : Int) ∨ 1 = (1 : Int)) ∧ Q (some (.inl 1)) s7))))))) ∧ (¬ (st 202 (0 : Int).toNat = (30 : Int)) → ((st 202 (0 : Int).toNat ≤ (0 : Int) → (170 = 170 ∧ (rq_keeps  st ∧ (∀ (s8 : zS), en_keeps  st s8 → ((0 ≤ st 202 (0 : Int).toNat ∧ st 202 (0 : Int).toNat < 660) ∧ ((0 ≤ st 202 (0 : Int).toNat ∧ st 202 (0 : Int).toNat < 660) ∧ ((0 ≤ (0 : Int) ∧ (0 : Int) < 22) ∧ ((-2147483648 ≤ (s8 202 (0 : Int).toNat) + 1 ∧ (s8 202 (0 : Int).toNat) + 1 ≤ 2147483647) ∧ ((0 ≤ (0 : Int) ∧ (0 : Int) < 22) ∧ ((1 = (0 : Int) ∨ 1 = (1 : Int)) ∧ Q (some (.inl 1)) (zup (zup (zup s8 203 (st 202 (0 : Int).toNat : Int).toNat p) 204 (st 202 (0 : Int).toNat : Int).toNat m) 202 (0 : Int).toNat ((s8 202 (0 : Int).toNat) + 1)))))))))))) ∧ (¬ (st 202 (0 : Int).toNat ≤ (0 : Int)) → ((-2147483648 ≤ (st 202 (0 : Int).toNat) - 1 ∧ (st 202 (0 : Int).toNat) - 1 ≤ 2147483647) ∧ ((0 ≤ (st 202 (0 : Int).toNat) - 1 ∧ (st 202 (0 : Int).toNat) - 1 < 660) ∧ (170 = 170 ∧ (rq_between (st 170 13) (st 203 ((st 202 (0 : Int).toNat) - 1 : Int).toNat) p st ∧ (∀ (r9 : Int), en_between (st 170 13) (st 203 ((st 202 (0 : Int).toNat) - 1 : Int).toNat) p st r9 → ((¬ r9 = (0 : Int) → (170 = 170 ∧ (rq_keeps  st ∧ (∀ (s10 : zS), en_keeps  st s10 → ((0 ≤ st 202 (0 : Int).toNat ∧ st 202 (0 : Int).toNat < 660) ∧ ((0 ≤ st 202 (0 : Int).toNat ∧ st 202 (0 : Int).toNat < 660) ∧ ((0 ≤ (0 : Int) ∧ (0 : Int) < 22) ∧ ((-2147483648 ≤ (s10 202 (0 : Int).toNat) + 1 ∧ (s10 202 (0 : Int).toNat) + 1 ≤ 2147483647) ∧ ((0 ≤ (0 : Int) ∧ (0 : Int) < 22) ∧ ((1 = (0 : Int) ∨ 1 = (1 : Int)) ∧ Q (some (.inl 1)) (zup (zup (zup s10 203 (st 202 (0 : Int).toNat : Int).toNat p) 204 (st 202 (0 : Int).toNat : Int).toNat m) 202 (0 : Int).toNat ((s10 202 (0 : Int).toNat) + 1)))))))))))) ∧ (¬ (¬ r9 = (0 : Int)) → (170 = 170 ∧ (rq_refuses (3) st ∧ (∀ (r11 : Int) (s11 : zS), en_refuses (3) st r11 s11 → ((r11 < (0 : Int) → ((0 = (0 : Int) ∨ 0 = (1 : Int)) ∧ Q (some (.inl 0)) s11)) ∧ (¬ (r11 < (0 : Int)) → ((1 = (0 : Int) ∨ 1 = (1 : Int)) ∧ Q (some (.inl 1)) s11))))))))))))))))))))))))))
  refine ⟨by omega, ?_⟩
  refine ⟨rfl, hG, fun r3 q3 => ?_⟩
  have b3 := q3
  change (r3 = 0 ∨ r3 = 1) ∧ (r3 = 1 ↔ 0 ≤ p ∧ p < st 172 (st 170 13 : Int).toNat) at b3
  have g12 := g_places hG (st 170 13 : Int).toNat
  refine ⟨fun h13 => ?_, fun h13 => ?_⟩
  · refine ⟨rfl, ⟨hG, (show 0 ≤ (3) ∧ (3) ≤ 5 from by omega)⟩, fun r4 s4 q4 => ?_⟩
    obtain ⟨gs4, fs4, e4⟩ := q4
    change r4 = -1 at e4
    refine ⟨fun h14 => ?_, fun h14 => ?_⟩
    · refine ⟨by omega, ?_⟩
      exact hQ _ _ ⟨gs4, (zJ_fr rfl fs4 hJ), (fs4 170 1 rfl rfl), (zV0_tr (zV0_rf _) (zV0_fr rfl fs4))⟩
    · refine ⟨by omega, ?_⟩
      exact hQ _ _ ⟨gs4, (zJ_fr rfl fs4 hJ), (fs4 170 1 rfl rfl), (zV0_tr (zV0_rf _) (zV0_fr rfl fs4))⟩
  · refine fun r5 q5 => ?_
    have b5 := q5
    change (r5 = 0 ∨ r5 = 1) ∧ (r5 = 1 ↔ (0) ≤ m ∧ m ≤ (30)) at b5
    refine ⟨fun h15 => ?_, fun h15 => ?_⟩
    · refine ⟨rfl, ⟨hG, (show 0 ≤ (3) ∧ (3) ≤ 5 from by omega)⟩, fun r6 s6 q6 => ?_⟩
      obtain ⟨gs6, fs6, e6⟩ := q6
      change r6 = -1 at e6
      refine ⟨fun h16 => ?_, fun h16 => ?_⟩
      · refine ⟨by omega, ?_⟩
        exact hQ _ _ ⟨gs6, (zJ_fr rfl fs6 hJ), (fs6 170 1 rfl rfl), (zV0_tr (zV0_rf _) (zV0_fr rfl fs6))⟩
      · refine ⟨by omega, ?_⟩
        exact hQ _ _ ⟨gs6, (zJ_fr rfl fs6 hJ), (fs6 170 1 rfl rfl), (zV0_tr (zV0_rf _) (zV0_fr rfl fs6))⟩
    · refine ⟨fun h17 => ?_, fun h17 => ?_⟩
      · refine ⟨rfl, ⟨hG, (show 0 ≤ (3) ∧ (3) ≤ 5 from by omega)⟩, fun r7 s7 q7 => ?_⟩
        obtain ⟨gs7, fs7, e7⟩ := q7
        change r7 = -1 at e7
        refine ⟨fun h18 => ?_, fun h18 => ?_⟩
        · refine ⟨by omega, ?_⟩
          exact hQ _ _ ⟨gs7, (zJ_fr rfl fs7 hJ), (fs7 170 1 rfl rfl), (zV0_tr (zV0_rf _) (zV0_fr rfl fs7))⟩
        · refine ⟨by omega, ?_⟩
          exact hQ _ _ ⟨gs7, (zJ_fr rfl fs7 hJ), (fs7 170 1 rfl rfl), (zV0_tr (zV0_rf _) (zV0_fr rfl fs7))⟩
      · refine ⟨fun h19 => ?_, fun h19 => ?_⟩
        · refine ⟨rfl, ⟨hG, hJ⟩, fun s8 q8 => ?_⟩
          obtain ⟨gs8, fs8, js8, n8, n38⟩ := q8
          change s8 202 (0 : Int).toNat = st 202 (0 : Int).toNat at n8
          change ∀ i : Nat, (i : Int) < 30 → s8 203 i = st 203 i at n38
          refine ⟨by omega, ?_⟩
          refine ⟨by omega, ?_⟩
          have g20 := g_stepMany gs8 (0 : Int).toNat
          refine ⟨by omega, ?_⟩
          refine ⟨by omega, ?_⟩
          refine ⟨by omega, ?_⟩
          refine ⟨by omega, ?_⟩
          exact hQ _ _ ⟨(gInv_up (gInv_up (gInv_up gs8 (p_stepPlace (by omega))) (p_stepMinutes (by omega))) (p_stepMany (by omega))), (zJ_slot (st := s8) (v := 0) gs8 js8 (by omega) rfl rfl rfl (fun _ => rfl) (fun _ => rfl) (fun _ => rfl) (fun _ => rfl) (fun _ => rfl) (fun _ => rfl) (fun i z => up1_n (s8 203) _ (by omega)) (fun i z => up1_n (s8 202) _ (by omega)) (fun _ => jgd_add (st := s8) (n := st 202 (0 : Int).toNat) (p := p) js8.2.1.1 (by omega) rfl (fun _ => rfl) n8 ((up1_e (s8 202) _ _).trans (by omega)) (up1_e (s8 203) _ _) (fun i z => up1_n (s8 203) _ (by omega)) (fun z => by omega))), (fs8 170 1 rfl rfl), (zV0_up (zV0_up (zV0_up (zV0_tr (zV0_rf _) (zV0_fr rfl fs8)) (by first | decide | rfl)) (by first | decide | rfl)) (by first | decide | rfl))⟩
        · refine ⟨by omega, ?_⟩
          have g21 := g_stepPlace hG ((st 202 (0 : Int).toNat) - 1 : Int).toNat
          refine ⟨by omega, ?_⟩
          refine ⟨rfl, (show 0 ≤ (st 170 13) ∧ (st 170 13) ≤ 1 ∧ 0 ≤ (st 203 ((st 202 (0 : Int).toNat) - 1 : Int).toNat) ∧ (st 203 ((st 202 (0 : Int).toNat) - 1 : Int).toNat) < 8 ∧ 0 ≤ p ∧ p < 8 from by omega), fun r9 q9 => ?_⟩
          have e9 := q9
          change r9 = st 177 (64 * (st 170 13) + 8 * (st 203 ((st 202 (0 : Int).toNat) - 1 : Int).toNat) + p : Int).toNat at e9
          have g22 := g_streetAt hG (64 * (st 170 13) + 8 * (st 203 ((st 202 (0 : Int).toNat) - 1 : Int).toNat) + p : Int).toNat
          refine ⟨fun h23 => ?_, fun h23 => ?_⟩
          · refine ⟨rfl, ⟨hG, hJ⟩, fun s10 q10 => ?_⟩
            obtain ⟨gs10, fs10, js10, n10, n310⟩ := q10
            change s10 202 (0 : Int).toNat = st 202 (0 : Int).toNat at n10
            change ∀ i : Nat, (i : Int) < 30 → s10 203 i = st 203 i at n310
            refine ⟨by omega, ?_⟩
            refine ⟨by omega, ?_⟩
            have g24 := g_stepMany gs10 (0 : Int).toNat
            refine ⟨by omega, ?_⟩
            refine ⟨by omega, ?_⟩
            refine ⟨by omega, ?_⟩
            refine ⟨by omega, ?_⟩
            exact hQ _ _ ⟨(gInv_up (gInv_up (gInv_up gs10 (p_stepPlace (by omega))) (p_stepMinutes (by omega))) (p_stepMany (by omega))), (zJ_slot (st := s10) (v := 0) gs10 js10 (by omega) rfl rfl rfl (fun _ => rfl) (fun _ => rfl) (fun _ => rfl) (fun _ => rfl) (fun _ => rfl) (fun _ => rfl) (fun i z => up1_n (s10 203) _ (by omega)) (fun i z => up1_n (s10 202) _ (by omega)) (fun _ => jgd_add (st := s10) (n := st 202 (0 : Int).toNat) (p := p) js10.2.1.1 (by omega) rfl (fun _ => rfl) n10 ((up1_e (s10 202) _ _).trans (by omega)) (up1_e (s10 203) _ _) (fun i z => up1_n (s10 203) _ (by omega)) (fun z => by
          have z1 := e9
          rw [zad_e (fs10 170 13 rfl rfl) (fun i => fs10 177 i rfl rfl), n310 (st 202 (0 : Int).toNat - 1 : Int).toNat (by omega)]
          show 0 < st 177 (64 * st 170 13 + 8 * st 203 (st 202 (0 : Int).toNat - 1 : Int).toNat + p : Int).toNat
          omega))), (fs10 170 1 rfl rfl), (zV0_up (zV0_up (zV0_up (zV0_tr (zV0_rf _) (zV0_fr rfl fs10)) (by first | decide | rfl)) (by first | decide | rfl)) (by first | decide | rfl))⟩
          · refine ⟨rfl, ⟨hG, (show 0 ≤ (3) ∧ (3) ≤ 5 from by omega)⟩, fun r11 s11 q11 => ?_⟩
            obtain ⟨gs11, fs11, e11⟩ := q11
            change r11 = -1 at e11
            refine ⟨fun h25 => ?_, fun h25 => ?_⟩
            · refine ⟨by omega, ?_⟩
              exact hQ _ _ ⟨gs11, (zJ_fr rfl fs11 hJ), (fs11 170 1 rfl rfl), (zV0_tr (zV0_rf _) (zV0_fr rfl fs11))⟩
            · refine ⟨by omega, ?_⟩
              exact hQ _ _ ⟨gs11, (zJ_fr rfl fs11 hJ), (fs11 170 1 rfl rfl), (zV0_tr (zV0_rf _) (zV0_fr rfl fs11))⟩
theorem k_teach_m (hTb : aTb zSh rx_tb cl) {D : Nat} (hD : 3 ≤ D) : ∀ as st (Q Q' : zQ), (∀ r st', Q r st' → Q' r st') → k_teach 134 as st Q → cl D 134 as st Q' := by
  intro as st Q Q' hQ h
  unfold k_teach at h
  split at h
  · obtain ⟨rfl, h⟩ := h
    exact c_teach hTb hD (ct_teach_m hQ h)
  · exact h.elim
set_option maxHeartbeats 40000000 in
set_option maxRecDepth 100000 in
theorem c_forget (hTb : aTb zSh rx_tb cl) {D : Nat} (hD : 3 ≤ D) {st : zS} {Q : zQ} (h : ct_forget  st Q) : cl D 166 [.inr (.inr (.inl 170))] st Q := by
  obtain ⟨d, rfl⟩ : ∃ d, D = d + 1 := ⟨D - 1, by omega⟩
  refine hTb d 166 (rx_m166, 1, 0, 0, 2) rfl _ _ _ (Nat.le_of_ble_eq_true rfl) (fun K hcl hsf hsl => ?_)
  have hcm : zmo (wcL [(58, k_refuses), (84, k_keeps)]) (cl d) := (wcL_m (wm_cons (k_refuses_m hTb (by omega)) (wm_cons (k_keeps_m hTb (by omega)) wm_nil)))
  obtain ⟨hR, hQ⟩ := h
  obtain ⟨hG, hJ⟩ := hR
  have g1 := g_stepMany hG (0 : Int).toNat
  refine yr1_ok (Rt := Q) (wc := (wcL [(58, k_refuses), (84, k_keeps)])) (stp := []) hcm hcl [] 45 ?_
  show ((0 ≤ (0 : Int) ∧ (0 : Int) < 22) ∧ ((¬ st 202 (0 : Int).toNat = (0 : Int) → (170 = 170 ∧ (rq_keeps  st ∧ (∀ (s2 : zS), en_keeps  st s2 → ((0 ≤ (0 : Int) ∧ (0 : Int) < 22) ∧ ((-2147483648 ≤ (s2 202 (0 : Int).toNat) - 1 ∧ (s2 202 (0 : Int).toNat) - 1 ≤ 2147483647) ∧ ((0 ≤ (0 : Int) ∧ (0 : Int) < 22) ∧ ((1 = (0 : Int) ∨ 1 = (1 : Int)) ∧ Q (some (.inl 1)) (zup s2 202 (0 : Int).toNat ((s2 202 (0 : Int).toNat) - 1)))))))))) ∧ (¬ (¬ st 202 (0 : Int).toNat = (0 : Int)) → (170 = 170 ∧ (rq_refuses (3) st ∧ (∀ (r3 : Int) (s3 : zS), en_refuses (3) st r3 s3 → ((r3 < (0 : Int) → ((0 = (0 : Int) ∨ 0 = (1 : Int)) ∧ Q (some (.inl 0)) s3)) ∧ (¬ (r3 < (0 : Int)) → ((1 = (0 : Int) ∨ 1 = (1 : Int)) ∧ Q (some (.inl 1)) s3)))))))))
  refine ⟨by omega, ?_⟩
  refine ⟨fun h4 => ?_, fun h4 => ?_⟩
  · refine ⟨rfl, ⟨hG, hJ⟩, fun s2 q2 => ?_⟩
    obtain ⟨gs2, fs2, js2, n2, n32⟩ := q2
    change s2 202 (0 : Int).toNat = st 202 (0 : Int).toNat at n2
    change ∀ i : Nat, (i : Int) < 30 → s2 203 i = st 203 i at n32
    have g5 := g_stepMany gs2 (0 : Int).toNat
    refine ⟨by omega, ?_⟩
    refine ⟨by omega, ?_⟩
    refine ⟨by omega, ?_⟩
    refine ⟨by omega, ?_⟩
    exact hQ _ _ ⟨(gInv_up gs2 (p_stepMany (by omega))), (zJ_slot (st := s2) (v := 0) gs2 js2 (by omega) rfl rfl rfl (fun _ => rfl) (fun _ => rfl) (fun _ => rfl) (fun _ => rfl) (fun _ => rfl) (fun _ => rfl) (fun i z => rfl) (fun i z => up1_n (s2 202) _ (by omega)) (fun _ => jgd_del (st := s2) js2.2.1.1 rfl (fun _ => rfl) (by show up1 (s2 202) (0 : Int).toNat (s2 202 (0 : Int).toNat - 1) (0 : Int).toNat ≤ _; rw [up1_t rfl]; omega) (fun _ => rfl))), (fs2 170 1 rfl rfl), (zV0_up (zV0_tr (zV0_rf _) (zV0_fr rfl fs2)) (by first | decide | rfl))⟩
  · refine ⟨rfl, ⟨hG, (show 0 ≤ (3) ∧ (3) ≤ 5 from by omega)⟩, fun r3 s3 q3 => ?_⟩
    obtain ⟨gs3, fs3, e3⟩ := q3
    change r3 = -1 at e3
    refine ⟨fun h6 => ?_, fun h6 => ?_⟩
    · refine ⟨by omega, ?_⟩
      exact hQ _ _ ⟨gs3, (zJ_fr rfl fs3 hJ), (fs3 170 1 rfl rfl), (zV0_tr (zV0_rf _) (zV0_fr rfl fs3))⟩
    · refine ⟨by omega, ?_⟩
      exact hQ _ _ ⟨gs3, (zJ_fr rfl fs3 hJ), (fs3 170 1 rfl rfl), (zV0_tr (zV0_rf _) (zV0_fr rfl fs3))⟩
theorem k_forget_m (hTb : aTb zSh rx_tb cl) {D : Nat} (hD : 3 ≤ D) : ∀ as st (Q Q' : zQ), (∀ r st', Q r st' → Q' r st') → k_forget 166 as st Q → cl D 166 as st Q' := by
  intro as st Q Q' hQ h
  unfold k_forget at h
  split at h
  · obtain ⟨rfl, h⟩ := h
    exact c_forget hTb hD (ct_forget_m hQ h)
  · exact h.elim
end R7e
