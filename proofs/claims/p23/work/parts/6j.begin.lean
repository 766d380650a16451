/-! printed by wip/p32/liba.py: a town is taken -/
def m_refuses : aM := ([], [198])
def rq_refuses (k : Int) (st : zS) : Prop := gInv zgt st ∧ (0 ≤ k ∧ k ≤ 5)
def en_refuses (k : Int) (st : zS) (r : Int) (s1 : zS) : Prop := gInv zgt s1 ∧ aFr m_refuses st s1 ∧ (r = -1)
def ct_refuses (k : Int) (st : zS) (Q : zQ) : Prop := rq_refuses k st ∧ (∀ (r : Int) (s1 : zS), en_refuses k st r s1 → Q (some (.inl r)) s1)
theorem ct_refuses_m {k : Int} {st : zS} {Q Q' : zQ} (hQ : ∀ r st', Q r st' → Q' r st') (h : ct_refuses k st Q) : ct_refuses k st Q' := ⟨h.1, fun x0 x1 x2 => hQ _ _ (h.2 x0 x1 x2)⟩
def k_refuses : zCall := fun _ as st Q => match as with
  | [.inr (.inr (.inl z_o)), .inl k] => z_o = 170 ∧ ct_refuses k st Q
  | _ => False
theorem k_refuses_mon : zmon k_refuses := by
  intro nu as st Q Q' hQ h
  unfold k_refuses at h ⊢
  split at h
  · exact ⟨h.1, ct_refuses_m hQ h.2⟩
  · exact h.elim
def m_begin : aM := ([(170, 57), (170, 71)], [199, 200, 201, 202, 203, 204, 205])
def rq_begin  (st : zS) : Prop := gInv zgt st ∧ (jS st) ∧ (jC st) ∧ (TS2 (st 170 13) (st 178 (st 170 13 : Int).toNat) (st 177) (st 179))
def en_begin  (st : zS) (s1 : zS) : Prop := gInv zgt s1 ∧ aFr m_begin st s1 ∧ zJ s1
def ct_begin  (st : zS) (Q : zQ) : Prop := rq_begin  st ∧ (∀ (s1 : zS), en_begin  st s1 → Q none s1)
theorem ct_begin_m {st : zS} {Q Q' : zQ} (hQ : ∀ r st', Q r st' → Q' r st') (h : ct_begin  st Q) : ct_begin  st Q' := ⟨h.1, fun x0 x1 => hQ _ _ (h.2 x0 x1)⟩
def k_begin : zCall := fun _ as st Q => match as with
  | [.inr (.inr (.inl z_o))] => z_o = 170 ∧ ct_begin  st Q
  | _ => False
theorem k_begin_mon : zmon k_begin := by
  intro nu as st Q Q' hQ h
  unfold k_begin at h ⊢
  split at h
  · exact ⟨h.1, ct_begin_m hQ h.2⟩
  · exact h.elim
section R6j
variable {cl : Nat → zCall}
set_option maxHeartbeats 40000000 in
set_option maxRecDepth 100000 in
theorem c_refuses (hTb : aTb zSh rx_tb cl) {D : Nat} (hD : 1 ≤ D) {k : Int} {st : zS} {Q : zQ} (h : ct_refuses k st Q) : cl D 58 [.inr (.inr (.inl 170)), .inl k] st Q := by
  obtain ⟨d, rfl⟩ : ∃ d, D = d + 1 := ⟨D - 1, by omega⟩
  refine hTb d 58 (rx_m58, 2, 0, 0, 1) rfl _ _ _ (Nat.le_of_ble_eq_true rfl) (fun K hcl hsf hsl => ?_)
  have hcm : zmo (zno) (cl d) := zno_m
  obtain ⟨hR, hQ⟩ := h
  obtain ⟨hG, hr1⟩ := hR
  change 0 ≤ k ∧ k ≤ 5 at hr1
  refine yr1_ok (Rt := Q) (wc := (zno)) (stp := []) hcm hcl [8] 30 ?_
  show ((0 ≤ k ∧ k < 6) ∧ ((0 ≤ k ∧ k < 6) ∧ Q (some (.inl (-1))) (zup st 198 (k : Int).toNat (zw ((st 198 (k : Int).toNat) + 1)))))
  have g1 := g_refused hG (k : Int).toNat
  refine ⟨by omega, ?_⟩
  refine ⟨by omega, ?_⟩
  exact hQ _ _ ⟨(gInv_up hG (p_refused (zw_ok _))), (fr_a (fr_rf _ _) rfl), (show ((-1) : Int) = -1 from by omega)⟩
theorem k_refuses_m (hTb : aTb zSh rx_tb cl) {D : Nat} (hD : 1 ≤ D) : ∀ as st (Q Q' : zQ), (∀ r st', Q r st' → Q' r st') → k_refuses 58 as st Q → cl D 58 as st Q' := by
  intro as st Q Q' hQ h
  unfold k_refuses at h
  split at h
  · obtain ⟨rfl, h⟩ := h
    exact c_refuses hTb hD (ct_refuses_m hQ h)
  · exact h.elim
set_option maxHeartbeats 40000000 in
set_option maxRecDepth 100000 in
theorem c_begin (hTb : aTb zSh rx_tb cl) {D : Nat} (hD : 1 ≤ D) {st : zS} {Q : zQ} (h : ct_begin  st Q) : cl D 150 [.inr (.inr (.inl 170))] st Q := by
  obtain ⟨d, rfl⟩ : ∃ d, D = d + 1 := ⟨D - 1, by omega⟩
  refine hTb d 150 (rx_m150, 2, 0, 0, 0) rfl _ _ _ (Nat.le_of_ble_eq_true rfl) (fun K hcl hsf hsl => ?_)
  have hcm : zmo (zno) (cl d) := zno_m
  obtain ⟨hR, hQ⟩ := h
  obtain ⟨hG, js, jc, t2⟩ := hR
  change jS st at js
  change jC st at jc
  change TS2 (st 170 13) (st 178 (st 170 13 : Int).toNat) (st 177) (st 179) at t2
  have lb : ∀ (u : Nat) (i : Int) (s_lb : zS), gInv zgt s_lb ∧ aFr m_begin st s_lb ∧ (0 ≤ i ∧ i ≤ st 178 (st 170 13 : Int).toNat ∧ s_lb 202 (0 : Int).toNat = st 178 (st 170 13 : Int).toNat) ∧ (∀ j : Int, 0 ≤ j → j < i → s_lb 203 j.toNat = st 179 (20 * st 170 13 + j).toNat) → (st 178 (st 170 13 : Int).toNat - i).toNat = u → K (rx_find rx_m150 65) [(1, .inl i), (0, .inr (.inr (.inl 170)))] [] s_lb := by
    intro u
    induction u using Nat.strongRecOn with
    | _ u ih =>
      intro i s_lb hi hu
      obtain ⟨gI_lb, fI_lb, n_lb, c_lb⟩ := hi
      have g1 := g_bank hG
      have g2 := g_steps hG (st 170 13 : Int).toNat
      have g3 := g_stepMany gI_lb (0 : Int).toNat
      have e4 : s_lb 170 13 = st 170 13 := fI_lb 170 13 rfl rfl
      refine yr1_ok (Rt := Q) (wc := (zno)) (stp := [65]) hcm hcl [] 108 ?_
      show ((0 ≤ s_lb 170 13 ∧ s_lb 170 13 < 2) ∧ ((s_lb 178 (s_lb 170 13 : Int).toNat ≤ i → ((0 ≤ (0 : Int) ∧ (0 : Int) < 22) ∧ Q none (zup (zup (zup s_lb 205 (0 : Int).toNat 0) 170 57 0) 170 71 0))) ∧ (¬ (s_lb 178 (s_lb 170 13 : Int).toNat ≤ i) → ((-2147483648 ≤ (20 : Int) * (s_lb 170 13) ∧ (20 : Int) * (s_lb 170 13) ≤ 2147483647) ∧ ((-2147483648 ≤ ((20 : Int) * (s_lb 170 13)) + i ∧ ((20 : Int) * (s_lb 170 13)) + i ≤ 2147483647) ∧ ((0 ≤ ((20 : Int) * (s_lb 170 13)) + i ∧ ((20 : Int) * (s_lb 170 13)) + i < 40) ∧ ((0 ≤ i ∧ i < 660) ∧ ((-2147483648 ≤ (20 : Int) * (s_lb 170 13) ∧ (20 : Int) * (s_lb 170 13) ≤ 2147483647) ∧ ((-2147483648 ≤ ((20 : Int) * (s_lb 170 13)) + i ∧ ((20 : Int) * (s_lb 170 13)) + i ≤ 2147483647) ∧ ((0 ≤ ((20 : Int) * (s_lb 170 13)) + i ∧ ((20 : Int) * (s_lb 170 13)) + i < 40) ∧ ((0 ≤ i ∧ i < 660) ∧ ((-2147483648 ≤ i + 1 ∧ i + 1 ≤ 2147483647) ∧ K (rx_find rx_m150 65) [(1, .inl (i + 1)), (0, .inr (.inr (.inl 170)))] [] (zup (zup s_lb 203 (i : Int).toNat (s_lb 179 (((20 : Int) * (s_lb 170 13)) + i : Int).toNat)) 204 (i : Int).toNat (s_lb 180 (((20 : Int) * (s_lb 170 13)) + i : Int).toNat))))))))))))))
      have e5 : s_lb 178 (s_lb 170 13 : Int).toNat = st 178 (st 170 13 : Int).toNat := (fI_lb 178 (s_lb 170 13 : Int).toNat rfl rfl).trans (by rw [e4] <;> rfl)
      refine ⟨by omega, ?_⟩
      refine ⟨fun h6 => ?_, fun h6 => ?_⟩
      · refine ⟨by omega, ?_⟩
        exact hQ _ ⟨(gInv_up (gInv_up (gInv_up gI_lb (p_keptMany (by omega))) (p_undos (by omega))) (p_rows (by omega))), (fr_f (fr_f (fr_a fI_lb rfl) rfl) rfl), (beg_J (n := st 178 (st 170 13 : Int).toNat) js jc t2 (fI_lb 170 13 rfl rfl) (fun i => fI_lb 177 i rfl rfl) (fun i => fI_lb 172 i rfl rfl) (fun i => fI_lb 176 i rfl rfl) (fun i => fI_lb 186 i rfl rfl) (fun i => fI_lb 187 i rfl rfl) (fun i => fI_lb 188 i rfl rfl) rfl (show s_lb 202 (0 : Int).toNat = st 178 (st 170 13 : Int).toNat by omega) (fun j z1 z2 => c_lb j z1 (by omega)))⟩
      · refine ⟨by omega, ?_⟩
        refine ⟨by omega, ?_⟩
        have g8 := g_stepTold hG (((20 : Int) * (st 170 13)) + i : Int).toNat
        have e7 : s_lb 179 (((20 : Int) * (s_lb 170 13)) + i : Int).toNat = st 179 (((20 : Int) * (st 170 13)) + i : Int).toNat := (fI_lb 179 (((20 : Int) * (s_lb 170 13)) + i : Int).toNat rfl rfl).trans (by rw [e4] <;> rfl)
        refine ⟨by omega, ?_⟩
        refine ⟨by omega, ?_⟩
        refine ⟨by omega, ?_⟩
        refine ⟨by omega, ?_⟩
        have g10 := g_minutesTold hG (((20 : Int) * (st 170 13)) + i : Int).toNat
        have e9 : s_lb 180 (((20 : Int) * (s_lb 170 13)) + i : Int).toNat = st 180 (((20 : Int) * (st 170 13)) + i : Int).toNat := (fI_lb 180 (((20 : Int) * (s_lb 170 13)) + i : Int).toNat rfl rfl).trans (by rw [e4] <;> rfl)
        refine ⟨by omega, ?_⟩
        refine ⟨by omega, ?_⟩
        refine ⟨by omega, ?_⟩
        exact ih _ (show (st 178 (st 170 13 : Int).toNat - (i + 1) : Int).toNat < u from by omega) (i + 1) (zup (zup s_lb 203 (i : Int).toNat (s_lb 179 (((20 : Int) * (s_lb 170 13)) + i : Int).toNat)) 204 (i : Int).toNat (s_lb 180 (((20 : Int) * (s_lb 170 13)) + i : Int).toNat)) ⟨(gInv_up (gInv_up gI_lb (p_stepPlace (by omega))) (p_stepMinutes (by omega))), (fr_a (fr_a fI_lb rfl) rfl), (show 0 ≤ (i + 1) ∧ (i + 1) ≤ st 178 (st 170 13 : Int).toNat ∧ s_lb 202 (0 : Int).toNat = st 178 (st 170 13 : Int).toNat from by omega), (show ∀ j : Int, 0 ≤ j → j < (i + 1) → (zup (zup s_lb 203 (i : Int).toNat (s_lb 179 (((20 : Int) * (s_lb 170 13)) + i : Int).toNat)) 204 (i : Int).toNat (s_lb 180 (((20 : Int) * (s_lb 170 13)) + i : Int).toNat)) 203 j.toNat = st 179 (20 * st 170 13 + j).toNat from fun j z1 z2 => by
            by_cases z3 : j = i
            · subst z3
              exact (up1_e (s_lb 203) _ _).trans (by rw [show s_lb 170 13 = st 170 13 by omega]; exact fI_lb 179 _ rfl rfl)
            · exact (up1_n (s_lb 203) _ (by omega)).trans (c_lb j z1 (by omega)))⟩ rfl
  have la : ∀ (u : Nat) (i : Int) (s_la : zS), gInv zgt s_la ∧ aFr m_begin st s_la ∧ (0 ≤ i ∧ i ≤ 8) → (8 - i).toNat = u → K (rx_find rx_m150 16) [(1, .inl i), (0, .inr (.inr (.inl 170)))] [] s_la := by
    intro u
    induction u using Nat.strongRecOn with
    | _ u ih =>
      intro i s_la hi hu
      obtain ⟨gI_la, fI_la, n_la⟩ := hi
      have g12 := g_bank hG
      have e11 : s_la 170 13 = st 170 13 := fI_la 170 13 rfl rfl
      refine yr1_ok (Rt := Q) (wc := (zno)) (stp := [16, 65]) hcm hcl [] 108 ?_
      show (((8 : Int) ≤ i → ((0 ≤ s_la 170 13 ∧ s_la 170 13 < 2) ∧ ((0 ≤ (0 : Int) ∧ (0 : Int) < 22) ∧ K (rx_find rx_m150 65) [(1, .inl 0), (0, .inr (.inr (.inl 170)))] [] (zup s_la 202 (0 : Int).toNat (s_la 178 (s_la 170 13 : Int).toNat))))) ∧ (¬ ((8 : Int) ≤ i) → ((-2147483648 ≤ (8 : Int) * (s_la 170 13) ∧ (8 : Int) * (s_la 170 13) ≤ 2147483647) ∧ ((-2147483648 ≤ ((8 : Int) * (s_la 170 13)) + i ∧ ((8 : Int) * (s_la 170 13)) + i ≤ 2147483647) ∧ ((0 ≤ ((8 : Int) * (s_la 170 13)) + i ∧ ((8 : Int) * (s_la 170 13)) + i < 16) ∧ ((0 ≤ i ∧ i < 176) ∧ ((-2147483648 ≤ i + 1 ∧ i + 1 ≤ 2147483647) ∧ K (rx_find rx_m150 16) [(1, .inl (i + 1)), (0, .inr (.inr (.inl 170)))] [] (zup s_la 201 (i : Int).toNat (s_la 182 (((8 : Int) * (s_la 170 13)) + i : Int).toNat)))))))))
      refine ⟨fun h13 => ?_, fun h13 => ?_⟩
      · have g15 := g_steps hG (st 170 13 : Int).toNat
        have e14 : s_la 178 (s_la 170 13 : Int).toNat = st 178 (st 170 13 : Int).toNat := (fI_la 178 (s_la 170 13 : Int).toNat rfl rfl).trans (by rw [e11] <;> rfl)
        refine ⟨by omega, ?_⟩
        refine ⟨by omega, ?_⟩
        have u16 : (zup s_la 202 (0 : Int).toNat (s_la 178 (s_la 170 13 : Int).toNat)) 202 (0 : Int).toNat = (s_la 178 (s_la 170 13 : Int).toNat) := zup_eq _ _ _ _
        exact lb _ 0 (zup s_la 202 (0 : Int).toNat (s_la 178 (s_la 170 13 : Int).toNat)) ⟨(gInv_up gI_la (p_stepMany (by omega))), (fr_a fI_la rfl), (show 0 ≤ (0 : Int) ∧ (0 : Int) ≤ st 178 (st 170 13 : Int).toNat ∧ (zup s_la 202 (0 : Int).toNat (s_la 178 (s_la 170 13 : Int).toNat)) 202 (0 : Int).toNat = st 178 (st 170 13 : Int).toNat from by omega), (show ∀ j : Int, 0 ≤ j → j < (0 : Int) → (zup s_la 202 (0 : Int).toNat (s_la 178 (s_la 170 13 : Int).toNat)) 203 j.toNat = st 179 (20 * st 170 13 + j).toNat from fun j z1 z2 => by omega)⟩ rfl
      · refine ⟨by omega, ?_⟩
        refine ⟨by omega, ?_⟩
        have g18 := g_thingTold hG (((8 : Int) * (st 170 13)) + i : Int).toNat
        have e17 : s_la 182 (((8 : Int) * (s_la 170 13)) + i : Int).toNat = st 182 (((8 : Int) * (st 170 13)) + i : Int).toNat := (fI_la 182 (((8 : Int) * (s_la 170 13)) + i : Int).toNat rfl rfl).trans (by rw [e11] <;> rfl)
        refine ⟨by omega, ?_⟩
        refine ⟨by omega, ?_⟩
        refine ⟨by omega, ?_⟩
        exact ih _ (show (8 - (i + 1) : Int).toNat < u from by omega) (i + 1) (zup s_la 201 (i : Int).toNat (s_la 182 (((8 : Int) * (s_la 170 13)) + i : Int).toNat)) ⟨(gInv_up gI_la (p_thingAt (by omega))), (fr_a fI_la rfl), (show 0 ≤ (i + 1) ∧ (i + 1) ≤ 8 from by omega)⟩ rfl
  have g19 := g_bank hG
  have g20 := g_steps hG (st 170 13 : Int).toNat
  refine yr1_ok (Rt := Q) (wc := (zno)) (stp := [16, 65]) hcm hcl [] 108 ?_
  show ((0 ≤ (0 : Int) ∧ (0 : Int) < 22) ∧ ((0 ≤ (0 : Int) ∧ (0 : Int) < 22) ∧ K (rx_find rx_m150 16) [(1, .inl 0), (0, .inr (.inr (.inl 170)))] [] (zup (zup st 199 (0 : Int).toNat 0) 200 (0 : Int).toNat 0)))
  refine ⟨by omega, ?_⟩
  refine ⟨by omega, ?_⟩
  exact la _ 0 (zup (zup st 199 (0 : Int).toNat 0) 200 (0 : Int).toNat 0) ⟨(gInv_up (gInv_up hG (p_yearOf (by omega))) (p_shutOf (by omega))), (fr_a (fr_a (fr_rf _ _) rfl) rfl), (show 0 ≤ (0 : Int) ∧ (0 : Int) ≤ 8 from by omega)⟩ rfl
theorem k_begin_m (hTb : aTb zSh rx_tb cl) {D : Nat} (hD : 1 ≤ D) : ∀ as st (Q Q' : zQ), (∀ r st', Q r st' → Q' r st') → k_begin 150 as st Q → cl D 150 as st Q' := by
  intro as st Q Q' hQ h
  unfold k_begin at h
  split at h
  · obtain ⟨rfl, h⟩ := h
    exact c_begin hTb hD (ct_begin_m hQ h)
  · exact h.elim
end R6j
