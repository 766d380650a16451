/-! printed by wip/p32/libf.py: pulls, what is kept -/
def rq_pulls (v : Int) (p : Int) (a : Int) (st : zS) : Prop := gInv zgt st ∧ (0 ≤ v ∧ v ≤ 21)
def en_pulls (v : Int) (p : Int) (a : Int) (st : zS) (r : Int) : Prop := (-2147483648 ≤ r ∧ r ≤ 2147483647)
def ct_pulls (v : Int) (p : Int) (a : Int) (st : zS) (Q : zQ) : Prop := rq_pulls v p a st ∧ (∀ (r : Int), en_pulls v p a st r → Q (some (.inl r)) st)
theorem ct_pulls_m {v p a : Int} {st : zS} {Q Q' : zQ} (hQ : ∀ r st', Q r st' → Q' r st') (h : ct_pulls v p a st Q) : ct_pulls v p a st Q' := ⟨h.1, fun x0 x1 => hQ _ _ (h.2 x0 x1)⟩
def k_pulls : zCall := fun _ as st Q => match as with
  | [.inr (.inr (.inl z_o)), .inl v, .inl p, .inl a] => z_o = 170 ∧ ct_pulls v p a st Q
  | _ => False
theorem k_pulls_mon : zmon k_pulls := by
  intro nu as st Q Q' hQ h
  unfold k_pulls at h ⊢
  split at h
  · exact ⟨h.1, ct_pulls_m hQ h.2⟩
  · exact h.elim
def m_writesDown : aM := ([], [205, 206])
def rq_writesDown (v : Int) (st : zS) : Prop := gInv zgt st ∧ (0 ≤ v ∧ v ≤ 21)
def en_writesDown (v : Int) (st : zS) (s1 : zS) : Prop := gInv zgt s1 ∧ aFr m_writesDown st s1
def ct_writesDown (v : Int) (st : zS) (Q : zQ) : Prop := rq_writesDown v st ∧ (∀ (s1 : zS), en_writesDown v st s1 → Q none s1)
theorem ct_writesDown_m {v : Int} {st : zS} {Q Q' : zQ} (hQ : ∀ r st', Q r st' → Q' r st') (h : ct_writesDown v st Q) : ct_writesDown v st Q' := ⟨h.1, fun x0 x1 => hQ _ _ (h.2 x0 x1)⟩
def k_writesDown : zCall := fun _ as st Q => match as with
  | [.inr (.inr (.inl z_o)), .inl v] => z_o = 170 ∧ ct_writesDown v st Q
  | _ => False
theorem k_writesDown_mon : zmon k_writesDown := by
  intro nu as st Q Q' hQ h
  unfold k_writesDown at h ⊢
  split at h
  · exact ⟨h.1, ct_writesDown_m hQ h.2⟩
  · exact h.elim
section R76
variable {cl : Nat → zCall}
set_option maxHeartbeats 40000000 in
set_option maxRecDepth 100000 in
theorem c_pulls (hTb : aTb zSh rx_tb cl) {D : Nat} (hD : 2 ≤ D) {v p a : Int} {st : zS} {Q : zQ} (h : ct_pulls v p a st Q) : cl D 218 [.inr (.inr (.inl 170)), .inl v, .inl p, .inl a] st Q := by
  obtain ⟨d, rfl⟩ : ∃ d, D = d + 1 := ⟨D - 1, by omega⟩
  refine hTb d 218 (rx_m218, 6, 0, 0, 1) rfl _ _ _ (Nat.le_of_ble_eq_true rfl) (fun K hcl hsf hsl => ?_)
  have hcm : zmo (wcL [(201, k_has2)]) (cl d) := (wcL_m (wm_cons (k_has2_m hTb (by omega)) wm_nil))
  obtain ⟨hR, hQ⟩ := h
  obtain ⟨hG, hr1⟩ := hR
  change 0 ≤ v ∧ v ≤ 21 at hr1
  have lp : ∀ (u : Nat) (t : Int) (n : Int), (0 ≤ t ∧ t ≤ st 181 (st 170 13 : Int).toNat) ∧ (-2147483648 ≤ n ∧ n ≤ 2147483647) → (st 181 (st 170 13 : Int).toNat - t).toNat = u → K (rx_find rx_m218 6) [(5, .inl t), (4, .inl n), (0, .inr (.inr (.inl 170))), (1, .inl v), (2, .inl p), (3, .inl a)] [] st := by
    intro u
    induction u using Nat.strongRecOn with
    | _ u ih =>
      intro t n hi hu
      obtain ⟨i_lp, n_lp⟩ := hi
      have g1 := g_bank hG
      have g2 := g_things hG (st 170 13 : Int).toNat
      refine yr1_ok (Rt := Q) (wc := (wcL [(201, k_has2)])) (stp := [6]) hcm hcl [66] 63 ?_
      show ((0 ≤ st 170 13 ∧ st 170 13 < 2) ∧ ((st 181 (st 170 13 : Int).toNat ≤ t → Q (some (.inl n)) st) ∧ (¬ (st 181 (st 170 13 : Int).toNat ≤ t) → ((-2147483648 ≤ (8 : Int) * v ∧ (8 : Int) * v ≤ 2147483647) ∧ ((-2147483648 ≤ ((8 : Int) * v) + t ∧ ((8 : Int) * v) + t ≤ 2147483647) ∧ ((0 ≤ ((8 : Int) * v) + t ∧ ((8 : Int) * v) + t < 176) ∧ ((¬ st 201 (((8 : Int) * v) + t : Int).toNat = p → ((-2147483648 ≤ t + 1 ∧ t + 1 ≤ 2147483647) ∧ K (rx_find rx_m218 6) [(5, .inl (t + 1)), (4, .inl (zw (n + 0))), (0, .inr (.inr (.inl 170))), (1, .inl v), (2, .inl p), (3, .inl a)] [] st)) ∧ (¬ (¬ st 201 (((8 : Int) * v) + t : Int).toNat = p) → (∀ (r3 : Int), en_has2 a t st r3 → ((¬ r3 = (0 : Int) → ((-2147483648 ≤ t + 1 ∧ t + 1 ≤ 2147483647) ∧ K (rx_find rx_m218 6) [(5, .inl (t + 1)), (4, .inl (zw (n + 0))), (0, .inr (.inr (.inl 170))), (1, .inl v), (2, .inl p), (3, .inl a)] [] st)) ∧ (¬ (¬ r3 = (0 : Int)) → ((-2147483648 ≤ (8 : Int) * (st 170 13) ∧ (8 : Int) * (st 170 13) ≤ 2147483647) ∧ ((-2147483648 ≤ ((8 : Int) * (st 170 13)) + t ∧ ((8 : Int) * (st 170 13)) + t ≤ 2147483647) ∧ ((0 ≤ ((8 : Int) * (st 170 13)) + t ∧ ((8 : Int) * (st 170 13)) + t < 16) ∧ ((-2147483648 ≤ t + 1 ∧ t + 1 ≤ 2147483647) ∧ K (rx_find rx_m218 6) [(5, .inl (t + 1)), (4, .inl (zw (n + (st 183 (((8 : Int) * (st 170 13)) + t : Int).toNat)))), (0, .inr (.inr (.inl 170))), (1, .inl v), (2, .inl p), (3, .inl a)] [] st)))))))))))))))
      refine ⟨by omega, ?_⟩
      refine ⟨fun h4 => ?_, fun h4 => ?_⟩
      · exact hQ _ (show -2147483648 ≤ n ∧ n ≤ 2147483647 from by omega)
      · refine ⟨by omega, ?_⟩
        refine ⟨by omega, ?_⟩
        have g5 := g_thingAt hG (((8 : Int) * v) + t : Int).toNat
        refine ⟨by omega, ?_⟩
        refine ⟨fun h6 => ?_, fun h6 => ?_⟩
        · refine ⟨by omega, ?_⟩
          exact ih _ (show (st 181 (st 170 13 : Int).toNat - (t + 1) : Int).toNat < u from by omega) (t + 1) (zw (n + 0)) ⟨(show 0 ≤ (t + 1) ∧ (t + 1) ≤ st 181 (st 170 13 : Int).toNat from by omega), (show -2147483648 ≤ (zw (n + 0)) ∧ (zw (n + 0)) ≤ 2147483647 from zw_ok _)⟩ rfl
        · refine fun r3 q3 => ?_
          have b3 := q3
          change (r3 = 0 ∨ r3 = 1) ∧ r3 = hb a t at b3
          refine ⟨fun h7 => ?_, fun h7 => ?_⟩
          · refine ⟨by omega, ?_⟩
            exact ih _ (show (st 181 (st 170 13 : Int).toNat - (t + 1) : Int).toNat < u from by omega) (t + 1) (zw (n + 0)) ⟨(show 0 ≤ (t + 1) ∧ (t + 1) ≤ st 181 (st 170 13 : Int).toNat from by omega), (show -2147483648 ≤ (zw (n + 0)) ∧ (zw (n + 0)) ≤ 2147483647 from zw_ok _)⟩ rfl
          · refine ⟨by omega, ?_⟩
            refine ⟨by omega, ?_⟩
            have g8 := g_pullOf hG (((8 : Int) * (st 170 13)) + t : Int).toNat
            refine ⟨by omega, ?_⟩
            refine ⟨by omega, ?_⟩
            exact ih _ (show (st 181 (st 170 13 : Int).toNat - (t + 1) : Int).toNat < u from by omega) (t + 1) (zw (n + (st 183 (((8 : Int) * (st 170 13)) + t : Int).toNat))) ⟨(show 0 ≤ (t + 1) ∧ (t + 1) ≤ st 181 (st 170 13 : Int).toNat from by omega), (show -2147483648 ≤ (zw (n + (st 183 (((8 : Int) * (st 170 13)) + t : Int).toNat))) ∧ (zw (n + (st 183 (((8 : Int) * (st 170 13)) + t : Int).toNat))) ≤ 2147483647 from zw_ok _)⟩ rfl
  have g9 := g_bank hG
  have g10 := g_things hG (st 170 13 : Int).toNat
  refine yr1_ok (Rt := Q) (wc := (wcL [(201, k_has2)])) (stp := [6]) hcm hcl [66] 63 ?_
  show K (rx_find rx_m218 6) [(5, .inl 0), (4, .inl 0), (0, .inr (.inr (.inl 170))), (1, .inl v), (2, .inl p), (3, .inl a)] [] st
  exact lp _ 0 0 ⟨(show 0 ≤ (0 : Int) ∧ (0 : Int) ≤ st 181 (st 170 13 : Int).toNat from by omega), (show -2147483648 ≤ (0 : Int) ∧ (0 : Int) ≤ 2147483647 from by omega)⟩ rfl
theorem k_pulls_m (hTb : aTb zSh rx_tb cl) {D : Nat} (hD : 2 ≤ D) : ∀ as st (Q Q' : zQ), (∀ r st', Q r st' → Q' r st') → k_pulls 218 as st Q → cl D 218 as st Q' := by
  intro as st Q Q' hQ h
  unfold k_pulls at h
  split at h
  · obtain ⟨rfl, h⟩ := h
    exact c_pulls hTb hD (ct_pulls_m hQ h)
  · exact h.elim
set_option maxHeartbeats 40000000 in
set_option maxRecDepth 100000 in
theorem c_writesDown (hTb : aTb zSh rx_tb cl) {D : Nat} (hD : 1 ≤ D) {v : Int} {st : zS} {Q : zQ} (h : ct_writesDown v st Q) : cl D 20 [.inr (.inr (.inl 170)), .inl v] st Q := by
  obtain ⟨d, rfl⟩ : ∃ d, D = d + 1 := ⟨D - 1, by omega⟩
  refine hTb d 20 (rx_m20, 3, 0, 0, 0) rfl _ _ _ (Nat.le_of_ble_eq_true rfl) (fun K hcl hsf hsl => ?_)
  have hcm : zmo (zno) (cl d) := zno_m
  obtain ⟨hR, hQ⟩ := h
  obtain ⟨hG, hr1⟩ := hR
  change 0 ≤ v ∧ v ≤ 21 at hr1
  have m59 : ∀ (s_m59 : zS), gInv zgt s_m59 ∧ aFr m_writesDown st s_m59 ∧ (0 ≤ s_m59 205 (v : Int).toNat ∧ s_m59 205 (v : Int).toNat ≤ 39) → K (rx_find rx_m20 59) [(0, .inr (.inr (.inl 170))), (1, .inl v)] [] s_m59 := by
    intro  s_m59 hi
    obtain ⟨gI_m59, fI_m59, b_m59⟩ := hi
    have g1 := g_keptMany gI_m59 (v : Int).toNat
    refine yr1_ok (Rt := Q) (wc := (zno)) (stp := [59]) hcm hcl [] 103 ?_
    show ((-2147483648 ≤ (40 : Int) * v ∧ (40 : Int) * v ≤ 2147483647) ∧ ((0 ≤ v ∧ v < 22) ∧ ((-2147483648 ≤ ((40 : Int) * v) + (s_m59 205 (v : Int).toNat) ∧ ((40 : Int) * v) + (s_m59 205 (v : Int).toNat) ≤ 2147483647) ∧ ((-2147483648 ≤ (3 : Int) * (((40 : Int) * v) + (s_m59 205 (v : Int).toNat)) ∧ (3 : Int) * (((40 : Int) * v) + (s_m59 205 (v : Int).toNat)) ≤ 2147483647) ∧ ((0 ≤ v ∧ v < 22) ∧ ((0 ≤ (3 : Int) * (((40 : Int) * v) + (s_m59 205 (v : Int).toNat)) ∧ (3 : Int) * (((40 : Int) * v) + (s_m59 205 (v : Int).toNat)) < 2640) ∧ ((-2147483648 ≤ ((3 : Int) * (((40 : Int) * v) + (s_m59 205 (v : Int).toNat))) + 1 ∧ ((3 : Int) * (((40 : Int) * v) + (s_m59 205 (v : Int).toNat))) + 1 ≤ 2147483647) ∧ ((0 ≤ ((3 : Int) * (((40 : Int) * v) + (s_m59 205 (v : Int).toNat))) + 1 ∧ ((3 : Int) * (((40 : Int) * v) + (s_m59 205 (v : Int).toNat))) + 1 < 2640) ∧ ((-2147483648 ≤ ((3 : Int) * (((40 : Int) * v) + (s_m59 205 (v : Int).toNat))) + 2 ∧ ((3 : Int) * (((40 : Int) * v) + (s_m59 205 (v : Int).toNat))) + 2 ≤ 2147483647) ∧ ((0 ≤ ((3 : Int) * (((40 : Int) * v) + (s_m59 205 (v : Int).toNat))) + 2 ∧ ((3 : Int) * (((40 : Int) * v) + (s_m59 205 (v : Int).toNat))) + 2 < 2640) ∧ ((0 ≤ v ∧ v < 22) ∧ ((-2147483648 ≤ (s_m59 205 (v : Int).toNat) + 1 ∧ (s_m59 205 (v : Int).toNat) + 1 ≤ 2147483647) ∧ ((0 ≤ v ∧ v < 22) ∧ Q none (zup (zup (zup (zup s_m59 206 ((3 : Int) * (((40 : Int) * v) + (s_m59 205 (v : Int).toNat)) : Int).toNat (s_m59 199 (v : Int).toNat)) 206 (((3 : Int) * (((40 : Int) * v) + (s_m59 205 (v : Int).toNat))) + 1 : Int).toNat (s_m59 170 62)) 206 (((3 : Int) * (((40 : Int) * v) + (s_m59 205 (v : Int).toNat))) + 2 : Int).toNat (s_m59 170 67)) 205 (v : Int).toNat ((s_m59 205 (v : Int).toNat) + 1)))))))))))))))
    refine ⟨by omega, ?_⟩
    refine ⟨by omega, ?_⟩
    refine ⟨by omega, ?_⟩
    refine ⟨by omega, ?_⟩
    have g3 := g_yearOf hG (v : Int).toNat
    have e2 : s_m59 199 (v : Int).toNat = st 199 (v : Int).toNat := fI_m59 199 (v : Int).toNat rfl rfl
    refine ⟨by omega, ?_⟩
    refine ⟨by omega, ?_⟩
    refine ⟨by omega, ?_⟩
    have g5 := g_goMany hG
    have e4 : s_m59 170 62 = st 170 62 := fI_m59 170 62 rfl rfl
    refine ⟨by omega, ?_⟩
    refine ⟨by omega, ?_⟩
    have g7 := g_time hG
    have e6 : s_m59 170 67 = st 170 67 := fI_m59 170 67 rfl rfl
    refine ⟨by omega, ?_⟩
    refine ⟨by omega, ?_⟩
    refine ⟨by omega, ?_⟩
    refine ⟨by omega, ?_⟩
    exact hQ _ ⟨(gInv_up (gInv_up (gInv_up (gInv_up gI_m59 (p_keptRow (by omega))) (p_keptRow (by omega))) (p_keptRow (by omega))) (p_keptMany (by omega))), (fr_a (fr_a (fr_a (fr_a fI_m59 rfl) rfl) rfl) rfl)⟩
  have lp : ∀ (u : Nat) (k : Int) (s_lp : zS), gInv zgt s_lp ∧ aFr m_writesDown st s_lp ∧ (120 * v ≤ k ∧ k ≤ 120 * v + 117 ∧ s_lp 205 (v : Int).toNat = 40) → (120 * v + 117 - k).toNat = u → K (rx_find rx_m20 16) [(2, .inl k), (0, .inr (.inr (.inl 170))), (1, .inl v)] [] s_lp := by
    intro u
    induction u using Nat.strongRecOn with
    | _ u ih =>
      intro k s_lp hi hu
      obtain ⟨gI_lp, fI_lp, b_lp⟩ := hi
      have g8 := g_keptMany gI_lp (v : Int).toNat
      refine yr1_ok (Rt := Q) (wc := (zno)) (stp := [16, 59]) hcm hcl [] 103 ?_
      show ((-2147483648 ≤ (120 : Int) * v ∧ (120 : Int) * v ≤ 2147483647) ∧ ((-2147483648 ≤ ((120 : Int) * v) + 120 ∧ ((120 : Int) * v) + 120 ≤ 2147483647) ∧ ((-2147483648 ≤ (((120 : Int) * v) + 120) - 3 ∧ (((120 : Int) * v) + 120) - 3 ≤ 2147483647) ∧ (((((120 : Int) * v) + 120) - 3 ≤ k → ((0 ≤ v ∧ v < 22) ∧ ((-2147483648 ≤ (s_lp 205 (v : Int).toNat) - 1 ∧ (s_lp 205 (v : Int).toNat) - 1 ≤ 2147483647) ∧ ((0 ≤ v ∧ v < 22) ∧ K (rx_find rx_m20 59) [(2, .inl k), (0, .inr (.inr (.inl 170))), (1, .inl v)] [] (zup s_lp 205 (v : Int).toNat ((s_lp 205 (v : Int).toNat) - 1)))))) ∧ (¬ ((((120 : Int) * v) + 120) - 3 ≤ k) → ((-2147483648 ≤ k + 3 ∧ k + 3 ≤ 2147483647) ∧ ((0 ≤ k + 3 ∧ k + 3 < 2640) ∧ ((0 ≤ k ∧ k < 2640) ∧ ((-2147483648 ≤ k + 1 ∧ k + 1 ≤ 2147483647) ∧ K (rx_find rx_m20 16) [(2, .inl (k + 1)), (0, .inr (.inr (.inl 170))), (1, .inl v)] [] (zup s_lp 206 (k : Int).toNat (s_lp 206 (k + 3 : Int).toNat)))))))))))
      refine ⟨by omega, ?_⟩
      refine ⟨by omega, ?_⟩
      refine ⟨by omega, ?_⟩
      refine ⟨fun h9 => ?_, fun h9 => ?_⟩
      · refine ⟨by omega, ?_⟩
        refine ⟨by omega, ?_⟩
        refine ⟨by omega, ?_⟩
        have u10 : (zup s_lp 205 (v : Int).toNat ((s_lp 205 (v : Int).toNat) - 1)) 205 (v : Int).toNat = ((s_lp 205 (v : Int).toNat) - 1) := zup_eq _ _ _ _
        exact hsl _ _ _ _ _ (sb_cons (.tail _ (.head _)) (sb_cons (.tail _ (.tail _ (.head _))) sb_nil)) (m59 (zup s_lp 205 (v : Int).toNat ((s_lp 205 (v : Int).toNat) - 1)) ⟨(gInv_up gI_lp (p_keptMany (by omega))), (fr_a fI_lp rfl), (show 0 ≤ (zup s_lp 205 (v : Int).toNat ((s_lp 205 (v : Int).toNat) - 1)) 205 (v : Int).toNat ∧ (zup s_lp 205 (v : Int).toNat ((s_lp 205 (v : Int).toNat) - 1)) 205 (v : Int).toNat ≤ 39 from by omega)⟩)
      · refine ⟨by omega, ?_⟩
        have g11 := g_keptRow gI_lp (k + 3 : Int).toNat
        refine ⟨by omega, ?_⟩
        refine ⟨by omega, ?_⟩
        refine ⟨by omega, ?_⟩
        exact ih _ (show (120 * v + 117 - (k + 1) : Int).toNat < u from by omega) (k + 1) (zup s_lp 206 (k : Int).toNat (s_lp 206 (k + 3 : Int).toNat)) ⟨(gInv_up gI_lp (p_keptRow (by omega))), (fr_a fI_lp rfl), (show 120 * v ≤ (k + 1) ∧ (k + 1) ≤ 120 * v + 117 ∧ s_lp 205 (v : Int).toNat = 40 from by omega)⟩ rfl
  have g12 := g_keptMany hG (v : Int).toNat
  refine yr1_ok (Rt := Q) (wc := (zno)) (stp := [16, 59]) hcm hcl [] 103 ?_
  show ((0 ≤ v ∧ v < 22) ∧ ((¬ st 205 (v : Int).toNat = (40 : Int) → K (rx_find rx_m20 59) [(0, .inr (.inr (.inl 170))), (1, .inl v)] [] st) ∧ (¬ (¬ st 205 (v : Int).toNat = (40 : Int)) → ((-2147483648 ≤ (120 : Int) * v ∧ (120 : Int) * v ≤ 2147483647) ∧ K (rx_find rx_m20 16) [(2, .inl ((120 : Int) * v)), (0, .inr (.inr (.inl 170))), (1, .inl v)] [] st))))
  refine ⟨by omega, ?_⟩
  refine ⟨fun h13 => ?_, fun h13 => ?_⟩
  · exact m59 st ⟨hG, (fr_rf _ _), (show 0 ≤ st 205 (v : Int).toNat ∧ st 205 (v : Int).toNat ≤ 39 from by omega)⟩
  · refine ⟨by omega, ?_⟩
    exact lp _ ((120 : Int) * v) st ⟨hG, (fr_rf _ _), (show 120 * v ≤ ((120 : Int) * v) ∧ ((120 : Int) * v) ≤ 120 * v + 117 ∧ st 205 (v : Int).toNat = 40 from by omega)⟩ rfl
theorem k_writesDown_m (hTb : aTb zSh rx_tb cl) {D : Nat} (hD : 1 ≤ D) : ∀ as st (Q Q' : zQ), (∀ r st', Q r st' → Q' r st') → k_writesDown 20 as st Q → cl D 20 as st Q' := by
  intro as st Q Q' hQ h
  unfold k_writesDown at h
  split at h
  · obtain ⟨rfl, h⟩ := h
    exact c_writesDown hTb hD (ct_writesDown_m hQ h)
  · exact h.elim
end R76
