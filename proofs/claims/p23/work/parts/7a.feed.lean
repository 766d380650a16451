/-! printed by wip/p32/libi.py: bytes onto the tape -/
theorem l255 (a : Int) : (0 : Int) ≤ zd (Nat.land (zi a) (zi 255)) ∧ zd (Nat.land (zi a) (zi 255)) ≤ 255 := by
  have h : Nat.land (zi a) (zi 255) ≤ 255 := Nat.and_le_right
  unfold zd
  rw [zblt, decide_eq_true (show Nat.land (zi a) (zi 255) < 2147483648 by omega)]
  show (0 : Int) ≤ ((Nat.land (zi a) (zi 255) : Nat) : Int) ∧ ((Nat.land (zi a) (zi 255) : Nat) : Int) ≤ 255
  omega
def m_put : aM := ([(170, 1)], [171])
def rq_put (v : Int) (st : zS) : Prop := gInv zgt st ∧ (st 170 1 ≤ 1596)
def en_put (v : Int) (st : zS) (s1 : zS) : Prop := gInv zgt s1 ∧ aFr m_put st s1 ∧ (s1 170 1 = st 170 1 + 4)
def ct_put (v : Int) (st : zS) (Q : zQ) : Prop := rq_put v st ∧ (∀ (s1 : zS), en_put v st s1 → Q none s1)
theorem ct_put_m {v : Int} {st : zS} {Q Q' : zQ} (hQ : ∀ r st', Q r st' → Q' r st') (h : ct_put v st Q) : ct_put v st Q' := ⟨h.1, fun x0 x1 => hQ _ _ (h.2 x0 x1)⟩
def k_put : zCall := fun _ as st Q => match as with
  | [.inr (.inr (.inl z_o)), .inl v] => z_o = 170 ∧ ct_put v st Q
  | _ => False
theorem k_put_mon : zmon k_put := by
  intro nu as st Q Q' hQ h
  unfold k_put at h ⊢
  split at h
  · exact ⟨h.1, ct_put_m hQ h.2⟩
  · exact h.elim
def rq_feed (a : Int) (b : Int) (c : Int) (d0 : Int) (e0 : Int) (st : zS) : Prop := gInv zgt st ∧ zJ st
def en_feed (a : Int) (b : Int) (c : Int) (d0 : Int) (e0 : Int) (st : zS) (r : Int) (s1 : zS) : Prop := gInv zgt s1 ∧ zJ s1 ∧ zV2 st s1 ∧ ((1580 < st 170 1 → r = -1 ∧ s1 170 1 = st 170 1) ∧ (st 170 1 ≤ 1580 → r = st 170 1 + 20 ∧ s1 170 1 = st 170 1 + 20))
def ct_feed (a : Int) (b : Int) (c : Int) (d0 : Int) (e0 : Int) (st : zS) (Q : zQ) : Prop := rq_feed a b c d0 e0 st ∧ (∀ (r : Int) (s1 : zS), en_feed a b c d0 e0 st r s1 → Q (some (.inl r)) s1)
theorem ct_feed_m {a b c d0 e0 : Int} {st : zS} {Q Q' : zQ} (hQ : ∀ r st', Q r st' → Q' r st') (h : ct_feed a b c d0 e0 st Q) : ct_feed a b c d0 e0 st Q' := ⟨h.1, fun x0 x1 x2 => hQ _ _ (h.2 x0 x1 x2)⟩
def k_feed : zCall := fun _ as st Q => match as with
  | [.inr (.inr (.inl z_o)), .inl a, .inl b, .inl c, .inl d0, .inl e0] => z_o = 170 ∧ ct_feed a b c d0 e0 st Q
  | _ => False
theorem k_feed_mon : zmon k_feed := by
  intro nu as st Q Q' hQ h
  unfold k_feed at h ⊢
  split at h
  · exact ⟨h.1, ct_feed_m hQ h.2⟩
  · exact h.elim
section R7a
variable {cl : Nat → zCall}
set_option maxHeartbeats 40000000 in
set_option maxRecDepth 100000 in
theorem c_put (hTb : aTb zSh rx_tb cl) {D : Nat} (hD : 1 ≤ D) {v : Int} {st : zS} {Q : zQ} (h : ct_put v st Q) : cl D 87 [.inr (.inr (.inl 170)), .inl v] st Q := by
  obtain ⟨d, rfl⟩ : ∃ d, D = d + 1 := ⟨D - 1, by omega⟩
  refine hTb d 87 (rx_m87, 3, 0, 0, 0) rfl _ _ _ (Nat.le_of_ble_eq_true rfl) (fun K hcl hsf hsl => ?_)
  have hcm : zmo (zno) (cl d) := zno_m
  obtain ⟨hR, hQ⟩ := h
  obtain ⟨hG, r⟩ := hR
  change st 170 1 ≤ 1596 at r
  have lp : ∀ (u : Nat) (k : Int) (s_lp : zS), gInv zgt s_lp ∧ aFr m_put st s_lp ∧ (8 * s_lp 170 1 = 8 * st 170 1 + 24 - k ∧ -8 ≤ k ∧ k ≤ 24 ∧ k % 8 = 0) → (k + 8).toNat = u → K (rx_find rx_m87 3) [(2, .inl k), (0, .inr (.inr (.inl 170))), (1, .inl v)] [] s_lp := by
    intro u
    induction u using Nat.strongRecOn with
    | _ u ih =>
      intro k s_lp hi hu
      obtain ⟨gI_lp, fI_lp, b_lp⟩ := hi
      have g1 := g_taped gI_lp
      have g2 := g_taped hG
      refine yr1_ok (Rt := Q) (wc := (zno)) (stp := [3]) hcm hcl [] 43 ?_
      show ((k < (0 : Int) → Q none s_lp) ∧ (¬ (k < (0 : Int)) → ((0 ≤ s_lp 170 1 ∧ s_lp 170 1 < 1800) ∧ ((-2147483648 ≤ (s_lp 170 1) + 1 ∧ (s_lp 170 1) + 1 ≤ 2147483647) ∧ ((-2147483648 ≤ k + (-8) ∧ k + (-8) ≤ 2147483647) ∧ K (rx_find rx_m87 3) [(2, .inl (k + (-8))), (0, .inr (.inr (.inl 170))), (1, .inl v)] [] (zup (zup s_lp 171 (s_lp 170 1 : Int).toNat (zd (Nat.land (zi (v / zpw (k % 32).toNat)) (zi 255)))) 170 1 ((s_lp 170 1) + 1)))))))
      refine ⟨fun h3 => ?_, fun h3 => ?_⟩
      · exact hQ _ ⟨gI_lp, fI_lp, (show s_lp 170 1 = st 170 1 + 4 from by omega)⟩
      · refine ⟨by omega, ?_⟩
        refine ⟨by omega, ?_⟩
        refine ⟨by omega, ?_⟩
        exact ih _ (show ((k + (-8)) + 8 : Int).toNat < u from by omega) (k + (-8)) (zup (zup s_lp 171 (s_lp 170 1 : Int).toNat (zd (Nat.land (zi (v / zpw (k % 32).toNat)) (zi 255)))) 170 1 ((s_lp 170 1) + 1)) ⟨(gInv_up (gInv_up gI_lp (p_tape (l255 _))) (p_taped (by omega))), (fr_f (fr_a fI_lp rfl) rfl), (show 8 * ((s_lp 170 1) + 1) = 8 * st 170 1 + 24 - (k + (-8)) ∧ -8 ≤ (k + (-8)) ∧ (k + (-8)) ≤ 24 ∧ (k + (-8)) % 8 = 0 from by omega)⟩ rfl
  have g4 := g_taped hG
  refine yr1_ok (Rt := Q) (wc := (zno)) (stp := [3]) hcm hcl [] 43 ?_
  show K (rx_find rx_m87 3) [(2, .inl 24), (0, .inr (.inr (.inl 170))), (1, .inl v)] [] st
  exact lp _ 24 st ⟨hG, (fr_rf _ _), (show 8 * st 170 1 = 8 * st 170 1 + 24 - (24 : Int) ∧ -8 ≤ (24 : Int) ∧ (24 : Int) ≤ 24 ∧ (24 : Int) % 8 = 0 from by omega)⟩ rfl
theorem k_put_m (hTb : aTb zSh rx_tb cl) {D : Nat} (hD : 1 ≤ D) : ∀ as st (Q Q' : zQ), (∀ r st', Q r st' → Q' r st') → k_put 87 as st Q → cl D 87 as st Q' := by
  intro as st Q Q' hQ h
  unfold k_put at h
  split at h
  · obtain ⟨rfl, h⟩ := h
    exact c_put hTb hD (ct_put_m hQ h)
  · exact h.elim
set_option maxHeartbeats 40000000 in
set_option maxRecDepth 100000 in
theorem c_feed (hTb : aTb zSh rx_tb cl) {D : Nat} (hD : 2 ≤ D) {a b c d0 e0 : Int} {st : zS} {Q : zQ} (h : ct_feed a b c d0 e0 st Q) : cl D 139 [.inr (.inr (.inl 170)), .inl a, .inl b, .inl c, .inl d0, .inl e0] st Q := by
  obtain ⟨d, rfl⟩ : ∃ d, D = d + 1 := ⟨D - 1, by omega⟩
  refine hTb d 139 (rx_m139, 6, 0, 0, 1) rfl _ _ _ (Nat.le_of_ble_eq_true rfl) (fun K hcl hsf hsl => ?_)
  have hcm : zmo (wcL [(58, k_refuses), (87, k_put)]) (cl d) := (wcL_m (wm_cons (k_refuses_m hTb (by omega)) (wm_cons (k_put_m hTb (by omega)) wm_nil)))
  obtain ⟨hR, hQ⟩ := h
  obtain ⟨hG, hJ⟩ := hR
  refine yr1_ok (Rt := Q) (wc := (wcL [(58, k_refuses), (87, k_put)])) (stp := []) hcm hcl [] 48 ?_
  show ((-2147483648 ≤ (st 170 1) + 20 ∧ (st 170 1) + 20 ≤ 2147483647) ∧ (((st 170 1) + 20 ≤ (1600 : Int) → (170 = 170 ∧ (rq_put a st ∧ (∀ (s1 : zS), en_put a st s1 → (170 = 170 ∧ (rq_put b s1 ∧ (∀ (s2 : zS), en_put b s1 s2 → (170 = 170 ∧ (rq_put c s2 ∧ (∀ (s3 : zS), en_put c s2 s3 → (170 = 170 ∧ (rq_put d0 s3 ∧ (∀ (s4 : zS), en_put d0 s3 s4 → (170 = 170 ∧ (rq_put e0 s4 ∧ (∀ (s5 : zS), en_put e0 s4 s5 → Q (some (.inl (s5 170 1))) s5)))))))))))))))) ∧ (¬ ((st 170 1) + 20 ≤ (1600 : Int)) → (170 = 170 ∧ (rq_refuses (0) st ∧ (∀ (r6 : Int) (s6 : zS), en_refuses (0) st r6 s6 → Q (some (.inl r6)) s6))))))
  have g7 := g_taped hG
  refine ⟨by omega, ?_⟩
  refine ⟨fun h8 => ?_, fun h8 => ?_⟩
  · refine ⟨rfl, ⟨hG, (show st 170 1 ≤ 1596 from by omega)⟩, fun s1 q1 => ?_⟩
    obtain ⟨gs1, fs1, t1⟩ := q1
    change s1 170 1 = st 170 1 + 4 at t1
    have g9 := g_taped gs1
    refine ⟨rfl, ⟨gs1, (show s1 170 1 ≤ 1596 from by omega)⟩, fun s2 q2 => ?_⟩
    obtain ⟨gs2, fs2, t2⟩ := q2
    change s2 170 1 = s1 170 1 + 4 at t2
    have g10 := g_taped gs2
    refine ⟨rfl, ⟨gs2, (show s2 170 1 ≤ 1596 from by omega)⟩, fun s3 q3 => ?_⟩
    obtain ⟨gs3, fs3, t3⟩ := q3
    change s3 170 1 = s2 170 1 + 4 at t3
    have g11 := g_taped gs3
    refine ⟨rfl, ⟨gs3, (show s3 170 1 ≤ 1596 from by omega)⟩, fun s4 q4 => ?_⟩
    obtain ⟨gs4, fs4, t4⟩ := q4
    change s4 170 1 = s3 170 1 + 4 at t4
    have g12 := g_taped gs4
    refine ⟨rfl, ⟨gs4, (show s4 170 1 ≤ 1596 from by omega)⟩, fun s5 q5 => ?_⟩
    obtain ⟨gs5, fs5, t5⟩ := q5
    change s5 170 1 = s4 170 1 + 4 at t5
    have g13 := g_taped gs5
    exact hQ _ _ ⟨gs5, (zJ_fr rfl fs5 (zJ_fr rfl fs4 (zJ_fr rfl fs3 (zJ_fr rfl fs2 (zJ_fr rfl fs1 hJ))))), (zV2_tr (zV2_tr (zV2_tr (zV2_tr (zV2_tr (zV2_rf _) (zV2_fr rfl fs1)) (zV2_fr rfl fs2)) (zV2_fr rfl fs3)) (zV2_fr rfl fs4)) (zV2_fr rfl fs5)), (show (1580 < st 170 1 → (s5 170 1) = -1 ∧ s5 170 1 = st 170 1) ∧ (st 170 1 ≤ 1580 → (s5 170 1) = st 170 1 + 20 ∧ s5 170 1 = st 170 1 + 20) from by omega)⟩
  · refine ⟨rfl, ⟨hG, (show 0 ≤ (0) ∧ (0) ≤ 5 from by omega)⟩, fun r6 s6 q6 => ?_⟩
    obtain ⟨gs6, fs6, e6⟩ := q6
    change r6 = -1 at e6
    have e14 : s6 170 1 = st 170 1 := fs6 170 1 rfl rfl
    exact hQ _ _ ⟨gs6, (zJ_fr rfl fs6 hJ), (zV2_tr (zV2_rf _) (zV2_fr rfl fs6)), (show (1580 < st 170 1 → r6 = -1 ∧ s6 170 1 = st 170 1) ∧ (st 170 1 ≤ 1580 → r6 = st 170 1 + 20 ∧ s6 170 1 = st 170 1 + 20) from by omega)⟩
theorem k_feed_m (hTb : aTb zSh rx_tb cl) {D : Nat} (hD : 2 ≤ D) : ∀ as st (Q Q' : zQ), (∀ r st', Q r st' → Q' r st') → k_feed 139 as st Q → cl D 139 as st Q' := by
  intro as st Q Q' hQ h
  unfold k_feed at h
  split at h
  · obtain ⟨rfl, h⟩ := h
    exact c_feed hTb hD (ct_feed_m hQ h)
  · exact h.elim
end R7a
