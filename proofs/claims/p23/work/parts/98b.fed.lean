/-! printed by wip/p32/libz.py: what feed writes -/
theorem zp24 : zpw ((24 : Int) % 32).toNat = 16777216 := by decide
theorem zp16 : zpw ((16 : Int) % 32).toNat = 65536 := by decide
theorem zp8 : zpw ((8 : Int) % 32).toNat = 256 := by decide
/-- four bytes more -/
def PN (f g : Nat → Int) (n v : Int) : Prop := (∀ i : Nat, (i : Int) < n → g i = f i) ∧ g n.toNat % 256 = v / 16777216 % 256 ∧ g (n + 1).toNat % 256 = v / 65536 % 256 ∧ g (n + 2).toNat % 256 = v / 256 % 256 ∧ g (n + 3).toNat % 256 = v % 256
theorem PN_mk {f g1 g2 g3 g4 : Nat → Int} {n v : Int} (h0 : 0 ≤ n) (a1 : g1 n.toNat % 256 = v / 16777216 % 256) (b1 : ∀ i : Nat, (i : Int) < n → g1 i = f i) (a2 : g2 (n + 1).toNat % 256 = v / 65536 % 256) (b2 : ∀ i : Nat, (i : Int) < n + 1 → g2 i = g1 i) (a3 : g3 (n + 2).toNat % 256 = v / 256 % 256) (b3 : ∀ i : Nat, (i : Int) < n + 2 → g3 i = g2 i) (a4 : g4 (n + 3).toNat % 256 = v % 256) (b4 : ∀ i : Nat, (i : Int) < n + 3 → g4 i = g3 i) : PN f g4 n v := by
  refine ⟨fun i z => ?_, ?_, ?_, ?_, a4⟩
  · rw [b4 i (by omega), b3 i (by omega), b2 i (by omega), b1 i z]
  · rw [b4 n.toNat (by omega), b3 n.toNat (by omega), b2 n.toNat (by omega)]; exact a1
  · rw [b4 (n + 1).toNat (by omega), b3 (n + 1).toNat (by omega)]; exact a2
  · rw [b4 (n + 2).toNat (by omega)]; exact a3
def PB (f g : Nat → Int) (n v k : Int) : Prop := (∀ i : Nat, (i : Int) < n → g i = f i) ∧ (k < 24 → g n.toNat % 256 = v / 16777216 % 256) ∧ (k < 16 → g (n + 1).toNat % 256 = v / 65536 % 256) ∧ (k < 8 → g (n + 2).toNat % 256 = v / 256 % 256) ∧ (k < 0 → g (n + 3).toNat % 256 = v % 256)
theorem PB_s {f g : Nat → Int} {n m v k : Int} (h0 : 0 ≤ n) (h : PB f g n v k) (hm : 8 * m = 8 * n + 24 - k) (hk : k = 24 ∨ k = 16 ∨ k = 8 ∨ k = 0) : PB f (up1 g m.toNat (zd (Nat.land (zi (v / zpw (k % 32).toNat)) (zi 255)))) n v (k + (-8)) := by
  obtain ⟨a, b, c, d, e⟩ := h
  rw [l255m]
  refine ⟨fun i z => by rw [up1_n g _ (by omega)]; exact a i z, fun z => ?_, fun z => ?_, fun z => ?_, fun z => ?_⟩
  · rcases hk with rfl | rfl | rfl | rfl
    · rw [show m = n by omega, up1_e, zp24]; omega
    · rw [up1_n g _ (by omega)]; exact b (by omega)
    · rw [up1_n g _ (by omega)]; exact b (by omega)
    · rw [up1_n g _ (by omega)]; exact b (by omega)
  · rcases hk with rfl | rfl | rfl | rfl
    · omega
    · rw [show m = n + 1 by omega, up1_e, zp16]; omega
    · rw [up1_n g _ (by omega)]; exact c (by omega)
    · rw [up1_n g _ (by omega)]; exact c (by omega)
  · rcases hk with rfl | rfl | rfl | rfl
    · omega
    · omega
    · rw [show m = n + 2 by omega, up1_e, zp8]; omega
    · rw [up1_n g _ (by omega)]; exact d (by omega)
  · rcases hk with rfl | rfl | rfl | rfl
    · omega
    · omega
    · omega
    · rw [show m = n + 3 by omega, up1_e, show zpw ((0 : Int) % 32).toNat = 1 by decide]; omega
def m_bPut : aM := ([(1, 1)], [2])
def rq_bPut (v : Int) (st : zS) : Prop := gInv zgt st ∧ (st 1 1 ≤ 1599)
def en_bPut (v : Int) (st : zS) (s1 : zS) : Prop := gInv zgt s1 ∧ aFr m_bPut st s1 ∧ (s1 1 1 = st 1 1 + 1) ∧ (s1 2 (st 1 1).toNat % 256 = v % 256 ∧ ∀ i : Nat, (i : Int) < st 1 1 → s1 2 i = st 2 i)
def ct_bPut (v : Int) (st : zS) (Q : zQ) : Prop := rq_bPut v st ∧ (∀ (s1 : zS), en_bPut v st s1 → Q none s1)
theorem ct_bPut_m {v : Int} {st : zS} {Q Q' : zQ} (hQ : ∀ r st', Q r st' → Q' r st') (h : ct_bPut v st Q) : ct_bPut v st Q' := ⟨h.1, fun x0 x1 => hQ _ _ (h.2 x0 x1)⟩
def k_bPut : zCall := fun _ as st Q => match as with
  | [.inr (.inr (.inl z_o)), .inl v] => z_o = 1 ∧ ct_bPut v st Q
  | _ => False
theorem k_bPut_mon : zmon k_bPut := by
  intro nu as st Q Q' hQ h
  unfold k_bPut at h ⊢
  split at h
  · exact ⟨h.1, ct_bPut_m hQ h.2⟩
  · exact h.elim
def m_bPutNumber : aM := ([(1, 1)], [2])
def rq_bPutNumber (v : Int) (st : zS) : Prop := gInv zgt st ∧ (st 1 1 ≤ 1596)
def en_bPutNumber (v : Int) (st : zS) (s1 : zS) : Prop := gInv zgt s1 ∧ aFr m_bPutNumber st s1 ∧ (s1 1 1 = st 1 1 + 4) ∧ (PN (st 2) (s1 2) (st 1 1) v)
def ct_bPutNumber (v : Int) (st : zS) (Q : zQ) : Prop := rq_bPutNumber v st ∧ (∀ (s1 : zS), en_bPutNumber v st s1 → Q none s1)
theorem ct_bPutNumber_m {v : Int} {st : zS} {Q Q' : zQ} (hQ : ∀ r st', Q r st' → Q' r st') (h : ct_bPutNumber v st Q) : ct_bPutNumber v st Q' := ⟨h.1, fun x0 x1 => hQ _ _ (h.2 x0 x1)⟩
def k_bPutNumber : zCall := fun _ as st Q => match as with
  | [.inr (.inr (.inl z_o)), .inl v] => z_o = 1 ∧ ct_bPutNumber v st Q
  | _ => False
theorem k_bPutNumber_mon : zmon k_bPutNumber := by
  intro nu as st Q Q' hQ h
  unfold k_bPutNumber at h ⊢
  split at h
  · exact ⟨h.1, ct_bPutNumber_m hQ h.2⟩
  · exact h.elim
def m_dPut : aM := ([(170, 1)], [171])
def rq_dPut (v : Int) (st : zS) : Prop := gInv zgt st ∧ (st 170 1 ≤ 1596)
def en_dPut (v : Int) (st : zS) (s1 : zS) : Prop := gInv zgt s1 ∧ aFr m_dPut st s1 ∧ (s1 170 1 = st 170 1 + 4) ∧ (PN (st 171) (s1 171) (st 170 1) v)
def ct_dPut (v : Int) (st : zS) (Q : zQ) : Prop := rq_dPut v st ∧ (∀ (s1 : zS), en_dPut v st s1 → Q none s1)
theorem ct_dPut_m {v : Int} {st : zS} {Q Q' : zQ} (hQ : ∀ r st', Q r st' → Q' r st') (h : ct_dPut v st Q) : ct_dPut v st Q' := ⟨h.1, fun x0 x1 => hQ _ _ (h.2 x0 x1)⟩
def k_dPut : zCall := fun _ as st Q => match as with
  | [.inr (.inr (.inl z_o)), .inl v] => z_o = 170 ∧ ct_dPut v st Q
  | _ => False
theorem k_dPut_mon : zmon k_dPut := by
  intro nu as st Q Q' hQ h
  unfold k_dPut at h ⊢
  split at h
  · exact ⟨h.1, ct_dPut_m hQ h.2⟩
  · exact h.elim
section R98b
variable {cl : Nat → zCall}
set_option maxHeartbeats 40000000 in
set_option maxRecDepth 100000 in
theorem c_bPut (hTb : aTb zSh rx_tb cl) {D : Nat} (hD : 1 ≤ D) {v : Int} {st : zS} {Q : zQ} (h : ct_bPut v st Q) : cl D 47 [.inr (.inr (.inl 1)), .inl v] st Q := by
  obtain ⟨d, rfl⟩ : ∃ d, D = d + 1 := ⟨D - 1, by omega⟩
  refine hTb d 47 (rx_m47, 2, 0, 0, 0) rfl _ _ _ (Nat.le_of_ble_eq_true rfl) (fun K hcl hsf hsl => ?_)
  have hcm : zmo (zno) (cl d) := zno_m
  obtain ⟨hR, hQ⟩ := h
  obtain ⟨hG, r⟩ := hR
  change st 1 1 ≤ 1599 at r
  have g1 := g_tsize hG
  refine yr1_ok (Rt := Q) (wc := (zno)) (stp := []) hcm hcl [] 40 ?_
  show (((1600 : Int) ≤ st 1 1 → Q none st) ∧ (¬ ((1600 : Int) ≤ st 1 1) → ((0 ≤ st 1 1 ∧ st 1 1 < 1600) ∧ ((-2147483648 ≤ (st 1 1) + 1 ∧ (st 1 1) + 1 ≤ 2147483647) ∧ Q none (zup (zup st 2 (st 1 1 : Int).toNat (zb (zb v))) 1 1 ((st 1 1) + 1))))))
  refine ⟨fun h2 => ?_, fun h2 => ?_⟩
  · exact hQ _ ⟨hG, (fr_rf _ _), (show st 1 1 = st 1 1 + 1 from by omega), (show st 2 (st 1 1).toNat % 256 = v % 256 ∧ ∀ i : Nat, (i : Int) < st 1 1 → st 2 i = st 2 i from by omega)⟩
  · refine ⟨by omega, ?_⟩
    refine ⟨by omega, ?_⟩
    exact hQ _ ⟨(gInv_up (gInv_up hG (p_trow (zb_ok _))) (p_tsize (by omega))), (fr_f (fr_a (fr_rf _ _) rfl) rfl), (show ((st 1 1) + 1) = st 1 1 + 1 from by omega), (show (zup (zup st 2 (st 1 1 : Int).toNat (zb (zb v))) 1 1 ((st 1 1) + 1)) 2 (st 1 1).toNat % 256 = v % 256 ∧ ∀ i : Nat, (i : Int) < st 1 1 → (zup (zup st 2 (st 1 1 : Int).toNat (zb (zb v))) 1 1 ((st 1 1) + 1)) 2 i = st 2 i from ⟨by show up1 (st 2) (st 1 1).toNat (zb (zb v)) (st 1 1).toNat % 256 = v % 256; rw [up1_e]; unfold zb; omega, fun i z => up1_n (st 2) _ (by omega)⟩)⟩
theorem k_bPut_m (hTb : aTb zSh rx_tb cl) {D : Nat} (hD : 1 ≤ D) : ∀ as st (Q Q' : zQ), (∀ r st', Q r st' → Q' r st') → k_bPut 47 as st Q → cl D 47 as st Q' := by
  intro as st Q Q' hQ h
  unfold k_bPut at h
  split at h
  · obtain ⟨rfl, h⟩ := h
    exact c_bPut hTb hD (ct_bPut_m hQ h)
  · exact h.elim
set_option maxHeartbeats 40000000 in
set_option maxRecDepth 100000 in
theorem c_bPutNumber (hTb : aTb zSh rx_tb cl) {D : Nat} (hD : 2 ≤ D) {v : Int} {st : zS} {Q : zQ} (h : ct_bPutNumber v st Q) : cl D 86 [.inr (.inr (.inl 1)), .inl v] st Q := by
  obtain ⟨d, rfl⟩ : ∃ d, D = d + 1 := ⟨D - 1, by omega⟩
  refine hTb d 86 (rx_m86, 2, 0, 0, 0) rfl _ _ _ (Nat.le_of_ble_eq_true rfl) (fun K hcl hsf hsl => ?_)
  have hcm : zmo (wcL [(47, k_bPut)]) (cl d) := (wcL_m (wm_cons (k_bPut_m hTb (by omega)) wm_nil))
  obtain ⟨hR, hQ⟩ := h
  obtain ⟨hG, r⟩ := hR
  change st 1 1 ≤ 1596 at r
  have g1 := g_tsize hG
  refine yr1_ok (Rt := Q) (wc := (wcL [(47, k_bPut)])) (stp := []) hcm hcl [] 39 ?_
  show (1 = 1 ∧ (rq_bPut (v / zpw ((24 : Int) % 32).toNat) st ∧ (∀ (s2 : zS), en_bPut (v / zpw ((24 : Int) % 32).toNat) st s2 → (1 = 1 ∧ (rq_bPut (v / zpw ((16 : Int) % 32).toNat) s2 ∧ (∀ (s3 : zS), en_bPut (v / zpw ((16 : Int) % 32).toNat) s2 s3 → (1 = 1 ∧ (rq_bPut (v / zpw ((8 : Int) % 32).toNat) s3 ∧ (∀ (s4 : zS), en_bPut (v / zpw ((8 : Int) % 32).toNat) s3 s4 → (1 = 1 ∧ (rq_bPut v s4 ∧ (∀ (s5 : zS), en_bPut v s4 s5 → Q none s5))))))))))))
  refine ⟨rfl, ⟨hG, (show st 1 1 ≤ 1599 from by omega)⟩, fun s2 q2 => ?_⟩
  obtain ⟨gs2, fs2, t2, y2⟩ := q2
  change s2 1 1 = st 1 1 + 1 at t2
  have g6 := g_tsize gs2
  change s2 2 (st 1 1).toNat % 256 = (v / zpw ((24 : Int) % 32).toNat) % 256 ∧ ∀ i : Nat, (i : Int) < st 1 1 → s2 2 i = st 2 i at y2
  refine ⟨rfl, ⟨gs2, (show s2 1 1 ≤ 1599 from by omega)⟩, fun s3 q3 => ?_⟩
  obtain ⟨gs3, fs3, t3, y3⟩ := q3
  change s3 1 1 = s2 1 1 + 1 at t3
  have g7 := g_tsize gs3
  change s3 2 (s2 1 1).toNat % 256 = (v / zpw ((16 : Int) % 32).toNat) % 256 ∧ ∀ i : Nat, (i : Int) < s2 1 1 → s3 2 i = s2 2 i at y3
  refine ⟨rfl, ⟨gs3, (show s3 1 1 ≤ 1599 from by omega)⟩, fun s4 q4 => ?_⟩
  obtain ⟨gs4, fs4, t4, y4⟩ := q4
  change s4 1 1 = s3 1 1 + 1 at t4
  have g8 := g_tsize gs4
  change s4 2 (s3 1 1).toNat % 256 = (v / zpw ((8 : Int) % 32).toNat) % 256 ∧ ∀ i : Nat, (i : Int) < s3 1 1 → s4 2 i = s3 2 i at y4
  refine ⟨rfl, ⟨gs4, (show s4 1 1 ≤ 1599 from by omega)⟩, fun s5 q5 => ?_⟩
  obtain ⟨gs5, fs5, t5, y5⟩ := q5
  change s5 1 1 = s4 1 1 + 1 at t5
  have g9 := g_tsize gs5
  change s5 2 (s4 1 1).toNat % 256 = v % 256 ∧ ∀ i : Nat, (i : Int) < s4 1 1 → s5 2 i = s4 2 i at y5
  exact hQ _ ⟨gs5, (fr_tr (fr_tr (fr_tr (fr_tr (fr_rf _ _) fs2 rfl) fs3 rfl) fs4 rfl) fs5 rfl), (show s5 1 1 = st 1 1 + 4 from by omega), (show PN (st 2) (s5 2) (st 1 1) v from by
      have a1 := y2.1
      have a2 := y3.1
      have a3 := y4.1
      have a4 := y5.1
      rw [zp24] at a1
      rw [zp16, show s2 1 1 = st 1 1 + 1 by omega] at a2
      rw [zp8, show s3 1 1 = st 1 1 + 2 by omega] at a3
      rw [show s4 1 1 = st 1 1 + 3 by omega] at a4
      exact PN_mk (by omega) a1 y2.2 a2 (fun i z => y3.2 i (by omega)) a3 (fun i z => y4.2 i (by omega)) a4 (fun i z => y5.2 i (by omega)))⟩
theorem k_bPutNumber_m (hTb : aTb zSh rx_tb cl) {D : Nat} (hD : 2 ≤ D) : ∀ as st (Q Q' : zQ), (∀ r st', Q r st' → Q' r st') → k_bPutNumber 86 as st Q → cl D 86 as st Q' := by
  intro as st Q Q' hQ h
  unfold k_bPutNumber at h
  split at h
  · obtain ⟨rfl, h⟩ := h
    exact c_bPutNumber hTb hD (ct_bPutNumber_m hQ h)
  · exact h.elim
set_option maxHeartbeats 40000000 in
set_option maxRecDepth 100000 in
theorem c_dPut (hTb : aTb zSh rx_tb cl) {D : Nat} (hD : 1 ≤ D) {v : Int} {st : zS} {Q : zQ} (h : ct_dPut v st Q) : cl D 87 [.inr (.inr (.inl 170)), .inl v] st Q := by
  obtain ⟨d, rfl⟩ : ∃ d, D = d + 1 := ⟨D - 1, by omega⟩
  refine hTb d 87 (rx_m87, 3, 0, 0, 0) rfl _ _ _ (Nat.le_of_ble_eq_true rfl) (fun K hcl hsf hsl => ?_)
  have hcm : zmo (zno) (cl d) := zno_m
  obtain ⟨hR, hQ⟩ := h
  obtain ⟨hG, r⟩ := hR
  change st 170 1 ≤ 1596 at r
  have lp : ∀ (u : Nat) (k : Int) (s_lp : zS), gInv zgt s_lp ∧ aFr m_dPut st s_lp ∧ (8 * s_lp 170 1 = 8 * st 170 1 + 24 - k ∧ -8 ≤ k ∧ k ≤ 24 ∧ k % 8 = 0) ∧ (PB (st 171) (s_lp 171) (st 170 1) v k) → (k + 8).toNat = u → K (rx_find rx_m87 3) [(2, .inl k), (0, .inr (.inr (.inl 170))), (1, .inl v)] [] s_lp := by
    intro u
    induction u using Nat.strongRecOn with
    | _ u ih =>
      intro k s_lp hi hu
      obtain ⟨gI_lp, fI_lp, b_lp, y_lp⟩ := hi
      have g1 := g_taped gI_lp
      have g2 := g_taped hG
      refine yr1_ok (Rt := Q) (wc := (zno)) (stp := [3]) hcm hcl [] 43 ?_
      show ((k < (0 : Int) → Q none s_lp) ∧ (¬ (k < (0 : Int)) → ((0 ≤ s_lp 170 1 ∧ s_lp 170 1 < 1800) ∧ ((-2147483648 ≤ (s_lp 170 1) + 1 ∧ (s_lp 170 1) + 1 ≤ 2147483647) ∧ ((-2147483648 ≤ k + (-8) ∧ k + (-8) ≤ 2147483647) ∧ K (rx_find rx_m87 3) [(2, .inl (k + (-8))), (0, .inr (.inr (.inl 170))), (1, .inl v)] [] (zup (zup s_lp 171 (s_lp 170 1 : Int).toNat (zd (Nat.land (zi (v / zpw (k % 32).toNat)) (zi 255)))) 170 1 ((s_lp 170 1) + 1)))))))
      refine ⟨fun h3 => ?_, fun h3 => ?_⟩
      · exact hQ _ ⟨gI_lp, fI_lp, (show s_lp 170 1 = st 170 1 + 4 from by omega), (show PN (st 171) (s_lp 171) (st 170 1) v from ⟨y_lp.1, y_lp.2.1 (by omega), y_lp.2.2.1 (by omega), y_lp.2.2.2.1 (by omega), y_lp.2.2.2.2 (by omega)⟩)⟩
      · refine ⟨by omega, ?_⟩
        refine ⟨by omega, ?_⟩
        refine ⟨by omega, ?_⟩
        exact ih _ (show ((k + (-8)) + 8 : Int).toNat < u from by omega) (k + (-8)) (zup (zup s_lp 171 (s_lp 170 1 : Int).toNat (zd (Nat.land (zi (v / zpw (k % 32).toNat)) (zi 255)))) 170 1 ((s_lp 170 1) + 1)) ⟨(gInv_up (gInv_up gI_lp (p_tape (l255 _))) (p_taped (by omega))), (fr_f (fr_a fI_lp rfl) rfl), (show 8 * ((s_lp 170 1) + 1) = 8 * st 170 1 + 24 - (k + (-8)) ∧ -8 ≤ (k + (-8)) ∧ (k + (-8)) ≤ 24 ∧ (k + (-8)) % 8 = 0 from by omega), (show PB (st 171) ((zup (zup s_lp 171 (s_lp 170 1 : Int).toNat (zd (Nat.land (zi (v / zpw (k % 32).toNat)) (zi 255)))) 170 1 ((s_lp 170 1) + 1)) 171) (st 170 1) v (k + (-8)) from PB_s (m := s_lp 170 1) (by omega) y_lp (by omega) (by omega))⟩ rfl
  have g4 := g_taped hG
  refine yr1_ok (Rt := Q) (wc := (zno)) (stp := [3]) hcm hcl [] 43 ?_
  show K (rx_find rx_m87 3) [(2, .inl 24), (0, .inr (.inr (.inl 170))), (1, .inl v)] [] st
  exact lp _ 24 st ⟨hG, (fr_rf _ _), (show 8 * st 170 1 = 8 * st 170 1 + 24 - (24 : Int) ∧ -8 ≤ (24 : Int) ∧ (24 : Int) ≤ 24 ∧ (24 : Int) % 8 = 0 from by omega), (show PB (st 171) (st 171) (st 170 1) v (24 : Int) from ⟨fun _ _ => rfl, fun z => by omega, fun z => by omega, fun z => by omega, fun z => by omega⟩)⟩ rfl
theorem k_dPut_m (hTb : aTb zSh rx_tb cl) {D : Nat} (hD : 1 ≤ D) : ∀ as st (Q Q' : zQ), (∀ r st', Q r st' → Q' r st') → k_dPut 87 as st Q → cl D 87 as st Q' := by
  intro as st Q Q' hQ h
  unfold k_dPut at h
  split at h
  · obtain ⟨rfl, h⟩ := h
    exact c_dPut hTb hD (ct_dPut_m hQ h)
  · exact h.elim
end R98b
