/-! printed by wip/p32/libs.py: the class's tape -/
theorem g_tsize {st : zS} (h : gInv zgt st) : (0 : Int) ≤ st 1 1 ∧ st 1 1 ≤ 1600 := gof (lo := 0) (hi := 1600) (h 1 1)
theorem p_tsize {z : Int} (h : (0 : Int) ≤ z ∧ z ≤ 1600) : gok zgt 1 1 z := ⟨(.ofNat 0, .ofNat 1600), List.mem_singleton.mpr rfl, h.1, h.2⟩
theorem g_trow {st : zS} (h : gInv zgt st) (i : Nat) : (-128 : Int) ≤ st 2 i ∧ st 2 i ≤ 127 := h 2 i
theorem p_trow {i : Nat} {z : Int} (h : (-128 : Int) ≤ z ∧ z ≤ 127) : gok zgt 2 i z := h
theorem g_crefused {st : zS} (h : gInv zgt st) (i : Nat) : (-2147483648 : Int) ≤ st 121 i ∧ st 121 i ≤ 2147483647 := h 121 i
theorem p_crefused {i : Nat} {z : Int} (h : (-2147483648 : Int) ≤ z ∧ z ≤ 2147483647) : gok zgt 121 i z := h
def m_cPut : aM := ([(1, 1)], [2])
def rq_cPut (v : Int) (st : zS) : Prop := gInv zgt st ∧ (st 1 1 ≤ 1599)
def en_cPut (v : Int) (st : zS) (s1 : zS) : Prop := gInv zgt s1 ∧ aFr m_cPut st s1 ∧ (s1 1 1 = st 1 1 + 1)
def ct_cPut (v : Int) (st : zS) (Q : zQ) : Prop := rq_cPut v st ∧ (∀ (s1 : zS), en_cPut v st s1 → Q none s1)
theorem ct_cPut_m {v : Int} {st : zS} {Q Q' : zQ} (hQ : ∀ r st', Q r st' → Q' r st') (h : ct_cPut v st Q) : ct_cPut v st Q' := ⟨h.1, fun x0 x1 => hQ _ _ (h.2 x0 x1)⟩
def k_cPut : zCall := fun _ as st Q => match as with
  | [.inr (.inr (.inl z_o)), .inl v] => z_o = 1 ∧ ct_cPut v st Q
  | _ => False
theorem k_cPut_mon : zmon k_cPut := by
  intro nu as st Q Q' hQ h
  unfold k_cPut at h ⊢
  split at h
  · exact ⟨h.1, ct_cPut_m hQ h.2⟩
  · exact h.elim
def m_cPutNumber : aM := ([(1, 1)], [2])
def rq_cPutNumber (v : Int) (st : zS) : Prop := gInv zgt st ∧ (st 1 1 ≤ 1596)
def en_cPutNumber (v : Int) (st : zS) (s1 : zS) : Prop := gInv zgt s1 ∧ aFr m_cPutNumber st s1 ∧ (s1 1 1 = st 1 1 + 4)
def ct_cPutNumber (v : Int) (st : zS) (Q : zQ) : Prop := rq_cPutNumber v st ∧ (∀ (s1 : zS), en_cPutNumber v st s1 → Q none s1)
theorem ct_cPutNumber_m {v : Int} {st : zS} {Q Q' : zQ} (hQ : ∀ r st', Q r st' → Q' r st') (h : ct_cPutNumber v st Q) : ct_cPutNumber v st Q' := ⟨h.1, fun x0 x1 => hQ _ _ (h.2 x0 x1)⟩
def k_cPutNumber : zCall := fun _ as st Q => match as with
  | [.inr (.inr (.inl z_o)), .inl v] => z_o = 1 ∧ ct_cPutNumber v st Q
  | _ => False
theorem k_cPutNumber_mon : zmon k_cPutNumber := by
  intro nu as st Q Q' hQ h
  unfold k_cPutNumber at h ⊢
  split at h
  · exact ⟨h.1, ct_cPutNumber_m hQ h.2⟩
  · exact h.elim
def m_cCut : aM := ([(1, 1)], [])
def rq_cCut (n : Int) (st : zS) : Prop := gInv zgt st
def en_cCut (n : Int) (st : zS) (s1 : zS) : Prop := gInv zgt s1 ∧ aFr m_cCut st s1 ∧ ((0 ≤ n ∧ n < st 1 1 → s1 1 1 = n) ∧ (¬ (0 ≤ n ∧ n < st 1 1) → s1 1 1 = st 1 1))
def ct_cCut (n : Int) (st : zS) (Q : zQ) : Prop := rq_cCut n st ∧ (∀ (s1 : zS), en_cCut n st s1 → Q none s1)
theorem ct_cCut_m {n : Int} {st : zS} {Q Q' : zQ} (hQ : ∀ r st', Q r st' → Q' r st') (h : ct_cCut n st Q) : ct_cCut n st Q' := ⟨h.1, fun x0 x1 => hQ _ _ (h.2 x0 x1)⟩
def k_cCut : zCall := fun _ as st Q => match as with
  | [.inr (.inr (.inl z_o)), .inl n] => z_o = 1 ∧ ct_cCut n st Q
  | _ => False
theorem k_cCut_mon : zmon k_cCut := by
  intro nu as st Q Q' hQ h
  unfold k_cCut at h ⊢
  split at h
  · exact ⟨h.1, ct_cCut_m hQ h.2⟩
  · exact h.elim
def m_cRefuse : aM := ([], [121])
def rq_cRefuse (k : Int) (st : zS) : Prop := gInv zgt st ∧ (0 ≤ k ∧ k ≤ 5)
def en_cRefuse (k : Int) (st : zS) (r : Int) (s1 : zS) : Prop := gInv zgt s1 ∧ aFr m_cRefuse st s1 ∧ (r = -1)
def ct_cRefuse (k : Int) (st : zS) (Q : zQ) : Prop := rq_cRefuse k st ∧ (∀ (r : Int) (s1 : zS), en_cRefuse k st r s1 → Q (some (.inl r)) s1)
theorem ct_cRefuse_m {k : Int} {st : zS} {Q Q' : zQ} (hQ : ∀ r st', Q r st' → Q' r st') (h : ct_cRefuse k st Q) : ct_cRefuse k st Q' := ⟨h.1, fun x0 x1 x2 => hQ _ _ (h.2 x0 x1 x2)⟩
def k_cRefuse : zCall := fun _ as st Q => match as with
  | [.inr (.inr (.inl z_o)), .inl k] => z_o = 0 ∧ ct_cRefuse k st Q
  | _ => False
theorem k_cRefuse_mon : zmon k_cRefuse := by
  intro nu as st Q Q' hQ h
  unfold k_cRefuse at h ⊢
  split at h
  · exact ⟨h.1, ct_cRefuse_m hQ h.2⟩
  · exact h.elim
def m_cDeny : aM := ([], [121])
def rq_cDeny (k : Int) (st : zS) : Prop := gInv zgt st ∧ (0 ≤ k ∧ k ≤ 5)
def en_cDeny (k : Int) (st : zS) (r : Int) (s1 : zS) : Prop := gInv zgt s1 ∧ aFr m_cDeny st s1 ∧ (r = 0)
def ct_cDeny (k : Int) (st : zS) (Q : zQ) : Prop := rq_cDeny k st ∧ (∀ (r : Int) (s1 : zS), en_cDeny k st r s1 → Q (some (.inl r)) s1)
theorem ct_cDeny_m {k : Int} {st : zS} {Q Q' : zQ} (hQ : ∀ r st', Q r st' → Q' r st') (h : ct_cDeny k st Q) : ct_cDeny k st Q' := ⟨h.1, fun x0 x1 x2 => hQ _ _ (h.2 x0 x1 x2)⟩
def k_cDeny : zCall := fun _ as st Q => match as with
  | [.inr (.inr (.inl z_o)), .inl k] => z_o = 0 ∧ ct_cDeny k st Q
  | _ => False
theorem k_cDeny_mon : zmon k_cDeny := by
  intro nu as st Q Q' hQ h
  unfold k_cDeny at h ⊢
  split at h
  · exact ⟨h.1, ct_cDeny_m hQ h.2⟩
  · exact h.elim
def rq_cFeed (a : Int) (b : Int) (c : Int) (d0 : Int) (e0 : Int) (st : zS) : Prop := gInv zgt st ∧ zJ st
def en_cFeed (a : Int) (b : Int) (c : Int) (d0 : Int) (e0 : Int) (st : zS) (r : Int) (s1 : zS) : Prop := gInv zgt s1 ∧ zJ s1 ∧ s1 170 1 = st 170 1 ∧ ((1580 < st 1 1 → r = -1 ∧ s1 1 1 = st 1 1) ∧ (st 1 1 ≤ 1580 → r = st 1 1 + 20 ∧ s1 1 1 = st 1 1 + 20))
def ct_cFeed (a : Int) (b : Int) (c : Int) (d0 : Int) (e0 : Int) (st : zS) (Q : zQ) : Prop := rq_cFeed a b c d0 e0 st ∧ (∀ (r : Int) (s1 : zS), en_cFeed a b c d0 e0 st r s1 → Q (some (.inl r)) s1)
theorem ct_cFeed_m {a b c d0 e0 : Int} {st : zS} {Q Q' : zQ} (hQ : ∀ r st', Q r st' → Q' r st') (h : ct_cFeed a b c d0 e0 st Q) : ct_cFeed a b c d0 e0 st Q' := ⟨h.1, fun x0 x1 x2 => hQ _ _ (h.2 x0 x1 x2)⟩
def k_cFeed : zCall := fun _ as st Q => match as with
  | [.inr (.inr (.inl z_o)), .inl a, .inl b, .inl c, .inl d0, .inl e0] => z_o = 0 ∧ ct_cFeed a b c d0 e0 st Q
  | _ => False
theorem k_cFeed_mon : zmon k_cFeed := by
  intro nu as st Q Q' hQ h
  unfold k_cFeed at h ⊢
  split at h
  · exact ⟨h.1, ct_cFeed_m hQ h.2⟩
  · exact h.elim
def rq_cEnd (x : Int) (st : zS) : Prop := gInv zgt st ∧ zJ st
def en_cEnd (x : Int) (st : zS) (r : Int) (s1 : zS) : Prop := gInv zgt s1 ∧ zJ s1 ∧ s1 170 1 = st 170 1 ∧ ((x < 0 ∨ st 1 1 < x → r = 0 ∧ s1 1 1 = st 1 1) ∧ (0 ≤ x ∧ x ≤ st 1 1 → r = 1 ∧ s1 1 1 = x))
def ct_cEnd (x : Int) (st : zS) (Q : zQ) : Prop := rq_cEnd x st ∧ (∀ (r : Int) (s1 : zS), en_cEnd x st r s1 → Q (some (.inl r)) s1)
theorem ct_cEnd_m {x : Int} {st : zS} {Q Q' : zQ} (hQ : ∀ r st', Q r st' → Q' r st') (h : ct_cEnd x st Q) : ct_cEnd x st Q' := ⟨h.1, fun x0 x1 x2 => hQ _ _ (h.2 x0 x1 x2)⟩
def k_cEnd : zCall := fun _ as st Q => match as with
  | [.inr (.inr (.inl z_o)), .inl x] => z_o = 0 ∧ ct_cEnd x st Q
  | _ => False
theorem k_cEnd_mon : zmon k_cEnd := by
  intro nu as st Q Q' hQ h
  unfold k_cEnd at h ⊢
  split at h
  · exact ⟨h.1, ct_cEnd_m hQ h.2⟩
  · exact h.elim
section R7o
variable {cl : Nat → zCall}
set_option maxHeartbeats 40000000 in
set_option maxRecDepth 100000 in
theorem c_cPut (hTb : aTb zSh rx_tb cl) {D : Nat} (hD : 1 ≤ D) {v : Int} {st : zS} {Q : zQ} (h : ct_cPut v st Q) : cl D 47 [.inr (.inr (.inl 1)), .inl v] st Q := by
  obtain ⟨d, rfl⟩ : ∃ d, D = d + 1 := ⟨D - 1, by omega⟩
  refine hTb d 47 (rx_m47, 2, 0, 0, 0) rfl _ _ _ (Nat.le_of_ble_eq_true rfl) (fun K hcl hsf hsl => ?_)
  have hcm : zmo (zno) (cl d) := zno_m
  obtain ⟨hR, hQ⟩ := h
  obtain ⟨hG, r⟩ := hR
  change st 1 1 ≤ 1599 at r
  have g1 := g_tsize hG
  refine yr1_ok (Rt := Q) (wc := (zno)) (stp := []) hcm hcl [] 40 ?_
  show (((1600 : Int) ≤ st 1 1 → Q none st) ∧ (¬ ((1600 : Int) ≤ st 1 1) → ((0 ≤ st 1 1 ∧ st 1 1 < 1600) ∧ ((-2147483648 ≤ (st 1 1) + 1 ∧ (st 1 1) + 1 ≤ 2147483647) ∧ Q none (zup (zup st 2 (st 1 1 : Int).toNat (zb (zb v))) 1 1 ((st 1 1) + 1))))))
  refine ⟨fun h2 => ?_, fun h2 => ?_⟩
  · exact hQ _ ⟨hG, (fr_rf _ _), (show st 1 1 = st 1 1 + 1 from by omega)⟩
  · refine ⟨by omega, ?_⟩
    refine ⟨by omega, ?_⟩
    exact hQ _ ⟨(gInv_up (gInv_up hG (p_trow (zb_ok _))) (p_tsize (by omega))), (fr_f (fr_a (fr_rf _ _) rfl) rfl), (show ((st 1 1) + 1) = st 1 1 + 1 from by omega)⟩
theorem k_cPut_m (hTb : aTb zSh rx_tb cl) {D : Nat} (hD : 1 ≤ D) : ∀ as st (Q Q' : zQ), (∀ r st', Q r st' → Q' r st') → k_cPut 47 as st Q → cl D 47 as st Q' := by
  intro as st Q Q' hQ h
  unfold k_cPut at h
  split at h
  · obtain ⟨rfl, h⟩ := h
    exact c_cPut hTb hD (ct_cPut_m hQ h)
  · exact h.elim
set_option maxHeartbeats 40000000 in
set_option maxRecDepth 100000 in
theorem c_cPutNumber (hTb : aTb zSh rx_tb cl) {D : Nat} (hD : 2 ≤ D) {v : Int} {st : zS} {Q : zQ} (h : ct_cPutNumber v st Q) : cl D 86 [.inr (.inr (.inl 1)), .inl v] st Q := by
  obtain ⟨d, rfl⟩ : ∃ d, D = d + 1 := ⟨D - 1, by omega⟩
  refine hTb d 86 (rx_m86, 2, 0, 0, 0) rfl _ _ _ (Nat.le_of_ble_eq_true rfl) (fun K hcl hsf hsl => ?_)
  have hcm : zmo (wcL [(47, k_cPut)]) (cl d) := (wcL_m (wm_cons (k_cPut_m hTb (by omega)) wm_nil))
  obtain ⟨hR, hQ⟩ := h
  obtain ⟨hG, r⟩ := hR
  change st 1 1 ≤ 1596 at r
  have g1 := g_tsize hG
  refine yr1_ok (Rt := Q) (wc := (wcL [(47, k_cPut)])) (stp := []) hcm hcl [] 39 ?_
  show (1 = 1 ∧ (rq_cPut (v / zpw ((24 : Int) % 32).toNat) st ∧ (∀ (s2 : zS), en_cPut (v / zpw ((24 : Int) % 32).toNat) st s2 → (1 = 1 ∧ (rq_cPut (v / zpw ((16 : Int) % 32).toNat) s2 ∧ (∀ (s3 : zS), en_cPut (v / zpw ((16 : Int) % 32).toNat) s2 s3 → (1 = 1 ∧ (rq_cPut (v / zpw ((8 : Int) % 32).toNat) s3 ∧ (∀ (s4 : zS), en_cPut (v / zpw ((8 : Int) % 32).toNat) s3 s4 → (1 = 1 ∧ (rq_cPut v s4 ∧ (∀ (s5 : zS), en_cPut v s4 s5 → Q none s5))))))))))))
  refine ⟨rfl, ⟨hG, (show st 1 1 ≤ 1599 from by omega)⟩, fun s2 q2 => ?_⟩
  obtain ⟨gs2, fs2, t2⟩ := q2
  change s2 1 1 = st 1 1 + 1 at t2
  have g6 := g_tsize gs2
  refine ⟨rfl, ⟨gs2, (show s2 1 1 ≤ 1599 from by omega)⟩, fun s3 q3 => ?_⟩
  obtain ⟨gs3, fs3, t3⟩ := q3
  change s3 1 1 = s2 1 1 + 1 at t3
  have g7 := g_tsize gs3
  refine ⟨rfl, ⟨gs3, (show s3 1 1 ≤ 1599 from by omega)⟩, fun s4 q4 => ?_⟩
  obtain ⟨gs4, fs4, t4⟩ := q4
  change s4 1 1 = s3 1 1 + 1 at t4
  have g8 := g_tsize gs4
  refine ⟨rfl, ⟨gs4, (show s4 1 1 ≤ 1599 from by omega)⟩, fun s5 q5 => ?_⟩
  obtain ⟨gs5, fs5, t5⟩ := q5
  change s5 1 1 = s4 1 1 + 1 at t5
  have g9 := g_tsize gs5
  exact hQ _ ⟨gs5, (fr_tr (fr_tr (fr_tr (fr_tr (fr_rf _ _) fs2 rfl) fs3 rfl) fs4 rfl) fs5 rfl), (show s5 1 1 = st 1 1 + 4 from by omega)⟩
theorem k_cPutNumber_m (hTb : aTb zSh rx_tb cl) {D : Nat} (hD : 2 ≤ D) : ∀ as st (Q Q' : zQ), (∀ r st', Q r st' → Q' r st') → k_cPutNumber 86 as st Q → cl D 86 as st Q' := by
  intro as st Q Q' hQ h
  unfold k_cPutNumber at h
  split at h
  · obtain ⟨rfl, h⟩ := h
    exact c_cPutNumber hTb hD (ct_cPutNumber_m hQ h)
  · exact h.elim
set_option maxHeartbeats 40000000 in
set_option maxRecDepth 100000 in
theorem c_cCut (hTb : aTb zSh rx_tb cl) {D : Nat} (hD : 1 ≤ D) {n : Int} {st : zS} {Q : zQ} (h : ct_cCut n st Q) : cl D 89 [.inr (.inr (.inl 1)), .inl n] st Q := by
  obtain ⟨d, rfl⟩ : ∃ d, D = d + 1 := ⟨D - 1, by omega⟩
  refine hTb d 89 (rx_m89, 2, 0, 0, 0) rfl _ _ _ (Nat.le_of_ble_eq_true rfl) (fun K hcl hsf hsl => ?_)
  have hcm : zmo (zno) (cl d) := zno_m
  obtain ⟨hR, hQ⟩ := h
  have hG := hR
  have g1 := g_tsize hG
  refine yr1_ok (Rt := Q) (wc := (zno)) (stp := []) hcm hcl [] 30 ?_
  show ((n < (0 : Int) → Q none st) ∧ (¬ (n < (0 : Int)) → ((st 1 1 ≤ n → Q none st) ∧ (¬ (st 1 1 ≤ n) → Q none (zup st 1 1 n)))))
  refine ⟨fun h2 => ?_, fun h2 => ?_⟩
  · exact hQ _ ⟨hG, (fr_rf _ _), (show (0 ≤ n ∧ n < st 1 1 → st 1 1 = n) ∧ (¬ (0 ≤ n ∧ n < st 1 1) → st 1 1 = st 1 1) from by omega)⟩
  · refine ⟨fun h3 => ?_, fun h3 => ?_⟩
    · exact hQ _ ⟨hG, (fr_rf _ _), (show (0 ≤ n ∧ n < st 1 1 → st 1 1 = n) ∧ (¬ (0 ≤ n ∧ n < st 1 1) → st 1 1 = st 1 1) from by omega)⟩
    · exact hQ _ ⟨(gInv_up hG (p_tsize (by omega))), (fr_f (fr_rf _ _) rfl), (show (0 ≤ n ∧ n < st 1 1 → n = n) ∧ (¬ (0 ≤ n ∧ n < st 1 1) → n = st 1 1) from by omega)⟩
theorem k_cCut_m (hTb : aTb zSh rx_tb cl) {D : Nat} (hD : 1 ≤ D) : ∀ as st (Q Q' : zQ), (∀ r st', Q r st' → Q' r st') → k_cCut 89 as st Q → cl D 89 as st Q' := by
  intro as st Q Q' hQ h
  unfold k_cCut at h
  split at h
  · obtain ⟨rfl, h⟩ := h
    exact c_cCut hTb hD (ct_cCut_m hQ h)
  · exact h.elim
set_option maxHeartbeats 40000000 in
set_option maxRecDepth 100000 in
theorem c_cRefuse (hTb : aTb zSh rx_tb cl) {D : Nat} (hD : 1 ≤ D) {k : Int} {st : zS} {Q : zQ} (h : ct_cRefuse k st Q) : cl D 163 [.inr (.inr (.inl 0)), .inl k] st Q := by
  obtain ⟨d, rfl⟩ : ∃ d, D = d + 1 := ⟨D - 1, by omega⟩
  refine hTb d 163 (rx_m163, 2, 0, 0, 1) rfl _ _ _ (Nat.le_of_ble_eq_true rfl) (fun K hcl hsf hsl => ?_)
  have hcm : zmo (zno) (cl d) := zno_m
  obtain ⟨hR, hQ⟩ := h
  obtain ⟨hG, hr1⟩ := hR
  change 0 ≤ k ∧ k ≤ 5 at hr1
  refine yr1_ok (Rt := Q) (wc := (zno)) (stp := []) hcm hcl [8] 30 ?_
  show ((0 ≤ k ∧ k < 6) ∧ ((0 ≤ k ∧ k < 6) ∧ Q (some (.inl (-1))) (zup st 121 (k : Int).toNat (zw ((st 121 (k : Int).toNat) + 1)))))
  have g1 := g_crefused hG (k : Int).toNat
  refine ⟨by omega, ?_⟩
  refine ⟨by omega, ?_⟩
  exact hQ _ _ ⟨(gInv_up hG (p_crefused (zw_ok _))), (fr_a (fr_rf _ _) rfl), (show ((-1) : Int) = -1 from by omega)⟩
theorem k_cRefuse_m (hTb : aTb zSh rx_tb cl) {D : Nat} (hD : 1 ≤ D) : ∀ as st (Q Q' : zQ), (∀ r st', Q r st' → Q' r st') → k_cRefuse 163 as st Q → cl D 163 as st Q' := by
  intro as st Q Q' hQ h
  unfold k_cRefuse at h
  split at h
  · obtain ⟨rfl, h⟩ := h
    exact c_cRefuse hTb hD (ct_cRefuse_m hQ h)
  · exact h.elim
set_option maxHeartbeats 40000000 in
set_option maxRecDepth 100000 in
theorem c_cDeny (hTb : aTb zSh rx_tb cl) {D : Nat} (hD : 1 ≤ D) {k : Int} {st : zS} {Q : zQ} (h : ct_cDeny k st Q) : cl D 61 [.inr (.inr (.inl 0)), .inl k] st Q := by
  obtain ⟨d, rfl⟩ : ∃ d, D = d + 1 := ⟨D - 1, by omega⟩
  refine hTb d 61 (rx_m61, 2, 0, 0, 2) rfl _ _ _ (Nat.le_of_ble_eq_true rfl) (fun K hcl hsf hsl => ?_)
  have hcm : zmo (zno) (cl d) := zno_m
  obtain ⟨hR, hQ⟩ := h
  obtain ⟨hG, hr1⟩ := hR
  change 0 ≤ k ∧ k ≤ 5 at hr1
  refine yr1_ok (Rt := Q) (wc := (zno)) (stp := []) hcm hcl [8] 30 ?_
  show ((0 ≤ k ∧ k < 6) ∧ ((0 ≤ k ∧ k < 6) ∧ ((0 = (0 : Int) ∨ 0 = (1 : Int)) ∧ Q (some (.inl 0)) (zup st 121 (k : Int).toNat (zw ((st 121 (k : Int).toNat) + 1))))))
  have g1 := g_crefused hG (k : Int).toNat
  refine ⟨by omega, ?_⟩
  refine ⟨by omega, ?_⟩
  refine ⟨by omega, ?_⟩
  exact hQ _ _ ⟨(gInv_up hG (p_crefused (zw_ok _))), (fr_a (fr_rf _ _) rfl), (show (0 : Int) = 0 from by omega)⟩
theorem k_cDeny_m (hTb : aTb zSh rx_tb cl) {D : Nat} (hD : 1 ≤ D) : ∀ as st (Q Q' : zQ), (∀ r st', Q r st' → Q' r st') → k_cDeny 61 as st Q → cl D 61 as st Q' := by
  intro as st Q Q' hQ h
  unfold k_cDeny at h
  split at h
  · obtain ⟨rfl, h⟩ := h
    exact c_cDeny hTb hD (ct_cDeny_m hQ h)
  · exact h.elim
set_option maxHeartbeats 40000000 in
set_option maxRecDepth 100000 in
theorem c_cFeed (hTb : aTb zSh rx_tb cl) {D : Nat} (hD : 3 ≤ D) {a b c d0 e0 : Int} {st : zS} {Q : zQ} (h : ct_cFeed a b c d0 e0 st Q) : cl D 138 [.inr (.inr (.inl 0)), .inl a, .inl b, .inl c, .inl d0, .inl e0] st Q := by
  obtain ⟨d, rfl⟩ : ∃ d, D = d + 1 := ⟨D - 1, by omega⟩
  refine hTb d 138 (rx_m138, 6, 0, 0, 1) rfl _ _ _ (Nat.le_of_ble_eq_true rfl) (fun K hcl hsf hsl => ?_)
  have hcm : zmo (wcL [(163, k_cRefuse), (86, k_cPutNumber)]) (cl d) := (wcL_m (wm_cons (k_cRefuse_m hTb (by omega)) (wm_cons (k_cPutNumber_m hTb (by omega)) wm_nil)))
  obtain ⟨hR, hQ⟩ := h
  obtain ⟨hG, hJ⟩ := hR
  have g1 := g_tsize hG
  refine yr1_ok (Rt := Q) (wc := (wcL [(163, k_cRefuse), (86, k_cPutNumber)])) (stp := []) hcm hcl [] 55 ?_
  show ((-2147483648 ≤ (st 1 1) + 20 ∧ (st 1 1) + 20 ≤ 2147483647) ∧ (((st 1 1) + 20 ≤ (1600 : Int) → (1 = 1 ∧ (rq_cPutNumber a st ∧ (∀ (s2 : zS), en_cPutNumber a st s2 → (1 = 1 ∧ (rq_cPutNumber b s2 ∧ (∀ (s3 : zS), en_cPutNumber b s2 s3 → (1 = 1 ∧ (rq_cPutNumber c s3 ∧ (∀ (s4 : zS), en_cPutNumber c s3 s4 → (1 = 1 ∧ (rq_cPutNumber d0 s4 ∧ (∀ (s5 : zS), en_cPutNumber d0 s4 s5 → (1 = 1 ∧ (rq_cPutNumber e0 s5 ∧ (∀ (s6 : zS), en_cPutNumber e0 s5 s6 → Q (some (.inl (s6 1 1))) s6)))))))))))))))) ∧ (¬ ((st 1 1) + 20 ≤ (1600 : Int)) → (0 = 0 ∧ (rq_cRefuse (0) st ∧ (∀ (r7 : Int) (s7 : zS), en_cRefuse (0) st r7 s7 → Q (some (.inl r7)) s7))))))
  refine ⟨by omega, ?_⟩
  refine ⟨fun h8 => ?_, fun h8 => ?_⟩
  · refine ⟨rfl, ⟨hG, (show st 1 1 ≤ 1596 from by omega)⟩, fun s2 q2 => ?_⟩
    obtain ⟨gs2, fs2, t2⟩ := q2
    change s2 1 1 = st 1 1 + 4 at t2
    have g9 := g_tsize gs2
    refine ⟨rfl, ⟨gs2, (show s2 1 1 ≤ 1596 from by omega)⟩, fun s3 q3 => ?_⟩
    obtain ⟨gs3, fs3, t3⟩ := q3
    change s3 1 1 = s2 1 1 + 4 at t3
    have g10 := g_tsize gs3
    refine ⟨rfl, ⟨gs3, (show s3 1 1 ≤ 1596 from by omega)⟩, fun s4 q4 => ?_⟩
    obtain ⟨gs4, fs4, t4⟩ := q4
    change s4 1 1 = s3 1 1 + 4 at t4
    have g11 := g_tsize gs4
    refine ⟨rfl, ⟨gs4, (show s4 1 1 ≤ 1596 from by omega)⟩, fun s5 q5 => ?_⟩
    obtain ⟨gs5, fs5, t5⟩ := q5
    change s5 1 1 = s4 1 1 + 4 at t5
    have g12 := g_tsize gs5
    refine ⟨rfl, ⟨gs5, (show s5 1 1 ≤ 1596 from by omega)⟩, fun s6 q6 => ?_⟩
    obtain ⟨gs6, fs6, t6⟩ := q6
    change s6 1 1 = s5 1 1 + 4 at t6
    have g13 := g_tsize gs6
    exact hQ _ _ ⟨gs6, (zJ_fr rfl fs6 (zJ_fr rfl fs5 (zJ_fr rfl fs4 (zJ_fr rfl fs3 (zJ_fr rfl fs2 hJ))))), ((fs6 170 1 rfl rfl).trans ((fs5 170 1 rfl rfl).trans ((fs4 170 1 rfl rfl).trans ((fs3 170 1 rfl rfl).trans (fs2 170 1 rfl rfl))))), (show (1580 < st 1 1 → (s6 1 1) = -1 ∧ s6 1 1 = st 1 1) ∧ (st 1 1 ≤ 1580 → (s6 1 1) = st 1 1 + 20 ∧ s6 1 1 = st 1 1 + 20) from by omega)⟩
  · refine ⟨rfl, ⟨hG, (show 0 ≤ (0) ∧ (0) ≤ 5 from by omega)⟩, fun r7 s7 q7 => ?_⟩
    obtain ⟨gs7, fs7, e7⟩ := q7
    change r7 = -1 at e7
    have e14 : s7 1 1 = st 1 1 := fs7 1 1 rfl rfl
    exact hQ _ _ ⟨gs7, (zJ_fr rfl fs7 hJ), (fs7 170 1 rfl rfl), (show (1580 < st 1 1 → r7 = -1 ∧ s7 1 1 = st 1 1) ∧ (st 1 1 ≤ 1580 → r7 = st 1 1 + 20 ∧ s7 1 1 = st 1 1 + 20) from by omega)⟩
theorem k_cFeed_m (hTb : aTb zSh rx_tb cl) {D : Nat} (hD : 3 ≤ D) : ∀ as st (Q Q' : zQ), (∀ r st', Q r st' → Q' r st') → k_cFeed 138 as st Q → cl D 138 as st Q' := by
  intro as st Q Q' hQ h
  unfold k_cFeed at h
  split at h
  · obtain ⟨rfl, h⟩ := h
    exact c_cFeed hTb hD (ct_cFeed_m hQ h)
  · exact h.elim
set_option maxHeartbeats 40000000 in
set_option maxRecDepth 100000 in
theorem c_cEnd (hTb : aTb zSh rx_tb cl) {D : Nat} (hD : 2 ≤ D) {x : Int} {st : zS} {Q : zQ} (h : ct_cEnd x st Q) : cl D 88 [.inr (.inr (.inl 0)), .inl x] st Q := by
  obtain ⟨d, rfl⟩ : ∃ d, D = d + 1 := ⟨D - 1, by omega⟩
  refine hTb d 88 (rx_m88, 2, 0, 0, 2) rfl _ _ _ (Nat.le_of_ble_eq_true rfl) (fun K hcl hsf hsl => ?_)
  have hcm : zmo (wcL [(61, k_cDeny), (89, k_cCut)]) (cl d) := (wcL_m (wm_cons (k_cDeny_m hTb (by omega)) (wm_cons (k_cCut_m hTb (by omega)) wm_nil)))
  obtain ⟨hR, hQ⟩ := h
  obtain ⟨hG, hJ⟩ := hR
  have g1 := g_tsize hG
  refine yr1_ok (Rt := Q) (wc := (wcL [(61, k_cDeny), (89, k_cCut)])) (stp := []) hcm hcl [] 37 ?_
  show ((x < (0 : Int) → (0 = 0 ∧ (rq_cDeny (0) st ∧ (∀ (r2 : Int) (s2 : zS), en_cDeny (0) st r2 s2 → ((r2 = (0 : Int) ∨ r2 = (1 : Int)) ∧ Q (some (.inl r2)) s2))))) ∧ (¬ (x < (0 : Int)) → ((x ≤ st 1 1 → (1 = 1 ∧ (rq_cCut x st ∧ (∀ (s3 : zS), en_cCut x st s3 → ((1 = (0 : Int) ∨ 1 = (1 : Int)) ∧ Q (some (.inl 1)) s3))))) ∧ (¬ (x ≤ st 1 1) → (0 = 0 ∧ (rq_cDeny (0) st ∧ (∀ (r4 : Int) (s4 : zS), en_cDeny (0) st r4 s4 → ((r4 = (0 : Int) ∨ r4 = (1 : Int)) ∧ Q (some (.inl r4)) s4))))))))
  refine ⟨fun h5 => ?_, fun h5 => ?_⟩
  · refine ⟨rfl, ⟨hG, (show 0 ≤ (0) ∧ (0) ≤ 5 from by omega)⟩, fun r2 s2 q2 => ?_⟩
    obtain ⟨gs2, fs2, e2⟩ := q2
    change r2 = 0 at e2
    refine ⟨by omega, ?_⟩
    have e6 : s2 1 1 = st 1 1 := fs2 1 1 rfl rfl
    exact hQ _ _ ⟨gs2, (zJ_fr rfl fs2 hJ), (fs2 170 1 rfl rfl), (show (x < 0 ∨ st 1 1 < x → r2 = 0 ∧ s2 1 1 = st 1 1) ∧ (0 ≤ x ∧ x ≤ st 1 1 → r2 = 1 ∧ s2 1 1 = x) from by omega)⟩
  · refine ⟨fun h7 => ?_, fun h7 => ?_⟩
    · refine ⟨rfl, hG, fun s3 q3 => ?_⟩
      obtain ⟨gs3, fs3, t3⟩ := q3
      change (0 ≤ x ∧ x < st 1 1 → s3 1 1 = x) ∧ (¬ (0 ≤ x ∧ x < st 1 1) → s3 1 1 = st 1 1) at t3
      have g8 := g_tsize gs3
      refine ⟨by omega, ?_⟩
      exact hQ _ _ ⟨gs3, (zJ_fr rfl fs3 hJ), (fs3 170 1 rfl rfl), (show (x < 0 ∨ st 1 1 < x → (1 : Int) = 0 ∧ s3 1 1 = st 1 1) ∧ (0 ≤ x ∧ x ≤ st 1 1 → (1 : Int) = 1 ∧ s3 1 1 = x) from by omega)⟩
    · refine ⟨rfl, ⟨hG, (show 0 ≤ (0) ∧ (0) ≤ 5 from by omega)⟩, fun r4 s4 q4 => ?_⟩
      obtain ⟨gs4, fs4, e4⟩ := q4
      change r4 = 0 at e4
      refine ⟨by omega, ?_⟩
      have e9 : s4 1 1 = st 1 1 := fs4 1 1 rfl rfl
      exact hQ _ _ ⟨gs4, (zJ_fr rfl fs4 hJ), (fs4 170 1 rfl rfl), (show (x < 0 ∨ st 1 1 < x → r4 = 0 ∧ s4 1 1 = st 1 1) ∧ (0 ≤ x ∧ x ≤ st 1 1 → r4 = 1 ∧ s4 1 1 = x) from by omega)⟩
theorem k_cEnd_m (hTb : aTb zSh rx_tb cl) {D : Nat} (hD : 2 ≤ D) : ∀ as st (Q Q' : zQ), (∀ r st', Q r st' → Q' r st') → k_cEnd 88 as st Q → cl D 88 as st Q' := by
  intro as st Q Q' hQ h
  unfold k_cEnd at h
  split at h
  · obtain ⟨rfl, h⟩ := h
    exact c_cEnd hTb hD (ct_cEnd_m hQ h)
  · exact h.elim
end R7o
