/-! printed by wip/p32/libv.py: the class's words -/
theorem g_wAt {st : zS} (h : gInv zgt st) : (0 : Int) ≤ st 149 2 ∧ st 149 2 ≤ 1600 := gof (lo := 0) (hi := 1600) (h 149 2)
theorem p_wAt {z : Int} (h : (0 : Int) ≤ z ∧ z ≤ 1600) : gok zgt 149 2 z := ⟨(.ofNat 0, .ofNat 1600), List.mem_singleton.mpr rfl, h.1, h.2⟩
theorem g_wKind {st : zS} (h : gInv zgt st) : (0 : Int) ≤ st 149 3 ∧ st 149 3 ≤ 5 := gof (lo := 0) (hi := 5) (h 149 3)
theorem p_wKind {z : Int} (h : (0 : Int) ≤ z ∧ z ≤ 5) : gok zgt 149 3 z := ⟨(.ofNat 0, .ofNat 5), List.mem_singleton.mpr rfl, h.1, h.2⟩
theorem g_wValue {st : zS} (h : gInv zgt st) : (-2147483648 : Int) ≤ st 149 4 ∧ st 149 4 ≤ 2147483647 := gof (lo := -2147483648) (hi := 2147483647) (h 149 4)
theorem p_wValue {z : Int} (h : (-2147483648 : Int) ≤ z ∧ z ≤ 2147483647) : gok zgt 149 4 z := ⟨(.negSucc 2147483647, .ofNat 2147483647), List.mem_singleton.mpr rfl, h.1, h.2⟩
theorem g_wStart {st : zS} (h : gInv zgt st) : (-2147483648 : Int) ≤ st 149 5 ∧ st 149 5 ≤ 2147483647 := gof (lo := -2147483648) (hi := 2147483647) (h 149 5)
theorem p_wStart {z : Int} (h : (-2147483648 : Int) ≤ z ∧ z ≤ 2147483647) : gok zgt 149 5 z := ⟨(.negSucc 2147483647, .ofNat 2147483647), List.mem_singleton.mpr rfl, h.1, h.2⟩
theorem g_wSpot {st : zS} (h : gInv zgt st) : (-2147483648 : Int) ≤ st 149 6 ∧ st 149 6 ≤ 2147483647 := gof (lo := -2147483648) (hi := 2147483647) (h 149 6)
theorem p_wSpot {z : Int} (h : (-2147483648 : Int) ≤ z ∧ z ≤ 2147483647) : gok zgt 149 6 z := ⟨(.negSucc 2147483647, .ofNat 2147483647), List.mem_singleton.mpr rfl, h.1, h.2⟩
theorem g_rFault {st : zS} (h : gInv zgt st) : (-2147483648 : Int) ≤ st 148 3 ∧ st 148 3 ≤ 2147483647 := gof (lo := -2147483648) (hi := 2147483647) (h 148 3)
theorem p_rFault {z : Int} (h : (-2147483648 : Int) ≤ z ∧ z ≤ 2147483647) : gok zgt 148 3 z := ⟨(.negSucc 2147483647, .ofNat 2147483647), List.mem_singleton.mpr rfl, h.1, h.2⟩
theorem g_rFaultAt {st : zS} (h : gInv zgt st) : (-2147483648 : Int) ≤ st 148 4 ∧ st 148 4 ≤ 2147483647 := gof (lo := -2147483648) (hi := 2147483647) (h 148 4)
theorem p_rFaultAt {z : Int} (h : (-2147483648 : Int) ≤ z ∧ z ≤ 2147483647) : gok zgt 148 4 z := ⟨(.negSucc 2147483647, .ofNat 2147483647), List.mem_singleton.mpr rfl, h.1, h.2⟩
theorem g_ownW {st : zS} (h : gInv zgt st) (i : Nat) : (-2147483648 : Int) ≤ st 150 i ∧ st 150 i ≤ 2147483647 := h 150 i
theorem sh5 {p l : Int} (hl : 0 ≤ l ∧ l ≤ 6) (hp : 0 ≤ p) (hb : p * 32 ^ (6 - l).toNat < 2147483648) : zd ((zi p * 2 ^ (zi (5 * (6 - l)) % 32)) % 4294967296) = p * 32 ^ (6 - l).toNat := by
  have hp2 : p < 2147483648 := by
    rcases (show l = 0 ∨ l = 1 ∨ l = 2 ∨ l = 3 ∨ l = 4 ∨ l = 5 ∨ l = 6 by omega) with rfl | rfl | rfl | rfl | rfl | rfl | rfl
    · have hb : p * 1073741824 < 2147483648 := hb
      omega
    · have hb : p * 33554432 < 2147483648 := hb
      omega
    · have hb : p * 1048576 < 2147483648 := hb
      omega
    · have hb : p * 32768 < 2147483648 := hb
      omega
    · have hb : p * 1024 < 2147483648 := hb
      omega
    · have hb : p * 32 < 2147483648 := hb
      omega
    · have hb : p * 1 < 2147483648 := hb
      omega
  have e : ∀ (q : Nat), (q : Int) < 2147483648 → zd (q % 4294967296) = (q : Int) := by
    intro q hq
    have e2 : q % 4294967296 = q := by omega
    rw [e2]
    unfold zd
    rw [zblt, decide_eq_true (show q < 2147483648 by omega)]
    rfl
  rw [zi_nn hp (by omega)]
  rcases (show l = 0 ∨ l = 1 ∨ l = 2 ∨ l = 3 ∨ l = 4 ∨ l = 5 ∨ l = 6 by omega) with rfl | rfl | rfl | rfl | rfl | rfl | rfl
  · have hb : p * 1073741824 < 2147483648 := hb
    show zd ((p.toNat * 1073741824) % 4294967296) = p * 1073741824
    rw [e _ (by omega)]; omega
  · have hb : p * 33554432 < 2147483648 := hb
    show zd ((p.toNat * 33554432) % 4294967296) = p * 33554432
    rw [e _ (by omega)]; omega
  · have hb : p * 1048576 < 2147483648 := hb
    show zd ((p.toNat * 1048576) % 4294967296) = p * 1048576
    rw [e _ (by omega)]; omega
  · have hb : p * 32768 < 2147483648 := hb
    show zd ((p.toNat * 32768) % 4294967296) = p * 32768
    rw [e _ (by omega)]; omega
  · have hb : p * 1024 < 2147483648 := hb
    show zd ((p.toNat * 1024) % 4294967296) = p * 1024
    rw [e _ (by omega)]; omega
  · have hb : p * 32 < 2147483648 := hb
    show zd ((p.toNat * 32) % 4294967296) = p * 32
    rw [e _ (by omega)]; omega
  · have hb : p * 1 < 2147483648 := hb
    show zd ((p.toNat * 1) % 4294967296) = p * 1
    rw [e _ (by omega)]; omega
/-- one letter more -/
theorem or5 {p c : Int} (hp : 0 ≤ p ∧ p < 33554432) (hc : 0 ≤ c ∧ c < 32) : zd (Nat.lor (zi (zd ((zi p * 2 ^ (zi 5 % 32)) % 4294967296))) (zi c)) = 32 * p + c := by
  have e1 : zi p = p.toNat := zi_nn hp.1 (by omega)
  have e2 : zi c = c.toNat := zi_nn hc.1 (by omega)
  have e3 : (zi p * 2 ^ (zi 5 % 32)) % 4294967296 = 2 ^ 5 * p.toNat := by
    rw [e1]
    show (p.toNat * 32) % 4294967296 = 32 * p.toNat
    omega
  rw [e3, zi_zd (show 2 ^ 5 * p.toNat < 4294967296 by show 32 * p.toNat < 4294967296; omega), e2]
  have e4 : Nat.lor (2 ^ 5 * p.toNat) c.toNat = 2 ^ 5 * p.toNat + c.toNat := (Nat.two_pow_add_eq_or_of_lt (i := 5) (b := c.toNat) (show c.toNat < 32 by omega) p.toNat).symm
  rw [e4]
  unfold zd
  rw [zblt, decide_eq_true (show 2 ^ 5 * p.toNat + c.toNat < 2147483648 by show 32 * p.toNat + c.toNat < 2147483648; omega)]
  show ((32 * p.toNat + c.toNat : Nat) : Int) = 32 * p + c
  omega
def rq_cAt (k : Int) (st : zS) : Prop := gInv zgt st
def en_cAt (k : Int) (st : zS) (r : Int) : Prop := (r = tcc (fun j : Int => st 2 j.toNat % 256) (st 1 1) (k))
def ct_cAt (k : Int) (st : zS) (Q : zQ) : Prop := rq_cAt k st ∧ (∀ (r : Int), en_cAt k st r → Q (some (.inl r)) st)
theorem ct_cAt_m {k : Int} {st : zS} {Q Q' : zQ} (hQ : ∀ r st', Q r st' → Q' r st') (h : ct_cAt k st Q) : ct_cAt k st Q' := ⟨h.1, fun x0 x1 => hQ _ _ (h.2 x0 x1)⟩
def k_cAt : zCall := fun _ as st Q => match as with
  | [.inr (.inr (.inl z_o)), .inl k] => z_o = 1 ∧ ct_cAt k st Q
  | _ => False
theorem k_cAt_mon : zmon k_cAt := by
  intro nu as st Q Q' hQ h
  unfold k_cAt at h ⊢
  split at h
  · exact ⟨h.1, ct_cAt_m hQ h.2⟩
  · exact h.elim
def en_cIsLetter (c : Int) (st : zS) (r : Int) : Prop := ((r = 0 ∨ r = 1) ∧ (r = 1 ↔ 97 ≤ c ∧ c ≤ 122))
def ct_cIsLetter (c : Int) (st : zS) (Q : zQ) : Prop := ∀ (r : Int), en_cIsLetter c st r → Q (some (.inl r)) st
theorem ct_cIsLetter_m {c : Int} {st : zS} {Q Q' : zQ} (hQ : ∀ r st', Q r st' → Q' r st') (h : ct_cIsLetter c st Q) : ct_cIsLetter c st Q' := fun x0 x1 => hQ _ _ (h x0 x1)
def k_cIsLetter : zCall := fun _ as st Q => match as with
  | [.inl c] => ct_cIsLetter c st Q
  | _ => False
theorem k_cIsLetter_mon : zmon k_cIsLetter := by
  intro nu as st Q Q' hQ h
  unfold k_cIsLetter at h ⊢
  split at h
  · exact ct_cIsLetter_m hQ h
  · exact h.elim
def en_cIsDigit (c : Int) (st : zS) (r : Int) : Prop := ((r = 0 ∨ r = 1) ∧ (r = 1 ↔ 48 ≤ c ∧ c ≤ 57))
def ct_cIsDigit (c : Int) (st : zS) (Q : zQ) : Prop := ∀ (r : Int), en_cIsDigit c st r → Q (some (.inl r)) st
theorem ct_cIsDigit_m {c : Int} {st : zS} {Q Q' : zQ} (hQ : ∀ r st', Q r st' → Q' r st') (h : ct_cIsDigit c st Q) : ct_cIsDigit c st Q' := fun x0 x1 => hQ _ _ (h x0 x1)
def k_cIsDigit : zCall := fun _ as st Q => match as with
  | [.inl c] => ct_cIsDigit c st Q
  | _ => False
theorem k_cIsDigit_mon : zmon k_cIsDigit := by
  intro nu as st Q Q' hQ h
  unfold k_cIsDigit at h ⊢
  split at h
  · exact ct_cIsDigit_m hQ h
  · exact h.elim
def en_cIsWN  (st : zS) (r : Int) : Prop := ((r = 0 ∨ r = 1) ∧ (r = 1 ↔ 1 ≤ st 149 3 ∧ st 149 3 ≤ 3))
def ct_cIsWN  (st : zS) (Q : zQ) : Prop := ∀ (r : Int), en_cIsWN  st r → Q (some (.inl r)) st
theorem ct_cIsWN_m {st : zS} {Q Q' : zQ} (hQ : ∀ r st', Q r st' → Q' r st') (h : ct_cIsWN  st Q) : ct_cIsWN  st Q' := fun x0 x1 => hQ _ _ (h x0 x1)
def k_cIsWN : zCall := fun _ as st Q => match as with
  | [.inr (.inr (.inl z_o))] => z_o = 149 ∧ ct_cIsWN  st Q
  | _ => False
theorem k_cIsWN_mon : zmon k_cIsWN := by
  intro nu as st Q Q' hQ h
  unfold k_cIsWN at h ⊢
  split at h
  · exact ⟨h.1, ct_cIsWN_m hQ h.2⟩
  · exact h.elim
def rq_cLetNo (c : Int) (st : zS) : Prop := (-1 ≤ c ∧ c ≤ 255)
def en_cLetNo (c : Int) (st : zS) (r : Int) : Prop := (r = c - 96)
def ct_cLetNo (c : Int) (st : zS) (Q : zQ) : Prop := rq_cLetNo c st ∧ (∀ (r : Int), en_cLetNo c st r → Q (some (.inl r)) st)
theorem ct_cLetNo_m {c : Int} {st : zS} {Q Q' : zQ} (hQ : ∀ r st', Q r st' → Q' r st') (h : ct_cLetNo c st Q) : ct_cLetNo c st Q' := ⟨h.1, fun x0 x1 => hQ _ _ (h.2 x0 x1)⟩
def k_cLetNo : zCall := fun _ as st Q => match as with
  | [.inl c] => ct_cLetNo c st Q
  | _ => False
theorem k_cLetNo_mon : zmon k_cLetNo := by
  intro nu as st Q Q' hQ h
  unfold k_cLetNo at h ⊢
  split at h
  · exact ct_cLetNo_m hQ h
  · exact h.elim
def rq_cFilled (p : Int) (l : Int) (st : zS) : Prop := ((0 ≤ l ∧ l ≤ 6) ∧ 0 ≤ p ∧ p * 32 ^ (6 - l).toNat < 2147483648)
def en_cFilled (p : Int) (l : Int) (st : zS) (r : Int) : Prop := (r = p * 32 ^ (6 - l).toNat)
def ct_cFilled (p : Int) (l : Int) (st : zS) (Q : zQ) : Prop := rq_cFilled p l st ∧ (∀ (r : Int), en_cFilled p l st r → Q (some (.inl r)) st)
theorem ct_cFilled_m {p l : Int} {st : zS} {Q Q' : zQ} (hQ : ∀ r st', Q r st' → Q' r st') (h : ct_cFilled p l st Q) : ct_cFilled p l st Q' := ⟨h.1, fun x0 x1 => hQ _ _ (h.2 x0 x1)⟩
def k_cFilled : zCall := fun _ as st Q => match as with
  | [.inl p, .inl l] => ct_cFilled p l st Q
  | _ => False
theorem k_cFilled_mon : zmon k_cFilled := by
  intro nu as st Q Q' hQ h
  unfold k_cFilled at h ⊢
  split at h
  · exact ct_cFilled_m hQ h
  · exact h.elim
def m_cFindOwn : aM := ([(149, 3), (149, 4)], [])
def rq_cFindOwn  (st : zS) : Prop := gInv zgt st
def en_cFindOwn  (st : zS) (s1 : zS) : Prop := gInv zgt s1 ∧ aFr m_cFindOwn st s1 ∧ ((s1 149 3 = 2 ∧ 0 ≤ s1 149 4 ∧ s1 149 4 < 26 ∧ st 150 (s1 149 4 : Int).toNat = st 149 4) ∨ (s1 149 3 = st 149 3 ∧ s1 149 4 = st 149 4 ∧ ∀ j : Int, 0 ≤ j → j < 26 → ¬ st 150 j.toNat = st 149 4))
def ct_cFindOwn  (st : zS) (Q : zQ) : Prop := rq_cFindOwn  st ∧ (∀ (s1 : zS), en_cFindOwn  st s1 → Q none s1)
theorem ct_cFindOwn_m {st : zS} {Q Q' : zQ} (hQ : ∀ r st', Q r st' → Q' r st') (h : ct_cFindOwn  st Q) : ct_cFindOwn  st Q' := ⟨h.1, fun x0 x1 => hQ _ _ (h.2 x0 x1)⟩
def k_cFindOwn : zCall := fun _ as st Q => match as with
  | [.inr (.inr (.inl z_o))] => z_o = 149 ∧ ct_cFindOwn  st Q
  | _ => False
theorem k_cFindOwn_mon : zmon k_cFindOwn := by
  intro nu as st Q Q' hQ h
  unfold k_cFindOwn at h ⊢
  split at h
  · exact ⟨h.1, ct_cFindOwn_m hQ h.2⟩
  · exact h.elim
section R92
variable {cl : Nat → zCall}
set_option maxHeartbeats 40000000 in
set_option maxRecDepth 100000 in
theorem c_cAt (hTb : aTb zSh rx_tb cl) {D : Nat} (hD : 1 ≤ D) {k : Int} {st : zS} {Q : zQ} (h : ct_cAt k st Q) : cl D 72 [.inr (.inr (.inl 1)), .inl k] st Q := by
  obtain ⟨d, rfl⟩ : ∃ d, D = d + 1 := ⟨D - 1, by omega⟩
  refine hTb d 72 (rx_m72, 2, 0, 0, 1) rfl _ _ _ (Nat.le_of_ble_eq_true rfl) (fun K hcl hsf hsl => ?_)
  have hcm : zmo (zno) (cl d) := zno_m
  obtain ⟨hR, hQ⟩ := h
  have hG := hR
  refine yr1_ok (Rt := Q) (wc := (zno)) (stp := []) hcm hcl [] 35 ?_
  show ((k < (0 : Int) → Q (some (.inl (-1))) st) ∧ (¬ (k < (0 : Int)) → ((st 1 1 ≤ k → Q (some (.inl (-1))) st) ∧ (¬ (st 1 1 ≤ k) → ((0 ≤ k ∧ k < 1600) ∧ Q (some (.inl (zd (Nat.land (zi (st 2 (k : Int).toNat)) (zi 255))))) st)))))
  refine ⟨fun h1 => ?_, fun h1 => ?_⟩
  · have g2 := g_tsize hG
    exact hQ _ (show ((-1) : Int) = tcc (fun j : Int => st 2 j.toNat % 256) (st 1 1) (k) from (tcc_out (by omega)).symm)
  · have g3 := g_tsize hG
    refine ⟨fun h4 => ?_, fun h4 => ?_⟩
    · exact hQ _ (show ((-1) : Int) = tcc (fun j : Int => st 2 j.toNat % 256) (st 1 1) (k) from (tcc_out (by omega)).symm)
    · have g5 := g_trow hG (k : Int).toNat
      refine ⟨by omega, ?_⟩
      exact hQ _ (show (zd (Nat.land (zi (st 2 (k : Int).toNat)) (zi 255))) = tcc (fun j : Int => st 2 j.toNat % 256) (st 1 1) (k) from (l255m _).trans (tcc_in (t := fun k => st 2 k.toNat % 256) (n := st 1 1) (by omega)).symm)
theorem k_cAt_m (hTb : aTb zSh rx_tb cl) {D : Nat} (hD : 1 ≤ D) : ∀ as st (Q Q' : zQ), (∀ r st', Q r st' → Q' r st') → k_cAt 72 as st Q → cl D 72 as st Q' := by
  intro as st Q Q' hQ h
  unfold k_cAt at h
  split at h
  · obtain ⟨rfl, h⟩ := h
    exact c_cAt hTb hD (ct_cAt_m hQ h)
  · exact h.elim
set_option maxHeartbeats 40000000 in
set_option maxRecDepth 100000 in
theorem c_cIsLetter (hTb : aTb zSh rx_tb cl) {D : Nat} (hD : 1 ≤ D) {c : Int} {st : zS} {Q : zQ} (h : ct_cIsLetter c st Q) : cl D 296 [.inl c] st Q := by
  obtain ⟨d, rfl⟩ : ∃ d, D = d + 1 := ⟨D - 1, by omega⟩
  refine hTb d 296 (rx_m296, 1, 0, 0, 2) rfl _ _ _ (Nat.le_of_ble_eq_true rfl) (fun K hcl hsf hsl => ?_)
  have hcm : zmo (zno) (cl d) := zno_m
  have hQ := h
  refine yr1_ok (Rt := Q) (wc := (zno)) (stp := []) hcm hcl [] 30 ?_
  show ((c < (97 : Int) → ((0 = (0 : Int) ∨ 0 = (1 : Int)) ∧ Q (some (.inl 0)) st)) ∧ (¬ (c < (97 : Int)) → (((122 : Int) < c → ((0 = (0 : Int) ∨ 0 = (1 : Int)) ∧ Q (some (.inl 0)) st)) ∧ (¬ ((122 : Int) < c) → ((1 = (0 : Int) ∨ 1 = (1 : Int)) ∧ Q (some (.inl 1)) st)))))
  refine ⟨fun h1 => ?_, fun h1 => ?_⟩
  · refine ⟨by omega, ?_⟩
    exact hQ _ (show ((0 : Int) = 0 ∨ (0 : Int) = 1) ∧ ((0 : Int) = 1 ↔ 97 ≤ c ∧ c ≤ 122) from by omega)
  · refine ⟨fun h2 => ?_, fun h2 => ?_⟩
    · refine ⟨by omega, ?_⟩
      exact hQ _ (show ((0 : Int) = 0 ∨ (0 : Int) = 1) ∧ ((0 : Int) = 1 ↔ 97 ≤ c ∧ c ≤ 122) from by omega)
    · refine ⟨by omega, ?_⟩
      exact hQ _ (show ((1 : Int) = 0 ∨ (1 : Int) = 1) ∧ ((1 : Int) = 1 ↔ 97 ≤ c ∧ c ≤ 122) from by omega)
theorem k_cIsLetter_m (hTb : aTb zSh rx_tb cl) {D : Nat} (hD : 1 ≤ D) : ∀ as st (Q Q' : zQ), (∀ r st', Q r st' → Q' r st') → k_cIsLetter 296 as st Q → cl D 296 as st Q' := by
  intro as st Q Q' hQ h
  unfold k_cIsLetter at h
  split at h
  · exact c_cIsLetter hTb hD (ct_cIsLetter_m hQ h)
  · exact h.elim
set_option maxHeartbeats 40000000 in
set_option maxRecDepth 100000 in
theorem c_cIsDigit (hTb : aTb zSh rx_tb cl) {D : Nat} (hD : 1 ≤ D) {c : Int} {st : zS} {Q : zQ} (h : ct_cIsDigit c st Q) : cl D 297 [.inl c] st Q := by
  obtain ⟨d, rfl⟩ : ∃ d, D = d + 1 := ⟨D - 1, by omega⟩
  refine hTb d 297 (rx_m297, 1, 0, 0, 2) rfl _ _ _ (Nat.le_of_ble_eq_true rfl) (fun K hcl hsf hsl => ?_)
  have hcm : zmo (zno) (cl d) := zno_m
  have hQ := h
  refine yr1_ok (Rt := Q) (wc := (zno)) (stp := []) hcm hcl [] 30 ?_
  show ((c < (48 : Int) → ((0 = (0 : Int) ∨ 0 = (1 : Int)) ∧ Q (some (.inl 0)) st)) ∧ (¬ (c < (48 : Int)) → (((57 : Int) < c → ((0 = (0 : Int) ∨ 0 = (1 : Int)) ∧ Q (some (.inl 0)) st)) ∧ (¬ ((57 : Int) < c) → ((1 = (0 : Int) ∨ 1 = (1 : Int)) ∧ Q (some (.inl 1)) st)))))
  refine ⟨fun h1 => ?_, fun h1 => ?_⟩
  · refine ⟨by omega, ?_⟩
    exact hQ _ (show ((0 : Int) = 0 ∨ (0 : Int) = 1) ∧ ((0 : Int) = 1 ↔ 48 ≤ c ∧ c ≤ 57) from by omega)
  · refine ⟨fun h2 => ?_, fun h2 => ?_⟩
    · refine ⟨by omega, ?_⟩
      exact hQ _ (show ((0 : Int) = 0 ∨ (0 : Int) = 1) ∧ ((0 : Int) = 1 ↔ 48 ≤ c ∧ c ≤ 57) from by omega)
    · refine ⟨by omega, ?_⟩
      exact hQ _ (show ((1 : Int) = 0 ∨ (1 : Int) = 1) ∧ ((1 : Int) = 1 ↔ 48 ≤ c ∧ c ≤ 57) from by omega)
theorem k_cIsDigit_m (hTb : aTb zSh rx_tb cl) {D : Nat} (hD : 1 ≤ D) : ∀ as st (Q Q' : zQ), (∀ r st', Q r st' → Q' r st') → k_cIsDigit 297 as st Q → cl D 297 as st Q' := by
  intro as st Q Q' hQ h
  unfold k_cIsDigit at h
  split at h
  · exact c_cIsDigit hTb hD (ct_cIsDigit_m hQ h)
  · exact h.elim
set_option maxHeartbeats 40000000 in
set_option maxRecDepth 100000 in
theorem c_cIsWN (hTb : aTb zSh rx_tb cl) {D : Nat} (hD : 1 ≤ D) {st : zS} {Q : zQ} (h : ct_cIsWN  st Q) : cl D 144 [.inr (.inr (.inl 149))] st Q := by
  obtain ⟨d, rfl⟩ : ∃ d, D = d + 1 := ⟨D - 1, by omega⟩
  refine hTb d 144 (rx_m144, 1, 0, 0, 2) rfl _ _ _ (Nat.le_of_ble_eq_true rfl) (fun K hcl hsf hsl => ?_)
  have hcm : zmo (zno) (cl d) := zno_m
  have hQ := h
  refine yr1_ok (Rt := Q) (wc := (zno)) (stp := []) hcm hcl [] 36 ?_
  show ((st 149 3 = (1 : Int) → ((1 = (0 : Int) ∨ 1 = (1 : Int)) ∧ Q (some (.inl 1)) st)) ∧ (¬ (st 149 3 = (1 : Int)) → ((st 149 3 = (2 : Int) → ((1 = (0 : Int) ∨ 1 = (1 : Int)) ∧ Q (some (.inl 1)) st)) ∧ (¬ (st 149 3 = (2 : Int)) → ((¬ st 149 3 = (3 : Int) → ((0 = (0 : Int) ∨ 0 = (1 : Int)) ∧ Q (some (.inl 0)) st)) ∧ (¬ (¬ st 149 3 = (3 : Int)) → ((1 = (0 : Int) ∨ 1 = (1 : Int)) ∧ Q (some (.inl 1)) st)))))))
  refine ⟨fun h1 => ?_, fun h1 => ?_⟩
  · refine ⟨by omega, ?_⟩
    exact hQ _ (show ((1 : Int) = 0 ∨ (1 : Int) = 1) ∧ ((1 : Int) = 1 ↔ 1 ≤ st 149 3 ∧ st 149 3 ≤ 3) from by omega)
  · refine ⟨fun h2 => ?_, fun h2 => ?_⟩
    · refine ⟨by omega, ?_⟩
      exact hQ _ (show ((1 : Int) = 0 ∨ (1 : Int) = 1) ∧ ((1 : Int) = 1 ↔ 1 ≤ st 149 3 ∧ st 149 3 ≤ 3) from by omega)
    · refine ⟨fun h3 => ?_, fun h3 => ?_⟩
      · refine ⟨by omega, ?_⟩
        exact hQ _ (show ((0 : Int) = 0 ∨ (0 : Int) = 1) ∧ ((0 : Int) = 1 ↔ 1 ≤ st 149 3 ∧ st 149 3 ≤ 3) from by omega)
      · refine ⟨by omega, ?_⟩
        exact hQ _ (show ((1 : Int) = 0 ∨ (1 : Int) = 1) ∧ ((1 : Int) = 1 ↔ 1 ≤ st 149 3 ∧ st 149 3 ≤ 3) from by omega)
theorem k_cIsWN_m (hTb : aTb zSh rx_tb cl) {D : Nat} (hD : 1 ≤ D) : ∀ as st (Q Q' : zQ), (∀ r st', Q r st' → Q' r st') → k_cIsWN 144 as st Q → cl D 144 as st Q' := by
  intro as st Q Q' hQ h
  unfold k_cIsWN at h
  split at h
  · obtain ⟨rfl, h⟩ := h
    exact c_cIsWN hTb hD (ct_cIsWN_m hQ h)
  · exact h.elim
set_option maxHeartbeats 40000000 in
set_option maxRecDepth 100000 in
theorem c_cLetNo (hTb : aTb zSh rx_tb cl) {D : Nat} (hD : 1 ≤ D) {c : Int} {st : zS} {Q : zQ} (h : ct_cLetNo c st Q) : cl D 9 [.inl c] st Q := by
  obtain ⟨d, rfl⟩ : ∃ d, D = d + 1 := ⟨D - 1, by omega⟩
  refine hTb d 9 (rx_m9, 1, 0, 0, 1) rfl _ _ _ (Nat.le_of_ble_eq_true rfl) (fun K hcl hsf hsl => ?_)
  have hcm : zmo (zno) (cl d) := zno_m
  obtain ⟨hR, hQ⟩ := h
  have hr0 := hR
  change -1 ≤ c ∧ c ≤ 255 at hr0
  refine yr1_ok (Rt := Q) (wc := (zno)) (stp := []) hcm hcl [] 26 ?_
  show ((-2147483648 ≤ c - 97 ∧ c - 97 ≤ 2147483647) ∧ ((-2147483648 ≤ (c - 97) + 1 ∧ (c - 97) + 1 ≤ 2147483647) ∧ Q (some (.inl ((c - 97) + 1))) st))
  refine ⟨by omega, ?_⟩
  refine ⟨by omega, ?_⟩
  exact hQ _ (show ((c - 97) + 1) = c - 96 from by omega)
theorem k_cLetNo_m (hTb : aTb zSh rx_tb cl) {D : Nat} (hD : 1 ≤ D) : ∀ as st (Q Q' : zQ), (∀ r st', Q r st' → Q' r st') → k_cLetNo 9 as st Q → cl D 9 as st Q' := by
  intro as st Q Q' hQ h
  unfold k_cLetNo at h
  split at h
  · exact c_cLetNo hTb hD (ct_cLetNo_m hQ h)
  · exact h.elim
set_option maxHeartbeats 40000000 in
set_option maxRecDepth 100000 in
theorem c_cFilled (hTb : aTb zSh rx_tb cl) {D : Nat} (hD : 1 ≤ D) {p l : Int} {st : zS} {Q : zQ} (h : ct_cFilled p l st Q) : cl D 31 [.inl p, .inl l] st Q := by
  obtain ⟨d, rfl⟩ : ∃ d, D = d + 1 := ⟨D - 1, by omega⟩
  refine hTb d 31 (rx_m31, 2, 0, 0, 1) rfl _ _ _ (Nat.le_of_ble_eq_true rfl) (fun K hcl hsf hsl => ?_)
  have hcm : zmo (zno) (cl d) := zno_m
  obtain ⟨hR, hQ⟩ := h
  have q := hR
  change (0 ≤ l ∧ l ≤ 6) ∧ 0 ≤ p ∧ p * 32 ^ (6 - l).toNat < 2147483648 at q
  refine yr1_ok (Rt := Q) (wc := (zno)) (stp := []) hcm hcl [] 28 ?_
  show ((-2147483648 ≤ (6 : Int) - l ∧ (6 : Int) - l ≤ 2147483647) ∧ ((-2147483648 ≤ (5 : Int) * ((6 : Int) - l) ∧ (5 : Int) * ((6 : Int) - l) ≤ 2147483647) ∧ Q (some (.inl (zd ((zi p * 2 ^ (zi ((5 : Int) * ((6 : Int) - l)) % 32)) % 4294967296)))) st))
  refine ⟨by omega, ?_⟩
  refine ⟨by omega, ?_⟩
  exact hQ _ (show (zd ((zi p * 2 ^ (zi ((5 : Int) * ((6 : Int) - l)) % 32)) % 4294967296)) = p * 32 ^ (6 - l).toNat from sh5 q.1 q.2.1 q.2.2)
theorem k_cFilled_m (hTb : aTb zSh rx_tb cl) {D : Nat} (hD : 1 ≤ D) : ∀ as st (Q Q' : zQ), (∀ r st', Q r st' → Q' r st') → k_cFilled 31 as st Q → cl D 31 as st Q' := by
  intro as st Q Q' hQ h
  unfold k_cFilled at h
  split at h
  · exact c_cFilled hTb hD (ct_cFilled_m hQ h)
  · exact h.elim
set_option maxHeartbeats 40000000 in
set_option maxRecDepth 100000 in
theorem c_cFindOwn (hTb : aTb zSh rx_tb cl) {D : Nat} (hD : 1 ≤ D) {st : zS} {Q : zQ} (h : ct_cFindOwn  st Q) : cl D 299 [.inr (.inr (.inl 149))] st Q := by
  obtain ⟨d, rfl⟩ : ∃ d, D = d + 1 := ⟨D - 1, by omega⟩
  refine hTb d 299 (rx_m299, 2, 0, 0, 0) rfl _ _ _ (Nat.le_of_ble_eq_true rfl) (fun K hcl hsf hsl => ?_)
  have hcm : zmo (zno) (cl d) := zno_m
  obtain ⟨hR, hQ⟩ := h
  have hG := hR
  have lp : ∀ (u : Nat) (k : Int), (0 ≤ k ∧ k ≤ 26) ∧ (∀ j : Int, 0 ≤ j → j < k → ¬ st 150 j.toNat = st 149 4) → (26 - k).toNat = u → K (rx_find rx_m299 2) [(1, .inl k), (0, .inr (.inr (.inl 149)))] [] st := by
    intro u
    induction u using Nat.strongRecOn with
    | _ u ih =>
      intro k hi hu
      obtain ⟨i_lp, n_lp⟩ := hi
      have g1 := g_wValue hG
      have g2 := g_wKind hG
      refine yr1_ok (Rt := Q) (wc := (zno)) (stp := [2]) hcm hcl [] 44 ?_
      show (((26 : Int) ≤ k → Q none st) ∧ (¬ ((26 : Int) ≤ k) → ((0 ≤ k ∧ k < 26) ∧ ((¬ st 150 (k : Int).toNat = st 149 4 → ((-2147483648 ≤ k + 1 ∧ k + 1 ≤ 2147483647) ∧ K (rx_find rx_m299 2) [(1, .inl (k + 1)), (0, .inr (.inr (.inl 149)))] [] st)) ∧ (¬ (¬ st 150 (k : Int).toNat = st 149 4) → Q none (zup (zup st 149 3 2) 149 4 k))))))
      refine ⟨fun h3 => ?_, fun h3 => ?_⟩
      · have g4 := g_ownW hG (st 149 4 : Int).toNat
        exact hQ _ ⟨hG, (fr_rf _ _), (show (st 149 3 = 2 ∧ 0 ≤ st 149 4 ∧ st 149 4 < 26 ∧ st 150 (st 149 4 : Int).toNat = st 149 4) ∨ (st 149 3 = st 149 3 ∧ st 149 4 = st 149 4 ∧ ∀ j : Int, 0 ≤ j → j < 26 → ¬ st 150 j.toNat = st 149 4) from Or.inr ⟨rfl, rfl, fun j z1 z2 => n_lp j z1 (by omega)⟩)⟩
      · have g5 := g_ownW hG (k : Int).toNat
        refine ⟨by omega, ?_⟩
        refine ⟨fun h6 => ?_, fun h6 => ?_⟩
        · refine ⟨by omega, ?_⟩
          exact ih _ (show (26 - (k + 1) : Int).toNat < u from by omega) (k + 1) ⟨(show 0 ≤ (k + 1) ∧ (k + 1) ≤ 26 from by omega), (show ∀ j : Int, 0 ≤ j → j < (k + 1) → ¬ st 150 j.toNat = st 149 4 from fun j z1 z2 => by
          by_cases z3 : j = k
          · rw [z3]; omega
          · exact n_lp j z1 (by omega))⟩ rfl
        · exact hQ _ ⟨(gInv_up (gInv_up hG (p_wKind (by omega))) (p_wValue (by omega))), (fr_f (fr_f (fr_rf _ _) rfl) rfl), (show (2 = 2 ∧ 0 ≤ k ∧ k < 26 ∧ st 150 (k : Int).toNat = st 149 4) ∨ (2 = st 149 3 ∧ k = st 149 4 ∧ ∀ j : Int, 0 ≤ j → j < 26 → ¬ st 150 j.toNat = st 149 4) from Or.inl ⟨rfl, by omega, by omega, by omega⟩)⟩
  refine yr1_ok (Rt := Q) (wc := (zno)) (stp := [2]) hcm hcl [] 44 ?_
  show K (rx_find rx_m299 2) [(1, .inl 0), (0, .inr (.inr (.inl 149)))] [] st
  have g7 := g_wValue hG
  exact lp _ 0 ⟨(show 0 ≤ (0 : Int) ∧ (0 : Int) ≤ 26 from by omega), (show ∀ j : Int, 0 ≤ j → j < (0 : Int) → ¬ st 150 j.toNat = st 149 4 from fun j z1 z2 => by omega)⟩ rfl
theorem k_cFindOwn_m (hTb : aTb zSh rx_tb cl) {D : Nat} (hD : 1 ≤ D) : ∀ as st (Q Q' : zQ), (∀ r st', Q r st' → Q' r st') → k_cFindOwn 299 as st Q → cl D 299 as st Q' := by
  intro as st Q Q' hQ h
  unfold k_cFindOwn at h
  split at h
  · obtain ⟨rfl, h⟩ := h
    exact c_cFindOwn hTb hD (ct_cFindOwn_m hQ h)
  · exact h.elim
end R92
