/-! printed by wip/p4/py/c1.py: small parts of the class's reader -/
theorem g_f148_1 {st : zS} (h : gInv zgt st) : st 148 1 = 122 ∨ st 148 1 = 135 := by
  obtain ⟨b, hb, hz⟩ := (show ∃ b ∈ ([(Int.ofNat 122, Int.ofNat 122), (Int.ofNat 135, Int.ofNat 135)] : List aB), b.1 ≤ st 148 1 ∧ st 148 1 ≤ b.2 from h 148 1)
  rcases List.mem_cons.mp hb with rfl | hb
  · exact Or.inl (by have h1 : (122 : Int) ≤ st 148 1 := hz.1; have h2 : st 148 1 ≤ (122 : Int) := hz.2; omega)
  · rcases List.mem_singleton.mp hb with rfl
    exact Or.inr (by have h1 : (135 : Int) ≤ st 148 1 := hz.1; have h2 : st 148 1 ≤ (135 : Int) := hz.2; omega)
theorem p_f148_1 {z : Int} (h : z = 122 ∨ z = 135) : gok zgt 148 1 z := by
  rcases h with rfl | rfl
  · exact ⟨(.ofNat 122, .ofNat 122), List.mem_cons_self, by decide, by decide⟩
  · exact ⟨(.ofNat 135, .ofNat 135), List.mem_cons_of_mem _ List.mem_cons_self, by decide, by decide⟩
theorem g_f148_2 {st : zS} (h : gInv zgt st) : (0 : Int) ≤ st 148 2 ∧ st 148 2 ≤ 1 := gof (lo := 0) (hi := 1) (h 148 2)
theorem p_f148_2 {z : Int} (h : (0 : Int) ≤ z ∧ z ≤ 1) : gok zgt 148 2 z := ⟨(.ofNat 0, .ofNat 1), List.mem_singleton.mpr rfl, h.1, h.2⟩
theorem or16 {p c : Int} (hp : 0 ≤ p ∧ p < 32768) (hc : 0 ≤ c ∧ c < 65536) : zd (Nat.lor (zi (zd ((zi p * 2 ^ (zi 16 % 32)) % 4294967296))) (zi c)) = 65536 * p + c := by
  have e1 : zi p = p.toNat := zi_nn hp.1 (by omega)
  have e2 : zi c = c.toNat := zi_nn hc.1 (by omega)
  have e3 : (zi p * 2 ^ (zi 16 % 32)) % 4294967296 = 2 ^ 16 * p.toNat := by
    rw [e1]
    show (p.toNat * 65536) % 4294967296 = 65536 * p.toNat
    omega
  rw [e3, zi_zd (show 2 ^ 16 * p.toNat < 4294967296 by show 65536 * p.toNat < 4294967296; omega), e2]
  have e4 : Nat.lor (2 ^ 16 * p.toNat) c.toNat = 2 ^ 16 * p.toNat + c.toNat := (Nat.two_pow_add_eq_or_of_lt (i := 16) (b := c.toNat) (show c.toNat < 65536 by omega) p.toNat).symm
  rw [e4]
  unfold zd
  rw [zblt, decide_eq_true (show 2 ^ 16 * p.toNat + c.toNat < 2147483648 by show 65536 * p.toNat + c.toNat < 2147483648; omega)]
  show ((65536 * p.toNat + c.toNat : Nat) : Int) = 65536 * p + c
  omega
theorem CDA_f {n0 n1 n2 : Int} {f0 f1 f2 : Nat → Int} {c : List Int} (h : CDA n0 n1 f0 f1 c) (e : n2 = n1) (f : f2 = f1) : CDA n0 n2 f0 f2 c := by
  rw [e, f]
  exact h
theorem CDA_c {n0 n1 : Int} {f0 f1 : Nat → Int} {c c' : List Int} (h : CDA n0 n1 f0 f1 c) (e : c = c') : CDA n0 n1 f0 f1 c' := e ▸ h
def en_cIsOwn (w : Int) (st : zS) (r : Int) : Prop := ((r = 0 ∨ r = 1) ∧ (r = 1 ↔ st 149 3 = 2 ∧ st 149 4 = w))
def ct_cIsOwn (w : Int) (st : zS) (Q : zQ) : Prop := ∀ (r : Int), en_cIsOwn w st r → Q (some (.inl r)) st
theorem ct_cIsOwn_m {w : Int} {st : zS} {Q Q' : zQ} (hQ : ∀ r st', Q r st' → Q' r st') (h : ct_cIsOwn w st Q) : ct_cIsOwn w st Q' := fun x0 x1 => hQ _ _ (h x0 x1)
def k_cIsOwn : zCall := fun _ as st Q => match as with
  | [.inr (.inr (.inl z_o)), .inl w] => z_o = 149 ∧ ct_cIsOwn w st Q
  | _ => False
def en_cIsSign (w : Int) (st : zS) (r : Int) : Prop := ((r = 0 ∨ r = 1) ∧ (r = 1 ↔ st 149 3 = 4 ∧ st 149 4 = w))
def ct_cIsSign (w : Int) (st : zS) (Q : zQ) : Prop := ∀ (r : Int), en_cIsSign w st r → Q (some (.inl r)) st
theorem ct_cIsSign_m {w : Int} {st : zS} {Q Q' : zQ} (hQ : ∀ r st', Q r st' → Q' r st') (h : ct_cIsSign w st Q) : ct_cIsSign w st Q' := fun x0 x1 => hQ _ _ (h x0 x1)
def k_cIsSign : zCall := fun _ as st Q => match as with
  | [.inr (.inr (.inl z_o)), .inl w] => z_o = 149 ∧ ct_cIsSign w st Q
  | _ => False
def rq_cCodeOf (w : Int) (a : Int) (st : zS) : Prop := ((0 ≤ w ∧ w ≤ 255) ∧ 0 ≤ a ∧ a ≤ 9999)
def en_cCodeOf (w : Int) (a : Int) (st : zS) (r : Int) : Prop := (r = 65536 * w + a)
def ct_cCodeOf (w : Int) (a : Int) (st : zS) (Q : zQ) : Prop := rq_cCodeOf w a st ∧ (∀ (r : Int), en_cCodeOf w a st r → Q (some (.inl r)) st)
theorem ct_cCodeOf_m {w a : Int} {st : zS} {Q Q' : zQ} (hQ : ∀ r st', Q r st' → Q' r st') (h : ct_cCodeOf w a st Q) : ct_cCodeOf w a st Q' := ⟨h.1, fun x0 x1 => hQ _ _ (h.2 x0 x1)⟩
def k_cCodeOf : zCall := fun _ as st Q => match as with
  | [.inl w, .inl a] => ct_cCodeOf w a st Q
  | _ => False
def rq_cWrong (nu : Int) (ax : Int) (st : zS) : Prop := gInv zgt st ∧ (-2147483648 ≤ nu ∧ nu ≤ 2147483647 ∧ -2147483648 ≤ ax ∧ ax ≤ 2147483647)
def ct_cWrong (nu : Int) (ax : Int) (st : zS) (Q : zQ) : Prop := rq_cWrong nu ax st ∧ Q (some (.inl 0)) (zup (zup st 148 3 nu) 148 4 ax)
theorem ct_cWrong_m {nu ax : Int} {st : zS} {Q Q' : zQ} (hQ : ∀ r st', Q r st' → Q' r st') (h : ct_cWrong nu ax st Q) : ct_cWrong nu ax st Q' := ⟨h.1, hQ _ _ (h.2)⟩
def k_cWrong : zCall := fun _ as st Q => match as with
  | [.inr (.inr (.inl z_o)), .inl nu, .inl ax] => z_o = 148 ∧ ct_cWrong nu ax st Q
  | _ => False
def rq_cUnfit  (st : zS) : Prop := gInv zgt st
def ct_cUnfit  (st : zS) (Q : zQ) : Prop := rq_cUnfit  st ∧ Q (some (.inl 0)) (zup (zup st 148 3 1) 148 4 (st 149 6))
theorem ct_cUnfit_m {st : zS} {Q Q' : zQ} (hQ : ∀ r st', Q r st' → Q' r st') (h : ct_cUnfit  st Q) : ct_cUnfit  st Q' := ⟨h.1, hQ _ _ (h.2)⟩
def k_cUnfit : zCall := fun _ as st Q => match as with
  | [.inr (.inr (.inl z_o))] => z_o = 148 ∧ ct_cUnfit  st Q
  | _ => False
def m_cTakeOwn : aM := ([(148, 3), (148, 4), (149, 2), (149, 3), (149, 4), (149, 5), (149, 6)], [])
def rq_cTakeOwn (w : Int) (st : zS) : Prop := gInv zgt st ∧ (RDc st)
def en_cTakeOwn (w : Int) (st : zS) (r : Int) (s1 : zS) : Prop := gInv zgt s1 ∧ aFr m_cTakeOwn st s1 ∧ ((r = 1 ∧ st 149 3 = 2 ∧ st 149 4 = w ∧ RDc s1 ∧ NX st s1) ∨ (r = 0 ∧ ¬ (st 149 3 = 2 ∧ st 149 4 = w)))
def ct_cTakeOwn (w : Int) (st : zS) (Q : zQ) : Prop := rq_cTakeOwn w st ∧ (∀ (r : Int) (s1 : zS), en_cTakeOwn w st r s1 → Q (some (.inl r)) s1)
theorem ct_cTakeOwn_m {w : Int} {st : zS} {Q Q' : zQ} (hQ : ∀ r st', Q r st' → Q' r st') (h : ct_cTakeOwn w st Q) : ct_cTakeOwn w st Q' := ⟨h.1, fun x0 x1 x2 => hQ _ _ (h.2 x0 x1 x2)⟩
def k_cTakeOwn : zCall := fun _ as st Q => match as with
  | [.inr (.inr (.inl z_o)), .inl w] => z_o = 148 ∧ ct_cTakeOwn w st Q
  | _ => False
def m_cTakeSign : aM := ([(148, 3), (148, 4), (149, 2), (149, 3), (149, 4), (149, 5), (149, 6)], [])
def rq_cTakeSign (w : Int) (st : zS) : Prop := gInv zgt st ∧ (RDc st)
def en_cTakeSign (w : Int) (st : zS) (r : Int) (s1 : zS) : Prop := gInv zgt s1 ∧ aFr m_cTakeSign st s1 ∧ ((r = 1 ∧ st 149 3 = 4 ∧ st 149 4 = w ∧ RDc s1 ∧ NX st s1) ∨ (r = 0 ∧ ¬ (st 149 3 = 4 ∧ st 149 4 = w)))
def ct_cTakeSign (w : Int) (st : zS) (Q : zQ) : Prop := rq_cTakeSign w st ∧ (∀ (r : Int) (s1 : zS), en_cTakeSign w st r s1 → Q (some (.inl r)) s1)
theorem ct_cTakeSign_m {w : Int} {st : zS} {Q Q' : zQ} (hQ : ∀ r st', Q r st' → Q' r st') (h : ct_cTakeSign w st Q) : ct_cTakeSign w st Q' := ⟨h.1, fun x0 x1 x2 => hQ _ _ (h.2 x0 x1 x2)⟩
def k_cTakeSign : zCall := fun _ as st Q => match as with
  | [.inr (.inr (.inl z_o)), .inl w] => z_o = 148 ∧ ct_cTakeSign w st Q
  | _ => False
def m_cTakeOpen : aM := ([(148, 3), (148, 4), (149, 2), (149, 3), (149, 4), (149, 5), (149, 6)], [])
def rq_cTakeOpen (w : Int) (a : Int) (st : zS) : Prop := gInv zgt st ∧ (RDc st) ∧ ((w = 0 ∨ w = 1) ∧ (w = 1 → 1 ≤ st 149 3 ∧ st 149 3 ≤ 4))
def en_cTakeOpen (w : Int) (a : Int) (st : zS) (r : Int) (s1 : zS) : Prop := gInv zgt s1 ∧ aFr m_cTakeOpen st s1 ∧ ((r = 1 ∧ w = 1 ∧ a < 7 ∧ RDc s1 ∧ NX st s1) ∨ (r = 0 ∧ (w = 0 ∨ 7 ≤ a)))
def ct_cTakeOpen (w : Int) (a : Int) (st : zS) (Q : zQ) : Prop := rq_cTakeOpen w a st ∧ (∀ (r : Int) (s1 : zS), en_cTakeOpen w a st r s1 → Q (some (.inl r)) s1)
theorem ct_cTakeOpen_m {w a : Int} {st : zS} {Q Q' : zQ} (hQ : ∀ r st', Q r st' → Q' r st') (h : ct_cTakeOpen w a st Q) : ct_cTakeOpen w a st Q' := ⟨h.1, fun x0 x1 x2 => hQ _ _ (h.2 x0 x1 x2)⟩
def k_cTakeOpen : zCall := fun _ as st Q => match as with
  | [.inr (.inr (.inl z_o)), .inl w, .inl a] => z_o = 148 ∧ ct_cTakeOpen w a st Q
  | _ => False
section R9h
variable {cl : Nat → zCall}
set_option maxHeartbeats 40000000 in
set_option maxRecDepth 100000 in
theorem c_cIsOwn (hTb : aTb zSh rx_tb cl) {D : Nat} (hD : 1 ≤ D) {w : Int} {st : zS} {Q : zQ} (h : ct_cIsOwn w st Q) : cl D 301 [.inr (.inr (.inl 149)), .inl w] st Q := by
  obtain ⟨d, rfl⟩ : ∃ d, D = d + 1 := ⟨D - 1, by omega⟩
  refine hTb d 301 (rx_m301, 2, 0, 0, 2) rfl _ _ _ (Nat.le_of_ble_eq_true rfl) (fun K hcl hsf hsl => ?_)
  have hcm : zmo (zno) (cl d) := zno_m
  have hQ := h
  refine yr1_ok (Rt := Q) (wc := (zno)) (stp := []) hcm hcl [] 32 ?_
  show ((¬ st 149 3 = (2 : Int) → ((0 = (0 : Int) ∨ 0 = (1 : Int)) ∧ Q (some (.inl 0)) st)) ∧ (¬ (¬ st 149 3 = (2 : Int)) → ((¬ st 149 4 = w → ((0 = (0 : Int) ∨ 0 = (1 : Int)) ∧ Q (some (.inl 0)) st)) ∧ (¬ (¬ st 149 4 = w) → ((1 = (0 : Int) ∨ 1 = (1 : Int)) ∧ Q (some (.inl 1)) st)))))
  refine ⟨fun h1 => ?_, fun h1 => ?_⟩
  · refine ⟨by omega, ?_⟩
    exact hQ _ (show ((0 : Int) = 0 ∨ (0 : Int) = 1) ∧ ((0 : Int) = 1 ↔ st 149 3 = 2 ∧ st 149 4 = w) from by omega)
  · refine ⟨fun h2 => ?_, fun h2 => ?_⟩
    · refine ⟨by omega, ?_⟩
      exact hQ _ (show ((0 : Int) = 0 ∨ (0 : Int) = 1) ∧ ((0 : Int) = 1 ↔ st 149 3 = 2 ∧ st 149 4 = w) from by omega)
    · refine ⟨by omega, ?_⟩
      exact hQ _ (show ((1 : Int) = 0 ∨ (1 : Int) = 1) ∧ ((1 : Int) = 1 ↔ st 149 3 = 2 ∧ st 149 4 = w) from by omega)
theorem k_cIsOwn_m (hTb : aTb zSh rx_tb cl) {D : Nat} (hD : 1 ≤ D) : ∀ as st (Q Q' : zQ), (∀ r st', Q r st' → Q' r st') → k_cIsOwn 301 as st Q → cl D 301 as st Q' := by
  intro as st Q Q' hQ h
  unfold k_cIsOwn at h
  split at h
  · obtain ⟨rfl, h⟩ := h
    exact c_cIsOwn hTb hD (ct_cIsOwn_m hQ h)
  · exact h.elim
set_option maxHeartbeats 40000000 in
set_option maxRecDepth 100000 in
theorem c_cIsSign (hTb : aTb zSh rx_tb cl) {D : Nat} (hD : 1 ≤ D) {w : Int} {st : zS} {Q : zQ} (h : ct_cIsSign w st Q) : cl D 302 [.inr (.inr (.inl 149)), .inl w] st Q := by
  obtain ⟨d, rfl⟩ : ∃ d, D = d + 1 := ⟨D - 1, by omega⟩
  refine hTb d 302 (rx_m302, 2, 0, 0, 2) rfl _ _ _ (Nat.le_of_ble_eq_true rfl) (fun K hcl hsf hsl => ?_)
  have hcm : zmo (zno) (cl d) := zno_m
  have hQ := h
  refine yr1_ok (Rt := Q) (wc := (zno)) (stp := []) hcm hcl [] 32 ?_
  show ((¬ st 149 3 = (4 : Int) → ((0 = (0 : Int) ∨ 0 = (1 : Int)) ∧ Q (some (.inl 0)) st)) ∧ (¬ (¬ st 149 3 = (4 : Int)) → ((¬ st 149 4 = w → ((0 = (0 : Int) ∨ 0 = (1 : Int)) ∧ Q (some (.inl 0)) st)) ∧ (¬ (¬ st 149 4 = w) → ((1 = (0 : Int) ∨ 1 = (1 : Int)) ∧ Q (some (.inl 1)) st)))))
  refine ⟨fun h1 => ?_, fun h1 => ?_⟩
  · refine ⟨by omega, ?_⟩
    exact hQ _ (show ((0 : Int) = 0 ∨ (0 : Int) = 1) ∧ ((0 : Int) = 1 ↔ st 149 3 = 4 ∧ st 149 4 = w) from by omega)
  · refine ⟨fun h2 => ?_, fun h2 => ?_⟩
    · refine ⟨by omega, ?_⟩
      exact hQ _ (show ((0 : Int) = 0 ∨ (0 : Int) = 1) ∧ ((0 : Int) = 1 ↔ st 149 3 = 4 ∧ st 149 4 = w) from by omega)
    · refine ⟨by omega, ?_⟩
      exact hQ _ (show ((1 : Int) = 0 ∨ (1 : Int) = 1) ∧ ((1 : Int) = 1 ↔ st 149 3 = 4 ∧ st 149 4 = w) from by omega)
theorem k_cIsSign_m (hTb : aTb zSh rx_tb cl) {D : Nat} (hD : 1 ≤ D) : ∀ as st (Q Q' : zQ), (∀ r st', Q r st' → Q' r st') → k_cIsSign 302 as st Q → cl D 302 as st Q' := by
  intro as st Q Q' hQ h
  unfold k_cIsSign at h
  split at h
  · obtain ⟨rfl, h⟩ := h
    exact c_cIsSign hTb hD (ct_cIsSign_m hQ h)
  · exact h.elim
set_option maxHeartbeats 40000000 in
set_option maxRecDepth 100000 in
theorem c_cCodeOf (hTb : aTb zSh rx_tb cl) {D : Nat} (hD : 1 ≤ D) {w a : Int} {st : zS} {Q : zQ} (h : ct_cCodeOf w a st Q) : cl D 272 [.inl w, .inl a] st Q := by
  obtain ⟨d, rfl⟩ : ∃ d, D = d + 1 := ⟨D - 1, by omega⟩
  refine hTb d 272 (rx_m272, 2, 0, 0, 1) rfl _ _ _ (Nat.le_of_ble_eq_true rfl) (fun K hcl hsf hsl => ?_)
  have hcm : zmo (zno) (cl d) := zno_m
  obtain ⟨hR, hQ⟩ := h
  have q := hR
  change (0 ≤ w ∧ w ≤ 255) ∧ 0 ≤ a ∧ a ≤ 9999 at q
  refine yr1_ok (Rt := Q) (wc := (zno)) (stp := []) hcm hcl [] 26 ?_
  show Q (some (.inl (zd (Nat.lor (zi (zd ((zi w * 2 ^ (zi 16 % 32)) % 4294967296))) (zi a))))) st
  exact hQ _ (show (zd (Nat.lor (zi (zd ((zi w * 2 ^ (zi 16 % 32)) % 4294967296))) (zi a))) = 65536 * w + a from or16 ⟨q.1.1, by omega⟩ ⟨q.2.1, by omega⟩)
theorem k_cCodeOf_m (hTb : aTb zSh rx_tb cl) {D : Nat} (hD : 1 ≤ D) : ∀ as st (Q Q' : zQ), (∀ r st', Q r st' → Q' r st') → k_cCodeOf 272 as st Q → cl D 272 as st Q' := by
  intro as st Q Q' hQ h
  unfold k_cCodeOf at h
  split at h
  · exact c_cCodeOf hTb hD (ct_cCodeOf_m hQ h)
  · exact h.elim
set_option maxHeartbeats 40000000 in
set_option maxRecDepth 100000 in
theorem c_cWrong (hTb : aTb zSh rx_tb cl) {D : Nat} (hD : 1 ≤ D) {nu ax : Int} {st : zS} {Q : zQ} (h : ct_cWrong nu ax st Q) : cl D 235 [.inr (.inr (.inl 148)), .inl nu, .inl ax] st Q := by
  obtain ⟨d, rfl⟩ : ∃ d, D = d + 1 := ⟨D - 1, by omega⟩
  refine hTb d 235 (rx_m235, 3, 0, 0, 2) rfl _ _ _ (Nat.le_of_ble_eq_true rfl) (fun K hcl hsf hsl => ?_)
  have hcm : zmo (zno) (cl d) := zno_m
  obtain ⟨hR, hQ⟩ := h
  obtain ⟨hG, hr1⟩ := hR
  change -2147483648 ≤ nu ∧ nu ≤ 2147483647 ∧ -2147483648 ≤ ax ∧ ax ≤ 2147483647 at hr1
  refine yr1_ok (Rt := Q) (wc := (zno)) (stp := []) hcm hcl [] 28 ?_
  show ((0 = (0 : Int) ∨ 0 = (1 : Int)) ∧ Q (some (.inl 0)) (zup (zup st 148 3 nu) 148 4 ax))
  refine ⟨by omega, ?_⟩
  exact hQ
theorem k_cWrong_m (hTb : aTb zSh rx_tb cl) {D : Nat} (hD : 1 ≤ D) : ∀ as st (Q Q' : zQ), (∀ r st', Q r st' → Q' r st') → k_cWrong 235 as st Q → cl D 235 as st Q' := by
  intro as st Q Q' hQ h
  unfold k_cWrong at h
  split at h
  · obtain ⟨rfl, h⟩ := h
    exact c_cWrong hTb hD (ct_cWrong_m hQ h)
  · exact h.elim
set_option maxHeartbeats 40000000 in
set_option maxRecDepth 100000 in
theorem c_cUnfit (hTb : aTb zSh rx_tb cl) {D : Nat} (hD : 2 ≤ D) {st : zS} {Q : zQ} (h : ct_cUnfit  st Q) : cl D 236 [.inr (.inr (.inl 148))] st Q := by
  obtain ⟨d, rfl⟩ : ∃ d, D = d + 1 := ⟨D - 1, by omega⟩
  refine hTb d 236 (rx_m236, 1, 0, 0, 2) rfl _ _ _ (Nat.le_of_ble_eq_true rfl) (fun K hcl hsf hsl => ?_)
  have hcm : zmo (wcL [(235, k_cWrong)]) (cl d) := (wcL_m (wm_cons (k_cWrong_m hTb (by omega)) wm_nil))
  obtain ⟨hR, hQ⟩ := h
  have hG := hR
  have g1 := g_wSpot hG
  refine yr1_ok (Rt := Q) (wc := (wcL [(235, k_cWrong)])) (stp := []) hcm hcl [] 27 ?_
  show (148 = 148 ∧ (rq_cWrong (1) (st 149 6) st ∧ (((0 = (0 : Int) ∨ 0 = (1 : Int)) ∧ Q (some (.inl 0)) (zup (zup st 148 3 (1)) 148 4 (st 149 6))))))
  refine ⟨rfl, ⟨hG, (show -2147483648 ≤ (1) ∧ (1) ≤ 2147483647 ∧ -2147483648 ≤ (st 149 6) ∧ (st 149 6) ≤ 2147483647 from by omega)⟩, ?_⟩
  refine ⟨by omega, ?_⟩
  exact hQ
theorem k_cUnfit_m (hTb : aTb zSh rx_tb cl) {D : Nat} (hD : 2 ≤ D) : ∀ as st (Q Q' : zQ), (∀ r st', Q r st' → Q' r st') → k_cUnfit 236 as st Q → cl D 236 as st Q' := by
  intro as st Q Q' hQ h
  unfold k_cUnfit at h
  split at h
  · obtain ⟨rfl, h⟩ := h
    exact c_cUnfit hTb hD (ct_cUnfit_m hQ h)
  · exact h.elim
set_option maxHeartbeats 40000000 in
set_option maxRecDepth 100000 in
theorem c_cTakeOwn (hTb : aTb zSh rx_tb cl) {D : Nat} (hD : 4 ≤ D) {w : Int} {st : zS} {Q : zQ} (h : ct_cTakeOwn w st Q) : cl D 250 [.inr (.inr (.inl 148)), .inl w] st Q := by
  obtain ⟨d, rfl⟩ : ∃ d, D = d + 1 := ⟨D - 1, by omega⟩
  refine hTb d 250 (rx_m250, 2, 0, 0, 2) rfl _ _ _ (Nat.le_of_ble_eq_true rfl) (fun K hcl hsf hsl => ?_)
  have hcm : zmo (wcL [(301, k_cIsOwn), (236, k_cUnfit), (143, k_cNext)]) (cl d) := (wcL_m (wm_cons (k_cIsOwn_m hTb (by omega)) (wm_cons (k_cUnfit_m hTb (by omega)) (wm_cons (k_cNext_m hTb (by omega)) wm_nil))))
  obtain ⟨hR, hQ⟩ := h
  obtain ⟨hG, rd⟩ := hR
  change RDc st at rd
  have g1 := g_wKind hG
  have g2 := g_wValue hG
  refine yr1_ok (Rt := Q) (wc := (wcL [(301, k_cIsOwn), (236, k_cUnfit), (143, k_cNext)])) (stp := []) hcm hcl [] 33 ?_
  show (149 = 149 ∧ (∀ (r3 : Int), en_cIsOwn w st r3 → ((¬ r3 = (0 : Int) → (149 = 149 ∧ (rq_cNext  st ∧ (∀ (s4 : zS), en_cNext  st s4 → ((1 = (0 : Int) ∨ 1 = (1 : Int)) ∧ Q (some (.inl 1)) s4))))) ∧ (¬ (¬ r3 = (0 : Int)) → (148 = 148 ∧ (rq_cUnfit  st ∧ (((0 = (0 : Int) ∨ 0 = (1 : Int)) ∧ Q (some (.inl 0)) (zup (zup st 148 3 1) 148 4 (st 149 6))))))))))
  refine ⟨rfl, fun r3 q3 => ?_⟩
  have b3 := q3
  change (r3 = 0 ∨ r3 = 1) ∧ (r3 = 1 ↔ st 149 3 = 2 ∧ st 149 4 = w) at b3
  refine ⟨fun h6 => ?_, fun h6 => ?_⟩
  · refine ⟨rfl, ⟨hG, (show RDc st from rd), (show 1 ≤ st 149 3 ∧ st 149 3 ≤ 4 from by omega)⟩, fun s4 q4 => ?_⟩
    obtain ⟨gs4, fs4, rd4, nx4⟩ := q4
    change RDc s4 at rd4
    change NX st s4 at nx4
    refine ⟨by omega, ?_⟩
    exact hQ _ _ ⟨gs4, (fr_tr (fr_rf _ _) fs4 rfl), (show ((1 : Int) = 1 ∧ st 149 3 = 2 ∧ st 149 4 = w ∧ RDc s4 ∧ NX st s4) ∨ ((1 : Int) = 0 ∧ ¬ (st 149 3 = 2 ∧ st 149 4 = w)) from Or.inl ⟨rfl, by omega, by omega, rd4, nx4⟩)⟩
  · have g7 := g_wSpot hG
    refine ⟨rfl, hG, ?_⟩
    refine ⟨by omega, ?_⟩
    exact hQ _ _ ⟨(gInv_up (gInv_up hG (p_rFault (by omega))) (p_rFaultAt (by omega))), (fr_f (fr_f (fr_rf _ _) rfl) rfl), (show ((0 : Int) = 1 ∧ st 149 3 = 2 ∧ st 149 4 = w ∧ RDc (zup (zup st 148 3 1) 148 4 (st 149 6)) ∧ NX st (zup (zup st 148 3 1) 148 4 (st 149 6))) ∨ ((0 : Int) = 0 ∧ ¬ (st 149 3 = 2 ∧ st 149 4 = w)) from Or.inr ⟨rfl, by omega⟩)⟩
theorem k_cTakeOwn_m (hTb : aTb zSh rx_tb cl) {D : Nat} (hD : 4 ≤ D) : ∀ as st (Q Q' : zQ), (∀ r st', Q r st' → Q' r st') → k_cTakeOwn 250 as st Q → cl D 250 as st Q' := by
  intro as st Q Q' hQ h
  unfold k_cTakeOwn at h
  split at h
  · obtain ⟨rfl, h⟩ := h
    exact c_cTakeOwn hTb hD (ct_cTakeOwn_m hQ h)
  · exact h.elim
set_option maxHeartbeats 40000000 in
set_option maxRecDepth 100000 in
theorem c_cTakeSign (hTb : aTb zSh rx_tb cl) {D : Nat} (hD : 4 ≤ D) {w : Int} {st : zS} {Q : zQ} (h : ct_cTakeSign w st Q) : cl D 251 [.inr (.inr (.inl 148)), .inl w] st Q := by
  obtain ⟨d, rfl⟩ : ∃ d, D = d + 1 := ⟨D - 1, by omega⟩
  refine hTb d 251 (rx_m251, 2, 0, 0, 2) rfl _ _ _ (Nat.le_of_ble_eq_true rfl) (fun K hcl hsf hsl => ?_)
  have hcm : zmo (wcL [(302, k_cIsSign), (236, k_cUnfit), (143, k_cNext)]) (cl d) := (wcL_m (wm_cons (k_cIsSign_m hTb (by omega)) (wm_cons (k_cUnfit_m hTb (by omega)) (wm_cons (k_cNext_m hTb (by omega)) wm_nil))))
  obtain ⟨hR, hQ⟩ := h
  obtain ⟨hG, rd⟩ := hR
  change RDc st at rd
  have g1 := g_wKind hG
  have g2 := g_wValue hG
  refine yr1_ok (Rt := Q) (wc := (wcL [(302, k_cIsSign), (236, k_cUnfit), (143, k_cNext)])) (stp := []) hcm hcl [] 33 ?_
  show (149 = 149 ∧ (∀ (r3 : Int), en_cIsSign w st r3 → ((¬ r3 = (0 : Int) → (149 = 149 ∧ (rq_cNext  st ∧ (∀ (s4 : zS), en_cNext  st s4 → ((1 = (0 : Int) ∨ 1 = (1 : Int)) ∧ Q (some (.inl 1)) s4))))) ∧ (¬ (¬ r3 = (0 : Int)) → (148 = 148 ∧ (rq_cUnfit  st ∧ (((0 = (0 : Int) ∨ 0 = (1 : Int)) ∧ Q (some (.inl 0)) (zup (zup st 148 3 1) 148 4 (st 149 6))))))))))
  refine ⟨rfl, fun r3 q3 => ?_⟩
  have b3 := q3
  change (r3 = 0 ∨ r3 = 1) ∧ (r3 = 1 ↔ st 149 3 = 4 ∧ st 149 4 = w) at b3
  refine ⟨fun h6 => ?_, fun h6 => ?_⟩
  · refine ⟨rfl, ⟨hG, (show RDc st from rd), (show 1 ≤ st 149 3 ∧ st 149 3 ≤ 4 from by omega)⟩, fun s4 q4 => ?_⟩
    obtain ⟨gs4, fs4, rd4, nx4⟩ := q4
    change RDc s4 at rd4
    change NX st s4 at nx4
    refine ⟨by omega, ?_⟩
    exact hQ _ _ ⟨gs4, (fr_tr (fr_rf _ _) fs4 rfl), (show ((1 : Int) = 1 ∧ st 149 3 = 4 ∧ st 149 4 = w ∧ RDc s4 ∧ NX st s4) ∨ ((1 : Int) = 0 ∧ ¬ (st 149 3 = 4 ∧ st 149 4 = w)) from Or.inl ⟨rfl, by omega, by omega, rd4, nx4⟩)⟩
  · have g7 := g_wSpot hG
    refine ⟨rfl, hG, ?_⟩
    refine ⟨by omega, ?_⟩
    exact hQ _ _ ⟨(gInv_up (gInv_up hG (p_rFault (by omega))) (p_rFaultAt (by omega))), (fr_f (fr_f (fr_rf _ _) rfl) rfl), (show ((0 : Int) = 1 ∧ st 149 3 = 4 ∧ st 149 4 = w ∧ RDc (zup (zup st 148 3 1) 148 4 (st 149 6)) ∧ NX st (zup (zup st 148 3 1) 148 4 (st 149 6))) ∨ ((0 : Int) = 0 ∧ ¬ (st 149 3 = 4 ∧ st 149 4 = w)) from Or.inr ⟨rfl, by omega⟩)⟩
theorem k_cTakeSign_m (hTb : aTb zSh rx_tb cl) {D : Nat} (hD : 4 ≤ D) : ∀ as st (Q Q' : zQ), (∀ r st', Q r st' → Q' r st') → k_cTakeSign 251 as st Q → cl D 251 as st Q' := by
  intro as st Q Q' hQ h
  unfold k_cTakeSign at h
  split at h
  · obtain ⟨rfl, h⟩ := h
    exact c_cTakeSign hTb hD (ct_cTakeSign_m hQ h)
  · exact h.elim
set_option maxHeartbeats 40000000 in
set_option maxRecDepth 100000 in
theorem c_cTakeOpen (hTb : aTb zSh rx_tb cl) {D : Nat} (hD : 4 ≤ D) {w a : Int} {st : zS} {Q : zQ} (h : ct_cTakeOpen w a st Q) : cl D 252 [.inr (.inr (.inl 148)), .inl w, .inl a] st Q := by
  obtain ⟨d, rfl⟩ : ∃ d, D = d + 1 := ⟨D - 1, by omega⟩
  refine hTb d 252 (rx_m252, 3, 0, 0, 2) rfl _ _ _ (Nat.le_of_ble_eq_true rfl) (fun K hcl hsf hsl => ?_)
  have hcm : zmo (wcL [(236, k_cUnfit), (235, k_cWrong), (143, k_cNext)]) (cl d) := (wcL_m (wm_cons (k_cUnfit_m hTb (by omega)) (wm_cons (k_cWrong_m hTb (by omega)) (wm_cons (k_cNext_m hTb (by omega)) wm_nil))))
  obtain ⟨hR, hQ⟩ := h
  obtain ⟨hG, rd, h⟩ := hR
  change RDc st at rd
  change (w = 0 ∨ w = 1) ∧ (w = 1 → 1 ≤ st 149 3 ∧ st 149 3 ≤ 4) at h
  have g1 := g_wKind hG
  have g2 := g_wValue hG
  refine yr1_ok (Rt := Q) (wc := (wcL [(236, k_cUnfit), (235, k_cWrong), (143, k_cNext)])) (stp := []) hcm hcl [] 40 ?_
  show ((¬ w = (0 : Int) → ((a < (7 : Int) → (149 = 149 ∧ (rq_cNext  st ∧ (∀ (s3 : zS), en_cNext  st s3 → ((1 = (0 : Int) ∨ 1 = (1 : Int)) ∧ Q (some (.inl 1)) s3))))) ∧ (¬ (a < (7 : Int)) → (148 = 148 ∧ (rq_cWrong (5) (st 149 5) st ∧ (((0 = (0 : Int) ∨ 0 = (1 : Int)) ∧ Q (some (.inl 0)) (zup (zup st 148 3 (5)) 148 4 (st 149 5))))))))) ∧ (¬ (¬ w = (0 : Int)) → (148 = 148 ∧ (rq_cUnfit  st ∧ (((0 = (0 : Int) ∨ 0 = (1 : Int)) ∧ Q (some (.inl 0)) (zup (zup st 148 3 1) 148 4 (st 149 6))))))))
  refine ⟨fun h6 => ?_, fun h6 => ?_⟩
  · refine ⟨fun h7 => ?_, fun h7 => ?_⟩
    · refine ⟨rfl, ⟨hG, (show RDc st from rd), (show 1 ≤ st 149 3 ∧ st 149 3 ≤ 4 from by omega)⟩, fun s3 q3 => ?_⟩
      obtain ⟨gs3, fs3, rd3, nx3⟩ := q3
      change RDc s3 at rd3
      change NX st s3 at nx3
      refine ⟨by omega, ?_⟩
      exact hQ _ _ ⟨gs3, (fr_tr (fr_rf _ _) fs3 rfl), (show ((1 : Int) = 1 ∧ w = 1 ∧ a < 7 ∧ RDc s3 ∧ NX st s3) ∨ ((1 : Int) = 0 ∧ (w = 0 ∨ 7 ≤ a)) from Or.inl ⟨rfl, by omega, by omega, rd3, nx3⟩)⟩
    · have g8 := g_wStart hG
      refine ⟨rfl, ⟨hG, (show -2147483648 ≤ (5) ∧ (5) ≤ 2147483647 ∧ -2147483648 ≤ (st 149 5) ∧ (st 149 5) ≤ 2147483647 from by omega)⟩, ?_⟩
      refine ⟨by omega, ?_⟩
      exact hQ _ _ ⟨(gInv_up (gInv_up hG (p_rFault (by omega))) (p_rFaultAt (by omega))), (fr_f (fr_f (fr_rf _ _) rfl) rfl), (show ((0 : Int) = 1 ∧ w = 1 ∧ a < 7 ∧ RDc (zup (zup st 148 3 (5)) 148 4 (st 149 5)) ∧ NX st (zup (zup st 148 3 (5)) 148 4 (st 149 5))) ∨ ((0 : Int) = 0 ∧ (w = 0 ∨ 7 ≤ a)) from Or.inr ⟨rfl, by omega⟩)⟩
  · have g9 := g_wSpot hG
    refine ⟨rfl, hG, ?_⟩
    refine ⟨by omega, ?_⟩
    exact hQ _ _ ⟨(gInv_up (gInv_up hG (p_rFault (by omega))) (p_rFaultAt (by omega))), (fr_f (fr_f (fr_rf _ _) rfl) rfl), (show ((0 : Int) = 1 ∧ w = 1 ∧ a < 7 ∧ RDc (zup (zup st 148 3 1) 148 4 (st 149 6)) ∧ NX st (zup (zup st 148 3 1) 148 4 (st 149 6))) ∨ ((0 : Int) = 0 ∧ (w = 0 ∨ 7 ≤ a)) from Or.inr ⟨rfl, by omega⟩)⟩
theorem k_cTakeOpen_m (hTb : aTb zSh rx_tb cl) {D : Nat} (hD : 4 ≤ D) : ∀ as st (Q Q' : zQ), (∀ r st', Q r st' → Q' r st') → k_cTakeOpen 252 as st Q → cl D 252 as st Q' := by
  intro as st Q Q' hQ h
  unfold k_cTakeOpen at h
  split at h
  · obtain ⟨rfl, h⟩ := h
    exact c_cTakeOpen hTb hD (ct_cTakeOpen_m hQ h)
  · exact h.elim
end R9h
