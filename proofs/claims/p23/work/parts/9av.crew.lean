/-! printed by wip/p4/py/c6.py: another word; from the text's start -/
def m_cAnother : aM := ([(148, 3), (148, 4), (149, 2), (149, 3), (149, 4), (149, 5), (149, 6)], [])
def rq_cAnother (ah : Int) (st : zS) : Prop := gInv zgt st ∧ (RDc st) ∧ ((ah = 0 ∨ ah = 1) ∧ 1 ≤ st 149 3 ∧ st 149 3 ≤ 4)
def en_cAnother (ah : Int) (st : zS) (r : Int) (s1 : zS) : Prop := gInv zgt s1 ∧ aFr m_cAnother st s1 ∧ ((r = 1 ∧ ah = 1 ∧ RDc s1 ∧ NX st s1) ∨ (r = 0 ∧ ah = 0))
def ct_cAnother (ah : Int) (st : zS) (Q : zQ) : Prop := rq_cAnother ah st ∧ (∀ (r : Int) (s1 : zS), en_cAnother ah st r s1 → Q (some (.inl r)) s1)
theorem ct_cAnother_m {ah : Int} {st : zS} {Q Q' : zQ} (hQ : ∀ r st', Q r st' → Q' r st') (h : ct_cAnother ah st Q) : ct_cAnother ah st Q' := ⟨h.1, fun x0 x1 x2 => hQ _ _ (h.2 x0 x1 x2)⟩
def k_cAnother : zCall := fun _ as st Q => match as with
  | [.inr (.inr (.inl z_o)), .inl ah] => z_o = 148 ∧ ct_cAnother ah st Q
  | _ => False
def m_cRew : aM := ([(149, 2), (149, 3), (149, 4), (149, 5), (149, 6)], [])
def rq_cRew  (st : zS) : Prop := gInv zgt st
def en_cRew  (st : zS) (s1 : zS) : Prop := gInv zgt s1 ∧ aFr m_cRew st s1 ∧ (RDc s1) ∧ (wrn (fun j => wbl (tcc (ctx st) (st 1 1) j)) 0 (s1 149 5))
def ct_cRew  (st : zS) (Q : zQ) : Prop := rq_cRew  st ∧ (∀ (s1 : zS), en_cRew  st s1 → Q none s1)
theorem ct_cRew_m {st : zS} {Q Q' : zQ} (hQ : ∀ r st', Q r st' → Q' r st') (h : ct_cRew  st Q) : ct_cRew  st Q' := ⟨h.1, fun x0 x1 => hQ _ _ (h.2 x0 x1)⟩
def k_cRew : zCall := fun _ as st Q => match as with
  | [.inr (.inr (.inl z_o))] => z_o = 149 ∧ ct_cRew  st Q
  | _ => False
noncomputable def mrg (x f g : Nat) (m : aM) : Bool := aall (fun q => (Nat.blt q.1 x || Nat.blt (x + 12) q.1) || (Nat.beq q.1 x && (Nat.beq q.2 16 || (Nat.beq q.2 f || Nat.beq q.2 g)))) m.1 && aall (fun c => Nat.blt c x || Nat.ble (x + 12) c) m.2
theorem mrg_fr {x f g : Nat} {m : aM} {st s : zS} (hm : mrg x f g m = true) (h : aFr m st s) : ∀ c i : Nat, c ≤ 12 → ¬ c = 12 → ¬ (c = 0 ∧ (i = f ∨ i = g ∨ i = 16)) → s (x + c) i = st (x + c) i := by
  intro c i h1 h2 h3
  obtain ⟨m1, m2⟩ := rx_an hm
  have lt : ∀ a b : Nat, Nat.blt a b = true → a < b := fun a b z => Nat.lt_of_lt_of_le (Nat.lt_succ_self a) (Nat.le_of_ble_eq_true z)
  refine h (x + c) i ?_ ?_
  · cases e : amf m (x + c) i with
    | false => rfl
    | true =>
      exfalso
      have q := aall_o2 m1 _ (amf_ok.mp e)
      rcases bor q with z | z
      · rcases bor z with z | z
        · have := lt _ _ z
          omega
        · have := lt _ _ z
          omega
      · obtain ⟨z1, z2⟩ := rx_an z
        have z1 : x + c = x := Nat.eq_of_beq_eq_true z1
        rcases bor z2 with z2 | z2
        · have z2 : i = 16 := Nat.eq_of_beq_eq_true z2
          exact h3 ⟨by omega, Or.inr (Or.inr z2)⟩
        · rcases bor z2 with z2 | z2
          · have z2 : i = f := Nat.eq_of_beq_eq_true z2
            exact h3 ⟨by omega, Or.inl z2⟩
          · have z2 : i = g := Nat.eq_of_beq_eq_true z2
            exact h3 ⟨by omega, Or.inr (Or.inl z2)⟩
  · cases e : ama m (x + c) with
    | false => rfl
    | true =>
      exfalso
      have q := aall_o2 m2 _ (ama_ok.mp e)
      rcases bor q with z | z
      · have := lt _ _ z
        omega
      · have z : x + 12 ≤ x + c := Nat.le_of_ble_eq_true z
        omega
section R9v
variable {cl : Nat → zCall}
set_option maxHeartbeats 4000000 in
set_option maxRecDepth 100000 in
theorem c_cAnother (hTb : aTb zSh rx_tb cl) {D : Nat} (hD : 4 ≤ D) {ah : Int} {st : zS} {Q : zQ} (h : ct_cAnother ah st Q) : cl D 238 [.inr (.inr (.inl 148)), .inl ah] st Q := by
  obtain ⟨d, rfl⟩ : ∃ d, D = d + 1 := ⟨D - 1, by omega⟩
  refine hTb d 238 (rx_m238, 2, 0, 0, 2) rfl _ _ _ (Nat.le_of_ble_eq_true rfl) (fun K hcl hsf hsl => ?_)
  have hcm : zmo (wcL [(235, k_cWrong), (143, k_cNext)]) (cl d) := (wcL_m (wm_cons (k_cWrong_m hTb (by omega)) (wm_cons (k_cNext_m hTb (by omega)) wm_nil)))
  obtain ⟨hR, hQ⟩ := h
  obtain ⟨hG, rd, h⟩ := hR
  change RDc st at rd
  change (ah = 0 ∨ ah = 1) ∧ 1 ≤ st 149 3 ∧ st 149 3 ≤ 4 at h
  have rb := rd.1
  have g1 := g_wKind hG
  have g2 := g_wValue hG
  have g3 := g_wStart hG
  refine yr1_ok (Rt := Q) (wc := (wcL [(235, k_cWrong), (143, k_cNext)])) (stp := []) hcm hcl [] 34 ?_
  show ((¬ ah = (0 : Int) → (149 = 149 ∧ (rq_cNext  st ∧ (∀ (s4 : zS), en_cNext  st s4 → ((1 = (0 : Int) ∨ 1 = (1 : Int)) ∧ Q (some (.inl 1)) s4))))) ∧ (¬ (¬ ah = (0 : Int)) → (148 = 148 ∧ (rq_cWrong (6) (st 149 5) st ∧ (((0 = (0 : Int) ∨ 0 = (1 : Int)) ∧ Q (some (.inl 0)) (zup (zup st 148 3 (6)) 148 4 (st 149 5))))))))
  refine ⟨fun h6 => ?_, fun h6 => ?_⟩
  · refine ⟨rfl, ⟨hG, (show RDc st from rd), (show 1 ≤ st 149 3 ∧ st 149 3 ≤ 4 from by omega)⟩, fun s4 q4 => ?_⟩
    obtain ⟨gs4, fs4, rd4, nx4⟩ := q4
    change RDc s4 at rd4
    change NX st s4 at nx4
    refine ⟨by omega, ?_⟩
    exact hQ _ _ ⟨gs4, (fr_tr (fr_rf _ _) fs4 rfl), (show ((1 : Int) = 1 ∧ ah = 1 ∧ RDc s4 ∧ NX st s4) ∨ ((1 : Int) = 0 ∧ ah = 0) from Or.inl ⟨rfl, by omega, rd4, nx4⟩)⟩
  · refine ⟨rfl, ⟨hG, (show -2147483648 ≤ (6) ∧ (6) ≤ 2147483647 ∧ -2147483648 ≤ (st 149 5) ∧ (st 149 5) ≤ 2147483647 from by omega)⟩, ?_⟩
    refine ⟨by omega, ?_⟩
    exact hQ _ _ ⟨(gInv_up (gInv_up hG (p_rFault (by omega))) (p_rFaultAt (by omega))), (fr_f (fr_f (fr_rf _ _) rfl) rfl), (show ((0 : Int) = 1 ∧ ah = 1 ∧ RDc (zup (zup st 148 3 (6)) 148 4 (st 149 5)) ∧ NX st (zup (zup st 148 3 (6)) 148 4 (st 149 5))) ∨ ((0 : Int) = 0 ∧ ah = 0) from Or.inr ⟨rfl, by omega⟩)⟩
theorem k_cAnother_m (hTb : aTb zSh rx_tb cl) {D : Nat} (hD : 4 ≤ D) : ∀ as st (Q Q' : zQ), (∀ r st', Q r st' → Q' r st') → k_cAnother 238 as st Q → cl D 238 as st Q' := by
  intro as st Q Q' hQ h
  unfold k_cAnother at h
  split at h
  · obtain ⟨rfl, h⟩ := h
    exact c_cAnother hTb hD (ct_cAnother_m hQ h)
  · exact h.elim
theorem c_cRew (hTb : aTb zSh rx_tb cl) {D : Nat} (hD : 5 ≤ D) {st : zS} {Q : zQ} (h : ct_cRew st Q) : cl D 142 [.inr (.inr (.inl 149))] st Q := by
  obtain ⟨hG, hQ⟩ := h
  refine c_cRewind hTb (by omega) ⟨hG, fun s1 q => hQ s1 ?_⟩
  obtain ⟨q1, q2, k', v', s', e', q3, q4⟩ := q
  have e2 : ctx s1 = ctx st := by unfold ctx; funext j; rw [q2 2 _ rfl rfl]
  have e3 : s1 1 1 = st 1 1 := q2 1 1 rfl rfl
  have e4 : s1 150 = st 150 := funext (fun i => q2 150 i rfl rfl)
  have e5 : s1 149 5 = s' := q4.1
  have hw : wrn (fun j => wbl (tcc (ctx st) (st 1 1) j)) 0 (s1 149 5) := by rw [e5]; exact q3.1
  have hg := (g_tsize hG).1
  have hw2 := wrn_in (P := wbl) (by unfold wbl; omega) hg hw
  refine ⟨q1, q2, ⟨⟨hw.1, by omega⟩, k', v', e', ?_, ?_⟩, hw⟩
  · rw [e2, e3, e5]
    exact TK_can q3
  · rw [e4, e5]
    rw [e5] at q4
    exact q4
theorem k_cRew_m (hTb : aTb zSh rx_tb cl) {D : Nat} (hD : 5 ≤ D) : ∀ as st (Q Q' : zQ), (∀ r st', Q r st' → Q' r st') → k_cRew 142 as st Q → cl D 142 as st Q' := by
  intro as st Q Q' hQ h
  unfold k_cRew at h
  split at h
  · obtain ⟨rfl, h⟩ := h
    exact c_cRew hTb hD (ct_cRew_m hQ h)
  · exact h.elim
end R9v
