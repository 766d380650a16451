/-! printed by wip/p4/py/c7.py: the class's reader and town, 135 -/
def m_cReadB : aM := ([(135, 0), (135, 1), (135, 3), (135, 8), (135, 13), (135, 14), (135, 16), (135, 17), (135, 18), (144, 2), (148, 1), (148, 2), (148, 3), (148, 4), (149, 2), (149, 3), (149, 4), (149, 5), (149, 6)], [136, 137, 138, 139, 140, 141, 142, 143, 145, 146, 147])
def rq_cReadB  (st : zS) : Prop := gInv zgt st ∧ (cOW st)
def en_cReadB  (st : zS) (r : Int) (s1 : zS) : Prop := gInv zgt s1 ∧ aFr m_cReadB st s1 ∧ ((r = 1 ∧ POK (ctx st) (st 1 1) (tn 135 s1) (s1 135 0)) ∨ (r = 0 ∧ PNO (ctx st) (st 1 1)))
def ct_cReadB  (st : zS) (Q : zQ) : Prop := rq_cReadB  st ∧ (∀ (r : Int) (s1 : zS), en_cReadB  st r s1 → Q (some (.inl r)) s1)
theorem ct_cReadB_m {st : zS} {Q Q' : zQ} (hQ : ∀ r st', Q r st' → Q' r st') (h : ct_cReadB  st Q) : ct_cReadB  st Q' := ⟨h.1, fun x0 x1 x2 => hQ _ _ (h.2 x0 x1 x2)⟩
def k_cReadB : zCall := fun _ as st Q => match as with
  | [.inr (.inr (.inl z_o)), .inr (.inr (.inl z_0))] => z_o = 148 ∧ z_0 = 135 ∧ ct_cReadB  st Q
  | _ => False
def m_cBeginInB : aM := ([(5, 0), (5, 1), (5, 4), (7, 2)], [6, 8, 9])
def rq_cBeginInB  (st : zS) : Prop := gInv zgt st
def en_cBeginInB  (st : zS) (s1 : zS) : Prop := gInv zgt s1 ∧ aFr m_cBeginInB st s1
def ct_cBeginInB  (st : zS) (Q : zQ) : Prop := rq_cBeginInB  st ∧ (∀ (s1 : zS), en_cBeginInB  st s1 → Q none s1)
theorem ct_cBeginInB_m {st : zS} {Q Q' : zQ} (hQ : ∀ r st', Q r st' → Q' r st') (h : ct_cBeginInB  st Q) : ct_cBeginInB  st Q' := ⟨h.1, fun x0 x1 => hQ _ _ (h.2 x0 x1)⟩
def k_cBeginInB : zCall := fun _ as st Q => match as with
  | [.inr (.inr (.inl z_o)), .inr (.inr (.inl z_0))] => z_o = 5 ∧ z_0 = 135 ∧ ct_cBeginInB  st Q
  | _ => False
def m_cTownB : aM := ([(0, 8), (0, 9), (0, 10), (0, 11), (1, 1), (5, 0), (5, 1), (5, 4), (7, 2), (10, 5), (115, 5), (135, 0), (135, 1), (135, 3), (135, 8), (135, 13), (135, 14), (135, 16), (135, 17), (135, 18), (144, 2), (148, 1), (148, 2), (148, 3), (148, 4), (149, 2), (149, 3), (149, 4), (149, 5), (149, 6)], [6, 8, 9, 121, 136, 137, 138, 139, 140, 141, 142, 143, 145, 146, 147])
def rq_cTownB  (st : zS) : Prop := gInv zgt st ∧ (cOW st) ∧ (st 0 9 = 135 ∧ st 0 8 = 122)
def en_cTownB  (st : zS) (r : Int) (s1 : zS) : Prop := gInv zgt s1 ∧ aFr m_cTownB st s1 ∧ ((r = -1 ∧ PNO (ctx st) (st 1 1)) ∨ POK (ctx st) (st 1 1) (tn 135 s1) r) ∧ (s1 1 1 = 0) ∧ ((s1 0 8 = 135 ∧ s1 0 9 = 122) ∨ (s1 0 8 = 122 ∧ s1 0 9 = 135))
def ct_cTownB  (st : zS) (Q : zQ) : Prop := rq_cTownB  st ∧ (∀ (r : Int) (s1 : zS), en_cTownB  st r s1 → Q (some (.inl r)) s1)
theorem ct_cTownB_m {st : zS} {Q Q' : zQ} (hQ : ∀ r st', Q r st' → Q' r st') (h : ct_cTownB  st Q) : ct_cTownB  st Q' := ⟨h.1, fun x0 x1 x2 => hQ _ _ (h.2 x0 x1 x2)⟩
def k_cTownB : zCall := fun _ as st Q => match as with
  | [.inr (.inr (.inl z_o))] => z_o = 0 ∧ ct_cTownB  st Q
  | _ => False
section R9z
variable {cl : Nat → zCall}
theorem c_cBeginInB (hTb : aTb zSh rx_tb cl) {D : Nat} (hD : 7 ≤ D) {st : zS} {Q : zQ} (h : ct_cBeginInB st Q) : cl D 145 [.inr (.inr (.inl 5)), .inr (.inr (.inl 135))] st Q := kYv_m (ains_ok hTb zb_135_ok D (fun d' _ => z_all hTb d')) rfl (by show 6 ≤ D; omega) rfl _ _ _ Q (fun _ _ z => z) ⟨⟨rfl, rfl, True.intro⟩, h.1, fun s1 g f => h.2 s1 ⟨g, f⟩⟩
theorem k_cBeginInB_m (hTb : aTb zSh rx_tb cl) {D : Nat} (hD : 7 ≤ D) : ∀ as st (Q Q' : zQ), (∀ r st', Q r st' → Q' r st') → k_cBeginInB 145 as st Q → cl D 145 as st Q' := by
  intro as st Q Q' hQ h
  unfold k_cBeginInB at h
  split at h
  · obtain ⟨rfl, rfl, h⟩ := h
    exact c_cBeginInB hTb hD (ct_cBeginInB_m hQ h)
  · exact h.elim
set_option maxHeartbeats 4000000 in
set_option maxRecDepth 100000 in
theorem c_cReadB (hTb : aTb zSh rx_tb cl) {D : Nat} (hD : 126 ≤ D) {st : zS} {Q : zQ} (h : ct_cReadB  st Q) : cl D 141 [.inr (.inr (.inl 148)), .inr (.inr (.inl 135))] st Q := by
  obtain ⟨d, rfl⟩ : ∃ d, D = d + 1 := ⟨D - 1, by omega⟩
  refine hTb d 141 (rx_m141, 3, 0, 0, 2) rfl _ _ _ (Nat.le_of_ble_eq_true rfl) (fun K hcl hsf hsl => ?_)
  have hcm : zmo (wcL [(69, k_cClearB), (142, k_cRew), (237, k_cStatementB), (251, k_cTakeSign), (235, k_cWrong)]) (cl d) := (wcL_m (wm_cons (k_cClearB_m hTb (by omega)) (wm_cons (k_cRew_m hTb (by omega)) (wm_cons (k_cStatementB_m hTb (by omega)) (wm_cons (k_cTakeSign_m hTb (by omega)) (wm_cons (k_cWrong_m hTb (by omega)) wm_nil))))))
  obtain ⟨hR, hQ⟩ := h
  obtain ⟨hG, ow⟩ := hR
  change cOW st at ow
  have lp : ∀ (u : Nat) (i : Int) (s_lp : zS), gInv zgt s_lp ∧ aFr m_cReadB st s_lp ∧ (RDc s_lp) ∧ (s_lp 148 1 = 135) ∧ (CHI (ctx st) (st 1 1) (tn 135 s_lp) (s_lp 149 5) i) ∧ (TIv (tn 135 s_lp) ∧ 0 ≤ s_lp 144 2) ∧ (s_lp 135 16 ≤ s_lp 149 5 ∧ 0 ≤ s_lp 135 16 ∧ s_lp 135 0 = i ∧ 0 ≤ i ∧ i ≤ 80) → (80 - i).toNat = u → K (rx_find rx_m141 31) [(2, .inl i), (0, .inr (.inr (.inl 148))), (1, .inr (.inr (.inl 135)))] [] s_lp := by
    intro u
    induction u using Nat.strongRecOn with
    | _ u ih =>
      intro i s_lp hi hu
      obtain ⟨gI_lp, fI_lp, rd_lp, tw_lp, ch_lp, ti_lp, cb_lp⟩ := hi
      have rb_lp := rd_lp.1
      have g1 := g_f148_1 gI_lp
      have g2 := g_tsize hG
      have g3 := g_wStart gI_lp
      have g4 := g_f144_2 gI_lp
      have g5 := g_f135_16 gI_lp
      have g6 := g_f135_0 gI_lp
      have g7 := g_wKind gI_lp
      have g8 := g_wValue gI_lp
      have e9 : s_lp 1 1 = st 1 1 := fI_lp 1 1 rfl rfl
      refine dr1_ok (Rt := Q) (wc := (wcL [(69, k_cClearB), (142, k_cRew), (237, k_cStatementB), (251, k_cTakeSign), (235, k_cWrong)])) (stp := [31]) hcm hcl [(66, 135)] [] 77 ?_
      show (((80 : Int) ≤ i → ((s_lp 149 3 = (0 : Int) → ((1 = (0 : Int) ∨ 1 = (1 : Int)) ∧ Q (some (.inl 1)) s_lp)) ∧ (¬ (s_lp 149 3 = (0 : Int)) → (148 = 148 ∧ (rq_cWrong (6) (s_lp 149 5) s_lp ∧ ((((0 : Int) = (0 : Int) → ((0 = (0 : Int) ∨ 0 = (1 : Int)) ∧ Q (some (.inl 0)) (zup (zup s_lp 148 3 (6)) 148 4 (s_lp 149 5)))) ∧ (¬ ((0 : Int) = (0 : Int)) → _)))))))) ∧ (¬ ((80 : Int) ≤ i) → ((s_lp 149 3 = (0 : Int) → ((s_lp 149 3 = (0 : Int) → ((1 = (0 : Int) ∨ 1 = (1 : Int)) ∧ Q (some (.inl 1)) s_lp)) ∧ (¬ (s_lp 149 3 = (0 : Int)) → (148 = 148 ∧ (rq_cWrong (6) (s_lp 149 5) s_lp ∧ ((((0 : Int) = (0 : Int) → ((0 = (0 : Int) ∨ 0 = (1 : Int)) ∧ Q (some (.inl 0)) (zup (zup s_lp 148 3 (6)) 148 4 (s_lp 149 5)))) ∧ (¬ ((0 : Int) = (0 : Int)) → _)))))))) ∧ (¬ (s_lp 149 3 = (0 : Int)) → (148 = 148 ∧ (rq_cStatementB  s_lp ∧ (∀ (r12 : Int) (s12 : zS), en_cStatementB  s_lp r12 s12 → ((r12 = (0 : Int) → ((0 = (0 : Int) ∨ 0 = (1 : Int)) ∧ Q (some (.inl 0)) s12)) ∧ (¬ (r12 = (0 : Int)) → (148 = 148 ∧ (rq_cTakeSign (59) s12 ∧ (∀ (r13 : Int) (s13 : zS), en_cTakeSign (59) s12 r13 s13 → ((¬ r13 = (0 : Int) → ((s13 148 1 = (135 : Int)) ∧ ((-2147483648 ≤ (s13 135 0) + 1 ∧ (s13 135 0) + 1 ≤ 2147483647) ∧ ((-2147483648 ≤ i + 1 ∧ i + 1 ≤ 2147483647) ∧ K (rx_find rx_m141 31) [(2, .inl (i + 1)), (0, .inr (.inr (.inl 148))), (1, .inr (.inr (.inl 135)))] [] (zup s13 135 0 ((s13 135 0) + 1)))))) ∧ (¬ (¬ r13 = (0 : Int)) → ((0 = (0 : Int) ∨ 0 = (1 : Int)) ∧ Q (some (.inl 0)) s13)))))))))))))))
      refine ⟨fun h14 => ?_, fun h14 => ?_⟩
      · refine ⟨fun h15 => ?_, fun h15 => ?_⟩
        · refine ⟨by omega, ?_⟩
          exact hQ _ _ ⟨gI_lp, fI_lp, (show ((1 : Int) = 1 ∧ POK (ctx st) (st 1 1) (tn 135 s_lp) (s_lp 135 0)) ∨ ((1 : Int) = 0 ∧ PNO (ctx st) (st 1 1)) from (by
          obtain ⟨T0, p0, hz, hw, hch⟩ := ch_lp
          have hc : ctx s_lp = ctx st := by unfold ctx; funext j; rw [fI_lp 2 _ rfl rfl]
          have h11 : s_lp 1 1 = st 1 1 := fI_lp 1 1 rfl rfl
          have hE := end_is rd_lp (fun i hi => ((show aFr m_cReadB st s_lp from fI_lp) 150 i rfl rfl).trans (ow i hi)) (by omega)
          rw [hc, h11] at hE
          exact Or.inl ⟨rfl, i.toNat, T0, p0, s_lp 149 5, hz, hw, hch, by omega, by omega, hE⟩))⟩
        · refine ⟨rfl, ⟨gI_lp, (show -2147483648 ≤ (6) ∧ (6) ≤ 2147483647 ∧ -2147483648 ≤ (s_lp 149 5) ∧ (s_lp 149 5) ≤ 2147483647 from by omega)⟩, ?_⟩
          refine ⟨fun h16 => ?_, fun h16 => absurd (by decide) h16⟩
          refine ⟨by omega, ?_⟩
          exact hQ _ _ ⟨(gInv_up (gInv_up gI_lp (p_rFault (by omega))) (p_rFaultAt (by omega))), (fr_f (fr_f fI_lp rfl) rfl), (show ((0 : Int) = 1 ∧ POK (ctx st) (st 1 1) (tn 135 (zup (zup s_lp 148 3 (6)) 148 4 (s_lp 149 5))) (s_lp 135 0)) ∨ ((0 : Int) = 0 ∧ PNO (ctx st) (st 1 1)) from (by
          obtain ⟨T0, p0, hz, hw, hch⟩ := ch_lp
          have hc : ctx s_lp = ctx st := by unfold ctx; funext j; rw [fI_lp 2 _ rfl rfl]
          have h11 : s_lp 1 1 = st 1 1 := fI_lp 1 1 rfl rfl
          have hE := end_no rd_lp (fun i hi => ((show aFr m_cReadB st s_lp from fI_lp) 150 i rfl rfl).trans (ow i hi)) (by omega)
          rw [hc, h11] at hE
          exact Or.inr ⟨rfl, i.toNat, T0, p0, tn 135 s_lp, s_lp 149 5, hz, hw, hch, hE, Or.inr (by omega)⟩))⟩
      · refine ⟨fun h17 => ?_, fun h17 => ?_⟩
        · refine ⟨fun h18 => ?_, fun h18 => ?_⟩
          · refine ⟨by omega, ?_⟩
            exact hQ _ _ ⟨gI_lp, fI_lp, (show ((1 : Int) = 1 ∧ POK (ctx st) (st 1 1) (tn 135 s_lp) (s_lp 135 0)) ∨ ((1 : Int) = 0 ∧ PNO (ctx st) (st 1 1)) from (by
          obtain ⟨T0, p0, hz, hw, hch⟩ := ch_lp
          have hc : ctx s_lp = ctx st := by unfold ctx; funext j; rw [fI_lp 2 _ rfl rfl]
          have h11 : s_lp 1 1 = st 1 1 := fI_lp 1 1 rfl rfl
          have hE := end_is rd_lp (fun i hi => ((show aFr m_cReadB st s_lp from fI_lp) 150 i rfl rfl).trans (ow i hi)) (by omega)
          rw [hc, h11] at hE
          exact Or.inl ⟨rfl, i.toNat, T0, p0, s_lp 149 5, hz, hw, hch, by omega, by omega, hE⟩))⟩
          · refine ⟨rfl, ⟨gI_lp, (show -2147483648 ≤ (6) ∧ (6) ≤ 2147483647 ∧ -2147483648 ≤ (s_lp 149 5) ∧ (s_lp 149 5) ≤ 2147483647 from by omega)⟩, ?_⟩
            refine ⟨fun h19 => ?_, fun h19 => absurd (by decide) h19⟩
            refine ⟨by omega, ?_⟩
            exact hQ _ _ ⟨(gInv_up (gInv_up gI_lp (p_rFault (by omega))) (p_rFaultAt (by omega))), (fr_f (fr_f fI_lp rfl) rfl), (show ((0 : Int) = 1 ∧ POK (ctx st) (st 1 1) (tn 135 (zup (zup s_lp 148 3 (6)) 148 4 (s_lp 149 5))) (s_lp 135 0)) ∨ ((0 : Int) = 0 ∧ PNO (ctx st) (st 1 1)) from (by
          obtain ⟨T0, p0, hz, hw, hch⟩ := ch_lp
          have hc : ctx s_lp = ctx st := by unfold ctx; funext j; rw [fI_lp 2 _ rfl rfl]
          have h11 : s_lp 1 1 = st 1 1 := fI_lp 1 1 rfl rfl
          have hE := end_no rd_lp (fun i hi => ((show aFr m_cReadB st s_lp from fI_lp) 150 i rfl rfl).trans (ow i hi)) (by omega)
          rw [hc, h11] at hE
          exact Or.inr ⟨rfl, i.toNat, T0, p0, tn 135 s_lp, s_lp 149 5, hz, hw, hch, hE, Or.inr (by omega)⟩))⟩
        · refine ⟨rfl, ⟨gI_lp, (show RDc s_lp from rd_lp), (show cOW s_lp from (fun i hi => ((show aFr m_cReadB st s_lp from fI_lp) 150 i rfl rfl).trans (ow i hi))), (show s_lp 148 1 = 135 from by omega), (show TIv (tn 135 s_lp) from ti_lp.1), (show s_lp 135 16 ≤ s_lp 149 5 from by omega)⟩, fun r12 s12 q12 => ?_⟩
          obtain ⟨gs12, fs12, o12⟩ := q12
          change (r12 = 1 ∧ (∃ (i : Nat) (e : Int), i < 26 ∧ tk (ctx s_lp) (s_lp 1 1) (s_lp 149 5) 1 (owv i) e ∧ sB (ctx s_lp) (s_lp 1 1) (tn 135 s_lp) e (tn 135 s12) (s12 149 5) i) ∧ RDc s12) ∨ (r12 = 0 ∧ ((¬ ∃ (i : Nat) (e : Int), i < 26 ∧ tk (ctx s_lp) (s_lp 1 1) (s_lp 149 5) 1 (owv i) e) ∨ ∃ (i : Nat) (e : Int), i < 26 ∧ tk (ctx s_lp) (s_lp 1 1) (s_lp 149 5) 1 (owv i) e ∧ sF (ctx s_lp) (s_lp 1 1) (tn 135 s_lp) e i)) at o12
          have g20 := g_wStart gs12
          rcases o12 with ⟨y12, b12, rd12⟩ | ⟨y12, l12⟩
          · refine ⟨fun h21 => (by exfalso; omega), fun h21 => ?_⟩
            refine ⟨rfl, ⟨gs12, (show RDc s12 from rd12)⟩, fun r13 s13 q13 => ?_⟩
            obtain ⟨gs13, fs13, o13⟩ := q13
            change (r13 = 1 ∧ s12 149 3 = 4 ∧ s12 149 4 = (59) ∧ RDc s13 ∧ NX s12 s13) ∨ (r13 = 0 ∧ ¬ (s12 149 3 = 4 ∧ s12 149 4 = (59))) at o13
            have g22 := g_wKind gs12
            have g23 := g_wValue gs12
            rcases o13 with ⟨y13, k13, v13, rd13, nx13⟩ | ⟨y13, k13⟩
            · refine ⟨fun h24 => ?_, fun h24 => (by exfalso; omega)⟩
              have e26 : s12 148 1 = s_lp 148 1 := fs12 148 1 rfl rfl
              have e25 : s13 148 1 = s12 148 1 := fs13 148 1 rfl rfl
              refine ⟨by omega, ?_⟩
              have e28 : s12 135 0 = s_lp 135 0 := fs12 135 0 rfl rfl
              have e27 : s13 135 0 = s12 135 0 := fs13 135 0 rfl rfl
              refine ⟨by omega, ?_⟩
              refine ⟨by omega, ?_⟩
              have g29 := g_wStart gs13
              have g31 := g_f144_2 gs12
              have e30 : s13 144 2 = s12 144 2 := fs13 144 2 rfl rfl
              have g33 := g_f135_16 gs12
              have e32 : s13 135 16 = s12 135 16 := fs13 135 16 rfl rfl
              exact ih _ (show (80 - (i + 1) : Int).toNat < u from by omega) (i + 1) (zup s13 135 0 ((s13 135 0) + 1)) ⟨(gInv_up gs13 (p_f135_0 (by omega))), (fr_f (fr_tr (fr_tr fI_lp fs12 rfl) fs13 rfl) rfl), (show RDc (zup s13 135 0 ((s13 135 0) + 1)) from (show RDc (zup s13 135 0 ((s13 135 0) + 1)) from rd13)), (show s13 148 1 = 135 from by omega), (show CHI (ctx st) (st 1 1) (tn 135 (zup s13 135 0 ((s13 135 0) + 1))) (s13 149 5) (i + 1) from (by
          obtain ⟨T0, p0, hz, hw, hch⟩ := ch_lp
          have hc : ctx s_lp = ctx st := by unfold ctx; funext j; rw [fI_lp 2 _ rfl rfl]
          have h11 : s_lp 1 1 = st 1 1 := fI_lp 1 1 rfl rfl
          obtain ⟨i_, e_, hi_, ht_, hb_⟩ := b12
          have hcn : ctx s12 = ctx s_lp := by unfold ctx; funext j; rw [fs12 2 _ rfl rfl]
          have h1n : s12 1 1 = s_lp 1 1 := fs12 1 1 rfl rfl
          have l1 := tk_lt ht_ rd_lp.1.1 (by omega)
          have cc := sB_cc hb_ (by omega) (show s_lp 135 16 + 1 ≤ e_ from by omega) (show 0 ≤ s_lp 135 16 from by omega)
          have hs : tk (ctx s_lp) (s_lp 1 1) (s12 149 5) 3 59 (s13 149 5) := by
            have z := nx_sgx rd12 (fun i hi => ((show aFr m_cReadB st s12 from (fr_tr fI_lp fs12 rfl)) 150 i rfl rfl).trans (ow i hi)) nx13 (by omega) (by omega)
            rw [hcn, h1n] at z
            exact z
          have l2 := tk_lt hs (by omega) (by omega)
          have he : tn 135 (zup s13 135 0 ((s13 135 0) + 1)) = zup (tn 135 s12) 0 0 (tn 135 s12 0 0 + 1) := by
            rw [show s13 135 0 = s12 135 0 from fs13 135 0 rfl rfl]
            exact (tn_up 135 _ (c := 0) 0 _ (by omega)).trans (congrArg (fun z_ : zS => zup z_ 0 0 (s12 135 0 + 1)) (tn_fr (x := 135) rfl fs13))
          have hS : SS (ctx s_lp) (s_lp 1 1) (tn 135 s_lp) (s_lp 149 5) (tn 135 (zup s13 135 0 ((s13 135 0) + 1))) (s13 149 5) := ⟨i_, e_, s12 149 5, tn 135 s12, hi_, ht_, hb_, hs, he⟩
          rw [hc, h11] at hS
          refine ⟨T0, p0, hz, hw, ?_⟩
          rw [show (i + 1 : Int).toNat = i.toNat + 1 by omega]
          exact Chn_s hch hS)), (show TIv (tn 135 (zup s13 135 0 ((s13 135 0) + 1))) ∧ 0 ≤ s13 144 2 from (by
          obtain ⟨i_, e_, hi_, ht_, hb_⟩ := b12
          have z := sB_TI hb_ ti_lp.1 (show 0 ≤ s_lp 144 2 from ti_lp.2)
          have z1 : s13 144 2 = s12 144 2 := fs13 144 2 rfl rfl
          have he : TIv (tn 135 s13) := by rw [tn_fr (x := 135) (st := s12) rfl fs13]; exact z.1
          have z2 : 0 ≤ s12 144 2 := z.2
          exact ⟨fun j y1 y2 => he j y1 y2, by omega⟩)), (show s13 135 16 ≤ s13 149 5 ∧ 0 ≤ s13 135 16 ∧ ((s13 135 0) + 1) = (i + 1) ∧ 0 ≤ (i + 1) ∧ (i + 1) ≤ 80 from (by
          obtain ⟨i_, e_, hi_, ht_, hb_⟩ := b12
          have hcn : ctx s12 = ctx s_lp := by unfold ctx; funext j; rw [fs12 2 _ rfl rfl]
          have h1n : s12 1 1 = s_lp 1 1 := fs12 1 1 rfl rfl
          have l1 := tk_lt ht_ rd_lp.1.1 (by omega)
          have cc := sB_cc hb_ (by omega) (show s_lp 135 16 + 1 ≤ e_ from by omega) (show 0 ≤ s_lp 135 16 from by omega)
          have hs : tk (ctx s_lp) (s_lp 1 1) (s12 149 5) 3 59 (s13 149 5) := by
            have z := nx_sgx rd12 (fun i hi => ((show aFr m_cReadB st s12 from (fr_tr fI_lp fs12 rfl)) 150 i rfl rfl).trans (ow i hi)) nx13 (by omega) (by omega)
            rw [hcn, h1n] at z
            exact z
          have l2 := tk_lt hs (by omega) (by omega)
          have c1 : s12 135 16 ≤ s12 149 5 := cc.2.1
          have c2 : s12 135 0 = s_lp 135 0 := cc.2.2.1
          have c3 : 0 ≤ s12 135 16 := cc.2.2.2
          have r6 : s13 135 16 = s12 135 16 := fs13 135 16 rfl rfl
          have r0 : s13 135 0 = s12 135 0 := fs13 135 0 rfl rfl
          omega))⟩ rfl
            · refine ⟨fun h34 => (by exfalso; omega), fun h34 => ?_⟩
              refine ⟨by omega, ?_⟩
              have e36 : s12 135 0 = s_lp 135 0 := fs12 135 0 rfl rfl
              have e35 : s13 135 0 = s12 135 0 := fs13 135 0 rfl rfl
              exact hQ _ _ ⟨gs13, (fr_tr (fr_tr fI_lp fs12 rfl) fs13 rfl), (show ((0 : Int) = 1 ∧ POK (ctx st) (st 1 1) (tn 135 s13) (s13 135 0)) ∨ ((0 : Int) = 0 ∧ PNO (ctx st) (st 1 1)) from (by
          obtain ⟨T0, p0, hz, hw, hch⟩ := ch_lp
          have hc : ctx s_lp = ctx st := by unfold ctx; funext j; rw [fI_lp 2 _ rfl rfl]
          have h11 : s_lp 1 1 = st 1 1 := fI_lp 1 1 rfl rfl
          have hE := end_no rd_lp (fun i hi => ((show aFr m_cReadB st s_lp from fI_lp) 150 i rfl rfl).trans (ow i hi)) (by omega)
          rw [hc, h11] at hE
          obtain ⟨i_, e_, hi_, ht_, hb_⟩ := b12
          have hcn : ctx s12 = ctx s_lp := by unfold ctx; funext j; rw [fs12 2 _ rfl rfl]
          have h1n : s12 1 1 = s_lp 1 1 := fs12 1 1 rfl rfl
          have l1 := tk_lt ht_ rd_lp.1.1 (by omega)
          have cc := sB_cc hb_ (by omega) (show s_lp 135 16 + 1 ≤ e_ from by omega) (show 0 ≤ s_lp 135 16 from by omega)
          have hs : ¬ ∃ q : Int, tk (ctx s_lp) (s_lp 1 1) (s12 149 5) 3 59 q := by
            have z := sig_no (x := 59) rd12 (fun i hi => ((show aFr m_cReadB st s12 from (fr_tr fI_lp fs12 rfl)) 150 i rfl rfl).trans (ow i hi)) (by omega)
            rw [hcn, h1n] at z
            exact z
          have hF : FS (ctx s_lp) (s_lp 1 1) (tn 135 s_lp) (s_lp 149 5) := Or.inr (Or.inr ⟨i_, e_, s12 149 5, tn 135 s12, hi_, ht_, hb_, hs⟩)
          rw [hc, h11] at hF
          exact Or.inr ⟨rfl, i.toNat, T0, p0, tn 135 s_lp, s_lp 149 5, hz, hw, hch, hE, Or.inl ⟨by omega, hF⟩⟩))⟩
          · refine ⟨fun h37 => ?_, fun h37 => (by exfalso; omega)⟩
            refine ⟨by omega, ?_⟩
            have e38 : s12 135 0 = s_lp 135 0 := fs12 135 0 rfl rfl
            exact hQ _ _ ⟨gs12, (fr_tr fI_lp fs12 rfl), (show ((0 : Int) = 1 ∧ POK (ctx st) (st 1 1) (tn 135 s12) (s12 135 0)) ∨ ((0 : Int) = 0 ∧ PNO (ctx st) (st 1 1)) from (by
          obtain ⟨T0, p0, hz, hw, hch⟩ := ch_lp
          have hc : ctx s_lp = ctx st := by unfold ctx; funext j; rw [fI_lp 2 _ rfl rfl]
          have h11 : s_lp 1 1 = st 1 1 := fI_lp 1 1 rfl rfl
          have hE := end_no rd_lp (fun i hi => ((show aFr m_cReadB st s_lp from fI_lp) 150 i rfl rfl).trans (ow i hi)) (by omega)
          rw [hc, h11] at hE
          have hF : FS (ctx s_lp) (s_lp 1 1) (tn 135 s_lp) (s_lp 149 5) := l12.elim Or.inl (fun z => Or.inr (Or.inl z))
          rw [hc, h11] at hF
          exact Or.inr ⟨rfl, i.toNat, T0, p0, tn 135 s_lp, s_lp 149 5, hz, hw, hch, hE, Or.inl ⟨by omega, hF⟩⟩))⟩
  refine dr1_ok (Rt := Q) (wc := (wcL [(69, k_cClearB), (142, k_cRew), (237, k_cStatementB), (251, k_cTakeSign), (235, k_cWrong)])) (stp := [31]) hcm hcl [(6, 135), (66, 135)] [] 77 ?_
  show ((135 = (135 : Int)) ∧ (135 = 135 ∧ (rq_cClearB  (zup st 148 1 135) ∧ (∀ (s39 : zS), en_cClearB  (zup st 148 1 135) s39 → (149 = 149 ∧ (rq_cRew  (zup (zup s39 148 3 0) 148 4 (-1)) ∧ (∀ (s40 : zS), en_cRew  (zup (zup s39 148 3 0) 148 4 (-1)) s40 → K (rx_find rx_m141 31) [(2, .inl 0), (0, .inr (.inr (.inl 148))), (1, .inr (.inr (.inl 135)))] [] s40)))))))
  refine ⟨by omega, ?_⟩
  refine ⟨rfl, (gInv_up hG (p_f148_1 (by omega))), fun s39 q39 => ?_⟩
  obtain ⟨gs39, fs39, z39⟩ := q39
  change Clr (tn 135 s39) at z39
  refine ⟨rfl, (gInv_up (gInv_up gs39 (p_rFault (by omega))) (p_rFaultAt (by omega))), fun s40 q40 => ?_⟩
  obtain ⟨gs40, fs40, rd40, rw40⟩ := q40
  change RDc s40 at rd40
  change wrn (fun j => wbl (tcc (ctx (zup (zup s39 148 3 0) 148 4 (-1))) (s39 1 1) j)) 0 (s40 149 5) at rw40
  have g42 := g_tsize hG
  have e41 : s39 1 1 = st 1 1 := fs39 1 1 rfl rfl
  have g43 := g_wStart gs40
  have e45 : s39 148 1 = 135 := fs39 148 1 rfl rfl
  have e44 : s40 148 1 = s39 148 1 := fs40 148 1 rfl rfl
  have g47 := g_f144_2 gs39
  have e46 : s40 144 2 = s39 144 2 := fs40 144 2 rfl rfl
  have g49 := g_f135_16 gs39
  have e48 : s40 135 16 = s39 135 16 := fs40 135 16 rfl rfl
  have g51 := g_f135_0 gs39
  have e50 : s40 135 0 = s39 135 0 := fs40 135 0 rfl rfl
  exact lp _ 0 s40 ⟨gs40, (fr_tr (fr_f (fr_f (fr_tr (fr_f (fr_rf _ _) rfl) fs39 rfl) rfl) rfl) fs40 rfl), (show RDc s40 from rd40), (show s40 148 1 = 135 from by omega), (show CHI (ctx st) (st 1 1) (tn 135 s40) (s40 149 5) (0 : Int) from (by
          have hcn : ctx (zup (zup s39 148 3 0) 148 4 (-1)) = ctx st := by unfold ctx; funext j; exact congrArg (· % 256) (fs39 2 j.toNat rfl rfl)
          have h1n : (zup (zup s39 148 3 0) 148 4 (-1)) 1 1 = st 1 1 := fs39 1 1 rfl rfl
          have hw := rw40
          have hw : wrn (fun j => wbl (tcc (ctx (zup (zup s39 148 3 0) 148 4 (-1))) ((zup (zup s39 148 3 0) 148 4 (-1)) 1 1) j)) 0 (s40 149 5) := hw
          rw [hcn, h1n] at hw
          have ht : tn 135 s40 = tn 135 s39 := (tn_fr (x := 135) rfl fs40).trans ((tn_o 135 _ _ _ (by omega)).trans ((tn_o 135 _ _ _ (by omega)).trans (Eq.refl (tn 135 s39))))
          exact ⟨tn 135 s39, s40 149 5, z39, hw, ⟨ht, rfl⟩⟩)), (show TIv (tn 135 s40) ∧ 0 ≤ s40 144 2 from (by
          have ht : tn 135 s40 = tn 135 s39 := (tn_fr (x := 135) rfl fs40).trans ((tn_o 135 _ _ _ (by omega)).trans ((tn_o 135 _ _ _ (by omega)).trans (Eq.refl (tn 135 s39))))
          have z := z39
          rw [← ht] at z
          have z9 : s40 144 2 = 0 := z.2.2.2.2.1
          refine ⟨fun j y1 y2 => ?_, by omega⟩
          have y2 : j < s40 144 2 := y2
          omega)), (show s40 135 16 ≤ s40 149 5 ∧ 0 ≤ s40 135 16 ∧ s40 135 0 = (0 : Int) ∧ 0 ≤ (0 : Int) ∧ (0 : Int) ≤ 80 from (by
          have z := z39
          have z0 : s39 135 0 = 0 := z.1
          have z6 : s39 135 16 = 0 := z.2.2.2.2.2.2.2.1
          have r0 : s40 135 0 = s39 135 0 := fs40 135 0 rfl rfl
          have r6 : s40 135 16 = s39 135 16 := fs40 135 16 rfl rfl
          have q := rd40.1
          omega))⟩ rfl
theorem k_cReadB_m (hTb : aTb zSh rx_tb cl) {D : Nat} (hD : 126 ≤ D) : ∀ as st (Q Q' : zQ), (∀ r st', Q r st' → Q' r st') → k_cReadB 141 as st Q → cl D 141 as st Q' := by
  intro as st Q Q' hQ h
  unfold k_cReadB at h
  split at h
  · obtain ⟨rfl, rfl, h⟩ := h
    exact c_cReadB hTb hD (ct_cReadB_m hQ h)
  · exact h.elim
set_option maxHeartbeats 4000000 in
set_option maxRecDepth 100000 in
theorem c_cTownB (hTb : aTb zSh rx_tb cl) {D : Nat} (hD : 127 ≤ D) {st : zS} {Q : zQ} (h : ct_cTownB  st Q) : cl D 140 [.inr (.inr (.inl 0))] st Q := by
  obtain ⟨d, rfl⟩ : ∃ d, D = d + 1 := ⟨D - 1, by omega⟩
  refine hTb d 140 (rx_m140, 3, 0, 0, 1) rfl _ _ _ (Nat.le_of_ble_eq_true rfl) (fun K hcl hsf hsl => ?_)
  have hcm : zmo (wcL [(141, k_cReadB), (89, k_cCut), (163, k_cRefuse), (145, k_cBeginInB), (146, k_cForget), (147, k_cRowsClear)]) (cl d) := (wcL_m (wm_cons (k_cReadB_m hTb (by omega)) (wm_cons (k_cCut_m hTb (by omega)) (wm_cons (k_cRefuse_m hTb (by omega)) (wm_cons (k_cBeginInB_m hTb (by omega)) (wm_cons (k_cForget_m hTb (by omega)) (wm_cons (k_cRowsClear_m hTb (by omega)) wm_nil)))))))
  obtain ⟨hR, hQ⟩ := h
  obtain ⟨hG, ow, dd⟩ := hR
  change cOW st at ow
  have g1 := g_f0_9 hG
  have g2 := g_f0_8 hG
  have g3 := g_tsize hG
  refine dr1_ok (Rt := Q) (wc := (wcL [(141, k_cReadB), (89, k_cCut), (163, k_cRefuse), (145, k_cBeginInB), (146, k_cForget), (147, k_cRowsClear)])) (stp := []) hcm hcl [(5, 135), (53, 122), (59, 135), (75, 135), (96, 135)] [] 71 ?_
  show ((st 0 9 = (135 : Int)) ∧ (148 = 148 ∧ ((135) = 135 ∧ (rq_cReadB  st ∧ (∀ (r4 : Int) (s4 : zS), en_cReadB  st r4 s4 → (1 = 1 ∧ (rq_cCut (0) (zup (zup s4 0 10 (s4 148 3)) 0 11 (s4 148 4)) ∧ (∀ (s5 : zS), en_cCut (0) (zup (zup s4 0 10 (s4 148 3)) 0 11 (s4 148 4)) s5 → ((¬ r4 = (0 : Int) → ((s5 0 8 = (122 : Int)) ∧ ((s5 0 9 = (135 : Int)) ∧ ((135 = (135 : Int)) ∧ (5 = 5 ∧ ((135) = 135 ∧ (rq_cBeginInB  (zup (zup s5 0 8 135) 0 9 122) ∧ (∀ (s6 : zS), en_cBeginInB  (zup (zup s5 0 8 135) 0 9 122) s6 → (10 = 10 ∧ (rq_cForget  s6 ∧ (∀ (s7 : zS), en_cForget  s6 s7 → (115 = 115 ∧ (rq_cRowsClear  s7 ∧ (∀ (s8 : zS), en_cRowsClear  s7 s8 → ((s8 0 8 = (135 : Int)) ∧ Q (some (.inl (s8 135 0))) s8))))))))))))))) ∧ (¬ (¬ r4 = (0 : Int)) → (0 = 0 ∧ (rq_cRefuse (1) s5 ∧ (∀ (r9 : Int) (s9 : zS), en_cRefuse (1) s5 r9 s9 → Q (some (.inl r9)) s9)))))))))))))
  refine ⟨by omega, ?_⟩
  refine ⟨rfl, rfl, ⟨hG, (show cOW st from ow)⟩, fun r4 s4 q4 => ?_⟩
  obtain ⟨gs4, fs4, o4⟩ := q4
  change (r4 = 1 ∧ POK (ctx st) (st 1 1) (tn 135 s4) (s4 135 0)) ∨ (r4 = 0 ∧ PNO (ctx st) (st 1 1)) at o4
  have g10 := g_f135_0 gs4
  rcases o4 with ⟨y4, b4⟩ | ⟨y4, l4⟩
  · have g11 := g_rFault gs4
    have g12 := g_rFaultAt gs4
    refine ⟨rfl, (gInv_up (gInv_up gs4 (p_f0_10 (by omega))) (p_f0_11 (by omega))), fun s5 q5 => ?_⟩
    obtain ⟨gs5, fs5, t5⟩ := q5
    change (0 ≤ (0) ∧ (0) < s4 1 1 → s5 1 1 = (0)) ∧ (¬ (0 ≤ (0) ∧ (0) < s4 1 1) → s5 1 1 = s4 1 1) at t5
    have e13 : s4 1 1 = st 1 1 := fs4 1 1 rfl rfl
    have g14 := g_tsize gs5
    refine ⟨fun h15 => ?_, fun h15 => (by exfalso; omega)⟩
    have e17 : s4 0 8 = st 0 8 := fs4 0 8 rfl rfl
    have e16 : s5 0 8 = s4 0 8 := fs5 0 8 rfl rfl
    refine ⟨by omega, ?_⟩
    have e19 : s4 0 9 = st 0 9 := fs4 0 9 rfl rfl
    have e18 : s5 0 9 = s4 0 9 := fs5 0 9 rfl rfl
    refine ⟨by omega, ?_⟩
    refine ⟨by omega, ?_⟩
    refine ⟨rfl, rfl, (gInv_up (gInv_up gs5 (p_f0_8 (by omega))) (p_f0_9 (by omega))), fun s6 q6 => ?_⟩
    obtain ⟨gs6, fs6⟩ := q6
    refine ⟨rfl, gs6, fun s7 q7 => ?_⟩
    obtain ⟨gs7, fs7⟩ := q7
    refine ⟨rfl, gs7, fun s8 q8 => ?_⟩
    obtain ⟨gs8, fs8⟩ := q8
    have e22 : s6 0 8 = 135 := fs6 0 8 rfl rfl
    have e21 : s7 0 8 = s6 0 8 := fs7 0 8 rfl rfl
    have e20 : s8 0 8 = s7 0 8 := fs8 0 8 rfl rfl
    refine ⟨by omega, ?_⟩
    have e26 : s5 135 0 = s4 135 0 := fs5 135 0 rfl rfl
    have e25 : s6 135 0 = s5 135 0 := fs6 135 0 rfl rfl
    have e24 : s7 135 0 = s6 135 0 := fs7 135 0 rfl rfl
    have e23 : s8 135 0 = s7 135 0 := fs8 135 0 rfl rfl
    have e29 : s6 1 1 = s5 1 1 := fs6 1 1 rfl rfl
    have e28 : s7 1 1 = s6 1 1 := fs7 1 1 rfl rfl
    have e27 : s8 1 1 = s7 1 1 := fs8 1 1 rfl rfl
    have e32 : s6 0 9 = 122 := fs6 0 9 rfl rfl
    have e31 : s7 0 9 = s6 0 9 := fs7 0 9 rfl rfl
    have e30 : s8 0 9 = s7 0 9 := fs8 0 9 rfl rfl
    exact hQ _ _ ⟨gs8, (fr_tr (fr_tr (fr_tr (fr_f (fr_f (fr_tr (fr_f (fr_f (fr_tr (fr_rf _ _) fs4 rfl) rfl) rfl) fs5 rfl) rfl) rfl) fs6 rfl) fs7 rfl) fs8 rfl), (show ((s8 135 0) = -1 ∧ PNO (ctx st) (st 1 1)) ∨ POK (ctx st) (st 1 1) (tn 135 s8) (s8 135 0) from (by
          have hb := b4
          have ht : tn 135 s8 = tn 135 s4 := ((tn_fr (x := 135) rfl fs8).trans ((tn_fr (x := 135) rfl fs7).trans ((tn_fr (x := 135) rfl fs6).trans ((tn_o 135 _ _ _ (by omega)).trans ((tn_o 135 _ _ _ (by omega)).trans ((tn_fr (x := 135) rfl fs5).trans ((tn_o 135 _ _ _ (by omega)).trans ((tn_o 135 _ _ _ (by omega)).trans (Eq.refl _)))))))))
          rw [ht]
          rw [show (s8 135 0) = s4 135 0 from by omega]
          exact Or.inr hb)), (show s8 1 1 = 0 from by omega), (show (s8 0 8 = 135 ∧ s8 0 9 = 122) ∨ (s8 0 8 = 122 ∧ s8 0 9 = 135) from by omega)⟩
  · have g33 := g_rFault gs4
    have g34 := g_rFaultAt gs4
    refine ⟨rfl, (gInv_up (gInv_up gs4 (p_f0_10 (by omega))) (p_f0_11 (by omega))), fun s5 q5 => ?_⟩
    obtain ⟨gs5, fs5, t5⟩ := q5
    change (0 ≤ (0) ∧ (0) < s4 1 1 → s5 1 1 = (0)) ∧ (¬ (0 ≤ (0) ∧ (0) < s4 1 1) → s5 1 1 = s4 1 1) at t5
    have e35 : s4 1 1 = st 1 1 := fs4 1 1 rfl rfl
    have g36 := g_tsize gs5
    refine ⟨fun h37 => (by exfalso; omega), fun h37 => ?_⟩
    refine ⟨rfl, ⟨gs5, (show 0 ≤ (1) ∧ (1) ≤ 5 from by omega)⟩, fun r9 s9 q9 => ?_⟩
    obtain ⟨gs9, fs9, e9⟩ := q9
    change r9 = -1 at e9
    have e38 : s9 1 1 = s5 1 1 := fs9 1 1 rfl rfl
    have e41 : s4 0 8 = st 0 8 := fs4 0 8 rfl rfl
    have e40 : s5 0 8 = s4 0 8 := fs5 0 8 rfl rfl
    have e39 : s9 0 8 = s5 0 8 := fs9 0 8 rfl rfl
    have e44 : s4 0 9 = st 0 9 := fs4 0 9 rfl rfl
    have e43 : s5 0 9 = s4 0 9 := fs5 0 9 rfl rfl
    have e42 : s9 0 9 = s5 0 9 := fs9 0 9 rfl rfl
    exact hQ _ _ ⟨gs9, (fr_tr (fr_tr (fr_f (fr_f (fr_tr (fr_rf _ _) fs4 rfl) rfl) rfl) fs5 rfl) fs9 rfl), (show (r9 = -1 ∧ PNO (ctx st) (st 1 1)) ∨ POK (ctx st) (st 1 1) (tn 135 s9) r9 from (Or.inl ⟨by omega, l4⟩)), (show s9 1 1 = 0 from by omega), (show (s9 0 8 = 135 ∧ s9 0 9 = 122) ∨ (s9 0 8 = 122 ∧ s9 0 9 = 135) from by omega)⟩
theorem k_cTownB_m (hTb : aTb zSh rx_tb cl) {D : Nat} (hD : 127 ≤ D) : ∀ as st (Q Q' : zQ), (∀ r st', Q r st' → Q' r st') → k_cTownB 140 as st Q → cl D 140 as st Q' := by
  intro as st Q Q' hQ h
  unfold k_cTownB at h
  split at h
  · obtain ⟨rfl, h⟩ := h
    exact c_cTownB hTb hD (ct_cTownB_m hQ h)
  · exact h.elim
end R9z
