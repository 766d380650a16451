/-! printed by wip/pw/py/h9.py: what a town leaves of the rows -/
def m_wRClr : aM := ([(115, 5)], [])
def rq_wRClr  (st : zS) : Prop := gInv zgt st
def en_wRClr  (st : zS) (s1 : zS) : Prop := gInv zgt s1 ∧ aFr m_wRClr st s1 ∧ (s1 115 5 = 0)
def ct_wRClr  (st : zS) (Q : zQ) : Prop := rq_wRClr  st ∧ (∀ (s1 : zS), en_wRClr  st s1 → Q none s1)
theorem ct_wRClr_m {st : zS} {Q Q' : zQ} (hQ : ∀ r st', Q r st' → Q' r st') (h : ct_wRClr  st Q) : ct_wRClr  st Q' := ⟨h.1, fun x0 x1 => hQ _ _ (h.2 x0 x1)⟩
def k_wRClr : zCall := fun _ as st Q => match as with
  | [.inr (.inr (.inl z_o))] => z_o = 115 ∧ ct_wRClr  st Q
  | _ => False
def m_gTownA : aM := ([(0, 10), (0, 11), (1, 1), (122, 0), (122, 1), (122, 3), (122, 8), (122, 13), (122, 14), (122, 16), (122, 17), (122, 18), (131, 2), (148, 1), (148, 2), (148, 3), (148, 4), (149, 2), (149, 3), (149, 4), (149, 5), (149, 6)], [121, 123, 124, 125, 126, 127, 128, 129, 130, 132, 133, 134])
def rq_gTownA  (st : zS) : Prop := gInv zgt st ∧ (cOW st) ∧ (st 0 9 = 122 ∧ st 0 8 = 135)
def en_gTownA  (st : zS) (r : Int) (s1 : zS) : Prop := (r = -1 → aFr m_gTownA st s1) ∧ (¬ r = -1 → s1 115 5 = 0)
def ct_gTownA  (st : zS) (Q : zQ) : Prop := rq_gTownA  st ∧ (∀ (r : Int) (s1 : zS), en_gTownA  st r s1 → Q (some (.inl r)) s1)
theorem ct_gTownA_m {st : zS} {Q Q' : zQ} (hQ : ∀ r st', Q r st' → Q' r st') (h : ct_gTownA  st Q) : ct_gTownA  st Q' := ⟨h.1, fun x0 x1 x2 => hQ _ _ (h.2 x0 x1 x2)⟩
def k_gTownA : zCall := fun _ as st Q => match as with
  | [.inr (.inr (.inl z_o))] => z_o = 0 ∧ ct_gTownA  st Q
  | _ => False
def m_gTownB : aM := ([(0, 10), (0, 11), (1, 1), (135, 0), (135, 1), (135, 3), (135, 8), (135, 13), (135, 14), (135, 16), (135, 17), (135, 18), (144, 2), (148, 1), (148, 2), (148, 3), (148, 4), (149, 2), (149, 3), (149, 4), (149, 5), (149, 6)], [121, 136, 137, 138, 139, 140, 141, 142, 143, 145, 146, 147])
def rq_gTownB  (st : zS) : Prop := gInv zgt st ∧ (cOW st) ∧ (st 0 9 = 135 ∧ st 0 8 = 122)
def en_gTownB  (st : zS) (r : Int) (s1 : zS) : Prop := (r = -1 → aFr m_gTownB st s1) ∧ (¬ r = -1 → s1 115 5 = 0)
def ct_gTownB  (st : zS) (Q : zQ) : Prop := rq_gTownB  st ∧ (∀ (r : Int) (s1 : zS), en_gTownB  st r s1 → Q (some (.inl r)) s1)
theorem ct_gTownB_m {st : zS} {Q Q' : zQ} (hQ : ∀ r st', Q r st' → Q' r st') (h : ct_gTownB  st Q) : ct_gTownB  st Q' := ⟨h.1, fun x0 x1 x2 => hQ _ _ (h.2 x0 x1 x2)⟩
def k_gTownB : zCall := fun _ as st Q => match as with
  | [.inr (.inr (.inl z_o))] => z_o = 0 ∧ ct_gTownB  st Q
  | _ => False
def m_fBegin : aM := ([(170, 57), (170, 71)], [199, 200, 201, 202, 203, 204, 205])
def rq_fBegin  (st : zS) : Prop := gInv zgt st
def en_fBegin  (st : zS) (s1 : zS) : Prop := gInv zgt s1 ∧ aFr m_fBegin st s1 ∧ (s1 170 71 = 0)
def ct_fBegin  (st : zS) (Q : zQ) : Prop := rq_fBegin  st ∧ (∀ (s1 : zS), en_fBegin  st s1 → Q none s1)
theorem ct_fBegin_m {st : zS} {Q Q' : zQ} (hQ : ∀ r st', Q r st' → Q' r st') (h : ct_fBegin  st Q) : ct_fBegin  st Q' := ⟨h.1, fun x0 x1 => hQ _ _ (h.2 x0 x1)⟩
def k_fBegin : zCall := fun _ as st Q => match as with
  | [.inr (.inr (.inl z_o))] => z_o = 170 ∧ ct_fBegin  st Q
  | _ => False
def m_fTown : aM := ([(170, 1), (170, 2), (170, 3), (170, 4), (170, 5), (170, 6), (170, 7), (170, 8), (170, 9), (170, 10), (170, 11), (170, 12), (170, 34), (170, 35), (170, 36), (170, 42), (170, 43), (170, 45), (170, 46)], [172, 173, 174, 175, 176, 177, 178, 179, 180, 181, 182, 183, 184, 185, 186, 187, 188, 189, 190, 191, 192, 193, 194, 195, 196, 197, 198])
def rq_fTown  (st : zS) : Prop := gInv zgt st ∧ zJ st
def en_fTown  (st : zS) (r : Int) (s1 : zS) : Prop := (r = -1 → aFr m_fTown st s1) ∧ (¬ r = -1 → s1 170 71 = 0)
def ct_fTown  (st : zS) (Q : zQ) : Prop := rq_fTown  st ∧ (∀ (r : Int) (s1 : zS), en_fTown  st r s1 → Q (some (.inl r)) s1)
theorem ct_fTown_m {st : zS} {Q Q' : zQ} (hQ : ∀ r st', Q r st' → Q' r st') (h : ct_fTown  st Q) : ct_fTown  st Q' := ⟨h.1, fun x0 x1 x2 => hQ _ _ (h.2 x0 x1 x2)⟩
def k_fTown : zCall := fun _ as st Q => match as with
  | [.inr (.inr (.inl z_o))] => z_o = 170 ∧ ct_fTown  st Q
  | _ => False
section XYR
variable {cl : Nat → zCall}
set_option maxHeartbeats 4000000 in
set_option maxRecDepth 100000 in
theorem c_wRClr (hTb : aTb zSh rx_tb cl) {D : Nat} (hD : 1 ≤ D) {st : zS} {Q : zQ} (h : ct_wRClr  st Q) : cl D 147 [.inr (.inr (.inl 115))] st Q := by
  obtain ⟨d, rfl⟩ : ∃ d, D = d + 1 := ⟨D - 1, by omega⟩
  refine hTb d 147 (rx_m147, 1, 0, 0, 0) rfl _ _ _ (Nat.le_of_ble_eq_true rfl) (fun K hcl hsf hsl => ?_)
  have hcm : zmo (zno) (cl d) := zno_m
  obtain ⟨hR, hQ⟩ := h
  have hG := hR
  refine yr1_ok (Rt := Q) (wc := (zno)) (stp := []) hcm hcl [] 24 ?_
  show Q none (zup st 115 5 0)
  exact hQ _ ⟨(gInv_up hG (p_f115_5 (by omega))), (fr_f (fr_rf _ _) rfl), (show 0 = 0 from by omega)⟩
theorem k_wRClr_m (hTb : aTb zSh rx_tb cl) {D : Nat} (hD : 1 ≤ D) : ∀ as st (Q Q' : zQ), (∀ r st', Q r st' → Q' r st') → k_wRClr 147 as st Q → cl D 147 as st Q' := by
  intro as st Q Q' hQ h
  unfold k_wRClr at h
  split at h
  · obtain ⟨rfl, h⟩ := h
    exact c_wRClr hTb hD (ct_wRClr_m hQ h)
  · exact h.elim
set_option maxHeartbeats 4000000 in
set_option maxRecDepth 100000 in
theorem c_gTownA (hTb : aTb zSh rx_tb cl) {D : Nat} (hD : 127 ≤ D) {st : zS} {Q : zQ} (h : ct_gTownA  st Q) : cl D 140 [.inr (.inr (.inl 0))] st Q := by
  obtain ⟨d, rfl⟩ : ∃ d, D = d + 1 := ⟨D - 1, by omega⟩
  refine hTb d 140 (rx_m140, 3, 0, 0, 1) rfl _ _ _ (Nat.le_of_ble_eq_true rfl) (fun K hcl hsf hsl => ?_)
  have hcm : zmo (wcL [(141, k_cReadA), (89, k_cCut), (163, k_cRefuse), (145, k_cBeginInA), (146, k_cForget), (147, k_wRClr)]) (cl d) := (wcL_m (wm_cons (k_cReadA_m hTb (by omega)) (wm_cons (k_cCut_m hTb (by omega)) (wm_cons (k_cRefuse_m hTb (by omega)) (wm_cons (k_cBeginInA_m hTb (by omega)) (wm_cons (k_cForget_m hTb (by omega)) (wm_cons (k_wRClr_m hTb (by omega)) wm_nil)))))))
  obtain ⟨hR, hQ⟩ := h
  obtain ⟨hG, ow, dd⟩ := hR
  change cOW st at ow
  have g1 := g_f0_9 hG
  have g2 := g_f0_8 hG
  have g3 := g_tsize hG
  refine dr1_ok (Rt := Q) (wc := (wcL [(141, k_cReadA), (89, k_cCut), (163, k_cRefuse), (145, k_cBeginInA), (146, k_cForget), (147, k_wRClr)])) (stp := []) hcm hcl [(5, 122), (53, 135), (59, 122), (75, 122), (96, 122)] [] 71 ?_
  show ((st 0 9 = (122 : Int)) ∧ (148 = 148 ∧ ((122) = 122 ∧ (rq_cReadA  st ∧ (∀ (r4 : Int) (s4 : zS), en_cReadA  st r4 s4 → (1 = 1 ∧ (rq_cCut (0) (zup (zup s4 0 10 (s4 148 3)) 0 11 (s4 148 4)) ∧ (∀ (s5 : zS), en_cCut (0) (zup (zup s4 0 10 (s4 148 3)) 0 11 (s4 148 4)) s5 → ((¬ r4 = (0 : Int) → ((s5 0 8 = (135 : Int)) ∧ ((s5 0 9 = (122 : Int)) ∧ ((122 = (122 : Int)) ∧ (5 = 5 ∧ ((122) = 122 ∧ (rq_cBeginInA  (zup (zup s5 0 8 122) 0 9 135) ∧ (∀ (s6 : zS), en_cBeginInA  (zup (zup s5 0 8 122) 0 9 135) s6 → (10 = 10 ∧ (rq_cForget  s6 ∧ (∀ (s7 : zS), en_cForget  s6 s7 → (115 = 115 ∧ (rq_wRClr  s7 ∧ (∀ (s8 : zS), en_wRClr  s7 s8 → ((s8 0 8 = (122 : Int)) ∧ Q (some (.inl (s8 122 0))) s8))))))))))))))) ∧ (¬ (¬ r4 = (0 : Int)) → (0 = 0 ∧ (rq_cRefuse (1) s5 ∧ (∀ (r9 : Int) (s9 : zS), en_cRefuse (1) s5 r9 s9 → Q (some (.inl r9)) s9)))))))))))))
  refine ⟨by omega, ?_⟩
  refine ⟨rfl, rfl, ⟨hG, (show cOW st from ow)⟩, fun r4 s4 q4 => ?_⟩
  obtain ⟨gs4, fs4, o4⟩ := q4
  change (r4 = 1 ∧ POK (ctx st) (st 1 1) (tn 122 s4) (s4 122 0)) ∨ (r4 = 0 ∧ PNO (ctx st) (st 1 1)) at o4
  have g10 := g_f122_0 gs4
  rcases o4 with ⟨y4, b4⟩ | ⟨y4, l4⟩
  · have g11 := g_rFault gs4
    have g12 := g_rFaultAt gs4
    refine ⟨rfl, (gInv_up (gInv_up gs4 (p_f0_10 (by omega))) (p_f0_11 (by omega))), fun s5 q5 => ?_⟩
    obtain ⟨gs5, fs5, t5⟩ := q5
    change (0 ≤ (0) ∧ (0) < s4 1 1 → s5 1 1 = (0)) ∧ (¬ (0 ≤ (0) ∧ (0) < s4 1 1) → s5 1 1 = s4 1 1) at t5
    have e13 : s4 1 1 = st 1 1 := fs4 1 1 rfl rfl
    have g14 := g_tsize gs5
    refine ⟨fun h15 => ?_, fun h15 => (by exfalso; omega)⟩
    have e17 : s4 0 8 = st 0 8 := fs4 0 8 rfl rfl
    have e16 : s5 0 8 = s4 0 8 := fs5 0 8 rfl rfl
    refine ⟨by omega, ?_⟩
    have e19 : s4 0 9 = st 0 9 := fs4 0 9 rfl rfl
    have e18 : s5 0 9 = s4 0 9 := fs5 0 9 rfl rfl
    refine ⟨by omega, ?_⟩
    refine ⟨by omega, ?_⟩
    refine ⟨rfl, rfl, (gInv_up (gInv_up gs5 (p_f0_8 (by omega))) (p_f0_9 (by omega))), fun s6 q6 => ?_⟩
    obtain ⟨gs6, fs6⟩ := q6
    refine ⟨rfl, gs6, fun s7 q7 => ?_⟩
    obtain ⟨gs7, fs7⟩ := q7
    refine ⟨rfl, gs7, fun s8 q8 => ?_⟩
    obtain ⟨gs8, fs8, z8⟩ := q8
    change s8 115 5 = 0 at z8
    have g20 := g_f115_5 gs8
    have e23 : s6 0 8 = 122 := fs6 0 8 rfl rfl
    have e22 : s7 0 8 = s6 0 8 := fs7 0 8 rfl rfl
    have e21 : s8 0 8 = s7 0 8 := fs8 0 8 rfl rfl
    refine ⟨by omega, ?_⟩
    have e27 : s5 122 0 = s4 122 0 := fs5 122 0 rfl rfl
    have e26 : s6 122 0 = s5 122 0 := fs6 122 0 rfl rfl
    have e25 : s7 122 0 = s6 122 0 := fs7 122 0 rfl rfl
    have e24 : s8 122 0 = s7 122 0 := fs8 122 0 rfl rfl
    exact hQ _ _ ⟨(show (s8 122 0) = -1 → aFr m_gTownA st s8 from (fun q => by exfalso; obtain ⟨k_, T0_, p0_, q_, w1, w2, w3, w4, w5, w6⟩ := b4; omega)), (show ¬ (s8 122 0) = -1 → s8 115 5 = 0 from (fun _ => by omega))⟩
  · have g28 := g_rFault gs4
    have g29 := g_rFaultAt gs4
    refine ⟨rfl, (gInv_up (gInv_up gs4 (p_f0_10 (by omega))) (p_f0_11 (by omega))), fun s5 q5 => ?_⟩
    obtain ⟨gs5, fs5, t5⟩ := q5
    change (0 ≤ (0) ∧ (0) < s4 1 1 → s5 1 1 = (0)) ∧ (¬ (0 ≤ (0) ∧ (0) < s4 1 1) → s5 1 1 = s4 1 1) at t5
    have e30 : s4 1 1 = st 1 1 := fs4 1 1 rfl rfl
    have g31 := g_tsize gs5
    refine ⟨fun h32 => (by exfalso; omega), fun h32 => ?_⟩
    refine ⟨rfl, ⟨gs5, (show 0 ≤ (1) ∧ (1) ≤ 5 from by omega)⟩, fun r9 s9 q9 => ?_⟩
    obtain ⟨gs9, fs9, e9⟩ := q9
    change r9 = -1 at e9
    have e34 : s5 122 0 = s4 122 0 := fs5 122 0 rfl rfl
    have e33 : s9 122 0 = s5 122 0 := fs9 122 0 rfl rfl
    have g38 := g_f115_5 hG
    have e37 : s4 115 5 = st 115 5 := fs4 115 5 rfl rfl
    have e36 : s5 115 5 = s4 115 5 := fs5 115 5 rfl rfl
    have e35 : s9 115 5 = s5 115 5 := fs9 115 5 rfl rfl
    exact hQ _ _ ⟨(show r9 = -1 → aFr m_gTownA st s9 from (fun _ => (fr_tr (fr_tr (fr_f (fr_f (fr_tr (fr_rf _ _) fs4 rfl) rfl) rfl) fs5 rfl) fs9 rfl))), (show ¬ r9 = -1 → s9 115 5 = 0 from (fun q => by exfalso; omega))⟩
theorem k_gTownA_m (hTb : aTb zSh rx_tb cl) {D : Nat} (hD : 127 ≤ D) : ∀ as st (Q Q' : zQ), (∀ r st', Q r st' → Q' r st') → k_gTownA 140 as st Q → cl D 140 as st Q' := by
  intro as st Q Q' hQ h
  unfold k_gTownA at h
  split at h
  · obtain ⟨rfl, h⟩ := h
    exact c_gTownA hTb hD (ct_gTownA_m hQ h)
  · exact h.elim
set_option maxHeartbeats 4000000 in
set_option maxRecDepth 100000 in
theorem c_gTownB (hTb : aTb zSh rx_tb cl) {D : Nat} (hD : 127 ≤ D) {st : zS} {Q : zQ} (h : ct_gTownB  st Q) : cl D 140 [.inr (.inr (.inl 0))] st Q := by
  obtain ⟨d, rfl⟩ : ∃ d, D = d + 1 := ⟨D - 1, by omega⟩
  refine hTb d 140 (rx_m140, 3, 0, 0, 1) rfl _ _ _ (Nat.le_of_ble_eq_true rfl) (fun K hcl hsf hsl => ?_)
  have hcm : zmo (wcL [(141, k_cReadB), (89, k_cCut), (163, k_cRefuse), (145, k_cBeginInB), (146, k_cForget), (147, k_wRClr)]) (cl d) := (wcL_m (wm_cons (k_cReadB_m hTb (by omega)) (wm_cons (k_cCut_m hTb (by omega)) (wm_cons (k_cRefuse_m hTb (by omega)) (wm_cons (k_cBeginInB_m hTb (by omega)) (wm_cons (k_cForget_m hTb (by omega)) (wm_cons (k_wRClr_m hTb (by omega)) wm_nil)))))))
  obtain ⟨hR, hQ⟩ := h
  obtain ⟨hG, ow, dd⟩ := hR
  change cOW st at ow
  have g1 := g_f0_9 hG
  have g2 := g_f0_8 hG
  have g3 := g_tsize hG
  refine dr1_ok (Rt := Q) (wc := (wcL [(141, k_cReadB), (89, k_cCut), (163, k_cRefuse), (145, k_cBeginInB), (146, k_cForget), (147, k_wRClr)])) (stp := []) hcm hcl [(5, 135), (53, 122), (59, 135), (75, 135), (96, 135)] [] 71 ?_
  show ((st 0 9 = (135 : Int)) ∧ (148 = 148 ∧ ((135) = 135 ∧ (rq_cReadB  st ∧ (∀ (r4 : Int) (s4 : zS), en_cReadB  st r4 s4 → (1 = 1 ∧ (rq_cCut (0) (zup (zup s4 0 10 (s4 148 3)) 0 11 (s4 148 4)) ∧ (∀ (s5 : zS), en_cCut (0) (zup (zup s4 0 10 (s4 148 3)) 0 11 (s4 148 4)) s5 → ((¬ r4 = (0 : Int) → ((s5 0 8 = (122 : Int)) ∧ ((s5 0 9 = (135 : Int)) ∧ ((135 = (135 : Int)) ∧ (5 = 5 ∧ ((135) = 135 ∧ (rq_cBeginInB  (zup (zup s5 0 8 135) 0 9 122) ∧ (∀ (s6 : zS), en_cBeginInB  (zup (zup s5 0 8 135) 0 9 122) s6 → (10 = 10 ∧ (rq_cForget  s6 ∧ (∀ (s7 : zS), en_cForget  s6 s7 → (115 = 115 ∧ (rq_wRClr  s7 ∧ (∀ (s8 : zS), en_wRClr  s7 s8 → ((s8 0 8 = (135 : Int)) ∧ Q (some (.inl (s8 135 0))) s8))))))))))))))) ∧ (¬ (¬ r4 = (0 : Int)) → (0 = 0 ∧ (rq_cRefuse (1) s5 ∧ (∀ (r9 : Int) (s9 : zS), en_cRefuse (1) s5 r9 s9 → Q (some (.inl r9)) s9)))))))))))))
  refine ⟨by omega, ?_⟩
  refine ⟨rfl, rfl, ⟨hG, (show cOW st from ow)⟩, fun r4 s4 q4 => ?_⟩
  obtain ⟨gs4, fs4, o4⟩ := q4
  change (r4 = 1 ∧ POK (ctx st) (st 1 1) (tn 135 s4) (s4 135 0)) ∨ (r4 = 0 ∧ PNO (ctx st) (st 1 1)) at o4
  have g10 := g_f135_0 gs4
  rcases o4 with ⟨y4, b4⟩ | ⟨y4, l4⟩
  · have g11 := g_rFault gs4
    have g12 := g_rFaultAt gs4
    refine ⟨rfl, (gInv_up (gInv_up gs4 (p_f0_10 (by omega))) (p_f0_11 (by omega))), fun s5 q5 => ?_⟩
    obtain ⟨gs5, fs5, t5⟩ := q5
    change (0 ≤ (0) ∧ (0) < s4 1 1 → s5 1 1 = (0)) ∧ (¬ (0 ≤ (0) ∧ (0) < s4 1 1) → s5 1 1 = s4 1 1) at t5
    have e13 : s4 1 1 = st 1 1 := fs4 1 1 rfl rfl
    have g14 := g_tsize gs5
    refine ⟨fun h15 => ?_, fun h15 => (by exfalso; omega)⟩
    have e17 : s4 0 8 = st 0 8 := fs4 0 8 rfl rfl
    have e16 : s5 0 8 = s4 0 8 := fs5 0 8 rfl rfl
    refine ⟨by omega, ?_⟩
    have e19 : s4 0 9 = st 0 9 := fs4 0 9 rfl rfl
    have e18 : s5 0 9 = s4 0 9 := fs5 0 9 rfl rfl
    refine ⟨by omega, ?_⟩
    refine ⟨by omega, ?_⟩
    refine ⟨rfl, rfl, (gInv_up (gInv_up gs5 (p_f0_8 (by omega))) (p_f0_9 (by omega))), fun s6 q6 => ?_⟩
    obtain ⟨gs6, fs6⟩ := q6
    refine ⟨rfl, gs6, fun s7 q7 => ?_⟩
    obtain ⟨gs7, fs7⟩ := q7
    refine ⟨rfl, gs7, fun s8 q8 => ?_⟩
    obtain ⟨gs8, fs8, z8⟩ := q8
    change s8 115 5 = 0 at z8
    have g20 := g_f115_5 gs8
    have e23 : s6 0 8 = 135 := fs6 0 8 rfl rfl
    have e22 : s7 0 8 = s6 0 8 := fs7 0 8 rfl rfl
    have e21 : s8 0 8 = s7 0 8 := fs8 0 8 rfl rfl
    refine ⟨by omega, ?_⟩
    have e27 : s5 135 0 = s4 135 0 := fs5 135 0 rfl rfl
    have e26 : s6 135 0 = s5 135 0 := fs6 135 0 rfl rfl
    have e25 : s7 135 0 = s6 135 0 := fs7 135 0 rfl rfl
    have e24 : s8 135 0 = s7 135 0 := fs8 135 0 rfl rfl
    exact hQ _ _ ⟨(show (s8 135 0) = -1 → aFr m_gTownB st s8 from (fun q => by exfalso; obtain ⟨k_, T0_, p0_, q_, w1, w2, w3, w4, w5, w6⟩ := b4; omega)), (show ¬ (s8 135 0) = -1 → s8 115 5 = 0 from (fun _ => by omega))⟩
  · have g28 := g_rFault gs4
    have g29 := g_rFaultAt gs4
    refine ⟨rfl, (gInv_up (gInv_up gs4 (p_f0_10 (by omega))) (p_f0_11 (by omega))), fun s5 q5 => ?_⟩
    obtain ⟨gs5, fs5, t5⟩ := q5
    change (0 ≤ (0) ∧ (0) < s4 1 1 → s5 1 1 = (0)) ∧ (¬ (0 ≤ (0) ∧ (0) < s4 1 1) → s5 1 1 = s4 1 1) at t5
    have e30 : s4 1 1 = st 1 1 := fs4 1 1 rfl rfl
    have g31 := g_tsize gs5
    refine ⟨fun h32 => (by exfalso; omega), fun h32 => ?_⟩
    refine ⟨rfl, ⟨gs5, (show 0 ≤ (1) ∧ (1) ≤ 5 from by omega)⟩, fun r9 s9 q9 => ?_⟩
    obtain ⟨gs9, fs9, e9⟩ := q9
    change r9 = -1 at e9
    have e34 : s5 135 0 = s4 135 0 := fs5 135 0 rfl rfl
    have e33 : s9 135 0 = s5 135 0 := fs9 135 0 rfl rfl
    have g38 := g_f115_5 hG
    have e37 : s4 115 5 = st 115 5 := fs4 115 5 rfl rfl
    have e36 : s5 115 5 = s4 115 5 := fs5 115 5 rfl rfl
    have e35 : s9 115 5 = s5 115 5 := fs9 115 5 rfl rfl
    exact hQ _ _ ⟨(show r9 = -1 → aFr m_gTownB st s9 from (fun _ => (fr_tr (fr_tr (fr_f (fr_f (fr_tr (fr_rf _ _) fs4 rfl) rfl) rfl) fs5 rfl) fs9 rfl))), (show ¬ r9 = -1 → s9 115 5 = 0 from (fun q => by exfalso; omega))⟩
theorem k_gTownB_m (hTb : aTb zSh rx_tb cl) {D : Nat} (hD : 127 ≤ D) : ∀ as st (Q Q' : zQ), (∀ r st', Q r st' → Q' r st') → k_gTownB 140 as st Q → cl D 140 as st Q' := by
  intro as st Q Q' hQ h
  unfold k_gTownB at h
  split at h
  · obtain ⟨rfl, h⟩ := h
    exact c_gTownB hTb hD (ct_gTownB_m hQ h)
  · exact h.elim
set_option maxHeartbeats 4000000 in
set_option maxRecDepth 100000 in
theorem c_fBegin (hTb : aTb zSh rx_tb cl) {D : Nat} (hD : 1 ≤ D) {st : zS} {Q : zQ} (h : ct_fBegin  st Q) : cl D 150 [.inr (.inr (.inl 170))] st Q := by
  obtain ⟨d, rfl⟩ : ∃ d, D = d + 1 := ⟨D - 1, by omega⟩
  refine hTb d 150 (rx_m150, 2, 0, 0, 0) rfl _ _ _ (Nat.le_of_ble_eq_true rfl) (fun K hcl hsf hsl => ?_)
  have hcm : zmo (zno) (cl d) := zno_m
  obtain ⟨hR, hQ⟩ := h
  have hG := hR
  have l2 : ∀ (u : Nat) (k : Int) (s_l2 : zS), gInv zgt s_l2 ∧ aFr m_fBegin st s_l2 ∧ (0 ≤ k ∧ k ≤ 20) → (20 - k).toNat = u → K (rx_find rx_m150 65) [(1, .inl k), (0, .inr (.inr (.inl 170)))] [] s_l2 := by
    intro u
    induction u using Nat.strongRecOn with
    | _ u ih =>
      intro k s_l2 hi hu
      obtain ⟨gI_l2, fI_l2, i_l2⟩ := hi
      have g2 := g_bank hG
      have e1 : s_l2 170 13 = st 170 13 := fI_l2 170 13 rfl rfl
      refine yr1_ok (Rt := Q) (wc := (zno)) (stp := [65]) hcm hcl [] 108 ?_
      show ((0 ≤ s_l2 170 13 ∧ s_l2 170 13 < 2) ∧ ((s_l2 178 (s_l2 170 13 : Int).toNat ≤ k → ((0 ≤ (0 : Int) ∧ (0 : Int) < 22) ∧ Q none (zup (zup (zup s_l2 205 (0 : Int).toNat 0) 170 57 0) 170 71 0))) ∧ (¬ (s_l2 178 (s_l2 170 13 : Int).toNat ≤ k) → ((-2147483648 ≤ (20 : Int) * (s_l2 170 13) ∧ (20 : Int) * (s_l2 170 13) ≤ 2147483647) ∧ ((-2147483648 ≤ ((20 : Int) * (s_l2 170 13)) + k ∧ ((20 : Int) * (s_l2 170 13)) + k ≤ 2147483647) ∧ ((0 ≤ ((20 : Int) * (s_l2 170 13)) + k ∧ ((20 : Int) * (s_l2 170 13)) + k < 40) ∧ ((0 ≤ k ∧ k < 660) ∧ ((-2147483648 ≤ (20 : Int) * (s_l2 170 13) ∧ (20 : Int) * (s_l2 170 13) ≤ 2147483647) ∧ ((-2147483648 ≤ ((20 : Int) * (s_l2 170 13)) + k ∧ ((20 : Int) * (s_l2 170 13)) + k ≤ 2147483647) ∧ ((0 ≤ ((20 : Int) * (s_l2 170 13)) + k ∧ ((20 : Int) * (s_l2 170 13)) + k < 40) ∧ ((0 ≤ k ∧ k < 660) ∧ ((-2147483648 ≤ k + 1 ∧ k + 1 ≤ 2147483647) ∧ K (rx_find rx_m150 65) [(1, .inl (k + 1)), (0, .inr (.inr (.inl 170)))] [] (zup (zup s_l2 203 (k : Int).toNat (s_l2 179 (((20 : Int) * (s_l2 170 13)) + k : Int).toNat)) 204 (k : Int).toNat (s_l2 180 (((20 : Int) * (s_l2 170 13)) + k : Int).toNat))))))))))))))
      have g4 := g_steps hG (st 170 13 : Int).toNat
      have e3 : s_l2 178 (s_l2 170 13 : Int).toNat = st 178 (st 170 13 : Int).toNat := (fI_l2 178 (s_l2 170 13 : Int).toNat rfl rfl).trans (by rw [e1] <;> rfl)
      refine ⟨by omega, ?_⟩
      refine ⟨fun h5 => ?_, fun h5 => ?_⟩
      · refine ⟨by omega, ?_⟩
        exact hQ _ ⟨(gInv_up (gInv_up (gInv_up gI_l2 (p_keptMany (by omega))) (p_undos (by omega))) (p_rows (by omega))), (fr_f (fr_f (fr_a fI_l2 rfl) rfl) rfl), (show 0 = 0 from by omega)⟩
      · refine ⟨by omega, ?_⟩
        refine ⟨by omega, ?_⟩
        have g7 := g_stepTold hG (((20 : Int) * (st 170 13)) + k : Int).toNat
        have e6 : s_l2 179 (((20 : Int) * (s_l2 170 13)) + k : Int).toNat = st 179 (((20 : Int) * (st 170 13)) + k : Int).toNat := (fI_l2 179 (((20 : Int) * (s_l2 170 13)) + k : Int).toNat rfl rfl).trans (by rw [e1] <;> rfl)
        refine ⟨by omega, ?_⟩
        refine ⟨by omega, ?_⟩
        refine ⟨by omega, ?_⟩
        refine ⟨by omega, ?_⟩
        have g9 := g_minutesTold hG (((20 : Int) * (st 170 13)) + k : Int).toNat
        have e8 : s_l2 180 (((20 : Int) * (s_l2 170 13)) + k : Int).toNat = st 180 (((20 : Int) * (st 170 13)) + k : Int).toNat := (fI_l2 180 (((20 : Int) * (s_l2 170 13)) + k : Int).toNat rfl rfl).trans (by rw [e1] <;> rfl)
        refine ⟨by omega, ?_⟩
        refine ⟨by omega, ?_⟩
        refine ⟨by omega, ?_⟩
        exact ih _ (show (20 - (k + 1) : Int).toNat < u from by omega) (k + 1) (zup (zup s_l2 203 (k : Int).toNat (s_l2 179 (((20 : Int) * (s_l2 170 13)) + k : Int).toNat)) 204 (k : Int).toNat (s_l2 180 (((20 : Int) * (s_l2 170 13)) + k : Int).toNat)) ⟨(gInv_up (gInv_up gI_l2 (p_stepPlace (by omega))) (p_stepMinutes (by omega))), (fr_a (fr_a fI_l2 rfl) rfl), (show 0 ≤ (k + 1) ∧ (k + 1) ≤ 20 from by omega)⟩ rfl
  have l1 : ∀ (u : Nat) (k : Int) (s_l1 : zS), gInv zgt s_l1 ∧ aFr m_fBegin st s_l1 ∧ (0 ≤ k ∧ k ≤ 8) → (8 - k).toNat = u → K (rx_find rx_m150 16) [(1, .inl k), (0, .inr (.inr (.inl 170)))] [] s_l1 := by
    intro u
    induction u using Nat.strongRecOn with
    | _ u ih =>
      intro k s_l1 hi hu
      obtain ⟨gI_l1, fI_l1, i_l1⟩ := hi
      have g11 := g_bank hG
      have e10 : s_l1 170 13 = st 170 13 := fI_l1 170 13 rfl rfl
      refine yr1_ok (Rt := Q) (wc := (zno)) (stp := [16, 65]) hcm hcl [] 108 ?_
      show (((8 : Int) ≤ k → ((0 ≤ s_l1 170 13 ∧ s_l1 170 13 < 2) ∧ ((0 ≤ (0 : Int) ∧ (0 : Int) < 22) ∧ K (rx_find rx_m150 65) [(1, .inl 0), (0, .inr (.inr (.inl 170)))] [] (zup s_l1 202 (0 : Int).toNat (s_l1 178 (s_l1 170 13 : Int).toNat))))) ∧ (¬ ((8 : Int) ≤ k) → ((-2147483648 ≤ (8 : Int) * (s_l1 170 13) ∧ (8 : Int) * (s_l1 170 13) ≤ 2147483647) ∧ ((-2147483648 ≤ ((8 : Int) * (s_l1 170 13)) + k ∧ ((8 : Int) * (s_l1 170 13)) + k ≤ 2147483647) ∧ ((0 ≤ ((8 : Int) * (s_l1 170 13)) + k ∧ ((8 : Int) * (s_l1 170 13)) + k < 16) ∧ ((0 ≤ k ∧ k < 176) ∧ ((-2147483648 ≤ k + 1 ∧ k + 1 ≤ 2147483647) ∧ K (rx_find rx_m150 16) [(1, .inl (k + 1)), (0, .inr (.inr (.inl 170)))] [] (zup s_l1 201 (k : Int).toNat (s_l1 182 (((8 : Int) * (s_l1 170 13)) + k : Int).toNat)))))))))
      refine ⟨fun h12 => ?_, fun h12 => ?_⟩
      · have g14 := g_steps hG (st 170 13 : Int).toNat
        have e13 : s_l1 178 (s_l1 170 13 : Int).toNat = st 178 (st 170 13 : Int).toNat := (fI_l1 178 (s_l1 170 13 : Int).toNat rfl rfl).trans (by rw [e10] <;> rfl)
        refine ⟨by omega, ?_⟩
        refine ⟨by omega, ?_⟩
        exact l2 _ 0 (zup s_l1 202 (0 : Int).toNat (s_l1 178 (s_l1 170 13 : Int).toNat)) ⟨(gInv_up gI_l1 (p_stepMany (by omega))), (fr_a fI_l1 rfl), (show 0 ≤ (0 : Int) ∧ (0 : Int) ≤ 20 from by omega)⟩ rfl
      · refine ⟨by omega, ?_⟩
        refine ⟨by omega, ?_⟩
        have g16 := g_thingTold hG (((8 : Int) * (st 170 13)) + k : Int).toNat
        have e15 : s_l1 182 (((8 : Int) * (s_l1 170 13)) + k : Int).toNat = st 182 (((8 : Int) * (st 170 13)) + k : Int).toNat := (fI_l1 182 (((8 : Int) * (s_l1 170 13)) + k : Int).toNat rfl rfl).trans (by rw [e10] <;> rfl)
        refine ⟨by omega, ?_⟩
        refine ⟨by omega, ?_⟩
        refine ⟨by omega, ?_⟩
        exact ih _ (show (8 - (k + 1) : Int).toNat < u from by omega) (k + 1) (zup s_l1 201 (k : Int).toNat (s_l1 182 (((8 : Int) * (s_l1 170 13)) + k : Int).toNat)) ⟨(gInv_up gI_l1 (p_thingAt (by omega))), (fr_a fI_l1 rfl), (show 0 ≤ (k + 1) ∧ (k + 1) ≤ 8 from by omega)⟩ rfl
  have g17 := g_bank hG
  refine yr1_ok (Rt := Q) (wc := (zno)) (stp := [16, 65]) hcm hcl [] 108 ?_
  show ((0 ≤ (0 : Int) ∧ (0 : Int) < 22) ∧ ((0 ≤ (0 : Int) ∧ (0 : Int) < 22) ∧ K (rx_find rx_m150 16) [(1, .inl 0), (0, .inr (.inr (.inl 170)))] [] (zup (zup st 199 (0 : Int).toNat 0) 200 (0 : Int).toNat 0)))
  refine ⟨by omega, ?_⟩
  refine ⟨by omega, ?_⟩
  exact l1 _ 0 (zup (zup st 199 (0 : Int).toNat 0) 200 (0 : Int).toNat 0) ⟨(gInv_up (gInv_up hG (p_yearOf (by omega))) (p_shutOf (by omega))), (fr_a (fr_a (fr_rf _ _) rfl) rfl), (show 0 ≤ (0 : Int) ∧ (0 : Int) ≤ 8 from by omega)⟩ rfl
theorem k_fBegin_m (hTb : aTb zSh rx_tb cl) {D : Nat} (hD : 1 ≤ D) : ∀ as st (Q Q' : zQ), (∀ r st', Q r st' → Q' r st') → k_fBegin 150 as st Q → cl D 150 as st Q' := by
  intro as st Q Q' hQ h
  unfold k_fBegin at h
  split at h
  · obtain ⟨rfl, h⟩ := h
    exact c_fBegin hTb hD (ct_fBegin_m hQ h)
  · exact h.elim
set_option maxHeartbeats 4000000 in
set_option maxRecDepth 100000 in
theorem c_fTown (hTb : aTb zSh rx_tb cl) {D : Nat} (hD : 8 ≤ D) {st : zS} {Q : zQ} (h : ct_fTown  st Q) : cl D 148 [.inr (.inr (.inl 170))] st Q := by
  obtain ⟨d, rfl⟩ : ∃ d, D = d + 1 := ⟨D - 1, by omega⟩
  refine hTb d 148 (rx_m148, 2, 0, 0, 1) rfl _ _ _ (Nat.le_of_ble_eq_true rfl) (fun K hcl hsf hsl => ?_)
  have hcm : zmo (wcL [(149, k_ahead), (210, k_xstatement), (211, k_finishes), (58, k_refuses), (150, k_fBegin)]) (cl d) := (wcL_m (wm_cons (k_ahead_m hTb (by omega)) (wm_cons (k_xstatement_m hTb (by omega)) (wm_cons (k_finishes_m hTb (by omega)) (wm_cons (k_refuses_m hTb (by omega)) (wm_cons (k_fBegin_m hTb (by omega)) wm_nil))))))
  obtain ⟨hR, hQ⟩ := h
  obtain ⟨hG, hJ⟩ := hR
  have m194 : ∀ (k : Int) (s_m194 : zS), gInv zgt s_m194 ∧ aFr m_fTown st s_m194 ∧ (s_m194 170 4 ≤ s_m194 170 5 ∧ s_m194 170 5 ≤ s_m194 170 2 ∧ (s_m194 170 3 = 0 ∧ s_m194 170 4 = s_m194 170 2 ∨ 1 ≤ s_m194 170 3 ∧ s_m194 170 4 < s_m194 170 5)) ∧ (s_m194 170 35 = 1 - s_m194 170 13 ∧ s_m194 170 13 = st 170 13) ∧ (0 ≤ k ∧ k ≤ s_m194 170 4 + s_m194 170 8) ∧ (s_m194 170 8 = 0 → TS s_m194 ∧ s_m194 170 34 ≤ s_m194 170 4) → K (rx_find rx_m148 194) [(1, .inl k), (0, .inr (.inr (.inl 170)))] [] s_m194 := by
    intro k s_m194 hi
    obtain ⟨gI_m194, fI_m194, lx_m194, bk_m194, n_m194, e_m194⟩ := hi
    have g1 := g_signAt gI_m194
    have g2 := g_signEnd gI_m194
    have g3 := g_size gI_m194
    have g4 := g_sign gI_m194
    have g5 := g_in gI_m194
    have g7 := g_bank hG
    have e6 : s_m194 170 13 = st 170 13 := fI_m194 170 13 rfl rfl
    have g8 := g_faultKind gI_m194
    have g9 := g_codes gI_m194
    have g10 := g_faultPlace gI_m194
    refine yr1_ok (Rt := Q) (wc := (wcL [(149, k_ahead), (210, k_xstatement), (211, k_finishes), (58, k_refuses), (150, k_fBegin)])) (stp := [194]) hcm hcl [] 200 ?_
    show ((s_m194 170 8 ≤ (0 : Int) → (170 = 170 ∧ (rq_fBegin  (zup (zup (zup s_m194 170 10 (s_m194 170 8)) 170 11 (s_m194 170 9)) 170 13 (s_m194 170 35)) ∧ (∀ (s11 : zS), en_fBegin  (zup (zup (zup s_m194 170 10 (s_m194 170 8)) 170 11 (s_m194 170 9)) 170 13 (s_m194 170 35)) s11 → Q (some (.inl k)) s11)))) ∧ (¬ (s_m194 170 8 ≤ (0 : Int)) → (170 = 170 ∧ (rq_refuses (1) (zup (zup s_m194 170 10 (s_m194 170 8)) 170 11 (s_m194 170 9)) ∧ (∀ (r12 : Int) (s12 : zS), en_refuses (1) (zup (zup s_m194 170 10 (s_m194 170 8)) 170 11 (s_m194 170 9)) r12 s12 → Q (some (.inl r12)) s12)))))
    refine ⟨fun h13 => ?_, fun h13 => ?_⟩
    · refine ⟨rfl, (gInv_up (gInv_up (gInv_up gI_m194 (p_toldKind (by omega))) (p_toldPlace (by omega))) (p_bank (by omega))), fun s11 q11 => ?_⟩
      obtain ⟨gs11, fs11, z11⟩ := q11
      change s11 170 71 = 0 at z11
      have g14 := g_rows gs11
      exact hQ _ _ ⟨(show k = -1 → aFr m_fTown st s11 from (fun q => by exfalso; omega)), (show ¬ k = -1 → s11 170 71 = 0 from (fun _ => by omega))⟩
    · refine ⟨rfl, ⟨(gInv_up (gInv_up gI_m194 (p_toldKind (by omega))) (p_toldPlace (by omega))), (show 0 ≤ (1) ∧ (1) ≤ 5 from by omega)⟩, fun r12 s12 q12 => ?_⟩
      obtain ⟨gs12, fs12, e12⟩ := q12
      change r12 = -1 at e12
      have g17 := g_rows hG
      have e16 : s_m194 170 71 = st 170 71 := fI_m194 170 71 rfl rfl
      have e15 : s12 170 71 = s_m194 170 71 := fs12 170 71 rfl rfl
      exact hQ _ _ ⟨(show r12 = -1 → aFr m_fTown st s12 from (fun _ => (fr_tr (fr_f (fr_f fI_m194 rfl) rfl) fs12 rfl))), (show ¬ r12 = -1 → s12 170 71 = 0 from (fun q => by exfalso; omega))⟩
  have lm : ∀ (u : Nat) (k : Int) (s_lm : zS), gInv zgt s_lm ∧ aFr m_fTown st s_lm ∧ (s_lm 170 4 ≤ s_lm 170 5 ∧ s_lm 170 5 ≤ s_lm 170 2 ∧ (s_lm 170 3 = 0 ∧ s_lm 170 4 = s_lm 170 2 ∨ 1 ≤ s_lm 170 3 ∧ s_lm 170 4 < s_lm 170 5)) ∧ (s_lm 170 35 = 1 - s_lm 170 13 ∧ s_lm 170 13 = st 170 13) ∧ (0 ≤ k ∧ k ≤ s_lm 170 4 + s_lm 170 8) ∧ (s_lm 170 8 = 0 → TS s_lm ∧ s_lm 170 34 ≤ s_lm 170 4) → (12000 - 2000 * s_lm 170 8 + 1601 - s_lm 170 4).toNat = u → K (rx_find rx_m148 165) [(1, .inl k), (0, .inr (.inr (.inl 170)))] [] s_lm := by
    intro u
    induction u using Nat.strongRecOn with
    | _ u ih =>
      intro k s_lm hi hu
      obtain ⟨gI_lm, fI_lm, lx_lm, bk_lm, n_lm, e_lm⟩ := hi
      have g18 := g_signAt gI_lm
      have g19 := g_signEnd gI_lm
      have g20 := g_size gI_lm
      have g21 := g_sign gI_lm
      have g22 := g_in gI_lm
      have g24 := g_bank hG
      have e23 : s_lm 170 13 = st 170 13 := fI_lm 170 13 rfl rfl
      have g25 := g_faultKind gI_lm
      have g26 := g_codes gI_lm
      have g27 := g_faultPlace gI_lm
      refine yr1_ok (Rt := Q) (wc := (wcL [(149, k_ahead), (210, k_xstatement), (211, k_finishes), (58, k_refuses), (150, k_fBegin)])) (stp := [165, 194]) hcm hcl [] 200 ?_
      show ((¬ s_lm 170 8 = (0 : Int) → K (rx_find rx_m148 194) [(1, .inl k), (0, .inr (.inr (.inl 170)))] [] s_lm) ∧ (¬ (¬ s_lm 170 8 = (0 : Int)) → ((s_lm 170 3 = (0 : Int) → K (rx_find rx_m148 194) [(1, .inl k), (0, .inr (.inr (.inl 170)))] [] s_lm) ∧ (¬ (s_lm 170 3 = (0 : Int)) → (170 = 170 ∧ (rq_xstatement  s_lm ∧ (∀ (s28 : zS), en_xstatement  s_lm s28 → ((-2147483648 ≤ k + 1 ∧ k + 1 ≤ 2147483647) ∧ (170 = 170 ∧ (rq_finishes (k + 1) s28 ∧ (∀ (s29 : zS), en_finishes (k + 1) s28 s29 → K (rx_find rx_m148 165) [(1, .inl (k + 1)), (0, .inr (.inr (.inl 170)))] [] s29)))))))))))
      refine ⟨fun h30 => ?_, fun h30 => ?_⟩
      · exact m194 k s_lm ⟨gI_lm, fI_lm, (show s_lm 170 4 ≤ s_lm 170 5 ∧ s_lm 170 5 ≤ s_lm 170 2 ∧ (s_lm 170 3 = 0 ∧ s_lm 170 4 = s_lm 170 2 ∨ 1 ≤ s_lm 170 3 ∧ s_lm 170 4 < s_lm 170 5) from by omega), (show s_lm 170 35 = 1 - s_lm 170 13 ∧ s_lm 170 13 = st 170 13 from by omega), (show 0 ≤ k ∧ k ≤ s_lm 170 4 + s_lm 170 8 from by omega), (show s_lm 170 8 = 0 → TS s_lm ∧ s_lm 170 34 ≤ s_lm 170 4 from by omega)⟩
      · refine ⟨fun h31 => ?_, fun h31 => ?_⟩
        · exact m194 k s_lm ⟨gI_lm, fI_lm, (show s_lm 170 4 ≤ s_lm 170 5 ∧ s_lm 170 5 ≤ s_lm 170 2 ∧ (s_lm 170 3 = 0 ∧ s_lm 170 4 = s_lm 170 2 ∨ 1 ≤ s_lm 170 3 ∧ s_lm 170 4 < s_lm 170 5) from by omega), (show s_lm 170 35 = 1 - s_lm 170 13 ∧ s_lm 170 13 = st 170 13 from by omega), (show 0 ≤ k ∧ k ≤ s_lm 170 4 + s_lm 170 8 from by omega), (show s_lm 170 8 = 0 → TS s_lm ∧ s_lm 170 34 ≤ s_lm 170 4 from by omega)⟩
        · refine ⟨rfl, ⟨gI_lm, (show s_lm 170 4 ≤ s_lm 170 5 ∧ s_lm 170 5 ≤ s_lm 170 2 ∧ (s_lm 170 3 = 0 ∧ s_lm 170 4 = s_lm 170 2 ∨ 1 ≤ s_lm 170 3 ∧ s_lm 170 4 < s_lm 170 5) from by omega), (show TS s_lm from (e_lm (by omega)).1), (show s_lm 170 8 = 0 ∧ s_lm 170 34 ≤ s_lm 170 4 ∧ 1 ≤ s_lm 170 3 from by have z := (e_lm (by omega)).2; omega), (show s_lm 170 35 = 1 - s_lm 170 13 from by omega)⟩, fun s28 q28 => ?_⟩
          obtain ⟨gs28, fs28, p28, R28, B28, e28⟩ := q28
          change s28 170 4 ≤ s28 170 5 ∧ s28 170 5 ≤ s28 170 2 ∧ (s28 170 3 = 0 ∧ s28 170 4 = s28 170 2 ∨ 1 ≤ s28 170 3 ∧ s28 170 4 < s28 170 5) ∧ s_lm 170 4 ≤ s28 170 4 at p28
          have g32 := g_signAt gs28
          have g33 := g_signEnd gs28
          have e34 : s28 170 2 = s_lm 170 2 := fs28 170 2 rfl rfl
          have g35 := g_sign gs28
          change jR s_lm s28 at R28
          change bR s_lm s28 at B28
          change s28 170 8 = 0 → TS s28 ∧ s28 170 34 ≤ s28 170 4 at e28
          have g36 := g_faultKind gs28
          have g37 := g_codes gs28
          refine ⟨by omega, ?_⟩
          refine ⟨rfl, ⟨gs28, (show s28 170 4 ≤ s28 170 5 ∧ s28 170 5 ≤ s28 170 2 ∧ (s28 170 3 = 0 ∧ s28 170 4 = s28 170 2 ∨ 1 ≤ s28 170 3 ∧ s28 170 4 < s28 170 5) from by omega)⟩, fun s29 q29 => ?_⟩
          obtain ⟨gs29, fs29, p29⟩ := q29
          change s29 170 4 ≤ s29 170 5 ∧ s29 170 5 ≤ s29 170 2 ∧ (s29 170 3 = 0 ∧ s29 170 4 = s29 170 2 ∨ 1 ≤ s29 170 3 ∧ s29 170 4 < s29 170 5) ∧ s28 170 4 ≤ s29 170 4 ∧ (s29 170 8 = 0 → s28 170 8 = 0 ∧ s28 170 5 ≤ s29 170 4 ∧ 1 ≤ s28 170 3) at p29
          have g38 := g_signAt gs29
          have g39 := g_signEnd gs29
          have e40 : s29 170 2 = s28 170 2 := fs29 170 2 rfl rfl
          have g41 := g_sign gs29
          have g42 := g_faultKind gs29
          have e44 : s28 170 35 = s_lm 170 35 := fs28 170 35 rfl rfl
          have e43 : s29 170 35 = s28 170 35 := fs29 170 35 rfl rfl
          have e46 : s28 170 13 = s_lm 170 13 := fs28 170 13 rfl rfl
          have e45 : s29 170 13 = s28 170 13 := fs29 170 13 rfl rfl
          have e47 : s29 170 34 = s28 170 34 := fs29 170 34 rfl rfl
          exact ih _ (show (12000 - 2000 * s29 170 8 + 1601 - s29 170 4 : Int).toNat < u from by omega) (k + 1) s29 ⟨gs29, (fr_tr (fr_tr fI_lm fs28 rfl) fs29 rfl), (show s29 170 4 ≤ s29 170 5 ∧ s29 170 5 ≤ s29 170 2 ∧ (s29 170 3 = 0 ∧ s29 170 4 = s29 170 2 ∨ 1 ≤ s29 170 3 ∧ s29 170 4 < s29 170 5) from by omega), (show s29 170 35 = 1 - s29 170 13 ∧ s29 170 13 = st 170 13 from by omega), (show 0 ≤ (k + 1) ∧ (k + 1) ≤ s29 170 4 + s29 170 8 from by omega), (show s29 170 8 = 0 → TS s29 ∧ s29 170 34 ≤ s29 170 4 from fun z => ⟨TS_fr rfl fs29 (e28 (by omega)).1, by have z1 := (e28 (by omega)).2; omega⟩)⟩ rfl
  have lz : ∀ (u : Nat) (k : Int) (s_lz : zS), gInv zgt s_lz ∧ aFr m_fTown st s_lz ∧ (s_lz 170 35 = 1 - s_lz 170 13 ∧ s_lz 170 13 = st 170 13 ∧ s_lz 170 8 = 0 ∧ s_lz 170 5 = 0 ∧ 0 ≤ k ∧ k ≤ 64) ∧ (s_lz 172 (s_lz 170 35 : Int).toNat = 0 ∧ s_lz 173 (s_lz 170 35 : Int).toNat = 0 ∧ s_lz 178 (s_lz 170 35 : Int).toNat = 0 ∧ s_lz 186 (2 * s_lz 170 35 : Int).toNat = -1 ∧ s_lz 186 (2 * s_lz 170 35 + 1 : Int).toNat = -1) ∧ (∀ j : Int, 0 ≤ j → j < k → s_lz 177 (64 * s_lz 170 35 + j).toNat = 0) → (64 - k).toNat = u → K (rx_find rx_m148 127) [(1, .inl k), (0, .inr (.inr (.inl 170)))] [] s_lz := by
    intro u
    induction u using Nat.strongRecOn with
    | _ u ih =>
      intro k s_lz hi hu
      obtain ⟨gI_lz, fI_lz, d_lz, e_lz, z_lz⟩ := hi
      have g48 := g_in gI_lz
      have g50 := g_bank hG
      have e49 : s_lz 170 13 = st 170 13 := fI_lz 170 13 rfl rfl
      have g51 := g_faultKind gI_lz
      have g52 := g_signEnd gI_lz
      have g53 := g_places gI_lz (s_lz 170 35 : Int).toNat
      have g54 := g_streets gI_lz (s_lz 170 35 : Int).toNat
      have g55 := g_steps gI_lz (s_lz 170 35 : Int).toNat
      have g56 := g_sumFrom gI_lz (2 * s_lz 170 35 : Int).toNat
      have g57 := g_sumFrom gI_lz (2 * s_lz 170 35 + 1 : Int).toNat
      have g58 := g_codes gI_lz
      have g59 := g_signAt gI_lz
      have g60 := g_size gI_lz
      have g61 := g_sign gI_lz
      have g62 := g_faultPlace gI_lz
      refine yr1_ok (Rt := Q) (wc := (wcL [(149, k_ahead), (210, k_xstatement), (211, k_finishes), (58, k_refuses), (150, k_fBegin)])) (stp := [127, 165, 194]) hcm hcl [] 200 ?_
      show (((64 : Int) ≤ k → (170 = 170 ∧ (rq_ahead  (zup s_lz 170 34 0) ∧ (∀ (s63 : zS), en_ahead  (zup s_lz 170 34 0) s63 → K (rx_find rx_m148 165) [(1, .inl 0), (0, .inr (.inr (.inl 170)))] [] s63)))) ∧ (¬ ((64 : Int) ≤ k) → ((-2147483648 ≤ (64 : Int) * (s_lz 170 35) ∧ (64 : Int) * (s_lz 170 35) ≤ 2147483647) ∧ ((-2147483648 ≤ ((64 : Int) * (s_lz 170 35)) + k ∧ ((64 : Int) * (s_lz 170 35)) + k ≤ 2147483647) ∧ ((0 ≤ ((64 : Int) * (s_lz 170 35)) + k ∧ ((64 : Int) * (s_lz 170 35)) + k < 128) ∧ ((-2147483648 ≤ k + 1 ∧ k + 1 ≤ 2147483647) ∧ K (rx_find rx_m148 127) [(1, .inl (k + 1)), (0, .inr (.inr (.inl 170)))] [] (zup s_lz 177 (((64 : Int) * (s_lz 170 35)) + k : Int).toNat 0)))))))
      refine ⟨fun h64 => ?_, fun h64 => ?_⟩
      · refine ⟨rfl, ⟨(gInv_up gI_lz (p_codes (by omega))), (show s_lz 170 5 ≤ s_lz 170 2 from by omega)⟩, fun s63 q63 => ?_⟩
        obtain ⟨gs63, fs63, p63⟩ := q63
        change s63 170 4 ≤ s63 170 5 ∧ s63 170 5 ≤ s63 170 2 ∧ (s63 170 3 = 0 ∧ s63 170 4 = s63 170 2 ∨ 1 ≤ s63 170 3 ∧ s63 170 4 < s63 170 5) ∧ s_lz 170 5 ≤ s63 170 4 at p63
        have g65 := g_signAt gs63
        have g66 := g_signEnd gs63
        have e67 : s63 170 2 = s_lz 170 2 := fs63 170 2 rfl rfl
        have g68 := g_sign gs63
        have e69 : s63 170 35 = s_lz 170 35 := fs63 170 35 rfl rfl
        have e70 : s63 170 13 = s_lz 170 13 := fs63 170 13 rfl rfl
        have e71 : s63 170 8 = s_lz 170 8 := fs63 170 8 rfl rfl
        have e72 : s63 170 34 = 0 := fs63 170 34 rfl rfl
        exact lm _ 0 s63 ⟨gs63, (fr_tr (fr_f fI_lz rfl) fs63 rfl), (show s63 170 4 ≤ s63 170 5 ∧ s63 170 5 ≤ s63 170 2 ∧ (s63 170 3 = 0 ∧ s63 170 4 = s63 170 2 ∨ 1 ≤ s63 170 3 ∧ s63 170 4 < s63 170 5) from by omega), (show s63 170 35 = 1 - s63 170 13 ∧ s63 170 13 = st 170 13 from by omega), (show 0 ≤ (0 : Int) ∧ (0 : Int) ≤ s63 170 4 + s63 170 8 from by omega), (show s63 170 8 = 0 → TS s63 ∧ s63 170 34 ≤ s63 170 4 from fun z => ⟨TS_fr rfl fs63 (show TS (zup s_lz 170 34 0) from TS_init (fun j z1 z2 => z_lz j z1 (by omega)) e_lz.2.2.1 e_lz.2.2.2.1 e_lz.2.2.2.2), by omega⟩)⟩ rfl
      · refine ⟨by omega, ?_⟩
        refine ⟨by omega, ?_⟩
        refine ⟨by omega, ?_⟩
        refine ⟨by omega, ?_⟩
        exact ih _ (show (64 - (k + 1) : Int).toNat < u from by omega) (k + 1) (zup s_lz 177 (((64 : Int) * (s_lz 170 35)) + k : Int).toNat 0) ⟨(gInv_up gI_lz (p_streetAt (by omega))), (fr_a fI_lz rfl), (show s_lz 170 35 = 1 - s_lz 170 13 ∧ s_lz 170 13 = st 170 13 ∧ s_lz 170 8 = 0 ∧ s_lz 170 5 = 0 ∧ 0 ≤ (k + 1) ∧ (k + 1) ≤ 64 from by omega), (show s_lz 172 (s_lz 170 35 : Int).toNat = 0 ∧ s_lz 173 (s_lz 170 35 : Int).toNat = 0 ∧ s_lz 178 (s_lz 170 35 : Int).toNat = 0 ∧ s_lz 186 (2 * s_lz 170 35 : Int).toNat = -1 ∧ s_lz 186 (2 * s_lz 170 35 + 1 : Int).toNat = -1 from by omega), (show ∀ j : Int, 0 ≤ j → j < (k + 1) → (zup s_lz 177 (((64 : Int) * (s_lz 170 35)) + k : Int).toNat 0) 177 (64 * s_lz 170 35 + j).toNat = 0 from fun j z1 z2 => by
            by_cases z3 : j = k
            · subst z3
              exact up1_e (s_lz 177) _ _
            · exact (up1_n (s_lz 177) _ (by omega)).trans (z_lz j z1 (by omega)))⟩ rfl
  have g73 := g_taped hG
  have g74 := g_bank hG
  refine yr1_ok (Rt := Q) (wc := (wcL [(149, k_ahead), (210, k_xstatement), (211, k_finishes), (58, k_refuses), (150, k_fBegin)])) (stp := [127, 165, 194]) hcm hcl [] 200 ?_
  show ((-2147483648 ≤ (1 : Int) - (st 170 13) ∧ (1 : Int) - (st 170 13) ≤ 2147483647) ∧ ((0 ≤ ((1 : Int) - (st 170 13)) ∧ ((1 : Int) - (st 170 13)) < 2) ∧ ((0 ≤ ((1 : Int) - (st 170 13)) ∧ ((1 : Int) - (st 170 13)) < 2) ∧ ((0 ≤ ((1 : Int) - (st 170 13)) ∧ ((1 : Int) - (st 170 13)) < 2) ∧ ((0 ≤ ((1 : Int) - (st 170 13)) ∧ ((1 : Int) - (st 170 13)) < 2) ∧ ((0 ≤ ((1 : Int) - (st 170 13)) ∧ ((1 : Int) - (st 170 13)) < 2) ∧ ((0 ≤ ((1 : Int) - (st 170 13)) ∧ ((1 : Int) - (st 170 13)) < 2) ∧ ((-2147483648 ≤ (2 : Int) * ((1 : Int) - (st 170 13)) ∧ (2 : Int) * ((1 : Int) - (st 170 13)) ≤ 2147483647) ∧ ((0 ≤ (2 : Int) * ((1 : Int) - (st 170 13)) ∧ (2 : Int) * ((1 : Int) - (st 170 13)) < 4) ∧ ((-2147483648 ≤ (2 : Int) * ((1 : Int) - (st 170 13)) ∧ (2 : Int) * ((1 : Int) - (st 170 13)) ≤ 2147483647) ∧ ((-2147483648 ≤ ((2 : Int) * ((1 : Int) - (st 170 13))) + 1 ∧ ((2 : Int) * ((1 : Int) - (st 170 13))) + 1 ≤ 2147483647) ∧ ((0 ≤ ((2 : Int) * ((1 : Int) - (st 170 13))) + 1 ∧ ((2 : Int) * ((1 : Int) - (st 170 13))) + 1 < 4) ∧ K (rx_find rx_m148 127) [(1, .inl 0), (0, .inr (.inr (.inl 170)))] [] (zup (zup (zup (zup (zup (zup (zup (zup (zup (zup (zup (zup (zup (zup st 170 2 (st 170 1)) 170 1 0) 170 5 0) 170 8 0) 170 9 (-1)) 170 35 ((1 : Int) - (st 170 13))) 172 (((1 : Int) - (st 170 13)) : Int).toNat 0) 173 (((1 : Int) - (st 170 13)) : Int).toNat 0) 178 (((1 : Int) - (st 170 13)) : Int).toNat 0) 181 (((1 : Int) - (st 170 13)) : Int).toNat 0) 184 (((1 : Int) - (st 170 13)) : Int).toNat 20) 185 (((1 : Int) - (st 170 13)) : Int).toNat 0) 186 ((2 : Int) * ((1 : Int) - (st 170 13)) : Int).toNat (-1)) 186 (((2 : Int) * ((1 : Int) - (st 170 13))) + 1 : Int).toNat (-1))))))))))))))
  refine ⟨by omega, ?_⟩
  refine ⟨by omega, ?_⟩
  refine ⟨by omega, ?_⟩
  refine ⟨by omega, ?_⟩
  refine ⟨by omega, ?_⟩
  refine ⟨by omega, ?_⟩
  refine ⟨by omega, ?_⟩
  refine ⟨by omega, ?_⟩
  refine ⟨by omega, ?_⟩
  refine ⟨by omega, ?_⟩
  refine ⟨by omega, ?_⟩
  refine ⟨by omega, ?_⟩
  have u75 : (zup (zup (zup (zup (zup (zup (zup st 170 2 (st 170 1)) 170 1 0) 170 5 0) 170 8 0) 170 9 (-1)) 170 35 ((1 : Int) - (st 170 13))) 172 (((1 : Int) - (st 170 13)) : Int).toNat 0) 172 (((1 : Int) - (st 170 13)) : Int).toNat = 0 := zup_eq _ _ _ _
  have u76 : (zup (zup (zup (zup (zup (zup (zup (zup st 170 2 (st 170 1)) 170 1 0) 170 5 0) 170 8 0) 170 9 (-1)) 170 35 ((1 : Int) - (st 170 13))) 172 (((1 : Int) - (st 170 13)) : Int).toNat 0) 173 (((1 : Int) - (st 170 13)) : Int).toNat 0) 173 (((1 : Int) - (st 170 13)) : Int).toNat = 0 := zup_eq _ _ _ _
  have u77 : (zup (zup (zup (zup (zup (zup (zup (zup (zup st 170 2 (st 170 1)) 170 1 0) 170 5 0) 170 8 0) 170 9 (-1)) 170 35 ((1 : Int) - (st 170 13))) 172 (((1 : Int) - (st 170 13)) : Int).toNat 0) 173 (((1 : Int) - (st 170 13)) : Int).toNat 0) 178 (((1 : Int) - (st 170 13)) : Int).toNat 0) 178 (((1 : Int) - (st 170 13)) : Int).toNat = 0 := zup_eq _ _ _ _
  have g80 := g_sumFrom hG (2 * ((1 : Int) - (st 170 13)) : Int).toNat
  have u79 : ((2 * ((1 : Int) - (st 170 13)) : Int).toNat = ((2 : Int) * ((1 : Int) - (st 170 13)) : Int).toNat → (zup (zup (zup (zup (zup (zup (zup (zup (zup (zup (zup (zup (zup st 170 2 (st 170 1)) 170 1 0) 170 5 0) 170 8 0) 170 9 (-1)) 170 35 ((1 : Int) - (st 170 13))) 172 (((1 : Int) - (st 170 13)) : Int).toNat 0) 173 (((1 : Int) - (st 170 13)) : Int).toNat 0) 178 (((1 : Int) - (st 170 13)) : Int).toNat 0) 181 (((1 : Int) - (st 170 13)) : Int).toNat 0) 184 (((1 : Int) - (st 170 13)) : Int).toNat 20) 185 (((1 : Int) - (st 170 13)) : Int).toNat 0) 186 ((2 : Int) * ((1 : Int) - (st 170 13)) : Int).toNat (-1)) 186 (2 * ((1 : Int) - (st 170 13)) : Int).toNat = (-1)) ∧ (¬ (2 * ((1 : Int) - (st 170 13)) : Int).toNat = ((2 : Int) * ((1 : Int) - (st 170 13)) : Int).toNat → (zup (zup (zup (zup (zup (zup (zup (zup (zup (zup (zup (zup (zup st 170 2 (st 170 1)) 170 1 0) 170 5 0) 170 8 0) 170 9 (-1)) 170 35 ((1 : Int) - (st 170 13))) 172 (((1 : Int) - (st 170 13)) : Int).toNat 0) 173 (((1 : Int) - (st 170 13)) : Int).toNat 0) 178 (((1 : Int) - (st 170 13)) : Int).toNat 0) 181 (((1 : Int) - (st 170 13)) : Int).toNat 0) 184 (((1 : Int) - (st 170 13)) : Int).toNat 20) 185 (((1 : Int) - (st 170 13)) : Int).toNat 0) 186 ((2 : Int) * ((1 : Int) - (st 170 13)) : Int).toNat (-1)) 186 (2 * ((1 : Int) - (st 170 13)) : Int).toNat = st 186 (2 * ((1 : Int) - (st 170 13)) : Int).toNat) := zup_two _ _ _ _ _
  have u78 : ((2 * ((1 : Int) - (st 170 13)) : Int).toNat = (((2 : Int) * ((1 : Int) - (st 170 13))) + 1 : Int).toNat → (zup (zup (zup (zup (zup (zup (zup (zup (zup (zup (zup (zup (zup (zup st 170 2 (st 170 1)) 170 1 0) 170 5 0) 170 8 0) 170 9 (-1)) 170 35 ((1 : Int) - (st 170 13))) 172 (((1 : Int) - (st 170 13)) : Int).toNat 0) 173 (((1 : Int) - (st 170 13)) : Int).toNat 0) 178 (((1 : Int) - (st 170 13)) : Int).toNat 0) 181 (((1 : Int) - (st 170 13)) : Int).toNat 0) 184 (((1 : Int) - (st 170 13)) : Int).toNat 20) 185 (((1 : Int) - (st 170 13)) : Int).toNat 0) 186 ((2 : Int) * ((1 : Int) - (st 170 13)) : Int).toNat (-1)) 186 (((2 : Int) * ((1 : Int) - (st 170 13))) + 1 : Int).toNat (-1)) 186 (2 * ((1 : Int) - (st 170 13)) : Int).toNat = (-1)) ∧ (¬ (2 * ((1 : Int) - (st 170 13)) : Int).toNat = (((2 : Int) * ((1 : Int) - (st 170 13))) + 1 : Int).toNat → (zup (zup (zup (zup (zup (zup (zup (zup (zup (zup (zup (zup (zup (zup st 170 2 (st 170 1)) 170 1 0) 170 5 0) 170 8 0) 170 9 (-1)) 170 35 ((1 : Int) - (st 170 13))) 172 (((1 : Int) - (st 170 13)) : Int).toNat 0) 173 (((1 : Int) - (st 170 13)) : Int).toNat 0) 178 (((1 : Int) - (st 170 13)) : Int).toNat 0) 181 (((1 : Int) - (st 170 13)) : Int).toNat 0) 184 (((1 : Int) - (st 170 13)) : Int).toNat 20) 185 (((1 : Int) - (st 170 13)) : Int).toNat 0) 186 ((2 : Int) * ((1 : Int) - (st 170 13)) : Int).toNat (-1)) 186 (((2 : Int) * ((1 : Int) - (st 170 13))) + 1 : Int).toNat (-1)) 186 (2 * ((1 : Int) - (st 170 13)) : Int).toNat = (zup (zup (zup (zup (zup (zup (zup (zup (zup (zup (zup (zup (zup st 170 2 (st 170 1)) 170 1 0) 170 5 0) 170 8 0) 170 9 (-1)) 170 35 ((1 : Int) - (st 170 13))) 172 (((1 : Int) - (st 170 13)) : Int).toNat 0) 173 (((1 : Int) - (st 170 13)) : Int).toNat 0) 178 (((1 : Int) - (st 170 13)) : Int).toNat 0) 181 (((1 : Int) - (st 170 13)) : Int).toNat 0) 184 (((1 : Int) - (st 170 13)) : Int).toNat 20) 185 (((1 : Int) - (st 170 13)) : Int).toNat 0) 186 ((2 : Int) * ((1 : Int) - (st 170 13)) : Int).toNat (-1)) 186 (2 * ((1 : Int) - (st 170 13)) : Int).toNat) := zup_two _ _ _ _ _
  have g83 := g_sumFrom hG (2 * ((1 : Int) - (st 170 13)) + 1 : Int).toNat
  have u82 : ((2 * ((1 : Int) - (st 170 13)) + 1 : Int).toNat = ((2 : Int) * ((1 : Int) - (st 170 13)) : Int).toNat → (zup (zup (zup (zup (zup (zup (zup (zup (zup (zup (zup (zup (zup st 170 2 (st 170 1)) 170 1 0) 170 5 0) 170 8 0) 170 9 (-1)) 170 35 ((1 : Int) - (st 170 13))) 172 (((1 : Int) - (st 170 13)) : Int).toNat 0) 173 (((1 : Int) - (st 170 13)) : Int).toNat 0) 178 (((1 : Int) - (st 170 13)) : Int).toNat 0) 181 (((1 : Int) - (st 170 13)) : Int).toNat 0) 184 (((1 : Int) - (st 170 13)) : Int).toNat 20) 185 (((1 : Int) - (st 170 13)) : Int).toNat 0) 186 ((2 : Int) * ((1 : Int) - (st 170 13)) : Int).toNat (-1)) 186 (2 * ((1 : Int) - (st 170 13)) + 1 : Int).toNat = (-1)) ∧ (¬ (2 * ((1 : Int) - (st 170 13)) + 1 : Int).toNat = ((2 : Int) * ((1 : Int) - (st 170 13)) : Int).toNat → (zup (zup (zup (zup (zup (zup (zup (zup (zup (zup (zup (zup (zup st 170 2 (st 170 1)) 170 1 0) 170 5 0) 170 8 0) 170 9 (-1)) 170 35 ((1 : Int) - (st 170 13))) 172 (((1 : Int) - (st 170 13)) : Int).toNat 0) 173 (((1 : Int) - (st 170 13)) : Int).toNat 0) 178 (((1 : Int) - (st 170 13)) : Int).toNat 0) 181 (((1 : Int) - (st 170 13)) : Int).toNat 0) 184 (((1 : Int) - (st 170 13)) : Int).toNat 20) 185 (((1 : Int) - (st 170 13)) : Int).toNat 0) 186 ((2 : Int) * ((1 : Int) - (st 170 13)) : Int).toNat (-1)) 186 (2 * ((1 : Int) - (st 170 13)) + 1 : Int).toNat = st 186 (2 * ((1 : Int) - (st 170 13)) + 1 : Int).toNat) := zup_two _ _ _ _ _
  have u81 : ((2 * ((1 : Int) - (st 170 13)) + 1 : Int).toNat = (((2 : Int) * ((1 : Int) - (st 170 13))) + 1 : Int).toNat → (zup (zup (zup (zup (zup (zup (zup (zup (zup (zup (zup (zup (zup (zup st 170 2 (st 170 1)) 170 1 0) 170 5 0) 170 8 0) 170 9 (-1)) 170 35 ((1 : Int) - (st 170 13))) 172 (((1 : Int) - (st 170 13)) : Int).toNat 0) 173 (((1 : Int) - (st 170 13)) : Int).toNat 0) 178 (((1 : Int) - (st 170 13)) : Int).toNat 0) 181 (((1 : Int) - (st 170 13)) : Int).toNat 0) 184 (((1 : Int) - (st 170 13)) : Int).toNat 20) 185 (((1 : Int) - (st 170 13)) : Int).toNat 0) 186 ((2 : Int) * ((1 : Int) - (st 170 13)) : Int).toNat (-1)) 186 (((2 : Int) * ((1 : Int) - (st 170 13))) + 1 : Int).toNat (-1)) 186 (2 * ((1 : Int) - (st 170 13)) + 1 : Int).toNat = (-1)) ∧ (¬ (2 * ((1 : Int) - (st 170 13)) + 1 : Int).toNat = (((2 : Int) * ((1 : Int) - (st 170 13))) + 1 : Int).toNat → (zup (zup (zup (zup (zup (zup (zup (zup (zup (zup (zup (zup (zup (zup st 170 2 (st 170 1)) 170 1 0) 170 5 0) 170 8 0) 170 9 (-1)) 170 35 ((1 : Int) - (st 170 13))) 172 (((1 : Int) - (st 170 13)) : Int).toNat 0) 173 (((1 : Int) - (st 170 13)) : Int).toNat 0) 178 (((1 : Int) - (st 170 13)) : Int).toNat 0) 181 (((1 : Int) - (st 170 13)) : Int).toNat 0) 184 (((1 : Int) - (st 170 13)) : Int).toNat 20) 185 (((1 : Int) - (st 170 13)) : Int).toNat 0) 186 ((2 : Int) * ((1 : Int) - (st 170 13)) : Int).toNat (-1)) 186 (((2 : Int) * ((1 : Int) - (st 170 13))) + 1 : Int).toNat (-1)) 186 (2 * ((1 : Int) - (st 170 13)) + 1 : Int).toNat = (zup (zup (zup (zup (zup (zup (zup (zup (zup (zup (zup (zup (zup st 170 2 (st 170 1)) 170 1 0) 170 5 0) 170 8 0) 170 9 (-1)) 170 35 ((1 : Int) - (st 170 13))) 172 (((1 : Int) - (st 170 13)) : Int).toNat 0) 173 (((1 : Int) - (st 170 13)) : Int).toNat 0) 178 (((1 : Int) - (st 170 13)) : Int).toNat 0) 181 (((1 : Int) - (st 170 13)) : Int).toNat 0) 184 (((1 : Int) - (st 170 13)) : Int).toNat 20) 185 (((1 : Int) - (st 170 13)) : Int).toNat 0) 186 ((2 : Int) * ((1 : Int) - (st 170 13)) : Int).toNat (-1)) 186 (2 * ((1 : Int) - (st 170 13)) + 1 : Int).toNat) := zup_two _ _ _ _ _
  exact lz _ 0 (zup (zup (zup (zup (zup (zup (zup (zup (zup (zup (zup (zup (zup (zup st 170 2 (st 170 1)) 170 1 0) 170 5 0) 170 8 0) 170 9 (-1)) 170 35 ((1 : Int) - (st 170 13))) 172 (((1 : Int) - (st 170 13)) : Int).toNat 0) 173 (((1 : Int) - (st 170 13)) : Int).toNat 0) 178 (((1 : Int) - (st 170 13)) : Int).toNat 0) 181 (((1 : Int) - (st 170 13)) : Int).toNat 0) 184 (((1 : Int) - (st 170 13)) : Int).toNat 20) 185 (((1 : Int) - (st 170 13)) : Int).toNat 0) 186 ((2 : Int) * ((1 : Int) - (st 170 13)) : Int).toNat (-1)) 186 (((2 : Int) * ((1 : Int) - (st 170 13))) + 1 : Int).toNat (-1)) ⟨(gInv_up (gInv_up (gInv_up (gInv_up (gInv_up (gInv_up (gInv_up (gInv_up (gInv_up (gInv_up (gInv_up (gInv_up (gInv_up (gInv_up hG (p_size (by omega))) (p_taped (by omega))) (p_signEnd (by omega))) (p_faultKind (by omega))) (p_faultPlace (by omega))) (p_in (by omega))) (p_places (by omega))) (p_streets (by omega))) (p_steps (by omega))) (p_things (by omega))) (p_heatTold (by omega))) (p_hotTold (by omega))) (p_sumFrom (by omega))) (p_sumFrom (by omega))), (fr_a (fr_a (fr_a (fr_a (fr_a (fr_a (fr_a (fr_a (fr_f (fr_f (fr_f (fr_f (fr_f (fr_f (fr_rf _ _) rfl) rfl) rfl) rfl) rfl) rfl) rfl) rfl) rfl) rfl) rfl) rfl) rfl) rfl), (show ((1 : Int) - (st 170 13)) = 1 - st 170 13 ∧ st 170 13 = st 170 13 ∧ 0 = 0 ∧ 0 = 0 ∧ 0 ≤ (0 : Int) ∧ (0 : Int) ≤ 64 from by omega), (show (zup (zup (zup (zup (zup (zup (zup st 170 2 (st 170 1)) 170 1 0) 170 5 0) 170 8 0) 170 9 (-1)) 170 35 ((1 : Int) - (st 170 13))) 172 (((1 : Int) - (st 170 13)) : Int).toNat 0) 172 (((1 : Int) - (st 170 13)) : Int).toNat = 0 ∧ (zup (zup (zup (zup (zup (zup (zup (zup st 170 2 (st 170 1)) 170 1 0) 170 5 0) 170 8 0) 170 9 (-1)) 170 35 ((1 : Int) - (st 170 13))) 172 (((1 : Int) - (st 170 13)) : Int).toNat 0) 173 (((1 : Int) - (st 170 13)) : Int).toNat 0) 173 (((1 : Int) - (st 170 13)) : Int).toNat = 0 ∧ (zup (zup (zup (zup (zup (zup (zup (zup (zup st 170 2 (st 170 1)) 170 1 0) 170 5 0) 170 8 0) 170 9 (-1)) 170 35 ((1 : Int) - (st 170 13))) 172 (((1 : Int) - (st 170 13)) : Int).toNat 0) 173 (((1 : Int) - (st 170 13)) : Int).toNat 0) 178 (((1 : Int) - (st 170 13)) : Int).toNat 0) 178 (((1 : Int) - (st 170 13)) : Int).toNat = 0 ∧ (zup (zup (zup (zup (zup (zup (zup (zup (zup (zup (zup (zup (zup (zup st 170 2 (st 170 1)) 170 1 0) 170 5 0) 170 8 0) 170 9 (-1)) 170 35 ((1 : Int) - (st 170 13))) 172 (((1 : Int) - (st 170 13)) : Int).toNat 0) 173 (((1 : Int) - (st 170 13)) : Int).toNat 0) 178 (((1 : Int) - (st 170 13)) : Int).toNat 0) 181 (((1 : Int) - (st 170 13)) : Int).toNat 0) 184 (((1 : Int) - (st 170 13)) : Int).toNat 20) 185 (((1 : Int) - (st 170 13)) : Int).toNat 0) 186 ((2 : Int) * ((1 : Int) - (st 170 13)) : Int).toNat (-1)) 186 (((2 : Int) * ((1 : Int) - (st 170 13))) + 1 : Int).toNat (-1)) 186 (2 * ((1 : Int) - (st 170 13)) : Int).toNat = -1 ∧ (zup (zup (zup (zup (zup (zup (zup (zup (zup (zup (zup (zup (zup (zup st 170 2 (st 170 1)) 170 1 0) 170 5 0) 170 8 0) 170 9 (-1)) 170 35 ((1 : Int) - (st 170 13))) 172 (((1 : Int) - (st 170 13)) : Int).toNat 0) 173 (((1 : Int) - (st 170 13)) : Int).toNat 0) 178 (((1 : Int) - (st 170 13)) : Int).toNat 0) 181 (((1 : Int) - (st 170 13)) : Int).toNat 0) 184 (((1 : Int) - (st 170 13)) : Int).toNat 20) 185 (((1 : Int) - (st 170 13)) : Int).toNat 0) 186 ((2 : Int) * ((1 : Int) - (st 170 13)) : Int).toNat (-1)) 186 (((2 : Int) * ((1 : Int) - (st 170 13))) + 1 : Int).toNat (-1)) 186 (2 * ((1 : Int) - (st 170 13)) + 1 : Int).toNat = -1 from by omega), (show ∀ j : Int, 0 ≤ j → j < (0 : Int) → (zup (zup (zup (zup (zup (zup (zup (zup (zup (zup (zup (zup (zup (zup st 170 2 (st 170 1)) 170 1 0) 170 5 0) 170 8 0) 170 9 (-1)) 170 35 ((1 : Int) - (st 170 13))) 172 (((1 : Int) - (st 170 13)) : Int).toNat 0) 173 (((1 : Int) - (st 170 13)) : Int).toNat 0) 178 (((1 : Int) - (st 170 13)) : Int).toNat 0) 181 (((1 : Int) - (st 170 13)) : Int).toNat 0) 184 (((1 : Int) - (st 170 13)) : Int).toNat 20) 185 (((1 : Int) - (st 170 13)) : Int).toNat 0) 186 ((2 : Int) * ((1 : Int) - (st 170 13)) : Int).toNat (-1)) 186 (((2 : Int) * ((1 : Int) - (st 170 13))) + 1 : Int).toNat (-1)) 177 (64 * ((1 : Int) - (st 170 13)) + j).toNat = 0 from fun j z1 z2 => by omega)⟩ rfl
theorem k_fTown_m (hTb : aTb zSh rx_tb cl) {D : Nat} (hD : 8 ≤ D) : ∀ as st (Q Q' : zQ), (∀ r st', Q r st' → Q' r st') → k_fTown 148 as st Q → cl D 148 as st Q' := by
  intro as st Q Q' hQ h
  unfold k_fTown at h
  split at h
  · obtain ⟨rfl, h⟩ := h
    exact c_fTown hTb hD (ct_fTown_m hQ h)
  · exact h.elim
end XYR
