/-! printed by wip/p7/py/c7b.py: the class's town, 122 -/
def m_yTownA : aM := ([(0, 8), (0, 9), (0, 10), (0, 11), (1, 1), (5, 0), (5, 1), (5, 4), (7, 2), (10, 5), (115, 5), (122, 0), (122, 1), (122, 3), (122, 8), (122, 13), (122, 14), (122, 16), (122, 17), (122, 18), (131, 2), (148, 1), (148, 2), (148, 3), (148, 4), (149, 2), (149, 3), (149, 4), (149, 5), (149, 6)], [6, 8, 9, 121, 123, 124, 125, 126, 127, 128, 129, 130, 132, 133, 134])
def rq_yTownA  (st : zS) : Prop := gInv zgt st ∧ (cOW st) ∧ (st 0 9 = 122 ∧ st 0 8 = 135)
def en_yTownA  (st : zS) (r : Int) (s1 : zS) : Prop := gInv zgt s1 ∧ aFr m_yTownA st s1 ∧ ((r = -1 ∧ PNO (ctx st) (st 1 1) ∧ s1 0 8 = 135 ∧ s1 0 9 = 122) ∨ (POK (ctx st) (st 1 1) (tn 122 s1) r ∧ s1 0 8 = 122 ∧ s1 0 9 = 135)) ∧ (s1 1 1 = 0)
def ct_yTownA  (st : zS) (Q : zQ) : Prop := rq_yTownA  st ∧ (∀ (r : Int) (s1 : zS), en_yTownA  st r s1 → Q (some (.inl r)) s1)
theorem ct_yTownA_m {st : zS} {Q Q' : zQ} (hQ : ∀ r st', Q r st' → Q' r st') (h : ct_yTownA  st Q) : ct_yTownA  st Q' := ⟨h.1, fun x0 x1 x2 => hQ _ _ (h.2 x0 x1 x2)⟩
def k_yTownA : zCall := fun _ as st Q => match as with
  | [.inr (.inr (.inl z_o))] => z_o = 0 ∧ ct_yTownA  st Q
  | _ => False
section RZy
variable {cl : Nat → zCall}
set_option maxHeartbeats 4000000 in
set_option maxRecDepth 100000 in
theorem c_yTownA (hTb : aTb zSh rx_tb cl) {D : Nat} (hD : 127 ≤ D) {st : zS} {Q : zQ} (h : ct_yTownA  st Q) : cl D 140 [.inr (.inr (.inl 0))] st Q := by
  obtain ⟨d, rfl⟩ : ∃ d, D = d + 1 := ⟨D - 1, by omega⟩
  refine hTb d 140 (rx_m140, 3, 0, 0, 1) rfl _ _ _ (Nat.le_of_ble_eq_true rfl) (fun K hcl hsf hsl => ?_)
  have hcm : zmo (wcL [(141, k_cReadA), (89, k_cCut), (163, k_cRefuse), (145, k_cBeginInA), (146, k_cForget), (147, k_cRowsClear)]) (cl d) := (wcL_m (wm_cons (k_cReadA_m hTb (by omega)) (wm_cons (k_cCut_m hTb (by omega)) (wm_cons (k_cRefuse_m hTb (by omega)) (wm_cons (k_cBeginInA_m hTb (by omega)) (wm_cons (k_cForget_m hTb (by omega)) (wm_cons (k_cRowsClear_m hTb (by omega)) wm_nil)))))))
  obtain ⟨hR, hQ⟩ := h
  obtain ⟨hG, ow, dd⟩ := hR
  change cOW st at ow
  have g1 := g_f0_9 hG
  have g2 := g_f0_8 hG
  have g3 := g_tsize hG
  refine dr1_ok (Rt := Q) (wc := (wcL [(141, k_cReadA), (89, k_cCut), (163, k_cRefuse), (145, k_cBeginInA), (146, k_cForget), (147, k_cRowsClear)])) (stp := []) hcm hcl [(5, 122), (53, 135), (59, 122), (75, 122), (96, 122)] [] 71 ?_
  show ((st 0 9 = (122 : Int)) ∧ (148 = 148 ∧ ((122) = 122 ∧ (rq_cReadA  st ∧ (∀ (r4 : Int) (s4 : zS), en_cReadA  st r4 s4 → (1 = 1 ∧ (rq_cCut (0) (zup (zup s4 0 10 (s4 148 3)) 0 11 (s4 148 4)) ∧ (∀ (s5 : zS), en_cCut (0) (zup (zup s4 0 10 (s4 148 3)) 0 11 (s4 148 4)) s5 → ((¬ r4 = (0 : Int) → ((s5 0 8 = (135 : Int)) ∧ ((s5 0 9 = (122 : Int)) ∧ ((122 = (122 : Int)) ∧ (5 = 5 ∧ ((122) = 122 ∧ (rq_cBeginInA  (zup (zup s5 0 8 122) 0 9 135) ∧ (∀ (s6 : zS), en_cBeginInA  (zup (zup s5 0 8 122) 0 9 135) s6 → (10 = 10 ∧ (rq_cForget  s6 ∧ (∀ (s7 : zS), en_cForget  s6 s7 → (115 = 115 ∧ (rq_cRowsClear  s7 ∧ (∀ (s8 : zS), en_cRowsClear  s7 s8 → ((s8 0 8 = (122 : Int)) ∧ Q (some (.inl (s8 122 0))) s8))))))))))))))) ∧ (¬ (¬ r4 = (0 : Int)) → (0 = 0 ∧ (rq_cRefuse (1) s5 ∧ (∀ (r9 : Int) (s9 : zS), en_cRefuse (1) s5 r9 s9 → Q (some (.inl r9)) s9)))))))))))))
  refine ⟨by omega, ?_⟩
  refine ⟨rfl, rfl, ⟨hG, (show cOW st from ow)⟩, fun r4 s4 q4 => ?_⟩
  obtain ⟨gs4, fs4, o4⟩ := q4
  change (r4 = 1 ∧ POK (ctx st) (st 1 1) (tn 122 s4) (s4 122 0)) ∨ (r4 = 0 ∧ PNO (ctx st) (st 1 1)) at o4
  have g10 := g_f122_0 gs4
  rcases o4 with ⟨y4, b4⟩ | ⟨y4, l4⟩
  · have g11 := g_rFault gs4
    have g12 := g_rFaultAt gs4
    refine ⟨rfl, (gInv_up (gInv_up gs4 (p_f0_10 (by omega))) (p_f0_11 (by omega))), fun s5 q5 => ?_⟩
    obtain ⟨gs5, fs5, t5⟩ := q5
    change (0 ≤ (0) ∧ (0) < s4 1 1 → s5 1 1 = (0)) ∧ (¬ (0 ≤ (0) ∧ (0) < s4 1 1) → s5 1 1 = s4 1 1) at t5
    have e13 : s4 1 1 = st 1 1 := fs4 1 1 rfl rfl
    have g14 := g_tsize gs5
    refine ⟨fun h15 => ?_, fun h15 => (by exfalso; omega)⟩
    have e17 : s4 0 8 = st 0 8 := fs4 0 8 rfl rfl
    have e16 : s5 0 8 = s4 0 8 := fs5 0 8 rfl rfl
    refine ⟨by omega, ?_⟩
    have e19 : s4 0 9 = st 0 9 := fs4 0 9 rfl rfl
    have e18 : s5 0 9 = s4 0 9 := fs5 0 9 rfl rfl
    refine ⟨by omega, ?_⟩
    refine ⟨by omega, ?_⟩
    refine ⟨rfl, rfl, (gInv_up (gInv_up gs5 (p_f0_8 (by omega))) (p_f0_9 (by omega))), fun s6 q6 => ?_⟩
    obtain ⟨gs6, fs6⟩ := q6
    refine ⟨rfl, gs6, fun s7 q7 => ?_⟩
    obtain ⟨gs7, fs7⟩ := q7
    refine ⟨rfl, gs7, fun s8 q8 => ?_⟩
    obtain ⟨gs8, fs8⟩ := q8
    have e22 : s6 0 8 = 122 := fs6 0 8 rfl rfl
    have e21 : s7 0 8 = s6 0 8 := fs7 0 8 rfl rfl
    have e20 : s8 0 8 = s7 0 8 := fs8 0 8 rfl rfl
    refine ⟨by omega, ?_⟩
    have e26 : s5 122 0 = s4 122 0 := fs5 122 0 rfl rfl
    have e25 : s6 122 0 = s5 122 0 := fs6 122 0 rfl rfl
    have e24 : s7 122 0 = s6 122 0 := fs7 122 0 rfl rfl
    have e23 : s8 122 0 = s7 122 0 := fs8 122 0 rfl rfl
    have e29 : s6 0 9 = 135 := fs6 0 9 rfl rfl
    have e28 : s7 0 9 = s6 0 9 := fs7 0 9 rfl rfl
    have e27 : s8 0 9 = s7 0 9 := fs8 0 9 rfl rfl
    have e32 : s6 1 1 = s5 1 1 := fs6 1 1 rfl rfl
    have e31 : s7 1 1 = s6 1 1 := fs7 1 1 rfl rfl
    have e30 : s8 1 1 = s7 1 1 := fs8 1 1 rfl rfl
    exact hQ _ _ ⟨gs8, (fr_tr (fr_tr (fr_tr (fr_f (fr_f (fr_tr (fr_f (fr_f (fr_tr (fr_rf _ _) fs4 rfl) rfl) rfl) fs5 rfl) rfl) rfl) fs6 rfl) fs7 rfl) fs8 rfl), (show ((s8 122 0) = -1 ∧ PNO (ctx st) (st 1 1) ∧ s8 0 8 = 135 ∧ s8 0 9 = 122) ∨ (POK (ctx st) (st 1 1) (tn 122 s8) (s8 122 0) ∧ s8 0 8 = 122 ∧ s8 0 9 = 135) from (by
          have hb := b4
          have ht : tn 122 s8 = tn 122 s4 := ((tn_fr (x := 122) rfl fs8).trans ((tn_fr (x := 122) rfl fs7).trans ((tn_fr (x := 122) rfl fs6).trans ((tn_o 122 _ _ _ (by omega)).trans ((tn_o 122 _ _ _ (by omega)).trans ((tn_fr (x := 122) rfl fs5).trans ((tn_o 122 _ _ _ (by omega)).trans ((tn_o 122 _ _ _ (by omega)).trans (Eq.refl _)))))))))
          rw [ht]
          rw [show (s8 122 0) = s4 122 0 from by omega]
          exact Or.inr ⟨hb, by omega, by omega⟩)), (show s8 1 1 = 0 from by omega)⟩
  · have g33 := g_rFault gs4
    have g34 := g_rFaultAt gs4
    refine ⟨rfl, (gInv_up (gInv_up gs4 (p_f0_10 (by omega))) (p_f0_11 (by omega))), fun s5 q5 => ?_⟩
    obtain ⟨gs5, fs5, t5⟩ := q5
    change (0 ≤ (0) ∧ (0) < s4 1 1 → s5 1 1 = (0)) ∧ (¬ (0 ≤ (0) ∧ (0) < s4 1 1) → s5 1 1 = s4 1 1) at t5
    have e35 : s4 1 1 = st 1 1 := fs4 1 1 rfl rfl
    have g36 := g_tsize gs5
    refine ⟨fun h37 => (by exfalso; omega), fun h37 => ?_⟩
    refine ⟨rfl, ⟨gs5, (show 0 ≤ (1) ∧ (1) ≤ 5 from by omega)⟩, fun r9 s9 q9 => ?_⟩
    obtain ⟨gs9, fs9, e9⟩ := q9
    change r9 = -1 at e9
    have e40 : s4 0 8 = st 0 8 := fs4 0 8 rfl rfl
    have e39 : s5 0 8 = s4 0 8 := fs5 0 8 rfl rfl
    have e38 : s9 0 8 = s5 0 8 := fs9 0 8 rfl rfl
    have e43 : s4 0 9 = st 0 9 := fs4 0 9 rfl rfl
    have e42 : s5 0 9 = s4 0 9 := fs5 0 9 rfl rfl
    have e41 : s9 0 9 = s5 0 9 := fs9 0 9 rfl rfl
    have e44 : s9 1 1 = s5 1 1 := fs9 1 1 rfl rfl
    exact hQ _ _ ⟨gs9, (fr_tr (fr_tr (fr_f (fr_f (fr_tr (fr_rf _ _) fs4 rfl) rfl) rfl) fs5 rfl) fs9 rfl), (show (r9 = -1 ∧ PNO (ctx st) (st 1 1) ∧ s9 0 8 = 135 ∧ s9 0 9 = 122) ∨ (POK (ctx st) (st 1 1) (tn 122 s9) r9 ∧ s9 0 8 = 122 ∧ s9 0 9 = 135) from (Or.inl ⟨by omega, l4, by omega, by omega⟩)), (show s9 1 1 = 0 from by omega)⟩
theorem k_yTownA_m (hTb : aTb zSh rx_tb cl) {D : Nat} (hD : 127 ≤ D) : ∀ as st (Q Q' : zQ), (∀ r st', Q r st' → Q' r st') → k_yTownA 140 as st Q → cl D 140 as st Q' := by
  intro as st Q Q' hQ h
  unfold k_yTownA at h
  split at h
  · obtain ⟨rfl, h⟩ := h
    exact c_yTownA hTb hD (ct_yTownA_m hQ h)
  · exact h.elim
end RZy
/-! printed by wip/p7/py/c7b.py: the class's town, 135 -/
def m_yTownB : aM := ([(0, 8), (0, 9), (0, 10), (0, 11), (1, 1), (5, 0), (5, 1), (5, 4), (7, 2), (10, 5), (115, 5), (135, 0), (135, 1), (135, 3), (135, 8), (135, 13), (135, 14), (135, 16), (135, 17), (135, 18), (144, 2), (148, 1), (148, 2), (148, 3), (148, 4), (149, 2), (149, 3), (149, 4), (149, 5), (149, 6)], [6, 8, 9, 121, 136, 137, 138, 139, 140, 141, 142, 143, 145, 146, 147])
def rq_yTownB  (st : zS) : Prop := gInv zgt st ∧ (cOW st) ∧ (st 0 9 = 135 ∧ st 0 8 = 122)
def en_yTownB  (st : zS) (r : Int) (s1 : zS) : Prop := gInv zgt s1 ∧ aFr m_yTownB st s1 ∧ ((r = -1 ∧ PNO (ctx st) (st 1 1) ∧ s1 0 8 = 122 ∧ s1 0 9 = 135) ∨ (POK (ctx st) (st 1 1) (tn 135 s1) r ∧ s1 0 8 = 135 ∧ s1 0 9 = 122)) ∧ (s1 1 1 = 0)
def ct_yTownB  (st : zS) (Q : zQ) : Prop := rq_yTownB  st ∧ (∀ (r : Int) (s1 : zS), en_yTownB  st r s1 → Q (some (.inl r)) s1)
theorem ct_yTownB_m {st : zS} {Q Q' : zQ} (hQ : ∀ r st', Q r st' → Q' r st') (h : ct_yTownB  st Q) : ct_yTownB  st Q' := ⟨h.1, fun x0 x1 x2 => hQ _ _ (h.2 x0 x1 x2)⟩
def k_yTownB : zCall := fun _ as st Q => match as with
  | [.inr (.inr (.inl z_o))] => z_o = 0 ∧ ct_yTownB  st Q
  | _ => False
section RZy
variable {cl : Nat → zCall}
set_option maxHeartbeats 4000000 in
set_option maxRecDepth 100000 in
theorem c_yTownB (hTb : aTb zSh rx_tb cl) {D : Nat} (hD : 127 ≤ D) {st : zS} {Q : zQ} (h : ct_yTownB  st Q) : cl D 140 [.inr (.inr (.inl 0))] st Q := by
  obtain ⟨d, rfl⟩ : ∃ d, D = d + 1 := ⟨D - 1, by omega⟩
  refine hTb d 140 (rx_m140, 3, 0, 0, 1) rfl _ _ _ (Nat.le_of_ble_eq_true rfl) (fun K hcl hsf hsl => ?_)
  have hcm : zmo (wcL [(141, k_cReadB), (89, k_cCut), (163, k_cRefuse), (145, k_cBeginInB), (146, k_cForget), (147, k_cRowsClear)]) (cl d) := (wcL_m (wm_cons (k_cReadB_m hTb (by omega)) (wm_cons (k_cCut_m hTb (by omega)) (wm_cons (k_cRefuse_m hTb (by omega)) (wm_cons (k_cBeginInB_m hTb (by omega)) (wm_cons (k_cForget_m hTb (by omega)) (wm_cons (k_cRowsClear_m hTb (by omega)) wm_nil)))))))
  obtain ⟨hR, hQ⟩ := h
  obtain ⟨hG, ow, dd⟩ := hR
  change cOW st at ow
  have g1 := g_f0_9 hG
  have g2 := g_f0_8 hG
  have g3 := g_tsize hG
  refine dr1_ok (Rt := Q) (wc := (wcL [(141, k_cReadB), (89, k_cCut), (163, k_cRefuse), (145, k_cBeginInB), (146, k_cForget), (147, k_cRowsClear)])) (stp := []) hcm hcl [(5, 135), (53, 122), (59, 135), (75, 135), (96, 135)] [] 71 ?_
  show ((st 0 9 = (135 : Int)) ∧ (148 = 148 ∧ ((135) = 135 ∧ (rq_cReadB  st ∧ (∀ (r4 : Int) (s4 : zS), en_cReadB  st r4 s4 → (1 = 1 ∧ (rq_cCut (0) (zup (zup s4 0 10 (s4 148 3)) 0 11 (s4 148 4)) ∧ (∀ (s5 : zS), en_cCut (0) (zup (zup s4 0 10 (s4 148 3)) 0 11 (s4 148 4)) s5 → ((¬ r4 = (0 : Int) → ((s5 0 8 = (122 : Int)) ∧ ((s5 0 9 = (135 : Int)) ∧ ((135 = (135 : Int)) ∧ (5 = 5 ∧ ((135) = 135 ∧ (rq_cBeginInB  (zup (zup s5 0 8 135) 0 9 122) ∧ (∀ (s6 : zS), en_cBeginInB  (zup (zup s5 0 8 135) 0 9 122) s6 → (10 = 10 ∧ (rq_cForget  s6 ∧ (∀ (s7 : zS), en_cForget  s6 s7 → (115 = 115 ∧ (rq_cRowsClear  s7 ∧ (∀ (s8 : zS), en_cRowsClear  s7 s8 → ((s8 0 8 = (135 : Int)) ∧ Q (some (.inl (s8 135 0))) s8))))))))))))))) ∧ (¬ (¬ r4 = (0 : Int)) → (0 = 0 ∧ (rq_cRefuse (1) s5 ∧ (∀ (r9 : Int) (s9 : zS), en_cRefuse (1) s5 r9 s9 → Q (some (.inl r9)) s9)))))))))))))
  refine ⟨by omega, ?_⟩
  refine ⟨rfl, rfl, ⟨hG, (show cOW st from ow)⟩, fun r4 s4 q4 => ?_⟩
  obtain ⟨gs4, fs4, o4⟩ := q4
  change (r4 = 1 ∧ POK (ctx st) (st 1 1) (tn 135 s4) (s4 135 0)) ∨ (r4 = 0 ∧ PNO (ctx st) (st 1 1)) at o4
  have g10 := g_f135_0 gs4
  rcases o4 with ⟨y4, b4⟩ | ⟨y4, l4⟩
  · have g11 := g_rFault gs4
    have g12 := g_rFaultAt gs4
    refine ⟨rfl, (gInv_up (gInv_up gs4 (p_f0_10 (by omega))) (p_f0_11 (by omega))), fun s5 q5 => ?_⟩
    obtain ⟨gs5, fs5, t5⟩ := q5
    change (0 ≤ (0) ∧ (0) < s4 1 1 → s5 1 1 = (0)) ∧ (¬ (0 ≤ (0) ∧ (0) < s4 1 1) → s5 1 1 = s4 1 1) at t5
    have e13 : s4 1 1 = st 1 1 := fs4 1 1 rfl rfl
    have g14 := g_tsize gs5
    refine ⟨fun h15 => ?_, fun h15 => (by exfalso; omega)⟩
    have e17 : s4 0 8 = st 0 8 := fs4 0 8 rfl rfl
    have e16 : s5 0 8 = s4 0 8 := fs5 0 8 rfl rfl
    refine ⟨by omega, ?_⟩
    have e19 : s4 0 9 = st 0 9 := fs4 0 9 rfl rfl
    have e18 : s5 0 9 = s4 0 9 := fs5 0 9 rfl rfl
    refine ⟨by omega, ?_⟩
    refine ⟨by omega, ?_⟩
    refine ⟨rfl, rfl, (gInv_up (gInv_up gs5 (p_f0_8 (by omega))) (p_f0_9 (by omega))), fun s6 q6 => ?_⟩
    obtain ⟨gs6, fs6⟩ := q6
    refine ⟨rfl, gs6, fun s7 q7 => ?_⟩
    obtain ⟨gs7, fs7⟩ := q7
    refine ⟨rfl, gs7, fun s8 q8 => ?_⟩
    obtain ⟨gs8, fs8⟩ := q8
    have e22 : s6 0 8 = 135 := fs6 0 8 rfl rfl
    have e21 : s7 0 8 = s6 0 8 := fs7 0 8 rfl rfl
    have e20 : s8 0 8 = s7 0 8 := fs8 0 8 rfl rfl
    refine ⟨by omega, ?_⟩
    have e26 : s5 135 0 = s4 135 0 := fs5 135 0 rfl rfl
    have e25 : s6 135 0 = s5 135 0 := fs6 135 0 rfl rfl
    have e24 : s7 135 0 = s6 135 0 := fs7 135 0 rfl rfl
    have e23 : s8 135 0 = s7 135 0 := fs8 135 0 rfl rfl
    have e29 : s6 0 9 = 122 := fs6 0 9 rfl rfl
    have e28 : s7 0 9 = s6 0 9 := fs7 0 9 rfl rfl
    have e27 : s8 0 9 = s7 0 9 := fs8 0 9 rfl rfl
    have e32 : s6 1 1 = s5 1 1 := fs6 1 1 rfl rfl
    have e31 : s7 1 1 = s6 1 1 := fs7 1 1 rfl rfl
    have e30 : s8 1 1 = s7 1 1 := fs8 1 1 rfl rfl
    exact hQ _ _ ⟨gs8, (fr_tr (fr_tr (fr_tr (fr_f (fr_f (fr_tr (fr_f (fr_f (fr_tr (fr_rf _ _) fs4 rfl) rfl) rfl) fs5 rfl) rfl) rfl) fs6 rfl) fs7 rfl) fs8 rfl), (show ((s8 135 0) = -1 ∧ PNO (ctx st) (st 1 1) ∧ s8 0 8 = 122 ∧ s8 0 9 = 135) ∨ (POK (ctx st) (st 1 1) (tn 135 s8) (s8 135 0) ∧ s8 0 8 = 135 ∧ s8 0 9 = 122) from (by
          have hb := b4
          have ht : tn 135 s8 = tn 135 s4 := ((tn_fr (x := 135) rfl fs8).trans ((tn_fr (x := 135) rfl fs7).trans ((tn_fr (x := 135) rfl fs6).trans ((tn_o 135 _ _ _ (by omega)).trans ((tn_o 135 _ _ _ (by omega)).trans ((tn_fr (x := 135) rfl fs5).trans ((tn_o 135 _ _ _ (by omega)).trans ((tn_o 135 _ _ _ (by omega)).trans (Eq.refl _)))))))))
          rw [ht]
          rw [show (s8 135 0) = s4 135 0 from by omega]
          exact Or.inr ⟨hb, by omega, by omega⟩)), (show s8 1 1 = 0 from by omega)⟩
  · have g33 := g_rFault gs4
    have g34 := g_rFaultAt gs4
    refine ⟨rfl, (gInv_up (gInv_up gs4 (p_f0_10 (by omega))) (p_f0_11 (by omega))), fun s5 q5 => ?_⟩
    obtain ⟨gs5, fs5, t5⟩ := q5
    change (0 ≤ (0) ∧ (0) < s4 1 1 → s5 1 1 = (0)) ∧ (¬ (0 ≤ (0) ∧ (0) < s4 1 1) → s5 1 1 = s4 1 1) at t5
    have e35 : s4 1 1 = st 1 1 := fs4 1 1 rfl rfl
    have g36 := g_tsize gs5
    refine ⟨fun h37 => (by exfalso; omega), fun h37 => ?_⟩
    refine ⟨rfl, ⟨gs5, (show 0 ≤ (1) ∧ (1) ≤ 5 from by omega)⟩, fun r9 s9 q9 => ?_⟩
    obtain ⟨gs9, fs9, e9⟩ := q9
    change r9 = -1 at e9
    have e40 : s4 0 8 = st 0 8 := fs4 0 8 rfl rfl
    have e39 : s5 0 8 = s4 0 8 := fs5 0 8 rfl rfl
    have e38 : s9 0 8 = s5 0 8 := fs9 0 8 rfl rfl
    have e43 : s4 0 9 = st 0 9 := fs4 0 9 rfl rfl
    have e42 : s5 0 9 = s4 0 9 := fs5 0 9 rfl rfl
    have e41 : s9 0 9 = s5 0 9 := fs9 0 9 rfl rfl
    have e44 : s9 1 1 = s5 1 1 := fs9 1 1 rfl rfl
    exact hQ _ _ ⟨gs9, (fr_tr (fr_tr (fr_f (fr_f (fr_tr (fr_rf _ _) fs4 rfl) rfl) rfl) fs5 rfl) fs9 rfl), (show (r9 = -1 ∧ PNO (ctx st) (st 1 1) ∧ s9 0 8 = 122 ∧ s9 0 9 = 135) ∨ (POK (ctx st) (st 1 1) (tn 135 s9) r9 ∧ s9 0 8 = 135 ∧ s9 0 9 = 122) from (Or.inl ⟨by omega, l4, by omega, by omega⟩)), (show s9 1 1 = 0 from by omega)⟩
theorem k_yTownB_m (hTb : aTb zSh rx_tb cl) {D : Nat} (hD : 127 ≤ D) : ∀ as st (Q Q' : zQ), (∀ r st', Q r st' → Q' r st') → k_yTownB 140 as st Q → cl D 140 as st Q' := by
  intro as st Q Q' hQ h
  unfold k_yTownB at h
  split at h
  · obtain ⟨rfl, h⟩ := h
    exact c_yTownB hTb hD (ct_yTownB_m hQ h)
  · exact h.elim
end RZy
