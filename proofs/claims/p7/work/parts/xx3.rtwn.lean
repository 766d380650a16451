/-! printed by wip/p4/py/wip/p7/py/rb2.py: the reference's town -/
def m_yStmt : aM := ([(170, 3), (170, 4), (170, 5), (170, 6), (170, 7), (170, 8), (170, 9), (170, 12), (170, 34), (170, 36), (170, 42), (170, 43), (170, 45), (170, 46)], [172, 173, 174, 175, 176, 177, 178, 179, 180, 181, 182, 183, 184, 185, 186, 187, 188, 189, 190, 191, 192, 193, 194, 195, 196, 197])
def rq_yStmt (t : Int → Int) (n : Int) (T : zS) (C : List Int) (gd : Int) (gi : Nat) (ge : Int) (T1 : zS) (q2 : Int) (st : zS) : Prop := gInv zgt st ∧ (st 170 4 ≤ st 170 5 ∧ st 170 5 ≤ st 170 2 ∧ (st 170 3 = 0 ∧ st 170 4 = st 170 2 ∨ 1 ≤ st 170 3 ∧ st 170 4 < st 170 5)) ∧ (TS st) ∧ (st 170 8 = 0 ∧ st 170 34 ≤ st 170 4 ∧ 1 ≤ st 170 3) ∧ (st 170 35 = 1 - st 170 13) ∧ (RDr st t n) ∧ (RT (st 170 35) T st) ∧ (st 170 8 = 0 ∧ st 170 34 ≤ st 170 4) ∧ (CDr (st 170 35) (st 170 34) (st 188) (st 189) C) ∧ (SGH t n T (st 170 4) gd gi ge T1 q2)
def en_yStmt (t : Int → Int) (n : Int) (T : zS) (C : List Int) (gd : Int) (gi : Nat) (ge : Int) (T1 : zS) (q2 : Int) (st : zS) (s1 : zS) : Prop := gInv zgt s1 ∧ aFr m_yStmt st s1 ∧ (s1 170 4 ≤ s1 170 5 ∧ s1 170 5 ≤ s1 170 2 ∧ (s1 170 3 = 0 ∧ s1 170 4 = s1 170 2 ∨ 1 ≤ s1 170 3 ∧ s1 170 4 < s1 170 5) ∧ st 170 4 ≤ s1 170 4) ∧ (jR st s1) ∧ (bR st s1) ∧ (s1 170 8 = 0 → TS s1 ∧ s1 170 34 ≤ s1 170 4) ∧ ((gd = 1 ∧ s1 170 8 = 0 ∧ RDr s1 t n ∧ s1 170 4 = q2 ∧ RT (st 170 35) T1 s1 ∧ s1 170 34 ≤ s1 170 4 ∧ ∃ C' : List Int, CDr (s1 170 35) (s1 170 34) (s1 188) (s1 189) C') ∨ (0 < s1 170 8 ∧ (gd = 0 ∨ ∃ v e : Int, tk t n q2 5 v e)))
def ct_yStmt (t : Int → Int) (n : Int) (T : zS) (C : List Int) (gd : Int) (gi : Nat) (ge : Int) (T1 : zS) (q2 : Int) (st : zS) (Q : zQ) : Prop := rq_yStmt t n T C gd gi ge T1 q2 st ∧ (∀ (s1 : zS), en_yStmt t n T C gd gi ge T1 q2 st s1 → Q none s1)
theorem ct_yStmt_m {t : Int → Int} {n : Int} {T : zS} {C : List Int} {gd : Int} {gi : Nat} {ge : Int} {T1 : zS} {q2 : Int} {st : zS} {Q Q' : zQ} (hQ : ∀ r st', Q r st' → Q' r st') (h : ct_yStmt t n T C gd gi ge T1 q2 st Q) : ct_yStmt t n T C gd gi ge T1 q2 st Q' := ⟨h.1, fun x0 x1 => hQ _ _ (h.2 x0 x1)⟩
def k_yStmt (t : Int → Int) (n : Int) (T : zS) (C : List Int) (gd : Int) (gi : Nat) (ge : Int) (T1 : zS) (q2 : Int) : zCall := fun _ as st Q => match as with
  | [.inr (.inr (.inl z_o))] => z_o = 170 ∧ ct_yStmt t n T C gd gi ge T1 q2 st Q
  | _ => False
def rq_yTown (t : Int → Int) (n gd : Int) (m : Nat) (Ts : Nat → zS) (ps : Nat → Int) (st : zS) : Prop := gInv zgt st ∧ zJ st ∧ (∀ j : Int, 0 ≤ j → j < n → st 171 j.toNat = t j) ∧ (st 170 1 = n) ∧ (TGH t n gd m Ts ps)
def en_yTown (t : Int → Int) (n gd : Int) (m : Nat) (Ts : Nat → zS) (ps : Nat → Int) (st : zS) (r : Int) (s1 : zS) : Prop := gInv zgt s1 ∧ zJ s1 ∧ zV1 st s1 ∧ (s1 170 1 = 0) ∧ ((gd = 1 → r = (m : Int) ∧ RT (s1 170 13) (Ts m) s1) ∧ (gd = 0 → r = -1 ∧ bR st s1))
def ct_yTown (t : Int → Int) (n gd : Int) (m : Nat) (Ts : Nat → zS) (ps : Nat → Int) (st : zS) (Q : zQ) : Prop := rq_yTown t n gd m Ts ps st ∧ (∀ (r : Int) (s1 : zS), en_yTown t n gd m Ts ps st r s1 → Q (some (.inl r)) s1)
theorem ct_yTown_m {t : Int → Int} {n gd : Int} {m : Nat} {Ts : Nat → zS} {ps : Nat → Int} {st : zS} {Q Q' : zQ} (hQ : ∀ r st', Q r st' → Q' r st') (h : ct_yTown t n gd m Ts ps st Q) : ct_yTown t n gd m Ts ps st Q' := ⟨h.1, fun x0 x1 x2 => hQ _ _ (h.2 x0 x1 x2)⟩
def k_yTown (t : Int → Int) (n gd : Int) (m : Nat) (Ts : Nat → zS) (ps : Nat → Int) : zCall := fun _ as st Q => match as with
  | [.inr (.inr (.inl z_o))] => z_o = 170 ∧ ct_yTown t n gd m Ts ps st Q
  | _ => False
section RzZ
variable {cl : Nat → zCall}
theorem c_yStmt (hTb : aTb zSh rx_tb cl) {t : Int → Int} {n : Int} {T : zS} {C : List Int} {gd : Int} {gi : Nat} {ge : Int} {T1 : zS} {q2 : Int} {D : Nat} (hD : 7 ≤ D) {st : zS} {Q : zQ} (h : ct_yStmt t n T C gd gi ge T1 q2 st Q) : cl D 210 [.inr (.inr (.inl 170))] st Q := by
  obtain ⟨⟨hG, lx, ts, q, bk, rd, rt, qx, cd, gh⟩, hQ⟩ := h
  refine cl_join (Q1 := fun r s => r = none ∧ en_xstatement  st s) (Q2 := fun r s => r = none ∧ en_rStmt t n T C gd gi ge T1 q2 st s) (fun cl' h' => c_xstatement h' (by omega) ⟨⟨hG, lx, ts, q, bk⟩, fun s1 z => ⟨rfl, z⟩⟩) (fun cl' h' => c_rStmt h' (by omega) ⟨⟨hG, rd, rt, qx, cd, gh⟩, fun s1 z => ⟨rfl, z⟩⟩) hTb (fun r s z1 z2 => ?_)
  obtain ⟨rfl, a0, a1, a2, a3, a4, a5⟩ := z1
  obtain ⟨-, b0, b1, b2⟩ := z2
  exact hQ s ⟨a0, a1, a2, a3, a4, a5, b2⟩
theorem k_yStmt_m (hTb : aTb zSh rx_tb cl) {t : Int → Int} {n : Int} {T : zS} {C : List Int} {gd : Int} {gi : Nat} {ge : Int} {T1 : zS} {q2 : Int} {D : Nat} (hD : 7 ≤ D) : ∀ as st (Q Q' : zQ), (∀ r st', Q r st' → Q' r st') → (k_yStmt t n T C gd gi ge T1 q2) 210 as st Q → cl D 210 as st Q' := by
  intro as st Q Q' hQ h
  unfold k_yStmt at h
  split at h
  · obtain ⟨rfl, h⟩ := h
    exact c_yStmt hTb hD (ct_yStmt_m hQ h)
  · exact h.elim
set_option maxHeartbeats 4000000 in
set_option maxRecDepth 100000 in
theorem c_yTown (hTb : aTb zSh rx_tb cl) {t : Int → Int} {n gd : Int} {m : Nat} {Ts : Nat → zS} {ps : Nat → Int} {D : Nat} (hD : 8 ≤ D) {st : zS} {Q : zQ} (h : ct_yTown t n gd m Ts ps st Q) : cl D 148 [.inr (.inr (.inl 170))] st Q := by
  obtain ⟨d, rfl⟩ : ∃ d, D = d + 1 := ⟨D - 1, by omega⟩
  refine hTb d 148 (rx_m148, 2, 0, 0, 1) rfl _ _ _ (Nat.le_of_ble_eq_true rfl) (fun K hcl hsf hsl => ?_)
  obtain ⟨hR, hQ⟩ := h
  obtain ⟨hG, hJ, ta, tn, gh⟩ := hR
  change ∀ j : Int, 0 ≤ j → j < n → st 171 j.toNat = t j at ta
  change st 170 1 = n at tn
  change TGH t n gd m Ts ps at gh
  have g1 := g_taped hG
  have hcm0 : ∀ (k : Int) (C0 : List Int) (sd : Int) (gi : Nat) (ge : Int) (T1 : zS) (q2 : Int), zmo (wcL [(149, k_jAhead), (210, k_yStmt t n (Ts k.toNat) C0 sd gi ge T1 q2), (211, k_jFin t n), (58, k_refuses), (150, k_begin)]) (cl d) := fun k C0 sd gi ge T1 q2 => (wcL_m (wm_cons (k_jAhead_m hTb (by omega)) (wm_cons (k_yStmt_m hTb (by omega)) (wm_cons (k_jFin_m hTb (by omega)) (wm_cons (k_refuses_m hTb (by omega)) (wm_cons (k_begin_m hTb (by omega)) wm_nil))))))
  have m194 : ∀ (k : Int) (s_m194 : zS), gInv zgt s_m194 ∧ zV1 st s_m194 ∧ (s_m194 170 1 = 0) ∧ (jR st s_m194) ∧ (bR st s_m194) ∧ (s_m194 170 4 ≤ s_m194 170 5 ∧ s_m194 170 5 ≤ s_m194 170 2 ∧ (s_m194 170 3 = 0 ∧ s_m194 170 4 = s_m194 170 2 ∨ 1 ≤ s_m194 170 3 ∧ s_m194 170 4 < s_m194 170 5)) ∧ (s_m194 170 35 = 1 - s_m194 170 13 ∧ s_m194 170 13 = st 170 13) ∧ (0 ≤ k ∧ k ≤ s_m194 170 4 + s_m194 170 8) ∧ (s_m194 170 8 = 0 → TS s_m194 ∧ s_m194 170 34 ≤ s_m194 170 4) ∧ (TIN t n gd m Ts ps s_m194 k) ∧ (∃ C : List Int, s_m194 170 8 = 0 → CDr (s_m194 170 35) (s_m194 170 34) (s_m194 188) (s_m194 189) C) ∧ (s_m194 170 8 = 0 → s_m194 170 3 = 0) → K (rx_find rx_m148 194) [(1, .inl k), (0, .inr (.inr (.inl 170)))] [] s_m194 := by
    intro k s_m194 hi
    obtain ⟨gI_m194, vI_m194, tz_m194, R_m194, B_m194, lx_m194, bk_m194, n_m194, e_m194, x_m194, cd_m194, sg_m194⟩ := hi
    have hcm := hcm0 0 [] 0 0 0 st 0
    have g2 := g_taped gI_m194
    have g3 := g_signAt gI_m194
    have g4 := g_signEnd gI_m194
    have g5 := g_size gI_m194
    have g6 := g_sign gI_m194
    have g7 := g_in gI_m194
    have g8 := g_bank gI_m194
    have g9 := g_bank hG
    have g10 := g_faultKind gI_m194
    have g11 := g_codes gI_m194
    have g12 := g_faultPlace gI_m194
    refine yr1_ok (Rt := Q) (wc := (wcL [(149, k_jAhead), (210, k_yStmt t n (Ts (0 : Int).toNat) [] 0 0 0 st 0), (211, k_jFin t n), (58, k_refuses), (150, k_begin)])) (stp := [194]) hcm hcl [] 200 ?_
    show ((s_m194 170 8 ≤ (0 : Int) → (170 = 170 ∧ (rq_begin  (zup (zup (zup s_m194 170 10 (s_m194 170 8)) 170 11 (s_m194 170 9)) 170 13 (s_m194 170 35)) ∧ (∀ (s13 : zS), en_begin  (zup (zup (zup s_m194 170 10 (s_m194 170 8)) 170 11 (s_m194 170 9)) 170 13 (s_m194 170 35)) s13 → Q (some (.inl k)) s13)))) ∧ (¬ (s_m194 170 8 ≤ (0 : Int)) → (170 = 170 ∧ (rq_refuses (1) (zup (zup s_m194 170 10 (s_m194 170 8)) 170 11 (s_m194 170 9)) ∧ (∀ (r14 : Int) (s14 : zS), en_refuses (1) (zup (zup s_m194 170 10 (s_m194 170 8)) 170 11 (s_m194 170 9)) r14 s14 → Q (some (.inl r14)) s14)))))
    refine ⟨fun h15 => ?_, fun h15 => ?_⟩
    · have g16 := g_steps gI_m194 ((s_m194 170 35) : Int).toNat
      refine ⟨rfl, ⟨(gInv_up (gInv_up (gInv_up gI_m194 (p_toldKind (by omega))) (p_toldPlace (by omega))) (p_bank (by omega))), (show jS (zup (zup (zup s_m194 170 10 (s_m194 170 8)) 170 11 (s_m194 170 9)) 170 13 (s_m194 170 35)) from jS_e (TS_jS (e_m194 (by omega)).1) rfl (fun _ => rfl) (fun _ => rfl) (fun _ => rfl)), (show jC (zup (zup (zup s_m194 170 10 (s_m194 170 8)) 170 11 (s_m194 170 9)) 170 13 (s_m194 170 35)) from jC_e (TS_jC (e_m194 (by omega)).1) rfl (fun _ => rfl) (fun _ => rfl) (fun _ => rfl)), (show TS2 ((s_m194 170 35)) (s_m194 178 ((s_m194 170 35) : Int).toNat) ((zup (zup (zup s_m194 170 10 (s_m194 170 8)) 170 11 (s_m194 170 9)) 170 13 (s_m194 170 35)) 177) ((zup (zup (zup s_m194 170 10 (s_m194 170 8)) 170 11 (s_m194 170 9)) 170 13 (s_m194 170 35)) 179) from (e_m194 (by omega)).1.2.1)⟩, fun s13 q13 => ?_⟩
      obtain ⟨gs13, fs13, js13⟩ := q13
      have e17 : s13 170 1 = s_m194 170 1 := fs13 170 1 rfl rfl
      have e18 : s13 170 13 = (s_m194 170 35) := fs13 170 13 rfl rfl
      have e19 : s13 170 35 = s_m194 170 35 := fs13 170 35 rfl rfl
      exact hQ _ _ ⟨gs13, js13, (zV1_tr (zV1_up (zV1_up (zV1_up vI_m194 (by decide)) (by decide)) (by decide)) (zV1_fr rfl fs13)), (show s13 170 1 = 0 from by omega), (show (gd = 1 → k = (m : Int) ∧ RT (s13 170 13) (Ts m) s13) ∧ (gd = 0 → k = -1 ∧ bR st s13) from (by
            have z := TIN_end gh (by omega) x_m194 (by omega) (sg_m194 (by omega))
            refine ⟨fun _ => ⟨z.2.1, ?_⟩, fun y => by have y2 := z.1; omega⟩
            rw [show s13 170 13 = s_m194 170 35 from by omega]
            exact RT_fr rfl fs13 (RT_e (fun c i q1 q2 => (show (zup (zup (zup s_m194 170 10 (s_m194 170 8)) 170 11 (s_m194 170 9)) 170 13 (s_m194 170 35)) c i = s_m194 c i from by rw [zup_nc _ _ (show ¬ c = 170 by omega), zup_nc _ _ (show ¬ c = 170 by omega), zup_nc _ _ (show ¬ c = 170 by omega)])) z.2.2)))⟩
    · refine ⟨rfl, ⟨(gInv_up (gInv_up gI_m194 (p_toldKind (by omega))) (p_toldPlace (by omega))), (show 0 ≤ (1) ∧ (1) ≤ 5 from by omega)⟩, fun r14 s14 q14 => ?_⟩
      obtain ⟨gs14, fs14, e14⟩ := q14
      change r14 = -1 at e14
      have e20 : s14 170 1 = s_m194 170 1 := fs14 170 1 rfl rfl
      have e21 : s14 170 13 = s_m194 170 13 := fs14 170 13 rfl rfl
      have e22 : s14 170 35 = s_m194 170 35 := fs14 170 35 rfl rfl
      exact hQ _ _ ⟨gs14, (zJ_fr rfl fs14 (zJ_up rfl (zJ_up rfl (zJ_R hG hJ R_m194)))), (zV1_tr (zV1_up (zV1_up vI_m194 (by decide)) (by decide)) (zV1_fr rfl fs14)), (show s14 170 1 = 0 from by omega), (show (gd = 1 → r14 = (m : Int) ∧ RT (s14 170 13) (Ts m) s14) ∧ (gd = 0 → r14 = -1 ∧ bR st s14) from ⟨fun z => by have y := x_m194.2 (by omega); omega, fun _ => ⟨by omega, (bR_tr (s1 := (zup (zup s_m194 170 10 (s_m194 170 8)) 170 11 (s_m194 170 9))) (bR_up (bR_up B_m194 (by unfold brel; omega)) (by unfold brel; omega)) (bR_fr rfl fs14))⟩⟩)⟩
  have lm : ∀ (u : Nat) (k : Int) (s_lm : zS), gInv zgt s_lm ∧ zV1 st s_lm ∧ (s_lm 170 1 = 0) ∧ (jR st s_lm) ∧ (bR st s_lm) ∧ (s_lm 170 4 ≤ s_lm 170 5 ∧ s_lm 170 5 ≤ s_lm 170 2 ∧ (s_lm 170 3 = 0 ∧ s_lm 170 4 = s_lm 170 2 ∨ 1 ≤ s_lm 170 3 ∧ s_lm 170 4 < s_lm 170 5)) ∧ (s_lm 170 35 = 1 - s_lm 170 13 ∧ s_lm 170 13 = st 170 13) ∧ (0 ≤ k ∧ k ≤ s_lm 170 4 + s_lm 170 8) ∧ (s_lm 170 8 = 0 → TS s_lm ∧ s_lm 170 34 ≤ s_lm 170 4) ∧ (TIN t n gd m Ts ps s_lm k) ∧ (∃ C : List Int, s_lm 170 8 = 0 → CDr (s_lm 170 35) (s_lm 170 34) (s_lm 188) (s_lm 189) C) → (12000 - 2000 * s_lm 170 8 + 1601 - s_lm 170 4).toNat = u → K (rx_find rx_m148 165) [(1, .inl k), (0, .inr (.inr (.inl 170)))] [] s_lm := by
    intro u
    induction u using Nat.strongRecOn with
    | _ u ih =>
      intro k s_lm hi hu
      obtain ⟨gI_lm, vI_lm, tz_lm, R_lm, B_lm, lx_lm, bk_lm, n_lm, e_lm, x_lm, cd_lm⟩ := hi
      obtain ⟨C0, hC0⟩ := cd_lm
      obtain ⟨sd, gi, ge, T1, q2, hsg⟩ := TG_st gh k.toNat
      have hcm := hcm0 k C0 sd gi ge T1 q2
      have g23 := g_taped gI_lm
      have g24 := g_signAt gI_lm
      have g25 := g_signEnd gI_lm
      have g26 := g_size gI_lm
      have g27 := g_sign gI_lm
      have g28 := g_in gI_lm
      have g29 := g_bank gI_lm
      have g30 := g_bank hG
      have g31 := g_faultKind gI_lm
      have g32 := g_codes gI_lm
      have g33 := g_faultPlace gI_lm
      refine yr1_ok (Rt := Q) (wc := (wcL [(149, k_jAhead), (210, k_yStmt t n (Ts k.toNat) C0 sd gi ge T1 q2), (211, k_jFin t n), (58, k_refuses), (150, k_begin)])) (stp := [165, 194]) hcm hcl [] 200 ?_
      show ((¬ s_lm 170 8 = (0 : Int) → K (rx_find rx_m148 194) [(1, .inl k), (0, .inr (.inr (.inl 170)))] [] s_lm) ∧ (¬ (¬ s_lm 170 8 = (0 : Int)) → ((s_lm 170 3 = (0 : Int) → K (rx_find rx_m148 194) [(1, .inl k), (0, .inr (.inr (.inl 170)))] [] s_lm) ∧ (¬ (s_lm 170 3 = (0 : Int)) → (170 = 170 ∧ (rq_yStmt t n (Ts k.toNat) C0 sd gi ge T1 q2  s_lm ∧ (∀ (s34 : zS), en_yStmt t n (Ts k.toNat) C0 sd gi ge T1 q2  s_lm s34 → ((-2147483648 ≤ k + 1 ∧ k + 1 ≤ 2147483647) ∧ (170 = 170 ∧ (rq_jFin t n (k + 1) s34 ∧ (∀ (s35 : zS), en_jFin t n (k + 1) s34 s35 → K (rx_find rx_m148 165) [(1, .inl (k + 1)), (0, .inr (.inr (.inl 170)))] [] s35)))))))))))
      refine ⟨fun h36 => ?_, fun h36 => ?_⟩
      · exact m194 k s_lm ⟨gI_lm, vI_lm, (show s_lm 170 1 = 0 from by omega), (show jR st s_lm from R_lm), (show bR st s_lm from B_lm), (show s_lm 170 4 ≤ s_lm 170 5 ∧ s_lm 170 5 ≤ s_lm 170 2 ∧ (s_lm 170 3 = 0 ∧ s_lm 170 4 = s_lm 170 2 ∨ 1 ≤ s_lm 170 3 ∧ s_lm 170 4 < s_lm 170 5) from by omega), (show s_lm 170 35 = 1 - s_lm 170 13 ∧ s_lm 170 13 = st 170 13 from by omega), (show 0 ≤ k ∧ k ≤ s_lm 170 4 + s_lm 170 8 from by omega), (show s_lm 170 8 = 0 → TS s_lm ∧ s_lm 170 34 ≤ s_lm 170 4 from e_lm), (show TIN t n gd m Ts ps s_lm k from x_lm), (show ∃ C : List Int, s_lm 170 8 = 0 → CDr (s_lm 170 35) (s_lm 170 34) (s_lm 188) (s_lm 189) C from ⟨C0, hC0⟩), (show s_lm 170 8 = 0 → s_lm 170 3 = 0 from by omega)⟩
      · refine ⟨fun h37 => ?_, fun h37 => ?_⟩
        · exact m194 k s_lm ⟨gI_lm, vI_lm, (show s_lm 170 1 = 0 from by omega), (show jR st s_lm from R_lm), (show bR st s_lm from B_lm), (show s_lm 170 4 ≤ s_lm 170 5 ∧ s_lm 170 5 ≤ s_lm 170 2 ∧ (s_lm 170 3 = 0 ∧ s_lm 170 4 = s_lm 170 2 ∨ 1 ≤ s_lm 170 3 ∧ s_lm 170 4 < s_lm 170 5) from by omega), (show s_lm 170 35 = 1 - s_lm 170 13 ∧ s_lm 170 13 = st 170 13 from by omega), (show 0 ≤ k ∧ k ≤ s_lm 170 4 + s_lm 170 8 from by omega), (show s_lm 170 8 = 0 → TS s_lm ∧ s_lm 170 34 ≤ s_lm 170 4 from e_lm), (show TIN t n gd m Ts ps s_lm k from x_lm), (show ∃ C : List Int, s_lm 170 8 = 0 → CDr (s_lm 170 35) (s_lm 170 34) (s_lm 188) (s_lm 189) C from ⟨C0, hC0⟩), (show s_lm 170 8 = 0 → s_lm 170 3 = 0 from by omega)⟩
        · refine ⟨rfl, ⟨gI_lm, (show s_lm 170 4 ≤ s_lm 170 5 ∧ s_lm 170 5 ≤ s_lm 170 2 ∧ (s_lm 170 3 = 0 ∧ s_lm 170 4 = s_lm 170 2 ∨ 1 ≤ s_lm 170 3 ∧ s_lm 170 4 < s_lm 170 5) from by omega), (show TS s_lm from (e_lm (by omega)).1), (show s_lm 170 8 = 0 ∧ s_lm 170 34 ≤ s_lm 170 4 ∧ 1 ≤ s_lm 170 3 from by have z := (e_lm (by omega)).2; omega), (show s_lm 170 35 = 1 - s_lm 170 13 from by omega), (show RDr s_lm t n from (x_lm.1 (by omega)).2.2.1), (show RT (s_lm 170 35) (Ts k.toNat) s_lm from (x_lm.1 (by omega)).2.2.2.1), (show s_lm 170 8 = 0 ∧ s_lm 170 34 ≤ s_lm 170 4 from by have z := (e_lm (by omega)).2; omega), (show CDr (s_lm 170 35) (s_lm 170 34) (s_lm 188) (s_lm 189) C0 from hC0 (by omega)), (show SGH t n (Ts k.toNat) (s_lm 170 4) sd gi ge T1 q2 from (by rw [(x_lm.1 (by omega)).2.1]; exact (hsg (x_lm.1 (by omega)).1 (TIN_ne x_lm (by omega) (by omega)) (fun z => (x_lm.1 (by omega)).2.2.2.2 (by omega))).1))⟩, fun s34 q34 => ?_⟩
          obtain ⟨gs34, fs34, p34, R34, B34, e34, o34⟩ := q34
          change s34 170 4 ≤ s34 170 5 ∧ s34 170 5 ≤ s34 170 2 ∧ (s34 170 3 = 0 ∧ s34 170 4 = s34 170 2 ∨ 1 ≤ s34 170 3 ∧ s34 170 4 < s34 170 5) ∧ s_lm 170 4 ≤ s34 170 4 at p34
          have g38 := g_signAt gs34
          have g39 := g_signEnd gs34
          have e40 : s34 170 2 = s_lm 170 2 := fs34 170 2 rfl rfl
          have g41 := g_sign gs34
          change jR s_lm s34 at R34
          change bR s_lm s34 at B34
          change s34 170 8 = 0 → TS s34 ∧ s34 170 34 ≤ s34 170 4 at e34
          have g42 := g_faultKind gs34
          have g43 := g_codes gs34
          change (sd = 1 ∧ s34 170 8 = 0 ∧ RDr s34 t n ∧ s34 170 4 = q2 ∧ RT (s_lm 170 35) T1 s34 ∧ s34 170 34 ≤ s34 170 4 ∧ ∃ C' : List Int, CDr (s34 170 35) (s34 170 34) (s34 188) (s34 189) C') ∨ (0 < s34 170 8 ∧ (sd = 0 ∨ ∃ v e : Int, tk t n q2 5 v e)) at o34
          have e44 : s34 170 35 = s_lm 170 35 := fs34 170 35 rfl rfl
          refine ⟨by omega, ?_⟩
          refine ⟨rfl, ⟨gs34, (show s34 170 4 ≤ s34 170 5 ∧ s34 170 5 ≤ s34 170 2 ∧ (s34 170 3 = 0 ∧ s34 170 4 = s34 170 2 ∨ 1 ≤ s34 170 3 ∧ s34 170 4 < s34 170 5) from by omega), (show s34 170 8 = 0 → RDr s34 t n from (fun z => by rcases o34 with ⟨_, _, y, _⟩ | ⟨y, _⟩; exact y; omega))⟩, fun s35 q35 => ?_⟩
          obtain ⟨gs35, fs35, p35, o35⟩ := q35
          change s35 170 4 ≤ s35 170 5 ∧ s35 170 5 ≤ s35 170 2 ∧ (s35 170 3 = 0 ∧ s35 170 4 = s35 170 2 ∨ 1 ≤ s35 170 3 ∧ s35 170 4 < s35 170 5) ∧ s34 170 4 ≤ s35 170 4 ∧ (s35 170 8 = 0 → s34 170 8 = 0 ∧ s34 170 5 ≤ s35 170 4 ∧ 1 ≤ s34 170 3) at p35
          have g45 := g_signAt gs35
          have g46 := g_signEnd gs35
          have e47 : s35 170 2 = s34 170 2 := fs35 170 2 rfl rfl
          have g48 := g_sign gs35
          have g49 := g_faultKind gs35
          change (s35 170 8 = 0 ∧ s34 170 8 = 0 ∧ tk t n (s34 170 4) 3 59 (s35 170 4) ∧ RDr s35 t n ∧ ((k + 1) = 80 → ∃ v e : Int, tk t n (s35 170 4) 0 v e)) ∨ (0 < s35 170 8 ∧ s34 170 8 = 0 ∧ ¬ ∃ q : Int, tk t n (s34 170 4) 3 59 q ∧ ((k + 1) = 80 → ∃ v e : Int, tk t n q 0 v e)) ∨ (0 < s35 170 8 ∧ 0 < s34 170 8) at o35
          have e51 : s34 170 1 = s_lm 170 1 := fs34 170 1 rfl rfl
          have e50 : s35 170 1 = s34 170 1 := fs35 170 1 rfl rfl
          have e52 : s35 170 35 = s34 170 35 := fs35 170 35 rfl rfl
          have e54 : s34 170 13 = s_lm 170 13 := fs34 170 13 rfl rfl
          have e53 : s35 170 13 = s34 170 13 := fs35 170 13 rfl rfl
          have e55 : s35 170 34 = s34 170 34 := fs35 170 34 rfl rfl
          exact ih _ (show (12000 - 2000 * s35 170 8 + 1601 - s35 170 4 : Int).toNat < u from by omega) (k + 1) s35 ⟨gs35, (zV1_tr (zV1_tr vI_lm (zV1_fr rfl fs34)) (zV1_fr rfl fs35)), (show s35 170 1 = 0 from by omega), (show jR st s35 from (jR_tr (s1 := s34) (jR_tr (s1 := s_lm) R_lm R34) (jR_fr rfl fs35))), (show bR st s35 from (bR_tr (s1 := s34) (bR_tr (s1 := s_lm) B_lm B34) (bR_fr rfl fs35))), (show s35 170 4 ≤ s35 170 5 ∧ s35 170 5 ≤ s35 170 2 ∧ (s35 170 3 = 0 ∧ s35 170 4 = s35 170 2 ∨ 1 ≤ s35 170 3 ∧ s35 170 4 < s35 170 5) from by omega), (show s35 170 35 = 1 - s35 170 13 ∧ s35 170 13 = st 170 13 from by omega), (show 0 ≤ (k + 1) ∧ (k + 1) ≤ s35 170 4 + s35 170 8 from by omega), (show s35 170 8 = 0 → TS s35 ∧ s35 170 34 ≤ s35 170 4 from fun z => ⟨TS_fr rfl fs35 (e34 (by omega)).1, by have z1 := (e34 (by omega)).2; omega⟩), (show TIN t n gd m Ts ps s35 (k + 1) from (by
            have hq := hsg (x_lm.1 (by omega)).1 (TIN_ne x_lm (by omega) (by omega)) (fun z => (x_lm.1 (by omega)).2.2.2.2 (by omega))
            refine TIN_st gh (by omega) (x_lm.1 (by omega)).1 hq (s1 := s34) (b := s_lm 170 35) ?_ (by omega) (fun c i q1 q2 => fr_out (a := 172) (b := 191) rfl fs35 c i q1 q2) o35
            rcases o34 with ⟨y1, y2, y3, y4, y5, y6, y7⟩ | y
            · exact Or.inl ⟨y1, y2, y4, y5⟩
            · exact Or.inr y)), (show ∃ C : List Int, s35 170 8 = 0 → CDr (s35 170 35) (s35 170 34) (s35 188) (s35 189) C from (by
            rcases o34 with ⟨y1, y2, y3, y4, y5, y6, C2, y7⟩ | ⟨y, _⟩
            · refine ⟨C2, fun _ => ?_⟩
              rw [show s35 170 35 = s34 170 35 from by omega, show s35 170 34 = s34 170 34 from fs35 170 34 rfl rfl, show s35 188 = s34 188 from funext (fun i => fs35 188 i rfl rfl), show s35 189 = s34 189 from funext (fun i => fs35 189 i rfl rfl)]
              exact y7
            · refine ⟨[], fun z => ?_⟩
              rcases o35 with ⟨x1, x2, _⟩ | ⟨x1, _⟩ | ⟨x1, _⟩ <;> omega))⟩ rfl
  have lz : ∀ (u : Nat) (k : Int) (s_lz : zS), gInv zgt s_lz ∧ zV1 st s_lz ∧ (s_lz 170 1 = 0) ∧ (jR st s_lz) ∧ (bR st s_lz) ∧ (s_lz 170 35 = 1 - s_lz 170 13 ∧ s_lz 170 13 = st 170 13 ∧ s_lz 170 8 = 0 ∧ s_lz 170 5 = 0 ∧ 0 ≤ k ∧ k ≤ 64) ∧ (s_lz 172 (s_lz 170 35 : Int).toNat = 0 ∧ s_lz 173 (s_lz 170 35 : Int).toNat = 0 ∧ s_lz 178 (s_lz 170 35 : Int).toNat = 0 ∧ s_lz 186 (2 * s_lz 170 35 : Int).toNat = -1 ∧ s_lz 186 (2 * s_lz 170 35 + 1 : Int).toNat = -1) ∧ (s_lz 181 (s_lz 170 35 : Int).toNat = 0 ∧ s_lz 184 (s_lz 170 35 : Int).toNat = 20 ∧ s_lz 185 (s_lz 170 35 : Int).toNat = 0 ∧ s_lz 170 2 = n) ∧ (∀ i : Nat, s_lz 171 i = st 171 i) ∧ (∀ j : Int, 0 ≤ j → j < k → s_lz 177 (64 * s_lz 170 35 + j).toNat = 0) → (64 - k).toNat = u → K (rx_find rx_m148 127) [(1, .inl k), (0, .inr (.inr (.inl 170)))] [] s_lz := by
    intro u
    induction u using Nat.strongRecOn with
    | _ u ih =>
      intro k s_lz hi hu
      obtain ⟨gI_lz, vI_lz, tz_lz, R_lz, B_lz, d_lz, e_lz, e3_lz, t_lz, z_lz⟩ := hi
      have hcm := hcm0 0 [] 0 0 0 st 0
      have g56 := g_taped gI_lz
      have g57 := g_in gI_lz
      have g58 := g_bank gI_lz
      have g59 := g_bank hG
      have g60 := g_faultKind gI_lz
      have g61 := g_signEnd gI_lz
      have g62 := g_places gI_lz (s_lz 170 35 : Int).toNat
      have g63 := g_streets gI_lz (s_lz 170 35 : Int).toNat
      have g64 := g_steps gI_lz (s_lz 170 35 : Int).toNat
      have g65 := g_sumFrom gI_lz (2 * s_lz 170 35 : Int).toNat
      have g66 := g_sumFrom gI_lz (2 * s_lz 170 35 + 1 : Int).toNat
      have g67 := g_things gI_lz (s_lz 170 35 : Int).toNat
      have g68 := g_heatTold gI_lz (s_lz 170 35 : Int).toNat
      have g69 := g_hotTold gI_lz (s_lz 170 35 : Int).toNat
      have g70 := g_size gI_lz
      have g71 := g_codes gI_lz
      have g72 := g_signAt gI_lz
      have g73 := g_sign gI_lz
      have g74 := g_faultPlace gI_lz
      refine yr1_ok (Rt := Q) (wc := (wcL [(149, k_jAhead), (210, k_yStmt t n (Ts (0 : Int).toNat) [] 0 0 0 st 0), (211, k_jFin t n), (58, k_refuses), (150, k_begin)])) (stp := [127, 165, 194]) hcm hcl [] 200 ?_
      show (((64 : Int) ≤ k → (170 = 170 ∧ (rq_jAhead  (zup s_lz 170 34 0) ∧ (∀ (s75 : zS), en_jAhead  (zup s_lz 170 34 0) s75 → K (rx_find rx_m148 165) [(1, .inl 0), (0, .inr (.inr (.inl 170)))] [] s75)))) ∧ (¬ ((64 : Int) ≤ k) → ((-2147483648 ≤ (64 : Int) * (s_lz 170 35) ∧ (64 : Int) * (s_lz 170 35) ≤ 2147483647) ∧ ((-2147483648 ≤ ((64 : Int) * (s_lz 170 35)) + k ∧ ((64 : Int) * (s_lz 170 35)) + k ≤ 2147483647) ∧ ((0 ≤ ((64 : Int) * (s_lz 170 35)) + k ∧ ((64 : Int) * (s_lz 170 35)) + k < 128) ∧ ((-2147483648 ≤ k + 1 ∧ k + 1 ≤ 2147483647) ∧ K (rx_find rx_m148 127) [(1, .inl (k + 1)), (0, .inr (.inr (.inl 170)))] [] (zup s_lz 177 (((64 : Int) * (s_lz 170 35)) + k : Int).toNat 0)))))))
      refine ⟨fun h76 => ?_, fun h76 => ?_⟩
      · refine ⟨rfl, ⟨(gInv_up gI_lz (p_codes (by omega))), (show s_lz 170 5 ≤ s_lz 170 2 from by omega), (show s_lz 170 5 ≤ s_lz 170 2 from by omega)⟩, fun s75 q75 => ?_⟩
        obtain ⟨gs75, fs75, p75, k75⟩ := q75
        change s75 170 4 ≤ s75 170 5 ∧ s75 170 5 ≤ s75 170 2 ∧ (s75 170 3 = 0 ∧ s75 170 4 = s75 170 2 ∨ 1 ≤ s75 170 3 ∧ s75 170 4 < s75 170 5) ∧ s_lz 170 5 ≤ s75 170 4 at p75
        have g77 := g_signAt gs75
        have g78 := g_signEnd gs75
        have e79 : s75 170 2 = s_lz 170 2 := fs75 170 2 rfl rfl
        have g80 := g_sign gs75
        change ∃ k v s e : Int, TK (fun k => (zup s_lz 170 34 0) 171 k.toNat) (s_lz 170 2) (s_lz 170 5) k v s e ∧ RW (s75 170 3) (s75 170 6) (s75 170 7) (s75 170 4) (s75 170 5) (s75 170 12) k v s e at k75
        have g81 := g_value gs75
        have g82 := g_word gs75
        have g83 := g_lexAt gs75
        have e84 : s75 170 1 = s_lz 170 1 := fs75 170 1 rfl rfl
        have e85 : s75 170 35 = s_lz 170 35 := fs75 170 35 rfl rfl
        have e86 : s75 170 13 = s_lz 170 13 := fs75 170 13 rfl rfl
        have e87 : s75 170 8 = s_lz 170 8 := fs75 170 8 rfl rfl
        have e88 : s75 170 34 = 0 := fs75 170 34 rfl rfl
        exact lm _ 0 s75 ⟨gs75, (zV1_tr (zV1_up vI_lz (by decide)) (zV1_fr rfl fs75)), (show s75 170 1 = 0 from by omega), (show jR st s75 from (jR_tr (s1 := (zup s_lz 170 34 0)) (jR_up R_lz (by unfold jrel; omega)) (jR_fr rfl fs75))), (show bR st s75 from (bR_tr (s1 := (zup s_lz 170 34 0)) (bR_up B_lz (by unfold brel; omega)) (bR_fr rfl fs75))), (show s75 170 4 ≤ s75 170 5 ∧ s75 170 5 ≤ s75 170 2 ∧ (s75 170 3 = 0 ∧ s75 170 4 = s75 170 2 ∨ 1 ≤ s75 170 3 ∧ s75 170 4 < s75 170 5) from by omega), (show s75 170 35 = 1 - s75 170 13 ∧ s75 170 13 = st 170 13 from by omega), (show 0 ≤ (0 : Int) ∧ (0 : Int) ≤ s75 170 4 + s75 170 8 from by omega), (show s75 170 8 = 0 → TS s75 ∧ s75 170 34 ≤ s75 170 4 from fun z => ⟨TS_fr rfl fs75 (show TS (zup s_lz 170 34 0) from TS_init (fun j z1 z2 => z_lz j z1 (by omega)) e_lz.2.2.1 e_lz.2.2.2.1 e_lz.2.2.2.2), by omega⟩), (show TIN t n gd m Ts ps s75 (0 : Int) from (by
            have z := RDr_0 (t := t) (n := n) fs75 rfl rfl rfl (fun _ => rfl) (show s_lz 170 2 = n from by omega) (show s_lz 170 5 = 0 from by omega) (by omega) (fun k z1 z2 => (t_lz k.toNat).trans (ta k z1 z2)) k75
            have zp := wrn_u z.2 gh.2.1
            have zr : RT (s_lz 170 35) (Ts 0) s_lz := RT_init gh.1 (by omega) (by omega) (by omega) (by omega) (by omega) (by omega) (by rw [show (2 * s_lz 170 35 + 0 : Int).toNat = (2 * s_lz 170 35 : Int).toNat by omega]; omega) (by omega) (fun j z1 z2 => z_lz j z1 (by omega))
            refine ⟨fun _ => ⟨by omega, zp, z.1, ?_, fun y => by omega⟩, fun y => by omega⟩
            rw [show s75 170 35 = s_lz 170 35 from by omega]
            exact RT_fr rfl fs75 (RT_e (fun c i q1 q2 => zup_nc _ _ (by omega)) zr))), (show ∃ C : List Int, s75 170 8 = 0 → CDr (s75 170 35) (s75 170 34) (s75 188) (s75 189) C from ⟨[], fun _ => ⟨(show s75 170 34 = (([] : List Int).length : Int) from by rw [List.length_nil]; omega), fun i hi => absurd hi (by rw [List.length_nil]; omega)⟩⟩)⟩ rfl
      · refine ⟨by omega, ?_⟩
        refine ⟨by omega, ?_⟩
        refine ⟨by omega, ?_⟩
        refine ⟨by omega, ?_⟩
        exact ih _ (show (64 - (k + 1) : Int).toNat < u from by omega) (k + 1) (zup s_lz 177 (((64 : Int) * (s_lz 170 35)) + k : Int).toNat 0) ⟨(gInv_up gI_lz (p_streetAt (by omega))), (zV1_up vI_lz (by decide)), (show s_lz 170 1 = 0 from by omega), (show jR st (zup s_lz 177 (((64 : Int) * (s_lz 170 35)) + k : Int).toNat 0) from (jR_up R_lz (by unfold jrel; omega))), (show bR st (zup s_lz 177 (((64 : Int) * (s_lz 170 35)) + k : Int).toNat 0) from (bR_up B_lz (by unfold brel; omega))), (show s_lz 170 35 = 1 - s_lz 170 13 ∧ s_lz 170 13 = st 170 13 ∧ s_lz 170 8 = 0 ∧ s_lz 170 5 = 0 ∧ 0 ≤ (k + 1) ∧ (k + 1) ≤ 64 from by omega), (show s_lz 172 (s_lz 170 35 : Int).toNat = 0 ∧ s_lz 173 (s_lz 170 35 : Int).toNat = 0 ∧ s_lz 178 (s_lz 170 35 : Int).toNat = 0 ∧ s_lz 186 (2 * s_lz 170 35 : Int).toNat = -1 ∧ s_lz 186 (2 * s_lz 170 35 + 1 : Int).toNat = -1 from by omega), (show s_lz 181 (s_lz 170 35 : Int).toNat = 0 ∧ s_lz 184 (s_lz 170 35 : Int).toNat = 20 ∧ s_lz 185 (s_lz 170 35 : Int).toNat = 0 ∧ s_lz 170 2 = n from by omega), (show ∀ i : Nat, (zup s_lz 177 (((64 : Int) * (s_lz 170 35)) + k : Int).toNat 0) 171 i = st 171 i from t_lz), (show ∀ j : Int, 0 ≤ j → j < (k + 1) → (zup s_lz 177 (((64 : Int) * (s_lz 170 35)) + k : Int).toNat 0) 177 (64 * s_lz 170 35 + j).toNat = 0 from fun j z1 z2 => by
            by_cases z3 : j = k
            · subst z3
              exact up1_e (s_lz 177) _ _
            · exact (up1_n (s_lz 177) _ (by omega)).trans (z_lz j z1 (by omega)))⟩ rfl
  have hcm := hcm0 0 [] 0 0 0 st 0
  have g89 := g_bank hG
  refine yr1_ok (Rt := Q) (wc := (wcL [(149, k_jAhead), (210, k_yStmt t n (Ts (0 : Int).toNat) [] 0 0 0 st 0), (211, k_jFin t n), (58, k_refuses), (150, k_begin)])) (stp := [127, 165, 194]) hcm hcl [] 200 ?_
  show ((-2147483648 ≤ (1 : Int) - (st 170 13) ∧ (1 : Int) - (st 170 13) ≤ 2147483647) ∧ ((0 ≤ ((1 : Int) - (st 170 13)) ∧ ((1 : Int) - (st 170 13)) < 2) ∧ ((0 ≤ ((1 : Int) - (st 170 13)) ∧ ((1 : Int) - (st 170 13)) < 2) ∧ ((0 ≤ ((1 : Int) - (st 170 13)) ∧ ((1 : Int) - (st 170 13)) < 2) ∧ ((0 ≤ ((1 : Int) - (st 170 13)) ∧ ((1 : Int) - (st 170 13)) < 2) ∧ ((0 ≤ ((1 : Int) - (st 170 13)) ∧ ((1 : Int) - (st 170 13)) < 2) ∧ ((0 ≤ ((1 : Int) - (st 170 13)) ∧ ((1 : Int) - (st 170 13)) < 2) ∧ ((-2147483648 ≤ (2 : Int) * ((1 : Int) - (st 170 13)) ∧ (2 : Int) * ((1 : Int) - (st 170 13)) ≤ 2147483647) ∧ ((0 ≤ (2 : Int) * ((1 : Int) - (st 170 13)) ∧ (2 : Int) * ((1 : Int) - (st 170 13)) < 4) ∧ ((-2147483648 ≤ (2 : Int) * ((1 : Int) - (st 170 13)) ∧ (2 : Int) * ((1 : Int) - (st 170 13)) ≤ 2147483647) ∧ ((-2147483648 ≤ ((2 : Int) * ((1 : Int) - (st 170 13))) + 1 ∧ ((2 : Int) * ((1 : Int) - (st 170 13))) + 1 ≤ 2147483647) ∧ ((0 ≤ ((2 : Int) * ((1 : Int) - (st 170 13))) + 1 ∧ ((2 : Int) * ((1 : Int) - (st 170 13))) + 1 < 4) ∧ K (rx_find rx_m148 127) [(1, .inl 0), (0, .inr (.inr (.inl 170)))] [] (zup (zup (zup (zup (zup (zup (zup (zup (zup (zup (zup (zup (zup (zup st 170 2 (st 170 1)) 170 1 0) 170 5 0) 170 8 0) 170 9 (-1)) 170 35 ((1 : Int) - (st 170 13))) 172 (((1 : Int) - (st 170 13)) : Int).toNat 0) 173 (((1 : Int) - (st 170 13)) : Int).toNat 0) 178 (((1 : Int) - (st 170 13)) : Int).toNat 0) 181 (((1 : Int) - (st 170 13)) : Int).toNat 0) 184 (((1 : Int) - (st 170 13)) : Int).toNat 20) 185 (((1 : Int) - (st 170 13)) : Int).toNat 0) 186 ((2 : Int) * ((1 : Int) - (st 170 13)) : Int).toNat (-1)) 186 (((2 : Int) * ((1 : Int) - (st 170 13))) + 1 : Int).toNat (-1))))))))))))))
  refine ⟨by omega, ?_⟩
  refine ⟨by omega, ?_⟩
  refine ⟨by omega, ?_⟩
  refine ⟨by omega, ?_⟩
  refine ⟨by omega, ?_⟩
  refine ⟨by omega, ?_⟩
  refine ⟨by omega, ?_⟩
  refine ⟨by omega, ?_⟩
  refine ⟨by omega, ?_⟩
  refine ⟨by omega, ?_⟩
  refine ⟨by omega, ?_⟩
  refine ⟨by omega, ?_⟩
  have u90 : (zup (zup (zup (zup (zup (zup (zup st 170 2 (st 170 1)) 170 1 0) 170 5 0) 170 8 0) 170 9 (-1)) 170 35 ((1 : Int) - (st 170 13))) 172 (((1 : Int) - (st 170 13)) : Int).toNat 0) 172 (((1 : Int) - (st 170 13)) : Int).toNat = 0 := zup_eq _ _ _ _
  have u91 : (zup (zup (zup (zup (zup (zup (zup (zup st 170 2 (st 170 1)) 170 1 0) 170 5 0) 170 8 0) 170 9 (-1)) 170 35 ((1 : Int) - (st 170 13))) 172 (((1 : Int) - (st 170 13)) : Int).toNat 0) 173 (((1 : Int) - (st 170 13)) : Int).toNat 0) 173 (((1 : Int) - (st 170 13)) : Int).toNat = 0 := zup_eq _ _ _ _
  have u92 : (zup (zup (zup (zup (zup (zup (zup (zup (zup st 170 2 (st 170 1)) 170 1 0) 170 5 0) 170 8 0) 170 9 (-1)) 170 35 ((1 : Int) - (st 170 13))) 172 (((1 : Int) - (st 170 13)) : Int).toNat 0) 173 (((1 : Int) - (st 170 13)) : Int).toNat 0) 178 (((1 : Int) - (st 170 13)) : Int).toNat 0) 178 (((1 : Int) - (st 170 13)) : Int).toNat = 0 := zup_eq _ _ _ _
  have g95 := g_sumFrom hG (2 * ((1 : Int) - (st 170 13)) : Int).toNat
  have u94 : ((2 * ((1 : Int) - (st 170 13)) : Int).toNat = ((2 : Int) * ((1 : Int) - (st 170 13)) : Int).toNat → (zup (zup (zup (zup (zup (zup (zup (zup (zup (zup (zup (zup (zup st 170 2 (st 170 1)) 170 1 0) 170 5 0) 170 8 0) 170 9 (-1)) 170 35 ((1 : Int) - (st 170 13))) 172 (((1 : Int) - (st 170 13)) : Int).toNat 0) 173 (((1 : Int) - (st 170 13)) : Int).toNat 0) 178 (((1 : Int) - (st 170 13)) : Int).toNat 0) 181 (((1 : Int) - (st 170 13)) : Int).toNat 0) 184 (((1 : Int) - (st 170 13)) : Int).toNat 20) 185 (((1 : Int) - (st 170 13)) : Int).toNat 0) 186 ((2 : Int) * ((1 : Int) - (st 170 13)) : Int).toNat (-1)) 186 (2 * ((1 : Int) - (st 170 13)) : Int).toNat = (-1)) ∧ (¬ (2 * ((1 : Int) - (st 170 13)) : Int).toNat = ((2 : Int) * ((1 : Int) - (st 170 13)) : Int).toNat → (zup (zup (zup (zup (zup (zup (zup (zup (zup (zup (zup (zup (zup st 170 2 (st 170 1)) 170 1 0) 170 5 0) 170 8 0) 170 9 (-1)) 170 35 ((1 : Int) - (st 170 13))) 172 (((1 : Int) - (st 170 13)) : Int).toNat 0) 173 (((1 : Int) - (st 170 13)) : Int).toNat 0) 178 (((1 : Int) - (st 170 13)) : Int).toNat 0) 181 (((1 : Int) - (st 170 13)) : Int).toNat 0) 184 (((1 : Int) - (st 170 13)) : Int).toNat 20) 185 (((1 : Int) - (st 170 13)) : Int).toNat 0) 186 ((2 : Int) * ((1 : Int) - (st 170 13)) : Int).toNat (-1)) 186 (2 * ((1 : Int) - (st 170 13)) : Int).toNat = st 186 (2 * ((1 : Int) - (st 170 13)) : Int).toNat) := zup_two _ _ _ _ _
  have u93 : ((2 * ((1 : Int) - (st 170 13)) : Int).toNat = (((2 : Int) * ((1 : Int) - (st 170 13))) + 1 : Int).toNat → (zup (zup (zup (zup (zup (zup (zup (zup (zup (zup (zup (zup (zup (zup st 170 2 (st 170 1)) 170 1 0) 170 5 0) 170 8 0) 170 9 (-1)) 170 35 ((1 : Int) - (st 170 13))) 172 (((1 : Int) - (st 170 13)) : Int).toNat 0) 173 (((1 : Int) - (st 170 13)) : Int).toNat 0) 178 (((1 : Int) - (st 170 13)) : Int).toNat 0) 181 (((1 : Int) - (st 170 13)) : Int).toNat 0) 184 (((1 : Int) - (st 170 13)) : Int).toNat 20) 185 (((1 : Int) - (st 170 13)) : Int).toNat 0) 186 ((2 : Int) * ((1 : Int) - (st 170 13)) : Int).toNat (-1)) 186 (((2 : Int) * ((1 : Int) - (st 170 13))) + 1 : Int).toNat (-1)) 186 (2 * ((1 : Int) - (st 170 13)) : Int).toNat = (-1)) ∧ (¬ (2 * ((1 : Int) - (st 170 13)) : Int).toNat = (((2 : Int) * ((1 : Int) - (st 170 13))) + 1 : Int).toNat → (zup (zup (zup (zup (zup (zup (zup (zup (zup (zup (zup (zup (zup (zup st 170 2 (st 170 1)) 170 1 0) 170 5 0) 170 8 0) 170 9 (-1)) 170 35 ((1 : Int) - (st 170 13))) 172 (((1 : Int) - (st 170 13)) : Int).toNat 0) 173 (((1 : Int) - (st 170 13)) : Int).toNat 0) 178 (((1 : Int) - (st 170 13)) : Int).toNat 0) 181 (((1 : Int) - (st 170 13)) : Int).toNat 0) 184 (((1 : Int) - (st 170 13)) : Int).toNat 20) 185 (((1 : Int) - (st 170 13)) : Int).toNat 0) 186 ((2 : Int) * ((1 : Int) - (st 170 13)) : Int).toNat (-1)) 186 (((2 : Int) * ((1 : Int) - (st 170 13))) + 1 : Int).toNat (-1)) 186 (2 * ((1 : Int) - (st 170 13)) : Int).toNat = (zup (zup (zup (zup (zup (zup (zup (zup (zup (zup (zup (zup (zup st 170 2 (st 170 1)) 170 1 0) 170 5 0) 170 8 0) 170 9 (-1)) 170 35 ((1 : Int) - (st 170 13))) 172 (((1 : Int) - (st 170 13)) : Int).toNat 0) 173 (((1 : Int) - (st 170 13)) : Int).toNat 0) 178 (((1 : Int) - (st 170 13)) : Int).toNat 0) 181 (((1 : Int) - (st 170 13)) : Int).toNat 0) 184 (((1 : Int) - (st 170 13)) : Int).toNat 20) 185 (((1 : Int) - (st 170 13)) : Int).toNat 0) 186 ((2 : Int) * ((1 : Int) - (st 170 13)) : Int).toNat (-1)) 186 (2 * ((1 : Int) - (st 170 13)) : Int).toNat) := zup_two _ _ _ _ _
  have g98 := g_sumFrom hG (2 * ((1 : Int) - (st 170 13)) + 1 : Int).toNat
  have u97 : ((2 * ((1 : Int) - (st 170 13)) + 1 : Int).toNat = ((2 : Int) * ((1 : Int) - (st 170 13)) : Int).toNat → (zup (zup (zup (zup (zup (zup (zup (zup (zup (zup (zup (zup (zup st 170 2 (st 170 1)) 170 1 0) 170 5 0) 170 8 0) 170 9 (-1)) 170 35 ((1 : Int) - (st 170 13))) 172 (((1 : Int) - (st 170 13)) : Int).toNat 0) 173 (((1 : Int) - (st 170 13)) : Int).toNat 0) 178 (((1 : Int) - (st 170 13)) : Int).toNat 0) 181 (((1 : Int) - (st 170 13)) : Int).toNat 0) 184 (((1 : Int) - (st 170 13)) : Int).toNat 20) 185 (((1 : Int) - (st 170 13)) : Int).toNat 0) 186 ((2 : Int) * ((1 : Int) - (st 170 13)) : Int).toNat (-1)) 186 (2 * ((1 : Int) - (st 170 13)) + 1 : Int).toNat = (-1)) ∧ (¬ (2 * ((1 : Int) - (st 170 13)) + 1 : Int).toNat = ((2 : Int) * ((1 : Int) - (st 170 13)) : Int).toNat → (zup (zup (zup (zup (zup (zup (zup (zup (zup (zup (zup (zup (zup st 170 2 (st 170 1)) 170 1 0) 170 5 0) 170 8 0) 170 9 (-1)) 170 35 ((1 : Int) - (st 170 13))) 172 (((1 : Int) - (st 170 13)) : Int).toNat 0) 173 (((1 : Int) - (st 170 13)) : Int).toNat 0) 178 (((1 : Int) - (st 170 13)) : Int).toNat 0) 181 (((1 : Int) - (st 170 13)) : Int).toNat 0) 184 (((1 : Int) - (st 170 13)) : Int).toNat 20) 185 (((1 : Int) - (st 170 13)) : Int).toNat 0) 186 ((2 : Int) * ((1 : Int) - (st 170 13)) : Int).toNat (-1)) 186 (2 * ((1 : Int) - (st 170 13)) + 1 : Int).toNat = st 186 (2 * ((1 : Int) - (st 170 13)) + 1 : Int).toNat) := zup_two _ _ _ _ _
  have u96 : ((2 * ((1 : Int) - (st 170 13)) + 1 : Int).toNat = (((2 : Int) * ((1 : Int) - (st 170 13))) + 1 : Int).toNat → (zup (zup (zup (zup (zup (zup (zup (zup (zup (zup (zup (zup (zup (zup st 170 2 (st 170 1)) 170 1 0) 170 5 0) 170 8 0) 170 9 (-1)) 170 35 ((1 : Int) - (st 170 13))) 172 (((1 : Int) - (st 170 13)) : Int).toNat 0) 173 (((1 : Int) - (st 170 13)) : Int).toNat 0) 178 (((1 : Int) - (st 170 13)) : Int).toNat 0) 181 (((1 : Int) - (st 170 13)) : Int).toNat 0) 184 (((1 : Int) - (st 170 13)) : Int).toNat 20) 185 (((1 : Int) - (st 170 13)) : Int).toNat 0) 186 ((2 : Int) * ((1 : Int) - (st 170 13)) : Int).toNat (-1)) 186 (((2 : Int) * ((1 : Int) - (st 170 13))) + 1 : Int).toNat (-1)) 186 (2 * ((1 : Int) - (st 170 13)) + 1 : Int).toNat = (-1)) ∧ (¬ (2 * ((1 : Int) - (st 170 13)) + 1 : Int).toNat = (((2 : Int) * ((1 : Int) - (st 170 13))) + 1 : Int).toNat → (zup (zup (zup (zup (zup (zup (zup (zup (zup (zup (zup (zup (zup (zup st 170 2 (st 170 1)) 170 1 0) 170 5 0) 170 8 0) 170 9 (-1)) 170 35 ((1 : Int) - (st 170 13))) 172 (((1 : Int) - (st 170 13)) : Int).toNat 0) 173 (((1 : Int) - (st 170 13)) : Int).toNat 0) 178 (((1 : Int) - (st 170 13)) : Int).toNat 0) 181 (((1 : Int) - (st 170 13)) : Int).toNat 0) 184 (((1 : Int) - (st 170 13)) : Int).toNat 20) 185 (((1 : Int) - (st 170 13)) : Int).toNat 0) 186 ((2 : Int) * ((1 : Int) - (st 170 13)) : Int).toNat (-1)) 186 (((2 : Int) * ((1 : Int) - (st 170 13))) + 1 : Int).toNat (-1)) 186 (2 * ((1 : Int) - (st 170 13)) + 1 : Int).toNat = (zup (zup (zup (zup (zup (zup (zup (zup (zup (zup (zup (zup (zup st 170 2 (st 170 1)) 170 1 0) 170 5 0) 170 8 0) 170 9 (-1)) 170 35 ((1 : Int) - (st 170 13))) 172 (((1 : Int) - (st 170 13)) : Int).toNat 0) 173 (((1 : Int) - (st 170 13)) : Int).toNat 0) 178 (((1 : Int) - (st 170 13)) : Int).toNat 0) 181 (((1 : Int) - (st 170 13)) : Int).toNat 0) 184 (((1 : Int) - (st 170 13)) : Int).toNat 20) 185 (((1 : Int) - (st 170 13)) : Int).toNat 0) 186 ((2 : Int) * ((1 : Int) - (st 170 13)) : Int).toNat (-1)) 186 (2 * ((1 : Int) - (st 170 13)) + 1 : Int).toNat) := zup_two _ _ _ _ _
  have u99 : (zup (zup (zup (zup (zup (zup (zup (zup (zup (zup st 170 2 (st 170 1)) 170 1 0) 170 5 0) 170 8 0) 170 9 (-1)) 170 35 ((1 : Int) - (st 170 13))) 172 (((1 : Int) - (st 170 13)) : Int).toNat 0) 173 (((1 : Int) - (st 170 13)) : Int).toNat 0) 178 (((1 : Int) - (st 170 13)) : Int).toNat 0) 181 (((1 : Int) - (st 170 13)) : Int).toNat 0) 181 (((1 : Int) - (st 170 13)) : Int).toNat = 0 := zup_eq _ _ _ _
  have u100 : (zup (zup (zup (zup (zup (zup (zup (zup (zup (zup (zup st 170 2 (st 170 1)) 170 1 0) 170 5 0) 170 8 0) 170 9 (-1)) 170 35 ((1 : Int) - (st 170 13))) 172 (((1 : Int) - (st 170 13)) : Int).toNat 0) 173 (((1 : Int) - (st 170 13)) : Int).toNat 0) 178 (((1 : Int) - (st 170 13)) : Int).toNat 0) 181 (((1 : Int) - (st 170 13)) : Int).toNat 0) 184 (((1 : Int) - (st 170 13)) : Int).toNat 20) 184 (((1 : Int) - (st 170 13)) : Int).toNat = 20 := zup_eq _ _ _ _
  have u101 : (zup (zup (zup (zup (zup (zup (zup (zup (zup (zup (zup (zup st 170 2 (st 170 1)) 170 1 0) 170 5 0) 170 8 0) 170 9 (-1)) 170 35 ((1 : Int) - (st 170 13))) 172 (((1 : Int) - (st 170 13)) : Int).toNat 0) 173 (((1 : Int) - (st 170 13)) : Int).toNat 0) 178 (((1 : Int) - (st 170 13)) : Int).toNat 0) 181 (((1 : Int) - (st 170 13)) : Int).toNat 0) 184 (((1 : Int) - (st 170 13)) : Int).toNat 20) 185 (((1 : Int) - (st 170 13)) : Int).toNat 0) 185 (((1 : Int) - (st 170 13)) : Int).toNat = 0 := zup_eq _ _ _ _
  exact lz _ 0 (zup (zup (zup (zup (zup (zup (zup (zup (zup (zup (zup (zup (zup (zup st 170 2 (st 170 1)) 170 1 0) 170 5 0) 170 8 0) 170 9 (-1)) 170 35 ((1 : Int) - (st 170 13))) 172 (((1 : Int) - (st 170 13)) : Int).toNat 0) 173 (((1 : Int) - (st 170 13)) : Int).toNat 0) 178 (((1 : Int) - (st 170 13)) : Int).toNat 0) 181 (((1 : Int) - (st 170 13)) : Int).toNat 0) 184 (((1 : Int) - (st 170 13)) : Int).toNat 20) 185 (((1 : Int) - (st 170 13)) : Int).toNat 0) 186 ((2 : Int) * ((1 : Int) - (st 170 13)) : Int).toNat (-1)) 186 (((2 : Int) * ((1 : Int) - (st 170 13))) + 1 : Int).toNat (-1)) ⟨(gInv_up (gInv_up (gInv_up (gInv_up (gInv_up (gInv_up (gInv_up (gInv_up (gInv_up (gInv_up (gInv_up (gInv_up (gInv_up (gInv_up hG (p_size (by omega))) (p_taped (by omega))) (p_signEnd (by omega))) (p_faultKind (by omega))) (p_faultPlace (by omega))) (p_in (by omega))) (p_places (by omega))) (p_streets (by omega))) (p_steps (by omega))) (p_things (by omega))) (p_heatTold (by omega))) (p_hotTold (by omega))) (p_sumFrom (by omega))) (p_sumFrom (by omega))), (zV1_up (zV1_up (zV1_up (zV1_up (zV1_up (zV1_up (zV1_up (zV1_up (zV1_up (zV1_up (zV1_up (zV1_up (zV1_up (zV1_up (zV1_rf _) (by decide)) (by decide)) (by decide)) (by decide)) (by decide)) (by decide)) (by decide)) (by decide)) (by decide)) (by decide)) (by decide)) (by decide)) (by decide)) (by decide)), (show 0 = 0 from by omega), (show jR st (zup (zup (zup (zup (zup (zup (zup (zup (zup (zup (zup (zup (zup (zup st 170 2 (st 170 1)) 170 1 0) 170 5 0) 170 8 0) 170 9 (-1)) 170 35 ((1 : Int) - (st 170 13))) 172 (((1 : Int) - (st 170 13)) : Int).toNat 0) 173 (((1 : Int) - (st 170 13)) : Int).toNat 0) 178 (((1 : Int) - (st 170 13)) : Int).toNat 0) 181 (((1 : Int) - (st 170 13)) : Int).toNat 0) 184 (((1 : Int) - (st 170 13)) : Int).toNat 20) 185 (((1 : Int) - (st 170 13)) : Int).toNat 0) 186 ((2 : Int) * ((1 : Int) - (st 170 13)) : Int).toNat (-1)) 186 (((2 : Int) * ((1 : Int) - (st 170 13))) + 1 : Int).toNat (-1)) from (jR_up (jR_up (jR_up (jR_up (jR_up (jR_up (jR_up (jR_up (jR_up (jR_up (jR_up (jR_up (jR_up (jR_up (jR_rf _) (by unfold jrel; omega)) (by unfold jrel; omega)) (by unfold jrel; omega)) (by unfold jrel; omega)) (by unfold jrel; omega)) (by unfold jrel; omega)) (by unfold jrel; omega)) (by unfold jrel; omega)) (by unfold jrel; omega)) (by unfold jrel; omega)) (by unfold jrel; omega)) (by unfold jrel; omega)) (by unfold jrel; omega)) (by unfold jrel; omega))), (show bR st (zup (zup (zup (zup (zup (zup (zup (zup (zup (zup (zup (zup (zup (zup st 170 2 (st 170 1)) 170 1 0) 170 5 0) 170 8 0) 170 9 (-1)) 170 35 ((1 : Int) - (st 170 13))) 172 (((1 : Int) - (st 170 13)) : Int).toNat 0) 173 (((1 : Int) - (st 170 13)) : Int).toNat 0) 178 (((1 : Int) - (st 170 13)) : Int).toNat 0) 181 (((1 : Int) - (st 170 13)) : Int).toNat 0) 184 (((1 : Int) - (st 170 13)) : Int).toNat 20) 185 (((1 : Int) - (st 170 13)) : Int).toNat 0) 186 ((2 : Int) * ((1 : Int) - (st 170 13)) : Int).toNat (-1)) 186 (((2 : Int) * ((1 : Int) - (st 170 13))) + 1 : Int).toNat (-1)) from (bR_up (bR_up (bR_up (bR_up (bR_up (bR_up (bR_up (bR_up (bR_up (bR_up (bR_up (bR_up (bR_up (bR_up (bR_rf _) (by unfold brel; omega)) (by unfold brel; omega)) (by unfold brel; omega)) (by unfold brel; omega)) (by unfold brel; omega)) (by unfold brel; omega)) (by unfold brel; omega)) (by unfold brel; omega)) (by unfold brel; omega)) (by unfold brel; omega)) (by unfold brel; omega)) (by unfold brel; omega)) (by unfold brel; omega)) (by unfold brel; omega))), (show ((1 : Int) - (st 170 13)) = 1 - st 170 13 ∧ st 170 13 = st 170 13 ∧ 0 = 0 ∧ 0 = 0 ∧ 0 ≤ (0 : Int) ∧ (0 : Int) ≤ 64 from by omega), (show (zup (zup (zup (zup (zup (zup (zup st 170 2 (st 170 1)) 170 1 0) 170 5 0) 170 8 0) 170 9 (-1)) 170 35 ((1 : Int) - (st 170 13))) 172 (((1 : Int) - (st 170 13)) : Int).toNat 0) 172 (((1 : Int) - (st 170 13)) : Int).toNat = 0 ∧ (zup (zup (zup (zup (zup (zup (zup (zup st 170 2 (st 170 1)) 170 1 0) 170 5 0) 170 8 0) 170 9 (-1)) 170 35 ((1 : Int) - (st 170 13))) 172 (((1 : Int) - (st 170 13)) : Int).toNat 0) 173 (((1 : Int) - (st 170 13)) : Int).toNat 0) 173 (((1 : Int) - (st 170 13)) : Int).toNat = 0 ∧ (zup (zup (zup (zup (zup (zup (zup (zup (zup st 170 2 (st 170 1)) 170 1 0) 170 5 0) 170 8 0) 170 9 (-1)) 170 35 ((1 : Int) - (st 170 13))) 172 (((1 : Int) - (st 170 13)) : Int).toNat 0) 173 (((1 : Int) - (st 170 13)) : Int).toNat 0) 178 (((1 : Int) - (st 170 13)) : Int).toNat 0) 178 (((1 : Int) - (st 170 13)) : Int).toNat = 0 ∧ (zup (zup (zup (zup (zup (zup (zup (zup (zup (zup (zup (zup (zup (zup st 170 2 (st 170 1)) 170 1 0) 170 5 0) 170 8 0) 170 9 (-1)) 170 35 ((1 : Int) - (st 170 13))) 172 (((1 : Int) - (st 170 13)) : Int).toNat 0) 173 (((1 : Int) - (st 170 13)) : Int).toNat 0) 178 (((1 : Int) - (st 170 13)) : Int).toNat 0) 181 (((1 : Int) - (st 170 13)) : Int).toNat 0) 184 (((1 : Int) - (st 170 13)) : Int).toNat 20) 185 (((1 : Int) - (st 170 13)) : Int).toNat 0) 186 ((2 : Int) * ((1 : Int) - (st 170 13)) : Int).toNat (-1)) 186 (((2 : Int) * ((1 : Int) - (st 170 13))) + 1 : Int).toNat (-1)) 186 (2 * ((1 : Int) - (st 170 13)) : Int).toNat = -1 ∧ (zup (zup (zup (zup (zup (zup (zup (zup (zup (zup (zup (zup (zup (zup st 170 2 (st 170 1)) 170 1 0) 170 5 0) 170 8 0) 170 9 (-1)) 170 35 ((1 : Int) - (st 170 13))) 172 (((1 : Int) - (st 170 13)) : Int).toNat 0) 173 (((1 : Int) - (st 170 13)) : Int).toNat 0) 178 (((1 : Int) - (st 170 13)) : Int).toNat 0) 181 (((1 : Int) - (st 170 13)) : Int).toNat 0) 184 (((1 : Int) - (st 170 13)) : Int).toNat 20) 185 (((1 : Int) - (st 170 13)) : Int).toNat 0) 186 ((2 : Int) * ((1 : Int) - (st 170 13)) : Int).toNat (-1)) 186 (((2 : Int) * ((1 : Int) - (st 170 13))) + 1 : Int).toNat (-1)) 186 (2 * ((1 : Int) - (st 170 13)) + 1 : Int).toNat = -1 from by omega), (show (zup (zup (zup (zup (zup (zup (zup (zup (zup (zup st 170 2 (st 170 1)) 170 1 0) 170 5 0) 170 8 0) 170 9 (-1)) 170 35 ((1 : Int) - (st 170 13))) 172 (((1 : Int) - (st 170 13)) : Int).toNat 0) 173 (((1 : Int) - (st 170 13)) : Int).toNat 0) 178 (((1 : Int) - (st 170 13)) : Int).toNat 0) 181 (((1 : Int) - (st 170 13)) : Int).toNat 0) 181 (((1 : Int) - (st 170 13)) : Int).toNat = 0 ∧ (zup (zup (zup (zup (zup (zup (zup (zup (zup (zup (zup st 170 2 (st 170 1)) 170 1 0) 170 5 0) 170 8 0) 170 9 (-1)) 170 35 ((1 : Int) - (st 170 13))) 172 (((1 : Int) - (st 170 13)) : Int).toNat 0) 173 (((1 : Int) - (st 170 13)) : Int).toNat 0) 178 (((1 : Int) - (st 170 13)) : Int).toNat 0) 181 (((1 : Int) - (st 170 13)) : Int).toNat 0) 184 (((1 : Int) - (st 170 13)) : Int).toNat 20) 184 (((1 : Int) - (st 170 13)) : Int).toNat = 20 ∧ (zup (zup (zup (zup (zup (zup (zup (zup (zup (zup (zup (zup st 170 2 (st 170 1)) 170 1 0) 170 5 0) 170 8 0) 170 9 (-1)) 170 35 ((1 : Int) - (st 170 13))) 172 (((1 : Int) - (st 170 13)) : Int).toNat 0) 173 (((1 : Int) - (st 170 13)) : Int).toNat 0) 178 (((1 : Int) - (st 170 13)) : Int).toNat 0) 181 (((1 : Int) - (st 170 13)) : Int).toNat 0) 184 (((1 : Int) - (st 170 13)) : Int).toNat 20) 185 (((1 : Int) - (st 170 13)) : Int).toNat 0) 185 (((1 : Int) - (st 170 13)) : Int).toNat = 0 ∧ (st 170 1) = n from by omega), (show ∀ i : Nat, (zup (zup (zup (zup (zup (zup (zup (zup (zup (zup (zup (zup (zup (zup st 170 2 (st 170 1)) 170 1 0) 170 5 0) 170 8 0) 170 9 (-1)) 170 35 ((1 : Int) - (st 170 13))) 172 (((1 : Int) - (st 170 13)) : Int).toNat 0) 173 (((1 : Int) - (st 170 13)) : Int).toNat 0) 178 (((1 : Int) - (st 170 13)) : Int).toNat 0) 181 (((1 : Int) - (st 170 13)) : Int).toNat 0) 184 (((1 : Int) - (st 170 13)) : Int).toNat 20) 185 (((1 : Int) - (st 170 13)) : Int).toNat 0) 186 ((2 : Int) * ((1 : Int) - (st 170 13)) : Int).toNat (-1)) 186 (((2 : Int) * ((1 : Int) - (st 170 13))) + 1 : Int).toNat (-1)) 171 i = st 171 i from (fun _ => rfl)), (show ∀ j : Int, 0 ≤ j → j < (0 : Int) → (zup (zup (zup (zup (zup (zup (zup (zup (zup (zup (zup (zup (zup (zup st 170 2 (st 170 1)) 170 1 0) 170 5 0) 170 8 0) 170 9 (-1)) 170 35 ((1 : Int) - (st 170 13))) 172 (((1 : Int) - (st 170 13)) : Int).toNat 0) 173 (((1 : Int) - (st 170 13)) : Int).toNat 0) 178 (((1 : Int) - (st 170 13)) : Int).toNat 0) 181 (((1 : Int) - (st 170 13)) : Int).toNat 0) 184 (((1 : Int) - (st 170 13)) : Int).toNat 20) 185 (((1 : Int) - (st 170 13)) : Int).toNat 0) 186 ((2 : Int) * ((1 : Int) - (st 170 13)) : Int).toNat (-1)) 186 (((2 : Int) * ((1 : Int) - (st 170 13))) + 1 : Int).toNat (-1)) 177 (64 * ((1 : Int) - (st 170 13)) + j).toNat = 0 from fun j z1 z2 => by omega)⟩ rfl
theorem k_yTown_m (hTb : aTb zSh rx_tb cl) {t : Int → Int} {n gd : Int} {m : Nat} {Ts : Nat → zS} {ps : Nat → Int} {D : Nat} (hD : 8 ≤ D) : ∀ as st (Q Q' : zQ), (∀ r st', Q r st' → Q' r st') → (k_yTown t n gd m Ts ps) 148 as st Q → cl D 148 as st Q' := by
  intro as st Q Q' hQ h
  unfold k_yTown at h
  split at h
  · obtain ⟨rfl, h⟩ := h
    exact c_yTown hTb hD (ct_yTown_m hQ h)
  · exact h.elim
end RzZ
