/-! printed by wip/p32/lib5.py -/
section R6b
variable {cl : Nat → zCall}
set_option maxHeartbeats 40000000 in
set_option maxRecDepth 100000 in
theorem goesOn_m112 {d : Nat} {st : zS} {Q : zQ} {K : zG} (hX : cx_goesOn cl d  st Q K) : ∀ (l : Int) (t : Int) (k : Int) (f : Int) (s_m112 : zS), gInv zgt s_m112 ∧ aFr m_goesOn st s_m112 ∧ (s_m112 170 4 ≤ s_m112 170 5 ∧ s_m112 170 5 ≤ s_m112 170 2 ∧ (s_m112 170 3 = 0 ∧ s_m112 170 4 = s_m112 170 2 ∨ 1 ≤ s_m112 170 3 ∧ s_m112 170 4 < s_m112 170 5)) ∧ (s_m112 170 4 = st 170 4 ∧ s_m112 170 5 = st 170 5 ∧ s_m112 170 3 = st 170 3) ∧ (PF s_m112 1 (st 170 4)) ∧ (∀ i : Nat, (i : Int) < 1600 * st 170 35 + st 170 34 ∨ 1600 * st 170 35 + 1600 ≤ (i : Int) → s_m112 188 i = st 188 i) ∧ (st 170 34 ≤ s_m112 170 34) ∧ (f = s_m112 170 42 - 1) ∧ (k = s_m112 192 (s_m112 170 42 - 1 : Int).toNat) ∧ (s_m112 170 46 = 1) ∧ (s_m112 170 8 = 0) ∧ (s_m112 170 3 = 3 ∧ ((l = 5 ∧ (s_m112 170 6 = 43 ∨ s_m112 170 6 = 45)) ∨ (l = 6 ∧ (s_m112 170 6 = 42 ∨ s_m112 170 6 = 47 ∨ s_m112 170 6 = 37)))) → K (rx_find rx_m197 112) [(3, .inl t), (2, .inl k), (1, .inl f), (0, .inr (.inr (.inl 170)))] [.inl l, .inr (.inr (.inl 170))] s_m112 := by
  obtain ⟨hcl, hsl, hcm, hR, hQ⟩ := id hX
  obtain ⟨hG, lx, pf, f0⟩ := hR
  change st 170 4 ≤ st 170 5 ∧ st 170 5 ≤ st 170 2 ∧ (st 170 3 = 0 ∧ st 170 4 = st 170 2 ∨ 1 ≤ st 170 3 ∧ st 170 4 < st 170 5) at lx
  change PF st 1 (st 170 4) at pf
  change st 170 8 = 0 ∧ st 170 46 = 1 at f0
  intro l t k f s_m112 hi
  obtain ⟨gI_m112, fI_m112, lx_m112, sm_m112, pf_m112, o_m112, c_m112, f_m112, k_m112, oo_m112, z_m112, l_m112⟩ := hi
  subst f_m112
  subst k_m112
  have g568 := g_signAt hG
  have g569 := g_signEnd hG
  have g570 := g_size hG
  have g571 := g_sign hG
  have g572 := g_faultKind hG
  have g573 := g_operand hG
  have PF1 := PF_f pf_m112
  have g574 := g_signAt gI_m112
  have g575 := g_signEnd gI_m112
  have e576 : s_m112 170 2 = st 170 2 := fI_m112 170 2 rfl rfl
  have g577 := g_sign gI_m112
  have g578 := g_in hG
  have g579 := g_codes hG
  have g580 := g_codes gI_m112
  have g581 := g_deep gI_m112
  have g582 := g_frame gI_m112 (s_m112 170 42 - 1 : Int).toNat
  have g583 := g_operand gI_m112
  have g584 := g_faultKind gI_m112
  have g585 := g_value gI_m112
  have e586 : s_m112 170 35 = st 170 35 := fI_m112 170 35 rfl rfl
  have g587 := g_open gI_m112
  have g588 := g_opMany gI_m112
  refine yr1_ok (Rt := Q) (wc := (wcL [(181, k_lex), (195, k_isTest), (183, k_isWord), (182, k_isSign), (178, k_blame), (192, k_holdsBack), (149, k_ahead), (189, k_add), (191, k_joins)])) (stp := [112, 174, 188, 228, 264, 285, 309, 356, 372, 400, 422, 452, 470, 518, 531, 546]) hcm hcl [] 400 ?_
  show (170 = 170 ∧ (rq_joins l s_m112 ∧ (∀ (s589 : zS), en_joins l s_m112 s589 → (170 = 170 ∧ (∀ (r590 : Int), en_isSign (43) s589 r590 → ((r590 = (0 : Int) → (170 = 170 ∧ (∀ (r591 : Int), en_isSign (45) s589 r591 → ((r591 = (0 : Int) → (170 = 170 ∧ (∀ (r592 : Int), en_isSign (42) s589 r592 → ((r592 = (0 : Int) → (170 = 170 ∧ (∀ (r593 : Int), en_isSign (47) s589 r593 → ((r593 = (0 : Int) → K (rx_find rx_m197 174) [(3, .inl t), (2, .inl (s_m112 192 (s_m112 170 42 - 1 : Int).toNat)), (1, .inl (s_m112 170 42 - 1)), (0, .inr (.inr (.inl 170)))] [.inl 35, .inr (.inr (.inl 170))] s589) ∧ (¬ (r593 = (0 : Int)) → K (rx_find rx_m197 174) [(3, .inl t), (2, .inl (s_m112 192 (s_m112 170 42 - 1 : Int).toNat)), (1, .inl (s_m112 170 42 - 1)), (0, .inr (.inr (.inl 170)))] [.inl 34, .inr (.inr (.inl 170))] s589))))) ∧ (¬ (r592 = (0 : Int)) → K (rx_find rx_m197 174) [(3, .inl t), (2, .inl (s_m112 192 (s_m112 170 42 - 1 : Int).toNat)), (1, .inl (s_m112 170 42 - 1)), (0, .inr (.inr (.inl 170)))] [.inl 33, .inr (.inr (.inl 170))] s589))))) ∧ (¬ (r591 = (0 : Int)) → K (rx_find rx_m197 174) [(3, .inl t), (2, .inl (s_m112 192 (s_m112 170 42 - 1 : Int).toNat)), (1, .inl (s_m112 170 42 - 1)), (0, .inr (.inr (.inl 170)))] [.inl 32, .inr (.inr (.inl 170))] s589))))) ∧ (¬ (r590 = (0 : Int)) → K (rx_find rx_m197 174) [(3, .inl t), (2, .inl (s_m112 192 (s_m112 170 42 - 1 : Int).toNat)), (1, .inl (s_m112 170 42 - 1)), (0, .inr (.inr (.inl 170)))] [.inl 31, .inr (.inr (.inl 170))] s589)))))))
  refine ⟨rfl, ⟨gI_m112, (show PF s_m112 1 (s_m112 170 4) from PF_q pf_m112 (by omega) (by omega))⟩, fun s589 q589 => ?_⟩
  obtain ⟨gs589, fs589, pf589, x589, o589, c589⟩ := q589
  change PF s589 1 (s_m112 170 4) at pf589
  change s589 170 45 = s589 196 (s589 170 42 - 1 : Int).toNat ∨ rkf (s589 197 (s589 170 45 - 1 : Int).toNat) < l at x589
  have g594 := g_opMany gs589
  have e595 : s589 170 42 = s_m112 170 42 := fs589 170 42 rfl rfl
  have g597 := g_base gI_m112 (s_m112 170 42 - 1 : Int).toNat
  have e596 : s589 196 (s589 170 42 - 1 : Int).toNat = s_m112 196 (s_m112 170 42 - 1 : Int).toNat := (fs589 196 (s589 170 42 - 1 : Int).toNat rfl rfl).trans (by rw [e595] <;> rfl)
  have g599 := g_ops gI_m112 (s589 170 45 - 1 : Int).toNat
  have e598 : s589 197 (s589 170 45 - 1 : Int).toNat = s_m112 197 (s589 170 45 - 1 : Int).toNat := fs589 197 (s589 170 45 - 1 : Int).toNat rfl rfl
  change ∀ i : Nat, (i : Int) < 1600 * s_m112 170 35 + s_m112 170 34 ∨ 1600 * s_m112 170 35 + 1600 ≤ (i : Int) → s589 188 i = s_m112 188 i at o589
  change s_m112 170 34 ≤ s589 170 34 ∧ s589 170 34 + s589 170 45 = s_m112 170 34 + s_m112 170 45 at c589
  have g600 := g_codes gs589
  have PJ589 := PF_f pf589
  have e601 : s589 170 46 = s_m112 170 46 := fs589 170 46 rfl rfl
  have e602 : s589 192 (s589 170 42 - 1 : Int).toNat = s_m112 192 (s_m112 170 42 - 1 : Int).toNat := (fs589 192 (s589 170 42 - 1 : Int).toNat rfl rfl).trans (by rw [e595] <;> rfl)
  have g604 := g_phase gI_m112 (s_m112 170 42 - 1 : Int).toNat
  have e603 : s589 193 (s589 170 42 - 1 : Int).toNat = s_m112 193 (s_m112 170 42 - 1 : Int).toNat := (fs589 193 (s589 170 42 - 1 : Int).toNat rfl rfl).trans (by rw [e595] <;> rfl)
  refine ⟨rfl, fun r590 q590 => ?_⟩
  have b590 := q590
  change (r590 = 0 ∨ r590 = 1) ∧ (r590 = 1 ↔ s589 170 3 = 3 ∧ s589 170 6 = (43)) at b590
  have e605 : s589 170 3 = s_m112 170 3 := fs589 170 3 rfl rfl
  have e606 : s589 170 6 = s_m112 170 6 := fs589 170 6 rfl rfl
  refine ⟨fun h607 => ?_, fun h607 => ?_⟩
  · replace b590 := mt b590.2.mpr (show ¬ r590 = 1 by omega)
    refine ⟨rfl, fun r591 q591 => ?_⟩
    have b591 := q591
    change (r591 = 0 ∨ r591 = 1) ∧ (r591 = 1 ↔ s589 170 3 = 3 ∧ s589 170 6 = (45)) at b591
    refine ⟨fun h608 => ?_, fun h608 => ?_⟩
    · replace b591 := mt b591.2.mpr (show ¬ r591 = 1 by omega)
      refine ⟨rfl, fun r592 q592 => ?_⟩
      have b592 := q592
      change (r592 = 0 ∨ r592 = 1) ∧ (r592 = 1 ↔ s589 170 3 = 3 ∧ s589 170 6 = (42)) at b592
      refine ⟨fun h609 => ?_, fun h609 => ?_⟩
      · replace b592 := mt b592.2.mpr (show ¬ r592 = 1 by omega)
        refine ⟨rfl, fun r593 q593 => ?_⟩
        have b593 := q593
        change (r593 = 0 ∨ r593 = 1) ∧ (r593 = 1 ↔ s589 170 3 = 3 ∧ s589 170 6 = (47)) at b593
        refine ⟨fun h610 => ?_, fun h610 => ?_⟩
        · replace b593 := mt b593.2.mpr (show ¬ r593 = 1 by omega)
          have e611 : s589 170 4 = s_m112 170 4 := fs589 170 4 rfl rfl
          have e612 : s589 170 5 = s_m112 170 5 := fs589 170 5 rfl rfl
          have e613 : s589 170 2 = s_m112 170 2 := fs589 170 2 rfl rfl
          have e614 : s589 170 8 = s_m112 170 8 := fs589 170 8 rfl rfl
          exact goesOn_m174 hX 35 t (s_m112 192 (s_m112 170 42 - 1 : Int).toNat) (s_m112 170 42 - 1) s589 ⟨gs589, (fr_tr fI_m112 fs589 rfl), (show s589 170 4 ≤ s589 170 5 ∧ s589 170 5 ≤ s589 170 2 ∧ (s589 170 3 = 0 ∧ s589 170 4 = s589 170 2 ∨ 1 ≤ s589 170 3 ∧ s589 170 4 < s589 170 5) from by omega), (show s589 170 4 = st 170 4 ∧ s589 170 5 = st 170 5 ∧ s589 170 3 = st 170 3 from by omega), (show PF s589 1 (st 170 4) from PF_q pf589 (by omega) (by omega)), (show ∀ i : Nat, (i : Int) < 1600 * st 170 35 + st 170 34 ∨ 1600 * st 170 35 + 1600 ≤ (i : Int) → s589 188 i = st 188 i from (fun i hi => (o589 i (by omega)).trans (o_m112 i hi))), (show st 170 34 ≤ s589 170 34 from by omega), (show (s_m112 170 42 - 1) = s589 170 42 - 1 from by omega), (show (s_m112 192 (s_m112 170 42 - 1 : Int).toNat) = s589 192 (s589 170 42 - 1 : Int).toNat from by omega), (show s589 170 46 = 1 from by omega), (show s589 170 8 = 0 from by omega), (show s589 170 45 = s589 196 (s589 170 42 - 1 : Int).toNat ∨ rkf (s589 197 (s589 170 45 - 1 : Int).toNat) < rkf (35 : Int) from by have e9 : rkf (35 : Int) = 6 := rfl; omega), (show 31 ≤ (35 : Int) ∧ (35 : Int) ≤ 35 ∧ 1 ≤ s589 170 3 from by omega)⟩
        · have b593_ : r593 = 1 := by omega
          replace b593 := b593.2.mp b593_
          have e615 : s589 170 4 = s_m112 170 4 := fs589 170 4 rfl rfl
          have e616 : s589 170 5 = s_m112 170 5 := fs589 170 5 rfl rfl
          have e617 : s589 170 2 = s_m112 170 2 := fs589 170 2 rfl rfl
          have e618 : s589 170 8 = s_m112 170 8 := fs589 170 8 rfl rfl
          exact goesOn_m174 hX 34 t (s_m112 192 (s_m112 170 42 - 1 : Int).toNat) (s_m112 170 42 - 1) s589 ⟨gs589, (fr_tr fI_m112 fs589 rfl), (show s589 170 4 ≤ s589 170 5 ∧ s589 170 5 ≤ s589 170 2 ∧ (s589 170 3 = 0 ∧ s589 170 4 = s589 170 2 ∨ 1 ≤ s589 170 3 ∧ s589 170 4 < s589 170 5) from by omega), (show s589 170 4 = st 170 4 ∧ s589 170 5 = st 170 5 ∧ s589 170 3 = st 170 3 from by omega), (show PF s589 1 (st 170 4) from PF_q pf589 (by omega) (by omega)), (show ∀ i : Nat, (i : Int) < 1600 * st 170 35 + st 170 34 ∨ 1600 * st 170 35 + 1600 ≤ (i : Int) → s589 188 i = st 188 i from (fun i hi => (o589 i (by omega)).trans (o_m112 i hi))), (show st 170 34 ≤ s589 170 34 from by omega), (show (s_m112 170 42 - 1) = s589 170 42 - 1 from by omega), (show (s_m112 192 (s_m112 170 42 - 1 : Int).toNat) = s589 192 (s589 170 42 - 1 : Int).toNat from by omega), (show s589 170 46 = 1 from by omega), (show s589 170 8 = 0 from by omega), (show s589 170 45 = s589 196 (s589 170 42 - 1 : Int).toNat ∨ rkf (s589 197 (s589 170 45 - 1 : Int).toNat) < rkf (34 : Int) from by have e9 : rkf (34 : Int) = 6 := rfl; omega), (show 31 ≤ (34 : Int) ∧ (34 : Int) ≤ 35 ∧ 1 ≤ s589 170 3 from by omega)⟩
      · have b592_ : r592 = 1 := by omega
        replace b592 := b592.2.mp b592_
        have e619 : s589 170 4 = s_m112 170 4 := fs589 170 4 rfl rfl
        have e620 : s589 170 5 = s_m112 170 5 := fs589 170 5 rfl rfl
        have e621 : s589 170 2 = s_m112 170 2 := fs589 170 2 rfl rfl
        have e622 : s589 170 8 = s_m112 170 8 := fs589 170 8 rfl rfl
        exact goesOn_m174 hX 33 t (s_m112 192 (s_m112 170 42 - 1 : Int).toNat) (s_m112 170 42 - 1) s589 ⟨gs589, (fr_tr fI_m112 fs589 rfl), (show s589 170 4 ≤ s589 170 5 ∧ s589 170 5 ≤ s589 170 2 ∧ (s589 170 3 = 0 ∧ s589 170 4 = s589 170 2 ∨ 1 ≤ s589 170 3 ∧ s589 170 4 < s589 170 5) from by omega), (show s589 170 4 = st 170 4 ∧ s589 170 5 = st 170 5 ∧ s589 170 3 = st 170 3 from by omega), (show PF s589 1 (st 170 4) from PF_q pf589 (by omega) (by omega)), (show ∀ i : Nat, (i : Int) < 1600 * st 170 35 + st 170 34 ∨ 1600 * st 170 35 + 1600 ≤ (i : Int) → s589 188 i = st 188 i from (fun i hi => (o589 i (by omega)).trans (o_m112 i hi))), (show st 170 34 ≤ s589 170 34 from by omega), (show (s_m112 170 42 - 1) = s589 170 42 - 1 from by omega), (show (s_m112 192 (s_m112 170 42 - 1 : Int).toNat) = s589 192 (s589 170 42 - 1 : Int).toNat from by omega), (show s589 170 46 = 1 from by omega), (show s589 170 8 = 0 from by omega), (show s589 170 45 = s589 196 (s589 170 42 - 1 : Int).toNat ∨ rkf (s589 197 (s589 170 45 - 1 : Int).toNat) < rkf (33 : Int) from by have e9 : rkf (33 : Int) = 6 := rfl; omega), (show 31 ≤ (33 : Int) ∧ (33 : Int) ≤ 35 ∧ 1 ≤ s589 170 3 from by omega)⟩
    · have b591_ : r591 = 1 := by omega
      replace b591 := b591.2.mp b591_
      have e623 : s589 170 4 = s_m112 170 4 := fs589 170 4 rfl rfl
      have e624 : s589 170 5 = s_m112 170 5 := fs589 170 5 rfl rfl
      have e625 : s589 170 2 = s_m112 170 2 := fs589 170 2 rfl rfl
      have e626 : s589 170 8 = s_m112 170 8 := fs589 170 8 rfl rfl
      exact goesOn_m174 hX 32 t (s_m112 192 (s_m112 170 42 - 1 : Int).toNat) (s_m112 170 42 - 1) s589 ⟨gs589, (fr_tr fI_m112 fs589 rfl), (show s589 170 4 ≤ s589 170 5 ∧ s589 170 5 ≤ s589 170 2 ∧ (s589 170 3 = 0 ∧ s589 170 4 = s589 170 2 ∨ 1 ≤ s589 170 3 ∧ s589 170 4 < s589 170 5) from by omega), (show s589 170 4 = st 170 4 ∧ s589 170 5 = st 170 5 ∧ s589 170 3 = st 170 3 from by omega), (show PF s589 1 (st 170 4) from PF_q pf589 (by omega) (by omega)), (show ∀ i : Nat, (i : Int) < 1600 * st 170 35 + st 170 34 ∨ 1600 * st 170 35 + 1600 ≤ (i : Int) → s589 188 i = st 188 i from (fun i hi => (o589 i (by omega)).trans (o_m112 i hi))), (show st 170 34 ≤ s589 170 34 from by omega), (show (s_m112 170 42 - 1) = s589 170 42 - 1 from by omega), (show (s_m112 192 (s_m112 170 42 - 1 : Int).toNat) = s589 192 (s589 170 42 - 1 : Int).toNat from by omega), (show s589 170 46 = 1 from by omega), (show s589 170 8 = 0 from by omega), (show s589 170 45 = s589 196 (s589 170 42 - 1 : Int).toNat ∨ rkf (s589 197 (s589 170 45 - 1 : Int).toNat) < rkf (32 : Int) from by have e9 : rkf (32 : Int) = 5 := rfl; omega), (show 31 ≤ (32 : Int) ∧ (32 : Int) ≤ 35 ∧ 1 ≤ s589 170 3 from by omega)⟩
  · have b590_ : r590 = 1 := by omega
    replace b590 := b590.2.mp b590_
    have e627 : s589 170 4 = s_m112 170 4 := fs589 170 4 rfl rfl
    have e628 : s589 170 5 = s_m112 170 5 := fs589 170 5 rfl rfl
    have e629 : s589 170 2 = s_m112 170 2 := fs589 170 2 rfl rfl
    have e630 : s589 170 8 = s_m112 170 8 := fs589 170 8 rfl rfl
    exact goesOn_m174 hX 31 t (s_m112 192 (s_m112 170 42 - 1 : Int).toNat) (s_m112 170 42 - 1) s589 ⟨gs589, (fr_tr fI_m112 fs589 rfl), (show s589 170 4 ≤ s589 170 5 ∧ s589 170 5 ≤ s589 170 2 ∧ (s589 170 3 = 0 ∧ s589 170 4 = s589 170 2 ∨ 1 ≤ s589 170 3 ∧ s589 170 4 < s589 170 5) from by omega), (show s589 170 4 = st 170 4 ∧ s589 170 5 = st 170 5 ∧ s589 170 3 = st 170 3 from by omega), (show PF s589 1 (st 170 4) from PF_q pf589 (by omega) (by omega)), (show ∀ i : Nat, (i : Int) < 1600 * st 170 35 + st 170 34 ∨ 1600 * st 170 35 + 1600 ≤ (i : Int) → s589 188 i = st 188 i from (fun i hi => (o589 i (by omega)).trans (o_m112 i hi))), (show st 170 34 ≤ s589 170 34 from by omega), (show (s_m112 170 42 - 1) = s589 170 42 - 1 from by omega), (show (s_m112 192 (s_m112 170 42 - 1 : Int).toNat) = s589 192 (s589 170 42 - 1 : Int).toNat from by omega), (show s589 170 46 = 1 from by omega), (show s589 170 8 = 0 from by omega), (show s589 170 45 = s589 196 (s589 170 42 - 1 : Int).toNat ∨ rkf (s589 197 (s589 170 45 - 1 : Int).toNat) < rkf (31 : Int) from by have e9 : rkf (31 : Int) = 5 := rfl; omega), (show 31 ≤ (31 : Int) ∧ (31 : Int) ≤ 35 ∧ 1 ≤ s589 170 3 from by omega)⟩
end R6b
