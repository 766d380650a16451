/-! printed by wip/p32/lib5.py -/
section R6b
variable {cl : Nat → zCall}
set_option maxHeartbeats 40000000 in
set_option maxRecDepth 100000 in
theorem goesOn_m87 {d : Nat} {st : zS} {Q : zQ} {K : zG} (hX : cx_goesOn cl d  st Q K) : ∀ (t : Int) (k : Int) (f : Int) (s_m87 : zS), gInv zgt s_m87 ∧ aFr m_goesOn st s_m87 ∧ (s_m87 170 4 ≤ s_m87 170 5 ∧ s_m87 170 5 ≤ s_m87 170 2 ∧ (s_m87 170 3 = 0 ∧ s_m87 170 4 = s_m87 170 2 ∨ 1 ≤ s_m87 170 3 ∧ s_m87 170 4 < s_m87 170 5)) ∧ (s_m87 170 4 = st 170 4 ∧ s_m87 170 5 = st 170 5 ∧ s_m87 170 3 = st 170 3) ∧ (PF s_m87 1 (st 170 4)) ∧ (∀ i : Nat, (i : Int) < 1600 * st 170 35 + st 170 34 ∨ 1600 * st 170 35 + 1600 ≤ (i : Int) → s_m87 188 i = st 188 i) ∧ (st 170 34 ≤ s_m87 170 34) ∧ (f = s_m87 170 42 - 1) ∧ (k = s_m87 192 (s_m87 170 42 - 1 : Int).toNat) ∧ (s_m87 170 46 = 1) ∧ (s_m87 170 8 = 0) ∧ (s_m87 170 3 = 3 ∧ (s_m87 170 6 = 43 ∨ s_m87 170 6 = 45 ∨ s_m87 170 6 = 42 ∨ s_m87 170 6 = 47 ∨ s_m87 170 6 = 37)) → K (rx_find rx_m197 87) [(3, .inl t), (2, .inl k), (1, .inl f), (0, .inr (.inr (.inl 170)))] [] s_m87 := by
  obtain ⟨hcl, hsl, hcm, hR, hQ⟩ := id hX
  obtain ⟨hG, lx, pf, f0⟩ := hR
  change st 170 4 ≤ st 170 5 ∧ st 170 5 ≤ st 170 2 ∧ (st 170 3 = 0 ∧ st 170 4 = st 170 2 ∨ 1 ≤ st 170 3 ∧ st 170 4 < st 170 5) at lx
  change PF st 1 (st 170 4) at pf
  change st 170 8 = 0 ∧ st 170 46 = 1 at f0
  intro t k f s_m87 hi
  obtain ⟨gI_m87, fI_m87, lx_m87, sm_m87, pf_m87, o_m87, c_m87, f_m87, k_m87, oo_m87, z_m87, v_m87⟩ := hi
  subst f_m87
  subst k_m87
  have g631 := g_signAt hG
  have g632 := g_signEnd hG
  have g633 := g_size hG
  have g634 := g_sign hG
  have g635 := g_faultKind hG
  have g636 := g_operand hG
  have PF1 := PF_f pf_m87
  have g637 := g_signAt gI_m87
  have g638 := g_signEnd gI_m87
  have e639 : s_m87 170 2 = st 170 2 := fI_m87 170 2 rfl rfl
  have g640 := g_sign gI_m87
  have g641 := g_in hG
  have g642 := g_codes hG
  have g643 := g_codes gI_m87
  have g644 := g_deep gI_m87
  have g645 := g_frame gI_m87 (s_m87 170 42 - 1 : Int).toNat
  have g646 := g_operand gI_m87
  have g647 := g_faultKind gI_m87
  have g648 := g_value gI_m87
  have e649 : s_m87 170 35 = st 170 35 := fI_m87 170 35 rfl rfl
  have g650 := g_open gI_m87
  have g651 := g_opMany gI_m87
  refine yr1_ok (Rt := Q) (wc := (wcL [(181, k_lex), (195, k_isTest), (183, k_isWord), (182, k_isSign), (178, k_blame), (192, k_holdsBack), (149, k_ahead), (189, k_add), (191, k_joins)])) (stp := [87, 112, 174, 188, 228, 264, 285, 309, 356, 372, 400, 422, 452, 470, 518, 531, 546]) hcm hcl [] 400 ?_
  show (170 = 170 ∧ (∀ (r652 : Int), en_isSign (43) s_m87 r652 → ((¬ r652 = (0 : Int) → K (rx_find rx_m197 112) [(3, .inl t), (2, .inl (s_m87 192 (s_m87 170 42 - 1 : Int).toNat)), (1, .inl (s_m87 170 42 - 1)), (0, .inr (.inr (.inl 170)))] [.inl 5, .inr (.inr (.inl 170))] s_m87) ∧ (¬ (¬ r652 = (0 : Int)) → (170 = 170 ∧ (∀ (r653 : Int), en_isSign (45) s_m87 r653 → ((r653 = (0 : Int) → K (rx_find rx_m197 112) [(3, .inl t), (2, .inl (s_m87 192 (s_m87 170 42 - 1 : Int).toNat)), (1, .inl (s_m87 170 42 - 1)), (0, .inr (.inr (.inl 170)))] [.inl 6, .inr (.inr (.inl 170))] s_m87) ∧ (¬ (r653 = (0 : Int)) → K (rx_find rx_m197 112) [(3, .inl t), (2, .inl (s_m87 192 (s_m87 170 42 - 1 : Int).toNat)), (1, .inl (s_m87 170 42 - 1)), (0, .inr (.inr (.inl 170)))] [.inl 5, .inr (.inr (.inl 170))] s_m87))))))))
  refine ⟨rfl, fun r652 q652 => ?_⟩
  have b652 := q652
  change (r652 = 0 ∨ r652 = 1) ∧ (r652 = 1 ↔ s_m87 170 3 = 3 ∧ s_m87 170 6 = (43)) at b652
  refine ⟨fun h654 => ?_, fun h654 => ?_⟩
  · have b652_ : r652 = 1 := by omega
    replace b652 := b652.2.mp b652_
    exact goesOn_m112 hX 5 t (s_m87 192 (s_m87 170 42 - 1 : Int).toNat) (s_m87 170 42 - 1) s_m87 ⟨gI_m87, fI_m87, (show s_m87 170 4 ≤ s_m87 170 5 ∧ s_m87 170 5 ≤ s_m87 170 2 ∧ (s_m87 170 3 = 0 ∧ s_m87 170 4 = s_m87 170 2 ∨ 1 ≤ s_m87 170 3 ∧ s_m87 170 4 < s_m87 170 5) from by omega), (show s_m87 170 4 = st 170 4 ∧ s_m87 170 5 = st 170 5 ∧ s_m87 170 3 = st 170 3 from by omega), (show PF s_m87 1 (st 170 4) from pf_m87), (show ∀ i : Nat, (i : Int) < 1600 * st 170 35 + st 170 34 ∨ 1600 * st 170 35 + 1600 ≤ (i : Int) → s_m87 188 i = st 188 i from o_m87), (show st 170 34 ≤ s_m87 170 34 from by omega), (show (s_m87 170 42 - 1) = s_m87 170 42 - 1 from by omega), (show (s_m87 192 (s_m87 170 42 - 1 : Int).toNat) = s_m87 192 (s_m87 170 42 - 1 : Int).toNat from by omega), (show s_m87 170 46 = 1 from by omega), (show s_m87 170 8 = 0 from by omega), (show s_m87 170 3 = 3 ∧ (((5 : Int) = 5 ∧ (s_m87 170 6 = 43 ∨ s_m87 170 6 = 45)) ∨ ((5 : Int) = 6 ∧ (s_m87 170 6 = 42 ∨ s_m87 170 6 = 47 ∨ s_m87 170 6 = 37))) from by omega)⟩
  · replace b652 := mt b652.2.mpr (show ¬ r652 = 1 by omega)
    refine ⟨rfl, fun r653 q653 => ?_⟩
    have b653 := q653
    change (r653 = 0 ∨ r653 = 1) ∧ (r653 = 1 ↔ s_m87 170 3 = 3 ∧ s_m87 170 6 = (45)) at b653
    refine ⟨fun h655 => ?_, fun h655 => ?_⟩
    · replace b653 := mt b653.2.mpr (show ¬ r653 = 1 by omega)
      exact goesOn_m112 hX 6 t (s_m87 192 (s_m87 170 42 - 1 : Int).toNat) (s_m87 170 42 - 1) s_m87 ⟨gI_m87, fI_m87, (show s_m87 170 4 ≤ s_m87 170 5 ∧ s_m87 170 5 ≤ s_m87 170 2 ∧ (s_m87 170 3 = 0 ∧ s_m87 170 4 = s_m87 170 2 ∨ 1 ≤ s_m87 170 3 ∧ s_m87 170 4 < s_m87 170 5) from by omega), (show s_m87 170 4 = st 170 4 ∧ s_m87 170 5 = st 170 5 ∧ s_m87 170 3 = st 170 3 from by omega), (show PF s_m87 1 (st 170 4) from pf_m87), (show ∀ i : Nat, (i : Int) < 1600 * st 170 35 + st 170 34 ∨ 1600 * st 170 35 + 1600 ≤ (i : Int) → s_m87 188 i = st 188 i from o_m87), (show st 170 34 ≤ s_m87 170 34 from by omega), (show (s_m87 170 42 - 1) = s_m87 170 42 - 1 from by omega), (show (s_m87 192 (s_m87 170 42 - 1 : Int).toNat) = s_m87 192 (s_m87 170 42 - 1 : Int).toNat from by omega), (show s_m87 170 46 = 1 from by omega), (show s_m87 170 8 = 0 from by omega), (show s_m87 170 3 = 3 ∧ (((6 : Int) = 5 ∧ (s_m87 170 6 = 43 ∨ s_m87 170 6 = 45)) ∨ ((6 : Int) = 6 ∧ (s_m87 170 6 = 42 ∨ s_m87 170 6 = 47 ∨ s_m87 170 6 = 37))) from by omega)⟩
    · have b653_ : r653 = 1 := by omega
      replace b653 := b653.2.mp b653_
      exact goesOn_m112 hX 5 t (s_m87 192 (s_m87 170 42 - 1 : Int).toNat) (s_m87 170 42 - 1) s_m87 ⟨gI_m87, fI_m87, (show s_m87 170 4 ≤ s_m87 170 5 ∧ s_m87 170 5 ≤ s_m87 170 2 ∧ (s_m87 170 3 = 0 ∧ s_m87 170 4 = s_m87 170 2 ∨ 1 ≤ s_m87 170 3 ∧ s_m87 170 4 < s_m87 170 5) from by omega), (show s_m87 170 4 = st 170 4 ∧ s_m87 170 5 = st 170 5 ∧ s_m87 170 3 = st 170 3 from by omega), (show PF s_m87 1 (st 170 4) from pf_m87), (show ∀ i : Nat, (i : Int) < 1600 * st 170 35 + st 170 34 ∨ 1600 * st 170 35 + 1600 ≤ (i : Int) → s_m87 188 i = st 188 i from o_m87), (show st 170 34 ≤ s_m87 170 34 from by omega), (show (s_m87 170 42 - 1) = s_m87 170 42 - 1 from by omega), (show (s_m87 192 (s_m87 170 42 - 1 : Int).toNat) = s_m87 192 (s_m87 170 42 - 1 : Int).toNat from by omega), (show s_m87 170 46 = 1 from by omega), (show s_m87 170 8 = 0 from by omega), (show s_m87 170 3 = 3 ∧ (((5 : Int) = 5 ∧ (s_m87 170 6 = 43 ∨ s_m87 170 6 = 45)) ∨ ((5 : Int) = 6 ∧ (s_m87 170 6 = 42 ∨ s_m87 170 6 = 47 ∨ s_m87 170 6 = 37))) from by omega)⟩
end R6b
