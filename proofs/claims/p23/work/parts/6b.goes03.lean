/-! printed by wip/p32/lib5.py -/
section R6b
variable {cl : Nat → zCall}
set_option maxHeartbeats 40000000 in
set_option maxRecDepth 100000 in
theorem goesOn_m518 {d : Nat} {st : zS} {Q : zQ} {K : zG} (hX : cx_goesOn cl d  st Q K) : ∀ (t : Int) (k : Int) (f : Int) (s_m518 : zS), gInv zgt s_m518 ∧ aFr m_goesOn st s_m518 ∧ (s_m518 170 4 ≤ s_m518 170 5 ∧ s_m518 170 5 ≤ s_m518 170 2 ∧ (s_m518 170 3 = 0 ∧ s_m518 170 4 = s_m518 170 2 ∨ 1 ≤ s_m518 170 3 ∧ s_m518 170 4 < s_m518 170 5)) ∧ (s_m518 170 4 = st 170 4 ∧ s_m518 170 5 = st 170 5 ∧ s_m518 170 3 = st 170 3) ∧ (PF s_m518 1 (st 170 4)) ∧ (∀ i : Nat, (i : Int) < 1600 * st 170 35 + st 170 34 ∨ 1600 * st 170 35 + 1600 ≤ (i : Int) → s_m518 188 i = st 188 i) ∧ (st 170 34 ≤ s_m518 170 34) ∧ (f = s_m518 170 42 - 1) ∧ (k = s_m518 192 (s_m518 170 42 - 1 : Int).toNat) ∧ (s_m518 170 46 = 1) ∧ (k = 2 ∨ k = 4 ∨ k = 5) → K (rx_find rx_m197 518) [(3, .inl t), (2, .inl k), (1, .inl f), (0, .inr (.inr (.inl 170)))] [] s_m518 := by
  obtain ⟨hcl, hsl, hcm, hR, hQ⟩ := id hX
  obtain ⟨hG, lx, pf, f0⟩ := hR
  change st 170 4 ≤ st 170 5 ∧ st 170 5 ≤ st 170 2 ∧ (st 170 3 = 0 ∧ st 170 4 = st 170 2 ∨ 1 ≤ st 170 3 ∧ st 170 4 < st 170 5) at lx
  change PF st 1 (st 170 4) at pf
  change st 170 8 = 0 ∧ st 170 46 = 1 at f0
  intro t k f s_m518 hi
  obtain ⟨gI_m518, fI_m518, lx_m518, sm_m518, pf_m518, o_m518, c_m518, f_m518, k_m518, oo_m518, kk_m518⟩ := hi
  subst f_m518
  subst k_m518
  have g108 := g_signAt hG
  have g109 := g_signEnd hG
  have g110 := g_size hG
  have g111 := g_sign hG
  have g112 := g_faultKind hG
  have g113 := g_operand hG
  have PF1 := PF_f pf_m518
  have g114 := g_signAt gI_m518
  have g115 := g_signEnd gI_m518
  have e116 : s_m518 170 2 = st 170 2 := fI_m518 170 2 rfl rfl
  have g117 := g_sign gI_m518
  have g118 := g_in hG
  have g119 := g_codes hG
  have g120 := g_codes gI_m518
  have g121 := g_deep gI_m518
  have g122 := g_frame gI_m518 (s_m518 170 42 - 1 : Int).toNat
  have g123 := g_operand gI_m518
  have e124 : s_m518 170 35 = st 170 35 := fI_m518 170 35 rfl rfl
  have g125 := g_open gI_m518
  have g126 := g_opMany gI_m518
  have g127 := g_faultKind gI_m518
  refine yr1_ok (Rt := Q) (wc := (wcL [(181, k_lex), (195, k_isTest), (183, k_isWord), (182, k_isSign), (178, k_blame), (192, k_holdsBack), (149, k_ahead), (189, k_add), (191, k_joins)])) (stp := [518, 531, 546]) hcm hcl [] 400 ?_
  show ((¬ (s_m518 192 (s_m518 170 42 - 1 : Int).toNat) = (5 : Int) → K (rx_find rx_m197 531) [(3, .inl t), (2, .inl (s_m518 192 (s_m518 170 42 - 1 : Int).toNat)), (1, .inl (s_m518 170 42 - 1)), (0, .inr (.inr (.inl 170)))] [.inl 41, .inr (.inr (.inl 170))] s_m518) ∧ (¬ (¬ (s_m518 192 (s_m518 170 42 - 1 : Int).toNat) = (5 : Int)) → K (rx_find rx_m197 531) [(3, .inl t), (2, .inl (s_m518 192 (s_m518 170 42 - 1 : Int).toNat)), (1, .inl (s_m518 170 42 - 1)), (0, .inr (.inr (.inl 170)))] [.inl 93, .inr (.inr (.inl 170))] s_m518))
  refine ⟨fun h128 => ?_, fun h128 => ?_⟩
  · exact goesOn_m531 hX 41 t (s_m518 192 (s_m518 170 42 - 1 : Int).toNat) (s_m518 170 42 - 1) s_m518 ⟨gI_m518, fI_m518, (show s_m518 170 4 ≤ s_m518 170 5 ∧ s_m518 170 5 ≤ s_m518 170 2 ∧ (s_m518 170 3 = 0 ∧ s_m518 170 4 = s_m518 170 2 ∨ 1 ≤ s_m518 170 3 ∧ s_m518 170 4 < s_m518 170 5) from by omega), (show s_m518 170 4 = st 170 4 ∧ s_m518 170 5 = st 170 5 ∧ s_m518 170 3 = st 170 3 from by omega), (show PF s_m518 1 (st 170 4) from pf_m518), (show ∀ i : Nat, (i : Int) < 1600 * st 170 35 + st 170 34 ∨ 1600 * st 170 35 + 1600 ≤ (i : Int) → s_m518 188 i = st 188 i from o_m518), (show st 170 34 ≤ s_m518 170 34 from by omega), (show (s_m518 170 42 - 1) = s_m518 170 42 - 1 from by omega), (show (s_m518 192 (s_m518 170 42 - 1 : Int).toNat) = s_m518 192 (s_m518 170 42 - 1 : Int).toNat from by omega), (show s_m518 170 46 = 1 from by omega), (show (s_m518 192 (s_m518 170 42 - 1 : Int).toNat) = 2 ∨ (s_m518 192 (s_m518 170 42 - 1 : Int).toNat) = 4 ∨ (s_m518 192 (s_m518 170 42 - 1 : Int).toNat) = 5 from by omega)⟩
  · exact goesOn_m531 hX 93 t (s_m518 192 (s_m518 170 42 - 1 : Int).toNat) (s_m518 170 42 - 1) s_m518 ⟨gI_m518, fI_m518, (show s_m518 170 4 ≤ s_m518 170 5 ∧ s_m518 170 5 ≤ s_m518 170 2 ∧ (s_m518 170 3 = 0 ∧ s_m518 170 4 = s_m518 170 2 ∨ 1 ≤ s_m518 170 3 ∧ s_m518 170 4 < s_m518 170 5) from by omega), (show s_m518 170 4 = st 170 4 ∧ s_m518 170 5 = st 170 5 ∧ s_m518 170 3 = st 170 3 from by omega), (show PF s_m518 1 (st 170 4) from pf_m518), (show ∀ i : Nat, (i : Int) < 1600 * st 170 35 + st 170 34 ∨ 1600 * st 170 35 + 1600 ≤ (i : Int) → s_m518 188 i = st 188 i from o_m518), (show st 170 34 ≤ s_m518 170 34 from by omega), (show (s_m518 170 42 - 1) = s_m518 170 42 - 1 from by omega), (show (s_m518 192 (s_m518 170 42 - 1 : Int).toNat) = s_m518 192 (s_m518 170 42 - 1 : Int).toNat from by omega), (show s_m518 170 46 = 1 from by omega), (show (s_m518 192 (s_m518 170 42 - 1 : Int).toNat) = 2 ∨ (s_m518 192 (s_m518 170 42 - 1 : Int).toNat) = 4 ∨ (s_m518 192 (s_m518 170 42 - 1 : Int).toNat) = 5 from by omega)⟩
end R6b
