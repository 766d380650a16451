/-! printed by wip/p32/lib5.py -/
section R6b
variable {cl : Nat → zCall}
set_option maxHeartbeats 40000000 in
set_option maxRecDepth 100000 in
theorem goesOn_m188 {d : Nat} {st : zS} {Q : zQ} {K : zG} (hX : cx_goesOn cl d  st Q K) : ∀ (t : Int) (k : Int) (f : Int) (s_m188 : zS), gInv zgt s_m188 ∧ aFr m_goesOn st s_m188 ∧ (s_m188 170 4 ≤ s_m188 170 5 ∧ s_m188 170 5 ≤ s_m188 170 2 ∧ (s_m188 170 3 = 0 ∧ s_m188 170 4 = s_m188 170 2 ∨ 1 ≤ s_m188 170 3 ∧ s_m188 170 4 < s_m188 170 5)) ∧ (s_m188 170 4 = st 170 4 ∧ s_m188 170 5 = st 170 5 ∧ s_m188 170 3 = st 170 3) ∧ (PF s_m188 1 (st 170 4)) ∧ (∀ i : Nat, (i : Int) < 1600 * st 170 35 + st 170 34 ∨ 1600 * st 170 35 + 1600 ≤ (i : Int) → s_m188 188 i = st 188 i) ∧ (st 170 34 ≤ s_m188 170 34) ∧ (f = s_m188 170 42 - 1) ∧ (k = s_m188 192 (s_m188 170 42 - 1 : Int).toNat) ∧ (s_m188 170 46 = 1) ∧ (s_m188 170 8 = 0) → K (rx_find rx_m197 188) [(3, .inl t), (2, .inl k), (1, .inl f), (0, .inr (.inr (.inl 170)))] [] s_m188 := by
  obtain ⟨hcl, hsl, hcm, hR, hQ⟩ := id hX
  obtain ⟨hG, lx, pf, f0⟩ := hR
  change st 170 4 ≤ st 170 5 ∧ st 170 5 ≤ st 170 2 ∧ (st 170 3 = 0 ∧ st 170 4 = st 170 2 ∨ 1 ≤ st 170 3 ∧ st 170 4 < st 170 5) at lx
  change PF st 1 (st 170 4) at pf
  change st 170 8 = 0 ∧ st 170 46 = 1 at f0
  intro t k f s_m188 hi
  obtain ⟨gI_m188, fI_m188, lx_m188, sm_m188, pf_m188, o_m188, c_m188, f_m188, k_m188, oo_m188, z_m188⟩ := hi
  subst f_m188
  subst k_m188
  have g505 := g_signAt hG
  have g506 := g_signEnd hG
  have g507 := g_size hG
  have g508 := g_sign hG
  have g509 := g_faultKind hG
  have g510 := g_operand hG
  have PF1 := PF_f pf_m188
  have g511 := g_signAt gI_m188
  have g512 := g_signEnd gI_m188
  have e513 : s_m188 170 2 = st 170 2 := fI_m188 170 2 rfl rfl
  have g514 := g_sign gI_m188
  have g515 := g_in hG
  have g516 := g_codes hG
  have g517 := g_codes gI_m188
  have g518 := g_deep gI_m188
  have g519 := g_frame gI_m188 (s_m188 170 42 - 1 : Int).toNat
  have g520 := g_operand gI_m188
  have g521 := g_faultKind gI_m188
  have e522 : s_m188 170 35 = st 170 35 := fI_m188 170 35 rfl rfl
  have g523 := g_open gI_m188
  have g524 := g_opMany gI_m188
  refine yr1_ok (Rt := Q) (wc := (wcL [(181, k_lex), (195, k_isTest), (183, k_isWord), (182, k_isSign), (178, k_blame), (192, k_holdsBack), (149, k_ahead), (189, k_add), (191, k_joins)])) (stp := [188, 228, 264, 285, 309, 356, 372, 400, 422, 452, 470, 518, 531, 546]) hcm hcl [] 400 ?_
  show ((t = (0 : Int) → K (rx_find rx_m197 285) [(3, .inl t), (2, .inl (s_m188 192 (s_m188 170 42 - 1 : Int).toNat)), (1, .inl (s_m188 170 42 - 1)), (0, .inr (.inr (.inl 170)))] [] s_m188) ∧ (¬ (t = (0 : Int)) → ((0 ≤ (s_m188 170 42 - 1) ∧ (s_m188 170 42 - 1) < 20) ∧ ((¬ s_m188 193 ((s_m188 170 42 - 1) : Int).toNat = (0 : Int) → K (rx_find rx_m197 285) [(3, .inl t), (2, .inl (s_m188 192 (s_m188 170 42 - 1 : Int).toNat)), (1, .inl (s_m188 170 42 - 1)), (0, .inr (.inr (.inl 170)))] [] s_m188) ∧ (¬ (¬ s_m188 193 ((s_m188 170 42 - 1) : Int).toNat = (0 : Int)) → (170 = 170 ∧ (∀ (r525 : Int), en_isSign (60) s_m188 r525 → ((¬ r525 = (0 : Int) → K (rx_find rx_m197 228) [(3, .inl t), (2, .inl (s_m188 192 (s_m188 170 42 - 1 : Int).toNat)), (1, .inl (s_m188 170 42 - 1)), (0, .inr (.inr (.inl 170)))] [] s_m188) ∧ (¬ (¬ r525 = (0 : Int)) → (170 = 170 ∧ (∀ (r526 : Int), en_isSign (62) s_m188 r526 → ((¬ r526 = (0 : Int) → K (rx_find rx_m197 228) [(3, .inl t), (2, .inl (s_m188 192 (s_m188 170 42 - 1 : Int).toNat)), (1, .inl (s_m188 170 42 - 1)), (0, .inr (.inr (.inl 170)))] [] s_m188) ∧ (¬ (¬ r526 = (0 : Int)) → (170 = 170 ∧ (∀ (r527 : Int), en_isSign (61) s_m188 r527 → ((r527 = (0 : Int) → K (rx_find rx_m197 285) [(3, .inl t), (2, .inl (s_m188 192 (s_m188 170 42 - 1 : Int).toNat)), (1, .inl (s_m188 170 42 - 1)), (0, .inr (.inr (.inl 170)))] [] s_m188) ∧ (¬ (r527 = (0 : Int)) → K (rx_find rx_m197 228) [(3, .inl t), (2, .inl (s_m188 192 (s_m188 170 42 - 1 : Int).toNat)), (1, .inl (s_m188 170 42 - 1)), (0, .inr (.inr (.inl 170)))] [] s_m188)))))))))))))))))
  refine ⟨fun h528 => ?_, fun h528 => ?_⟩
  · exact goesOn_m285 hX t (s_m188 192 (s_m188 170 42 - 1 : Int).toNat) (s_m188 170 42 - 1) s_m188 ⟨gI_m188, fI_m188, (show s_m188 170 4 ≤ s_m188 170 5 ∧ s_m188 170 5 ≤ s_m188 170 2 ∧ (s_m188 170 3 = 0 ∧ s_m188 170 4 = s_m188 170 2 ∨ 1 ≤ s_m188 170 3 ∧ s_m188 170 4 < s_m188 170 5) from by omega), (show s_m188 170 4 = st 170 4 ∧ s_m188 170 5 = st 170 5 ∧ s_m188 170 3 = st 170 3 from by omega), (show PF s_m188 1 (st 170 4) from pf_m188), (show ∀ i : Nat, (i : Int) < 1600 * st 170 35 + st 170 34 ∨ 1600 * st 170 35 + 1600 ≤ (i : Int) → s_m188 188 i = st 188 i from o_m188), (show st 170 34 ≤ s_m188 170 34 from by omega), (show (s_m188 170 42 - 1) = s_m188 170 42 - 1 from by omega), (show (s_m188 192 (s_m188 170 42 - 1 : Int).toNat) = s_m188 192 (s_m188 170 42 - 1 : Int).toNat from by omega), (show s_m188 170 46 = 1 from by omega), (show s_m188 170 8 = 0 from by omega)⟩
  · have g529 := g_phase gI_m188 ((s_m188 170 42 - 1) : Int).toNat
    refine ⟨by omega, ?_⟩
    refine ⟨fun h530 => ?_, fun h530 => ?_⟩
    · exact goesOn_m285 hX t (s_m188 192 (s_m188 170 42 - 1 : Int).toNat) (s_m188 170 42 - 1) s_m188 ⟨gI_m188, fI_m188, (show s_m188 170 4 ≤ s_m188 170 5 ∧ s_m188 170 5 ≤ s_m188 170 2 ∧ (s_m188 170 3 = 0 ∧ s_m188 170 4 = s_m188 170 2 ∨ 1 ≤ s_m188 170 3 ∧ s_m188 170 4 < s_m188 170 5) from by omega), (show s_m188 170 4 = st 170 4 ∧ s_m188 170 5 = st 170 5 ∧ s_m188 170 3 = st 170 3 from by omega), (show PF s_m188 1 (st 170 4) from pf_m188), (show ∀ i : Nat, (i : Int) < 1600 * st 170 35 + st 170 34 ∨ 1600 * st 170 35 + 1600 ≤ (i : Int) → s_m188 188 i = st 188 i from o_m188), (show st 170 34 ≤ s_m188 170 34 from by omega), (show (s_m188 170 42 - 1) = s_m188 170 42 - 1 from by omega), (show (s_m188 192 (s_m188 170 42 - 1 : Int).toNat) = s_m188 192 (s_m188 170 42 - 1 : Int).toNat from by omega), (show s_m188 170 46 = 1 from by omega), (show s_m188 170 8 = 0 from by omega)⟩
    · refine ⟨rfl, fun r525 q525 => ?_⟩
      have b525 := q525
      change (r525 = 0 ∨ r525 = 1) ∧ (r525 = 1 ↔ s_m188 170 3 = 3 ∧ s_m188 170 6 = (60)) at b525
      have g531 := g_value gI_m188
      refine ⟨fun h532 => ?_, fun h532 => ?_⟩
      · have b525_ : r525 = 1 := by omega
        replace b525 := b525.2.mp b525_
        have g533 := g_phase gI_m188 (s_m188 170 42 - 1 : Int).toNat
        exact goesOn_m228 hX t (s_m188 192 (s_m188 170 42 - 1 : Int).toNat) (s_m188 170 42 - 1) s_m188 ⟨gI_m188, fI_m188, (show s_m188 170 4 ≤ s_m188 170 5 ∧ s_m188 170 5 ≤ s_m188 170 2 ∧ (s_m188 170 3 = 0 ∧ s_m188 170 4 = s_m188 170 2 ∨ 1 ≤ s_m188 170 3 ∧ s_m188 170 4 < s_m188 170 5) from by omega), (show s_m188 170 4 = st 170 4 ∧ s_m188 170 5 = st 170 5 ∧ s_m188 170 3 = st 170 3 from by omega), (show PF s_m188 1 (st 170 4) from pf_m188), (show ∀ i : Nat, (i : Int) < 1600 * st 170 35 + st 170 34 ∨ 1600 * st 170 35 + 1600 ≤ (i : Int) → s_m188 188 i = st 188 i from o_m188), (show st 170 34 ≤ s_m188 170 34 from by omega), (show (s_m188 170 42 - 1) = s_m188 170 42 - 1 from by omega), (show (s_m188 192 (s_m188 170 42 - 1 : Int).toNat) = s_m188 192 (s_m188 170 42 - 1 : Int).toNat from by omega), (show s_m188 170 46 = 1 from by omega), (show s_m188 170 8 = 0 from by omega), (show s_m188 170 3 = 3 ∧ (s_m188 170 6 = 60 ∨ s_m188 170 6 = 62 ∨ s_m188 170 6 = 61) ∧ s_m188 193 (s_m188 170 42 - 1 : Int).toNat = 0 from by omega)⟩
      · clear b525
        refine ⟨rfl, fun r526 q526 => ?_⟩
        have b526 := q526
        change (r526 = 0 ∨ r526 = 1) ∧ (r526 = 1 ↔ s_m188 170 3 = 3 ∧ s_m188 170 6 = (62)) at b526
        refine ⟨fun h534 => ?_, fun h534 => ?_⟩
        · have b526_ : r526 = 1 := by omega
          replace b526 := b526.2.mp b526_
          have g535 := g_phase gI_m188 (s_m188 170 42 - 1 : Int).toNat
          exact goesOn_m228 hX t (s_m188 192 (s_m188 170 42 - 1 : Int).toNat) (s_m188 170 42 - 1) s_m188 ⟨gI_m188, fI_m188, (show s_m188 170 4 ≤ s_m188 170 5 ∧ s_m188 170 5 ≤ s_m188 170 2 ∧ (s_m188 170 3 = 0 ∧ s_m188 170 4 = s_m188 170 2 ∨ 1 ≤ s_m188 170 3 ∧ s_m188 170 4 < s_m188 170 5) from by omega), (show s_m188 170 4 = st 170 4 ∧ s_m188 170 5 = st 170 5 ∧ s_m188 170 3 = st 170 3 from by omega), (show PF s_m188 1 (st 170 4) from pf_m188), (show ∀ i : Nat, (i : Int) < 1600 * st 170 35 + st 170 34 ∨ 1600 * st 170 35 + 1600 ≤ (i : Int) → s_m188 188 i = st 188 i from o_m188), (show st 170 34 ≤ s_m188 170 34 from by omega), (show (s_m188 170 42 - 1) = s_m188 170 42 - 1 from by omega), (show (s_m188 192 (s_m188 170 42 - 1 : Int).toNat) = s_m188 192 (s_m188 170 42 - 1 : Int).toNat from by omega), (show s_m188 170 46 = 1 from by omega), (show s_m188 170 8 = 0 from by omega), (show s_m188 170 3 = 3 ∧ (s_m188 170 6 = 60 ∨ s_m188 170 6 = 62 ∨ s_m188 170 6 = 61) ∧ s_m188 193 (s_m188 170 42 - 1 : Int).toNat = 0 from by omega)⟩
        · clear b526
          refine ⟨rfl, fun r527 q527 => ?_⟩
          have b527 := q527
          change (r527 = 0 ∨ r527 = 1) ∧ (r527 = 1 ↔ s_m188 170 3 = 3 ∧ s_m188 170 6 = (61)) at b527
          refine ⟨fun h536 => ?_, fun h536 => ?_⟩
          · clear b527
            exact goesOn_m285 hX t (s_m188 192 (s_m188 170 42 - 1 : Int).toNat) (s_m188 170 42 - 1) s_m188 ⟨gI_m188, fI_m188, (show s_m188 170 4 ≤ s_m188 170 5 ∧ s_m188 170 5 ≤ s_m188 170 2 ∧ (s_m188 170 3 = 0 ∧ s_m188 170 4 = s_m188 170 2 ∨ 1 ≤ s_m188 170 3 ∧ s_m188 170 4 < s_m188 170 5) from by omega), (show s_m188 170 4 = st 170 4 ∧ s_m188 170 5 = st 170 5 ∧ s_m188 170 3 = st 170 3 from by omega), (show PF s_m188 1 (st 170 4) from pf_m188), (show ∀ i : Nat, (i : Int) < 1600 * st 170 35 + st 170 34 ∨ 1600 * st 170 35 + 1600 ≤ (i : Int) → s_m188 188 i = st 188 i from o_m188), (show st 170 34 ≤ s_m188 170 34 from by omega), (show (s_m188 170 42 - 1) = s_m188 170 42 - 1 from by omega), (show (s_m188 192 (s_m188 170 42 - 1 : Int).toNat) = s_m188 192 (s_m188 170 42 - 1 : Int).toNat from by omega), (show s_m188 170 46 = 1 from by omega), (show s_m188 170 8 = 0 from by omega)⟩
          · have b527_ : r527 = 1 := by omega
            replace b527 := b527.2.mp b527_
            have g537 := g_phase gI_m188 (s_m188 170 42 - 1 : Int).toNat
            exact goesOn_m228 hX t (s_m188 192 (s_m188 170 42 - 1 : Int).toNat) (s_m188 170 42 - 1) s_m188 ⟨gI_m188, fI_m188, (show s_m188 170 4 ≤ s_m188 170 5 ∧ s_m188 170 5 ≤ s_m188 170 2 ∧ (s_m188 170 3 = 0 ∧ s_m188 170 4 = s_m188 170 2 ∨ 1 ≤ s_m188 170 3 ∧ s_m188 170 4 < s_m188 170 5) from by omega), (show s_m188 170 4 = st 170 4 ∧ s_m188 170 5 = st 170 5 ∧ s_m188 170 3 = st 170 3 from by omega), (show PF s_m188 1 (st 170 4) from pf_m188), (show ∀ i : Nat, (i : Int) < 1600 * st 170 35 + st 170 34 ∨ 1600 * st 170 35 + 1600 ≤ (i : Int) → s_m188 188 i = st 188 i from o_m188), (show st 170 34 ≤ s_m188 170 34 from by omega), (show (s_m188 170 42 - 1) = s_m188 170 42 - 1 from by omega), (show (s_m188 192 (s_m188 170 42 - 1 : Int).toNat) = s_m188 192 (s_m188 170 42 - 1 : Int).toNat from by omega), (show s_m188 170 46 = 1 from by omega), (show s_m188 170 8 = 0 from by omega), (show s_m188 170 3 = 3 ∧ (s_m188 170 6 = 60 ∨ s_m188 170 6 = 62 ∨ s_m188 170 6 = 61) ∧ s_m188 193 (s_m188 170 42 - 1 : Int).toNat = 0 from by omega)⟩
end R6b
