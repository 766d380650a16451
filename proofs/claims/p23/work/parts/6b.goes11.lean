/-! printed by wip/p32/lib5.py -/
section R6b
variable {cl : Nat → zCall}
set_option maxHeartbeats 40000000 in
set_option maxRecDepth 100000 in
theorem goesOn_m285 {d : Nat} {st : zS} {Q : zQ} {K : zG} (hX : cx_goesOn cl d  st Q K) : ∀ (t : Int) (k : Int) (f : Int) (s_m285 : zS), gInv zgt s_m285 ∧ aFr m_goesOn st s_m285 ∧ (s_m285 170 4 ≤ s_m285 170 5 ∧ s_m285 170 5 ≤ s_m285 170 2 ∧ (s_m285 170 3 = 0 ∧ s_m285 170 4 = s_m285 170 2 ∨ 1 ≤ s_m285 170 3 ∧ s_m285 170 4 < s_m285 170 5)) ∧ (s_m285 170 4 = st 170 4 ∧ s_m285 170 5 = st 170 5 ∧ s_m285 170 3 = st 170 3) ∧ (PF s_m285 1 (st 170 4)) ∧ (∀ i : Nat, (i : Int) < 1600 * st 170 35 + st 170 34 ∨ 1600 * st 170 35 + 1600 ≤ (i : Int) → s_m285 188 i = st 188 i) ∧ (st 170 34 ≤ s_m285 170 34) ∧ (f = s_m285 170 42 - 1) ∧ (k = s_m285 192 (s_m285 170 42 - 1 : Int).toNat) ∧ (s_m285 170 46 = 1) ∧ (s_m285 170 8 = 0) → K (rx_find rx_m197 285) [(3, .inl t), (2, .inl k), (1, .inl f), (0, .inr (.inr (.inl 170)))] [] s_m285 := by
  obtain ⟨hcl, hsl, hcm, hR, hQ⟩ := id hX
  obtain ⟨hG, lx, pf, f0⟩ := hR
  change st 170 4 ≤ st 170 5 ∧ st 170 5 ≤ st 170 2 ∧ (st 170 3 = 0 ∧ st 170 4 = st 170 2 ∨ 1 ≤ st 170 3 ∧ st 170 4 < st 170 5) at lx
  change PF st 1 (st 170 4) at pf
  change st 170 8 = 0 ∧ st 170 46 = 1 at f0
  intro t k f s_m285 hi
  obtain ⟨gI_m285, fI_m285, lx_m285, sm_m285, pf_m285, o_m285, c_m285, f_m285, k_m285, oo_m285, z_m285⟩ := hi
  subst f_m285
  subst k_m285
  have g398 := g_signAt hG
  have g399 := g_signEnd hG
  have g400 := g_size hG
  have g401 := g_sign hG
  have g402 := g_faultKind hG
  have g403 := g_operand hG
  have PF1 := PF_f pf_m285
  have g404 := g_signAt gI_m285
  have g405 := g_signEnd gI_m285
  have e406 : s_m285 170 2 = st 170 2 := fI_m285 170 2 rfl rfl
  have g407 := g_sign gI_m285
  have g408 := g_in hG
  have g409 := g_codes hG
  have g410 := g_codes gI_m285
  have g411 := g_deep gI_m285
  have g412 := g_frame gI_m285 (s_m285 170 42 - 1 : Int).toNat
  have g413 := g_operand gI_m285
  have g414 := g_faultKind gI_m285
  have e415 : s_m285 170 35 = st 170 35 := fI_m285 170 35 rfl rfl
  have g416 := g_open gI_m285
  have g417 := g_opMany gI_m285
  refine yr1_ok (Rt := Q) (wc := (wcL [(181, k_lex), (195, k_isTest), (183, k_isWord), (182, k_isSign), (178, k_blame), (192, k_holdsBack), (149, k_ahead), (189, k_add), (191, k_joins)])) (stp := [285, 309, 356, 372, 400, 422, 452, 470, 518, 531, 546]) hcm hcl [] 400 ?_
  show ((t = (0 : Int) → K (rx_find rx_m197 400) [(3, .inl t), (2, .inl (s_m285 192 (s_m285 170 42 - 1 : Int).toNat)), (1, .inl (s_m285 170 42 - 1)), (0, .inr (.inr (.inl 170)))] [] s_m285) ∧ (¬ (t = (0 : Int)) → (170 = 170 ∧ (∀ (r418 : Int), en_isWord (6385252) s_m285 r418 → ((¬ r418 = (0 : Int) → K (rx_find rx_m197 309) [(3, .inl t), (2, .inl (s_m285 192 (s_m285 170 42 - 1 : Int).toNat)), (1, .inl (s_m285 170 42 - 1)), (0, .inr (.inr (.inl 170)))] [] s_m285) ∧ (¬ (¬ r418 = (0 : Int)) → (170 = 170 ∧ (∀ (r419 : Int), en_isWord (28530) s_m285 r419 → ((r419 = (0 : Int) → K (rx_find rx_m197 400) [(3, .inl t), (2, .inl (s_m285 192 (s_m285 170 42 - 1 : Int).toNat)), (1, .inl (s_m285 170 42 - 1)), (0, .inr (.inr (.inl 170)))] [] s_m285) ∧ (¬ (r419 = (0 : Int)) → K (rx_find rx_m197 309) [(3, .inl t), (2, .inl (s_m285 192 (s_m285 170 42 - 1 : Int).toNat)), (1, .inl (s_m285 170 42 - 1)), (0, .inr (.inr (.inl 170)))] [] s_m285))))))))))
  refine ⟨fun h420 => ?_, fun h420 => ?_⟩
  · exact goesOn_m400 hX t (s_m285 192 (s_m285 170 42 - 1 : Int).toNat) (s_m285 170 42 - 1) s_m285 ⟨gI_m285, fI_m285, (show s_m285 170 4 ≤ s_m285 170 5 ∧ s_m285 170 5 ≤ s_m285 170 2 ∧ (s_m285 170 3 = 0 ∧ s_m285 170 4 = s_m285 170 2 ∨ 1 ≤ s_m285 170 3 ∧ s_m285 170 4 < s_m285 170 5) from by omega), (show s_m285 170 4 = st 170 4 ∧ s_m285 170 5 = st 170 5 ∧ s_m285 170 3 = st 170 3 from by omega), (show PF s_m285 1 (st 170 4) from pf_m285), (show ∀ i : Nat, (i : Int) < 1600 * st 170 35 + st 170 34 ∨ 1600 * st 170 35 + 1600 ≤ (i : Int) → s_m285 188 i = st 188 i from o_m285), (show st 170 34 ≤ s_m285 170 34 from by omega), (show (s_m285 170 42 - 1) = s_m285 170 42 - 1 from by omega), (show (s_m285 192 (s_m285 170 42 - 1 : Int).toNat) = s_m285 192 (s_m285 170 42 - 1 : Int).toNat from by omega), (show s_m285 170 46 = 1 from by omega), (show s_m285 170 8 = 0 from by omega)⟩
  · refine ⟨rfl, fun r418 q418 => ?_⟩
    have b418 := q418
    change (r418 = 0 ∨ r418 = 1) ∧ (r418 = 1 ↔ s_m285 170 3 = 1 ∧ s_m285 170 7 = (6385252)) at b418
    have g421 := g_word gI_m285
    refine ⟨fun h422 => ?_, fun h422 => ?_⟩
    · have b418_ : r418 = 1 := by omega
      replace b418 := b418.2.mp b418_
      exact goesOn_m309 hX t (s_m285 192 (s_m285 170 42 - 1 : Int).toNat) (s_m285 170 42 - 1) s_m285 ⟨gI_m285, fI_m285, (show s_m285 170 4 ≤ s_m285 170 5 ∧ s_m285 170 5 ≤ s_m285 170 2 ∧ (s_m285 170 3 = 0 ∧ s_m285 170 4 = s_m285 170 2 ∨ 1 ≤ s_m285 170 3 ∧ s_m285 170 4 < s_m285 170 5) from by omega), (show s_m285 170 4 = st 170 4 ∧ s_m285 170 5 = st 170 5 ∧ s_m285 170 3 = st 170 3 from by omega), (show PF s_m285 1 (st 170 4) from pf_m285), (show ∀ i : Nat, (i : Int) < 1600 * st 170 35 + st 170 34 ∨ 1600 * st 170 35 + 1600 ≤ (i : Int) → s_m285 188 i = st 188 i from o_m285), (show st 170 34 ≤ s_m285 170 34 from by omega), (show (s_m285 170 42 - 1) = s_m285 170 42 - 1 from by omega), (show (s_m285 192 (s_m285 170 42 - 1 : Int).toNat) = s_m285 192 (s_m285 170 42 - 1 : Int).toNat from by omega), (show s_m285 170 46 = 1 from by omega), (show s_m285 170 8 = 0 from by omega), (show 1 ≤ s_m285 170 3 from by omega)⟩
    · clear b418
      refine ⟨rfl, fun r419 q419 => ?_⟩
      have b419 := q419
      change (r419 = 0 ∨ r419 = 1) ∧ (r419 = 1 ↔ s_m285 170 3 = 1 ∧ s_m285 170 7 = (28530)) at b419
      refine ⟨fun h423 => ?_, fun h423 => ?_⟩
      · clear b419
        exact goesOn_m400 hX t (s_m285 192 (s_m285 170 42 - 1 : Int).toNat) (s_m285 170 42 - 1) s_m285 ⟨gI_m285, fI_m285, (show s_m285 170 4 ≤ s_m285 170 5 ∧ s_m285 170 5 ≤ s_m285 170 2 ∧ (s_m285 170 3 = 0 ∧ s_m285 170 4 = s_m285 170 2 ∨ 1 ≤ s_m285 170 3 ∧ s_m285 170 4 < s_m285 170 5) from by omega), (show s_m285 170 4 = st 170 4 ∧ s_m285 170 5 = st 170 5 ∧ s_m285 170 3 = st 170 3 from by omega), (show PF s_m285 1 (st 170 4) from pf_m285), (show ∀ i : Nat, (i : Int) < 1600 * st 170 35 + st 170 34 ∨ 1600 * st 170 35 + 1600 ≤ (i : Int) → s_m285 188 i = st 188 i from o_m285), (show st 170 34 ≤ s_m285 170 34 from by omega), (show (s_m285 170 42 - 1) = s_m285 170 42 - 1 from by omega), (show (s_m285 192 (s_m285 170 42 - 1 : Int).toNat) = s_m285 192 (s_m285 170 42 - 1 : Int).toNat from by omega), (show s_m285 170 46 = 1 from by omega), (show s_m285 170 8 = 0 from by omega)⟩
      · have b419_ : r419 = 1 := by omega
        replace b419 := b419.2.mp b419_
        exact goesOn_m309 hX t (s_m285 192 (s_m285 170 42 - 1 : Int).toNat) (s_m285 170 42 - 1) s_m285 ⟨gI_m285, fI_m285, (show s_m285 170 4 ≤ s_m285 170 5 ∧ s_m285 170 5 ≤ s_m285 170 2 ∧ (s_m285 170 3 = 0 ∧ s_m285 170 4 = s_m285 170 2 ∨ 1 ≤ s_m285 170 3 ∧ s_m285 170 4 < s_m285 170 5) from by omega), (show s_m285 170 4 = st 170 4 ∧ s_m285 170 5 = st 170 5 ∧ s_m285 170 3 = st 170 3 from by omega), (show PF s_m285 1 (st 170 4) from pf_m285), (show ∀ i : Nat, (i : Int) < 1600 * st 170 35 + st 170 34 ∨ 1600 * st 170 35 + 1600 ≤ (i : Int) → s_m285 188 i = st 188 i from o_m285), (show st 170 34 ≤ s_m285 170 34 from by omega), (show (s_m285 170 42 - 1) = s_m285 170 42 - 1 from by omega), (show (s_m285 192 (s_m285 170 42 - 1 : Int).toNat) = s_m285 192 (s_m285 170 42 - 1 : Int).toNat from by omega), (show s_m285 170 46 = 1 from by omega), (show s_m285 170 8 = 0 from by omega), (show 1 ≤ s_m285 170 3 from by omega)⟩
end R6b
