/-! printed by wip/p32/lib5.py -/
section R6b
variable {cl : Nat → zCall}
set_option maxHeartbeats 40000000 in
set_option maxRecDepth 100000 in
theorem goesOn_m228 {d : Nat} {st : zS} {Q : zQ} {K : zG} (hX : cx_goesOn cl d  st Q K) : ∀ (t : Int) (k : Int) (f : Int) (s_m228 : zS), gInv zgt s_m228 ∧ aFr m_goesOn st s_m228 ∧ (s_m228 170 4 ≤ s_m228 170 5 ∧ s_m228 170 5 ≤ s_m228 170 2 ∧ (s_m228 170 3 = 0 ∧ s_m228 170 4 = s_m228 170 2 ∨ 1 ≤ s_m228 170 3 ∧ s_m228 170 4 < s_m228 170 5)) ∧ (s_m228 170 4 = st 170 4 ∧ s_m228 170 5 = st 170 5 ∧ s_m228 170 3 = st 170 3) ∧ (PF s_m228 1 (st 170 4)) ∧ (∀ i : Nat, (i : Int) < 1600 * st 170 35 + st 170 34 ∨ 1600 * st 170 35 + 1600 ≤ (i : Int) → s_m228 188 i = st 188 i) ∧ (st 170 34 ≤ s_m228 170 34) ∧ (f = s_m228 170 42 - 1) ∧ (k = s_m228 192 (s_m228 170 42 - 1 : Int).toNat) ∧ (s_m228 170 46 = 1) ∧ (s_m228 170 8 = 0) ∧ (s_m228 170 3 = 3 ∧ (s_m228 170 6 = 60 ∨ s_m228 170 6 = 62 ∨ s_m228 170 6 = 61) ∧ s_m228 193 (s_m228 170 42 - 1 : Int).toNat = 0) → K (rx_find rx_m197 228) [(3, .inl t), (2, .inl k), (1, .inl f), (0, .inr (.inr (.inl 170)))] [] s_m228 := by
  obtain ⟨hcl, hsl, hcm, hR, hQ⟩ := id hX
  obtain ⟨hG, lx, pf, f0⟩ := hR
  change st 170 4 ≤ st 170 5 ∧ st 170 5 ≤ st 170 2 ∧ (st 170 3 = 0 ∧ st 170 4 = st 170 2 ∨ 1 ≤ st 170 3 ∧ st 170 4 < st 170 5) at lx
  change PF st 1 (st 170 4) at pf
  change st 170 8 = 0 ∧ st 170 46 = 1 at f0
  intro t k f s_m228 hi
  obtain ⟨gI_m228, fI_m228, lx_m228, sm_m228, pf_m228, o_m228, c_m228, f_m228, k_m228, oo_m228, z_m228, v_m228⟩ := hi
  subst f_m228
  subst k_m228
  have g454 := g_signAt hG
  have g455 := g_signEnd hG
  have g456 := g_size hG
  have g457 := g_sign hG
  have g458 := g_faultKind hG
  have g459 := g_operand hG
  have PF1 := PF_f pf_m228
  have g460 := g_signAt gI_m228
  have g461 := g_signEnd gI_m228
  have e462 : s_m228 170 2 = st 170 2 := fI_m228 170 2 rfl rfl
  have g463 := g_sign gI_m228
  have g464 := g_in hG
  have g465 := g_codes hG
  have g466 := g_codes gI_m228
  have g467 := g_deep gI_m228
  have g468 := g_frame gI_m228 (s_m228 170 42 - 1 : Int).toNat
  have g469 := g_operand gI_m228
  have g470 := g_faultKind gI_m228
  have g471 := g_value gI_m228
  have g472 := g_phase gI_m228 (s_m228 170 42 - 1 : Int).toNat
  have e473 : s_m228 170 35 = st 170 35 := fI_m228 170 35 rfl rfl
  have g474 := g_open gI_m228
  have g475 := g_opMany gI_m228
  refine yr1_ok (Rt := Q) (wc := (wcL [(181, k_lex), (195, k_isTest), (183, k_isWord), (182, k_isSign), (178, k_blame), (192, k_holdsBack), (149, k_ahead), (189, k_add), (191, k_joins)])) (stp := [228, 264, 285, 309, 356, 372, 400, 422, 452, 470, 518, 531, 546]) hcm hcl [] 400 ?_
  show (170 = 170 ∧ (rq_joins (5) s_m228 ∧ (∀ (s476 : zS), en_joins (5) s_m228 s476 → (170 = 170 ∧ (∀ (r477 : Int), en_isSign (60) s476 r477 → ((r477 = (0 : Int) → (170 = 170 ∧ (∀ (r478 : Int), en_isSign (62) s476 r478 → ((r478 = (0 : Int) → K (rx_find rx_m197 264) [(3, .inl t), (2, .inl (s_m228 192 (s_m228 170 42 - 1 : Int).toNat)), (1, .inl (s_m228 170 42 - 1)), (0, .inr (.inr (.inl 170)))] [.inl 40, .inr (.inr (.inl 170))] s476) ∧ (¬ (r478 = (0 : Int)) → K (rx_find rx_m197 264) [(3, .inl t), (2, .inl (s_m228 192 (s_m228 170 42 - 1 : Int).toNat)), (1, .inl (s_m228 170 42 - 1)), (0, .inr (.inr (.inl 170)))] [.inl 39, .inr (.inr (.inl 170))] s476))))) ∧ (¬ (r477 = (0 : Int)) → K (rx_find rx_m197 264) [(3, .inl t), (2, .inl (s_m228 192 (s_m228 170 42 - 1 : Int).toNat)), (1, .inl (s_m228 170 42 - 1)), (0, .inr (.inr (.inl 170)))] [.inl 38, .inr (.inr (.inl 170))] s476)))))))
  refine ⟨rfl, ⟨gI_m228, (show PF s_m228 1 (s_m228 170 4) from PF_q pf_m228 (by omega) (by omega))⟩, fun s476 q476 => ?_⟩
  obtain ⟨gs476, fs476, pf476, x476, o476, c476⟩ := q476
  change PF s476 1 (s_m228 170 4) at pf476
  change s476 170 45 = s476 196 (s476 170 42 - 1 : Int).toNat ∨ rkf (s476 197 (s476 170 45 - 1 : Int).toNat) < (5) at x476
  have g479 := g_opMany gs476
  have e480 : s476 170 42 = s_m228 170 42 := fs476 170 42 rfl rfl
  have g482 := g_base gI_m228 (s_m228 170 42 - 1 : Int).toNat
  have e481 : s476 196 (s476 170 42 - 1 : Int).toNat = s_m228 196 (s_m228 170 42 - 1 : Int).toNat := (fs476 196 (s476 170 42 - 1 : Int).toNat rfl rfl).trans (by rw [e480] <;> rfl)
  have g484 := g_ops gI_m228 (s476 170 45 - 1 : Int).toNat
  have e483 : s476 197 (s476 170 45 - 1 : Int).toNat = s_m228 197 (s476 170 45 - 1 : Int).toNat := fs476 197 (s476 170 45 - 1 : Int).toNat rfl rfl
  change ∀ i : Nat, (i : Int) < 1600 * s_m228 170 35 + s_m228 170 34 ∨ 1600 * s_m228 170 35 + 1600 ≤ (i : Int) → s476 188 i = s_m228 188 i at o476
  change s_m228 170 34 ≤ s476 170 34 ∧ s476 170 34 + s476 170 45 = s_m228 170 34 + s_m228 170 45 at c476
  have g485 := g_codes gs476
  have PJ476 := PF_f pf476
  have e486 : s476 170 46 = s_m228 170 46 := fs476 170 46 rfl rfl
  have e487 : s476 192 (s476 170 42 - 1 : Int).toNat = s_m228 192 (s_m228 170 42 - 1 : Int).toNat := (fs476 192 (s476 170 42 - 1 : Int).toNat rfl rfl).trans (by rw [e480] <;> rfl)
  have e488 : s476 193 (s476 170 42 - 1 : Int).toNat = s_m228 193 (s_m228 170 42 - 1 : Int).toNat := (fs476 193 (s476 170 42 - 1 : Int).toNat rfl rfl).trans (by rw [e480] <;> rfl)
  refine ⟨rfl, fun r477 q477 => ?_⟩
  have b477 := q477
  change (r477 = 0 ∨ r477 = 1) ∧ (r477 = 1 ↔ s476 170 3 = 3 ∧ s476 170 6 = (60)) at b477
  have e489 : s476 170 3 = s_m228 170 3 := fs476 170 3 rfl rfl
  have e490 : s476 170 6 = s_m228 170 6 := fs476 170 6 rfl rfl
  refine ⟨fun h491 => ?_, fun h491 => ?_⟩
  · clear b477
    refine ⟨rfl, fun r478 q478 => ?_⟩
    have b478 := q478
    change (r478 = 0 ∨ r478 = 1) ∧ (r478 = 1 ↔ s476 170 3 = 3 ∧ s476 170 6 = (62)) at b478
    refine ⟨fun h492 => ?_, fun h492 => ?_⟩
    · clear b478
      have e493 : s476 170 4 = s_m228 170 4 := fs476 170 4 rfl rfl
      have e494 : s476 170 5 = s_m228 170 5 := fs476 170 5 rfl rfl
      have e495 : s476 170 2 = s_m228 170 2 := fs476 170 2 rfl rfl
      have e496 : s476 170 8 = s_m228 170 8 := fs476 170 8 rfl rfl
      exact goesOn_m264 hX 40 t (s_m228 192 (s_m228 170 42 - 1 : Int).toNat) (s_m228 170 42 - 1) s476 ⟨gs476, (fr_tr fI_m228 fs476 rfl), (show s476 170 4 ≤ s476 170 5 ∧ s476 170 5 ≤ s476 170 2 ∧ (s476 170 3 = 0 ∧ s476 170 4 = s476 170 2 ∨ 1 ≤ s476 170 3 ∧ s476 170 4 < s476 170 5) from by omega), (show s476 170 4 = st 170 4 ∧ s476 170 5 = st 170 5 ∧ s476 170 3 = st 170 3 from by omega), (show PF s476 1 (st 170 4) from PF_q pf476 (by omega) (by omega)), (show ∀ i : Nat, (i : Int) < 1600 * st 170 35 + st 170 34 ∨ 1600 * st 170 35 + 1600 ≤ (i : Int) → s476 188 i = st 188 i from (fun i hi => (o476 i (by omega)).trans (o_m228 i hi))), (show st 170 34 ≤ s476 170 34 from by omega), (show (s_m228 170 42 - 1) = s476 170 42 - 1 from by omega), (show (s_m228 192 (s_m228 170 42 - 1 : Int).toNat) = s476 192 (s476 170 42 - 1 : Int).toNat from by omega), (show s476 170 46 = 1 from by omega), (show s476 170 8 = 0 from by omega), (show s476 170 45 = s476 196 (s476 170 42 - 1 : Int).toNat ∨ rkf (s476 197 (s476 170 45 - 1 : Int).toNat) < rkf (40 : Int) from by have e9 : rkf (40 : Int) = 4 := rfl; rw [e9]; exact PF_x4 pf476 (by omega) x476), (show 38 ≤ (40 : Int) ∧ (40 : Int) ≤ 40 ∧ 1 ≤ s476 170 3 from by omega)⟩
    · have b478_ : r478 = 1 := by omega
      replace b478 := b478.2.mp b478_
      have e497 : s476 170 4 = s_m228 170 4 := fs476 170 4 rfl rfl
      have e498 : s476 170 5 = s_m228 170 5 := fs476 170 5 rfl rfl
      have e499 : s476 170 2 = s_m228 170 2 := fs476 170 2 rfl rfl
      have e500 : s476 170 8 = s_m228 170 8 := fs476 170 8 rfl rfl
      exact goesOn_m264 hX 39 t (s_m228 192 (s_m228 170 42 - 1 : Int).toNat) (s_m228 170 42 - 1) s476 ⟨gs476, (fr_tr fI_m228 fs476 rfl), (show s476 170 4 ≤ s476 170 5 ∧ s476 170 5 ≤ s476 170 2 ∧ (s476 170 3 = 0 ∧ s476 170 4 = s476 170 2 ∨ 1 ≤ s476 170 3 ∧ s476 170 4 < s476 170 5) from by omega), (show s476 170 4 = st 170 4 ∧ s476 170 5 = st 170 5 ∧ s476 170 3 = st 170 3 from by omega), (show PF s476 1 (st 170 4) from PF_q pf476 (by omega) (by omega)), (show ∀ i : Nat, (i : Int) < 1600 * st 170 35 + st 170 34 ∨ 1600 * st 170 35 + 1600 ≤ (i : Int) → s476 188 i = st 188 i from (fun i hi => (o476 i (by omega)).trans (o_m228 i hi))), (show st 170 34 ≤ s476 170 34 from by omega), (show (s_m228 170 42 - 1) = s476 170 42 - 1 from by omega), (show (s_m228 192 (s_m228 170 42 - 1 : Int).toNat) = s476 192 (s476 170 42 - 1 : Int).toNat from by omega), (show s476 170 46 = 1 from by omega), (show s476 170 8 = 0 from by omega), (show s476 170 45 = s476 196 (s476 170 42 - 1 : Int).toNat ∨ rkf (s476 197 (s476 170 45 - 1 : Int).toNat) < rkf (39 : Int) from by have e9 : rkf (39 : Int) = 4 := rfl; rw [e9]; exact PF_x4 pf476 (by omega) x476), (show 38 ≤ (39 : Int) ∧ (39 : Int) ≤ 40 ∧ 1 ≤ s476 170 3 from by omega)⟩
  · have b477_ : r477 = 1 := by omega
    replace b477 := b477.2.mp b477_
    have e501 : s476 170 4 = s_m228 170 4 := fs476 170 4 rfl rfl
    have e502 : s476 170 5 = s_m228 170 5 := fs476 170 5 rfl rfl
    have e503 : s476 170 2 = s_m228 170 2 := fs476 170 2 rfl rfl
    have e504 : s476 170 8 = s_m228 170 8 := fs476 170 8 rfl rfl
    exact goesOn_m264 hX 38 t (s_m228 192 (s_m228 170 42 - 1 : Int).toNat) (s_m228 170 42 - 1) s476 ⟨gs476, (fr_tr fI_m228 fs476 rfl), (show s476 170 4 ≤ s476 170 5 ∧ s476 170 5 ≤ s476 170 2 ∧ (s476 170 3 = 0 ∧ s476 170 4 = s476 170 2 ∨ 1 ≤ s476 170 3 ∧ s476 170 4 < s476 170 5) from by omega), (show s476 170 4 = st 170 4 ∧ s476 170 5 = st 170 5 ∧ s476 170 3 = st 170 3 from by omega), (show PF s476 1 (st 170 4) from PF_q pf476 (by omega) (by omega)), (show ∀ i : Nat, (i : Int) < 1600 * st 170 35 + st 170 34 ∨ 1600 * st 170 35 + 1600 ≤ (i : Int) → s476 188 i = st 188 i from (fun i hi => (o476 i (by omega)).trans (o_m228 i hi))), (show st 170 34 ≤ s476 170 34 from by omega), (show (s_m228 170 42 - 1) = s476 170 42 - 1 from by omega), (show (s_m228 192 (s_m228 170 42 - 1 : Int).toNat) = s476 192 (s476 170 42 - 1 : Int).toNat from by omega), (show s476 170 46 = 1 from by omega), (show s476 170 8 = 0 from by omega), (show s476 170 45 = s476 196 (s476 170 42 - 1 : Int).toNat ∨ rkf (s476 197 (s476 170 45 - 1 : Int).toNat) < rkf (38 : Int) from by have e9 : rkf (38 : Int) = 4 := rfl; rw [e9]; exact PF_x4 pf476 (by omega) x476), (show 38 ≤ (38 : Int) ∧ (38 : Int) ≤ 40 ∧ 1 ≤ s476 170 3 from by omega)⟩
end R6b
