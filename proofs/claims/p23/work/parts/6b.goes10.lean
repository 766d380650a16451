/-! printed by wip/p32/lib5.py -/
section R6b
variable {cl : Nat → zCall}
set_option maxHeartbeats 40000000 in
set_option maxRecDepth 100000 in
theorem goesOn_m309 {d : Nat} {st : zS} {Q : zQ} {K : zG} (hX : cx_goesOn cl d  st Q K) : ∀ (t : Int) (k : Int) (f : Int) (s_m309 : zS), gInv zgt s_m309 ∧ aFr m_goesOn st s_m309 ∧ (s_m309 170 4 ≤ s_m309 170 5 ∧ s_m309 170 5 ≤ s_m309 170 2 ∧ (s_m309 170 3 = 0 ∧ s_m309 170 4 = s_m309 170 2 ∨ 1 ≤ s_m309 170 3 ∧ s_m309 170 4 < s_m309 170 5)) ∧ (s_m309 170 4 = st 170 4 ∧ s_m309 170 5 = st 170 5 ∧ s_m309 170 3 = st 170 3) ∧ (PF s_m309 1 (st 170 4)) ∧ (∀ i : Nat, (i : Int) < 1600 * st 170 35 + st 170 34 ∨ 1600 * st 170 35 + 1600 ≤ (i : Int) → s_m309 188 i = st 188 i) ∧ (st 170 34 ≤ s_m309 170 34) ∧ (f = s_m309 170 42 - 1) ∧ (k = s_m309 192 (s_m309 170 42 - 1 : Int).toNat) ∧ (s_m309 170 46 = 1) ∧ (s_m309 170 8 = 0) ∧ (1 ≤ s_m309 170 3) → K (rx_find rx_m197 309) [(3, .inl t), (2, .inl k), (1, .inl f), (0, .inr (.inr (.inl 170)))] [] s_m309 := by
  obtain ⟨hcl, hsl, hcm, hR, hQ⟩ := id hX
  obtain ⟨hG, lx, pf, f0⟩ := hR
  change st 170 4 ≤ st 170 5 ∧ st 170 5 ≤ st 170 2 ∧ (st 170 3 = 0 ∧ st 170 4 = st 170 2 ∨ 1 ≤ st 170 3 ∧ st 170 4 < st 170 5) at lx
  change PF st 1 (st 170 4) at pf
  change st 170 8 = 0 ∧ st 170 46 = 1 at f0
  intro t k f s_m309 hi
  obtain ⟨gI_m309, fI_m309, lx_m309, sm_m309, pf_m309, o_m309, c_m309, f_m309, k_m309, oo_m309, z_m309, v_m309⟩ := hi
  subst f_m309
  subst k_m309
  have g363 := g_signAt hG
  have g364 := g_signEnd hG
  have g365 := g_size hG
  have g366 := g_sign hG
  have g367 := g_faultKind hG
  have g368 := g_operand hG
  have PF1 := PF_f pf_m309
  have g369 := g_signAt gI_m309
  have g370 := g_signEnd gI_m309
  have e371 : s_m309 170 2 = st 170 2 := fI_m309 170 2 rfl rfl
  have g372 := g_sign gI_m309
  have g373 := g_in hG
  have g374 := g_codes hG
  have g375 := g_codes gI_m309
  have g376 := g_deep gI_m309
  have g377 := g_frame gI_m309 (s_m309 170 42 - 1 : Int).toNat
  have g378 := g_operand gI_m309
  have g379 := g_faultKind gI_m309
  have e380 : s_m309 170 35 = st 170 35 := fI_m309 170 35 rfl rfl
  have g381 := g_open gI_m309
  have g382 := g_opMany gI_m309
  refine yr1_ok (Rt := Q) (wc := (wcL [(181, k_lex), (195, k_isTest), (183, k_isWord), (182, k_isSign), (178, k_blame), (192, k_holdsBack), (149, k_ahead), (189, k_add), (191, k_joins)])) (stp := [309, 356, 372, 400, 422, 452, 470, 518, 531, 546]) hcm hcl [] 400 ?_
  show ((0 ≤ (s_m309 170 42 - 1) ∧ (s_m309 170 42 - 1) < 20) ∧ ((¬ s_m309 193 ((s_m309 170 42 - 1) : Int).toNat = (0 : Int) → ((s_m309 170 8 ≤ (0 : Int) → (170 = 170 ∧ (∀ (r383 : Int), en_isWord (6385252) s_m309 r383 → ((r383 = (0 : Int) → K (rx_find rx_m197 356) [(4, .inl r383), (3, .inl t), (2, .inl (s_m309 192 (s_m309 170 42 - 1 : Int).toNat)), (1, .inl (s_m309 170 42 - 1)), (0, .inr (.inr (.inl 170)))] [.inl 1, .inr (.inr (.inl 170))] s_m309) ∧ (¬ (r383 = (0 : Int)) → K (rx_find rx_m197 356) [(4, .inl r383), (3, .inl t), (2, .inl (s_m309 192 (s_m309 170 42 - 1 : Int).toNat)), (1, .inl (s_m309 170 42 - 1)), (0, .inr (.inr (.inl 170)))] [.inl 2, .inr (.inr (.inl 170))] s_m309))))) ∧ (¬ (s_m309 170 8 ≤ (0 : Int)) → _))) ∧ (¬ (¬ s_m309 193 ((s_m309 170 42 - 1) : Int).toNat = (0 : Int)) → (170 = 170 ∧ (rq_blame (1) (s_m309 170 4) s_m309 ∧ (∀ (s384 : zS), en_blame (1) (s_m309 170 4) s_m309 s384 → ((s384 170 8 ≤ (0 : Int) → _) ∧ (¬ (s384 170 8 ≤ (0 : Int)) → ((0 = (0 : Int) ∨ 0 = (1 : Int)) ∧ Q (some (.inl 0)) s384)))))))))
  have g385 := g_phase gI_m309 ((s_m309 170 42 - 1) : Int).toNat
  refine ⟨by omega, ?_⟩
  refine ⟨fun h386 => ?_, fun h386 => ?_⟩
  · refine ⟨fun h387 => ?_, fun h387 => (by exfalso; omega)⟩
    refine ⟨rfl, fun r383 q383 => ?_⟩
    have b383 := q383
    change (r383 = 0 ∨ r383 = 1) ∧ (r383 = 1 ↔ s_m309 170 3 = 1 ∧ s_m309 170 7 = (6385252)) at b383
    have g388 := g_word gI_m309
    refine ⟨fun h389 => ?_, fun h389 => ?_⟩
    · clear b383
      exact goesOn_m356 hX 1 r383 t (s_m309 192 (s_m309 170 42 - 1 : Int).toNat) (s_m309 170 42 - 1) s_m309 ⟨gI_m309, fI_m309, (show s_m309 170 4 ≤ s_m309 170 5 ∧ s_m309 170 5 ≤ s_m309 170 2 ∧ (s_m309 170 3 = 0 ∧ s_m309 170 4 = s_m309 170 2 ∨ 1 ≤ s_m309 170 3 ∧ s_m309 170 4 < s_m309 170 5) from by omega), (show s_m309 170 4 = st 170 4 ∧ s_m309 170 5 = st 170 5 ∧ s_m309 170 3 = st 170 3 from by omega), (show PF s_m309 1 (st 170 4) from pf_m309), (show ∀ i : Nat, (i : Int) < 1600 * st 170 35 + st 170 34 ∨ 1600 * st 170 35 + 1600 ≤ (i : Int) → s_m309 188 i = st 188 i from o_m309), (show st 170 34 ≤ s_m309 170 34 from by omega), (show (s_m309 170 42 - 1) = s_m309 170 42 - 1 from by omega), (show (s_m309 192 (s_m309 170 42 - 1 : Int).toNat) = s_m309 192 (s_m309 170 42 - 1 : Int).toNat from by omega), (show s_m309 170 46 = 1 from by omega), (show s_m309 170 8 = 0 from by omega), (show ((r383 = 1 ∧ (1 : Int) = 2) ∨ (r383 = 0 ∧ (1 : Int) = 1)) ∧ 1 ≤ s_m309 170 3 from by omega)⟩
    · have b383_ : r383 = 1 := by omega
      replace b383 := b383.2.mp b383_
      exact goesOn_m356 hX 2 r383 t (s_m309 192 (s_m309 170 42 - 1 : Int).toNat) (s_m309 170 42 - 1) s_m309 ⟨gI_m309, fI_m309, (show s_m309 170 4 ≤ s_m309 170 5 ∧ s_m309 170 5 ≤ s_m309 170 2 ∧ (s_m309 170 3 = 0 ∧ s_m309 170 4 = s_m309 170 2 ∨ 1 ≤ s_m309 170 3 ∧ s_m309 170 4 < s_m309 170 5) from by omega), (show s_m309 170 4 = st 170 4 ∧ s_m309 170 5 = st 170 5 ∧ s_m309 170 3 = st 170 3 from by omega), (show PF s_m309 1 (st 170 4) from pf_m309), (show ∀ i : Nat, (i : Int) < 1600 * st 170 35 + st 170 34 ∨ 1600 * st 170 35 + 1600 ≤ (i : Int) → s_m309 188 i = st 188 i from o_m309), (show st 170 34 ≤ s_m309 170 34 from by omega), (show (s_m309 170 42 - 1) = s_m309 170 42 - 1 from by omega), (show (s_m309 192 (s_m309 170 42 - 1 : Int).toNat) = s_m309 192 (s_m309 170 42 - 1 : Int).toNat from by omega), (show s_m309 170 46 = 1 from by omega), (show s_m309 170 8 = 0 from by omega), (show ((r383 = 1 ∧ (2 : Int) = 2) ∨ (r383 = 0 ∧ (2 : Int) = 1)) ∧ 1 ≤ s_m309 170 3 from by omega)⟩
  · refine ⟨rfl, ⟨gI_m309, (show 1 ≤ (1) ∧ (1) ≤ 6 from by omega), (show -2147483648 ≤ (s_m309 170 4) ∧ (s_m309 170 4) ≤ 2147483647 from by omega)⟩, fun s384 q384 => ?_⟩
    obtain ⟨gs384, fs384, p384⟩ := q384
    change (s_m309 170 8 = 0 → s384 170 8 = (1)) ∧ (0 < s_m309 170 8 → s384 170 8 = s_m309 170 8) at p384
    have g390 := g_faultKind gs384
    refine ⟨fun h391 => (by exfalso; omega), fun h391 => ?_⟩
    refine ⟨by omega, ?_⟩
    have e392 : s384 170 4 = s_m309 170 4 := fs384 170 4 rfl rfl
    have e393 : s384 170 5 = s_m309 170 5 := fs384 170 5 rfl rfl
    have e394 : s384 170 2 = s_m309 170 2 := fs384 170 2 rfl rfl
    have e395 : s384 170 3 = s_m309 170 3 := fs384 170 3 rfl rfl
    have e396 : s384 170 46 = s_m309 170 46 := fs384 170 46 rfl rfl
    have e397 : s384 170 34 = s_m309 170 34 := fs384 170 34 rfl rfl
    exact hQ _ _ ⟨gs384, (fr_tr fI_m309 fs384 rfl), (show s384 170 4 ≤ s384 170 5 ∧ s384 170 5 ≤ s384 170 2 ∧ (s384 170 3 = 0 ∧ s384 170 4 = s384 170 2 ∨ 1 ≤ s384 170 3 ∧ s384 170 4 < s384 170 5) ∧ st 170 4 ≤ s384 170 4 from by omega), (show ((0 : Int) = 0 ∨ (0 : Int) = 1) from by omega), (show s384 170 8 = 0 → ((0 : Int) = 1 → st 170 5 ≤ s384 170 4 ∧ 1 ≤ st 170 3 ∧ PF s384 (s384 170 46) (s384 170 4)) ∧ ((0 : Int) = 0 → PF s384 1 (s384 170 4)) from fun z => absurd z (by omega)), (show ∀ i : Nat, (i : Int) < 1600 * st 170 35 + st 170 34 ∨ 1600 * st 170 35 + 1600 ≤ (i : Int) → s384 188 i = st 188 i from (fun i hi => (fs384 188 i rfl rfl).trans (o_m309 i hi))), (show st 170 34 ≤ s384 170 34 from by omega)⟩
end R6b
