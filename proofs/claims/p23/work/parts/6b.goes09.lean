/-! printed by wip/p32/lib5.py -/
section R6b
variable {cl : Nat → zCall}
set_option maxHeartbeats 40000000 in
set_option maxRecDepth 100000 in
theorem goesOn_m356 {d : Nat} {st : zS} {Q : zQ} {K : zG} (hX : cx_goesOn cl d  st Q K) : ∀ (l : Int) (a : Int) (t : Int) (k : Int) (f : Int) (s_m356 : zS), gInv zgt s_m356 ∧ aFr m_goesOn st s_m356 ∧ (s_m356 170 4 ≤ s_m356 170 5 ∧ s_m356 170 5 ≤ s_m356 170 2 ∧ (s_m356 170 3 = 0 ∧ s_m356 170 4 = s_m356 170 2 ∨ 1 ≤ s_m356 170 3 ∧ s_m356 170 4 < s_m356 170 5)) ∧ (s_m356 170 4 = st 170 4 ∧ s_m356 170 5 = st 170 5 ∧ s_m356 170 3 = st 170 3) ∧ (PF s_m356 1 (st 170 4)) ∧ (∀ i : Nat, (i : Int) < 1600 * st 170 35 + st 170 34 ∨ 1600 * st 170 35 + 1600 ≤ (i : Int) → s_m356 188 i = st 188 i) ∧ (st 170 34 ≤ s_m356 170 34) ∧ (f = s_m356 170 42 - 1) ∧ (k = s_m356 192 (s_m356 170 42 - 1 : Int).toNat) ∧ (s_m356 170 46 = 1) ∧ (s_m356 170 8 = 0) ∧ (((a = 1 ∧ l = 2) ∨ (a = 0 ∧ l = 1)) ∧ 1 ≤ s_m356 170 3) → K (rx_find rx_m197 356) [(4, .inl a), (3, .inl t), (2, .inl k), (1, .inl f), (0, .inr (.inr (.inl 170)))] [.inl l, .inr (.inr (.inl 170))] s_m356 := by
  obtain ⟨hcl, hsl, hcm, hR, hQ⟩ := id hX
  obtain ⟨hG, lx, pf, f0⟩ := hR
  change st 170 4 ≤ st 170 5 ∧ st 170 5 ≤ st 170 2 ∧ (st 170 3 = 0 ∧ st 170 4 = st 170 2 ∨ 1 ≤ st 170 3 ∧ st 170 4 < st 170 5) at lx
  change PF st 1 (st 170 4) at pf
  change st 170 8 = 0 ∧ st 170 46 = 1 at f0
  intro l a t k f s_m356 hi
  obtain ⟨gI_m356, fI_m356, lx_m356, sm_m356, pf_m356, o_m356, c_m356, f_m356, k_m356, oo_m356, z_m356, l_m356⟩ := hi
  subst f_m356
  subst k_m356
  have g320 := g_signAt hG
  have g321 := g_signEnd hG
  have g322 := g_size hG
  have g323 := g_sign hG
  have g324 := g_faultKind hG
  have g325 := g_operand hG
  have PF1 := PF_f pf_m356
  have g326 := g_signAt gI_m356
  have g327 := g_signEnd gI_m356
  have e328 : s_m356 170 2 = st 170 2 := fI_m356 170 2 rfl rfl
  have g329 := g_sign gI_m356
  have g330 := g_in hG
  have g331 := g_codes hG
  have g332 := g_codes gI_m356
  have g333 := g_deep gI_m356
  have g334 := g_frame gI_m356 (s_m356 170 42 - 1 : Int).toNat
  have g335 := g_operand gI_m356
  have g336 := g_faultKind gI_m356
  have e337 : s_m356 170 35 = st 170 35 := fI_m356 170 35 rfl rfl
  have g338 := g_open gI_m356
  have g339 := g_opMany gI_m356
  refine yr1_ok (Rt := Q) (wc := (wcL [(181, k_lex), (195, k_isTest), (183, k_isWord), (182, k_isSign), (178, k_blame), (192, k_holdsBack), (149, k_ahead), (189, k_add), (191, k_joins)])) (stp := [356, 372, 400, 422, 452, 470, 518, 531, 546]) hcm hcl [] 400 ?_
  show (170 = 170 ∧ (rq_joins l s_m356 ∧ (∀ (s340 : zS), en_joins l s_m356 s340 → ((a = (0 : Int) → K (rx_find rx_m197 372) [(4, .inl a), (3, .inl t), (2, .inl (s_m356 192 (s_m356 170 42 - 1 : Int).toNat)), (1, .inl (s_m356 170 42 - 1)), (0, .inr (.inr (.inl 170)))] [.inl 42, .inr (.inr (.inl 170))] s340) ∧ (¬ (a = (0 : Int)) → K (rx_find rx_m197 372) [(4, .inl a), (3, .inl t), (2, .inl (s_m356 192 (s_m356 170 42 - 1 : Int).toNat)), (1, .inl (s_m356 170 42 - 1)), (0, .inr (.inr (.inl 170)))] [.inl 41, .inr (.inr (.inl 170))] s340)))))
  refine ⟨rfl, ⟨gI_m356, (show PF s_m356 1 (s_m356 170 4) from PF_q pf_m356 (by omega) (by omega))⟩, fun s340 q340 => ?_⟩
  obtain ⟨gs340, fs340, pf340, x340, o340, c340⟩ := q340
  change PF s340 1 (s_m356 170 4) at pf340
  change s340 170 45 = s340 196 (s340 170 42 - 1 : Int).toNat ∨ rkf (s340 197 (s340 170 45 - 1 : Int).toNat) < l at x340
  have g341 := g_opMany gs340
  have e342 : s340 170 42 = s_m356 170 42 := fs340 170 42 rfl rfl
  have g344 := g_base gI_m356 (s_m356 170 42 - 1 : Int).toNat
  have e343 : s340 196 (s340 170 42 - 1 : Int).toNat = s_m356 196 (s_m356 170 42 - 1 : Int).toNat := (fs340 196 (s340 170 42 - 1 : Int).toNat rfl rfl).trans (by rw [e342] <;> rfl)
  have g346 := g_ops gI_m356 (s340 170 45 - 1 : Int).toNat
  have e345 : s340 197 (s340 170 45 - 1 : Int).toNat = s_m356 197 (s340 170 45 - 1 : Int).toNat := fs340 197 (s340 170 45 - 1 : Int).toNat rfl rfl
  change ∀ i : Nat, (i : Int) < 1600 * s_m356 170 35 + s_m356 170 34 ∨ 1600 * s_m356 170 35 + 1600 ≤ (i : Int) → s340 188 i = s_m356 188 i at o340
  change s_m356 170 34 ≤ s340 170 34 ∧ s340 170 34 + s340 170 45 = s_m356 170 34 + s_m356 170 45 at c340
  have g347 := g_codes gs340
  have PJ340 := PF_f pf340
  have e348 : s340 170 46 = s_m356 170 46 := fs340 170 46 rfl rfl
  have e349 : s340 192 (s340 170 42 - 1 : Int).toNat = s_m356 192 (s_m356 170 42 - 1 : Int).toNat := (fs340 192 (s340 170 42 - 1 : Int).toNat rfl rfl).trans (by rw [e342] <;> rfl)
  have g351 := g_phase gI_m356 (s_m356 170 42 - 1 : Int).toNat
  have e350 : s340 193 (s340 170 42 - 1 : Int).toNat = s_m356 193 (s_m356 170 42 - 1 : Int).toNat := (fs340 193 (s340 170 42 - 1 : Int).toNat rfl rfl).trans (by rw [e342] <;> rfl)
  refine ⟨fun h352 => ?_, fun h352 => ?_⟩
  · have e353 : s340 170 4 = s_m356 170 4 := fs340 170 4 rfl rfl
    have e354 : s340 170 5 = s_m356 170 5 := fs340 170 5 rfl rfl
    have e355 : s340 170 2 = s_m356 170 2 := fs340 170 2 rfl rfl
    have e356 : s340 170 3 = s_m356 170 3 := fs340 170 3 rfl rfl
    have e357 : s340 170 8 = s_m356 170 8 := fs340 170 8 rfl rfl
    exact goesOn_m372 hX 42 a t (s_m356 192 (s_m356 170 42 - 1 : Int).toNat) (s_m356 170 42 - 1) s340 ⟨gs340, (fr_tr fI_m356 fs340 rfl), (show s340 170 4 ≤ s340 170 5 ∧ s340 170 5 ≤ s340 170 2 ∧ (s340 170 3 = 0 ∧ s340 170 4 = s340 170 2 ∨ 1 ≤ s340 170 3 ∧ s340 170 4 < s340 170 5) from by omega), (show s340 170 4 = st 170 4 ∧ s340 170 5 = st 170 5 ∧ s340 170 3 = st 170 3 from by omega), (show PF s340 1 (st 170 4) from PF_q pf340 (by omega) (by omega)), (show ∀ i : Nat, (i : Int) < 1600 * st 170 35 + st 170 34 ∨ 1600 * st 170 35 + 1600 ≤ (i : Int) → s340 188 i = st 188 i from (fun i hi => (o340 i (by omega)).trans (o_m356 i hi))), (show st 170 34 ≤ s340 170 34 from by omega), (show (s_m356 170 42 - 1) = s340 170 42 - 1 from by omega), (show (s_m356 192 (s_m356 170 42 - 1 : Int).toNat) = s340 192 (s340 170 42 - 1 : Int).toNat from by omega), (show s340 170 46 = 1 from by omega), (show s340 170 8 = 0 from by omega), (show s340 170 45 = s340 196 (s340 170 42 - 1 : Int).toNat ∨ rkf (s340 197 (s340 170 45 - 1 : Int).toNat) < rkf (42 : Int) from by have e9 : rkf (42 : Int) = 1 := rfl; omega), (show ((42 : Int) = 41 ∨ (42 : Int) = 42) ∧ 1 ≤ s340 170 3 from by omega)⟩
  · have e358 : s340 170 4 = s_m356 170 4 := fs340 170 4 rfl rfl
    have e359 : s340 170 5 = s_m356 170 5 := fs340 170 5 rfl rfl
    have e360 : s340 170 2 = s_m356 170 2 := fs340 170 2 rfl rfl
    have e361 : s340 170 3 = s_m356 170 3 := fs340 170 3 rfl rfl
    have e362 : s340 170 8 = s_m356 170 8 := fs340 170 8 rfl rfl
    exact goesOn_m372 hX 41 a t (s_m356 192 (s_m356 170 42 - 1 : Int).toNat) (s_m356 170 42 - 1) s340 ⟨gs340, (fr_tr fI_m356 fs340 rfl), (show s340 170 4 ≤ s340 170 5 ∧ s340 170 5 ≤ s340 170 2 ∧ (s340 170 3 = 0 ∧ s340 170 4 = s340 170 2 ∨ 1 ≤ s340 170 3 ∧ s340 170 4 < s340 170 5) from by omega), (show s340 170 4 = st 170 4 ∧ s340 170 5 = st 170 5 ∧ s340 170 3 = st 170 3 from by omega), (show PF s340 1 (st 170 4) from PF_q pf340 (by omega) (by omega)), (show ∀ i : Nat, (i : Int) < 1600 * st 170 35 + st 170 34 ∨ 1600 * st 170 35 + 1600 ≤ (i : Int) → s340 188 i = st 188 i from (fun i hi => (o340 i (by omega)).trans (o_m356 i hi))), (show st 170 34 ≤ s340 170 34 from by omega), (show (s_m356 170 42 - 1) = s340 170 42 - 1 from by omega), (show (s_m356 192 (s_m356 170 42 - 1 : Int).toNat) = s340 192 (s340 170 42 - 1 : Int).toNat from by omega), (show s340 170 46 = 1 from by omega), (show s340 170 8 = 0 from by omega), (show s340 170 45 = s340 196 (s340 170 42 - 1 : Int).toNat ∨ rkf (s340 197 (s340 170 45 - 1 : Int).toNat) < rkf (41 : Int) from by have e9 : rkf (41 : Int) = 2 := rfl; omega), (show ((41 : Int) = 41 ∨ (41 : Int) = 42) ∧ 1 ≤ s340 170 3 from by omega)⟩
end R6b
