/-! printed by wip/p32/lib5.py -/
section R6b
variable {cl : Nat → zCall}
set_option maxHeartbeats 40000000 in
set_option maxRecDepth 100000 in
theorem goesOn_m264 {d : Nat} {st : zS} {Q : zQ} {K : zG} (hX : cx_goesOn cl d  st Q K) : ∀ (op : Int) (t : Int) (k : Int) (f : Int) (s_m264 : zS), gInv zgt s_m264 ∧ aFr m_goesOn st s_m264 ∧ (s_m264 170 4 ≤ s_m264 170 5 ∧ s_m264 170 5 ≤ s_m264 170 2 ∧ (s_m264 170 3 = 0 ∧ s_m264 170 4 = s_m264 170 2 ∨ 1 ≤ s_m264 170 3 ∧ s_m264 170 4 < s_m264 170 5)) ∧ (s_m264 170 4 = st 170 4 ∧ s_m264 170 5 = st 170 5 ∧ s_m264 170 3 = st 170 3) ∧ (PF s_m264 1 (st 170 4)) ∧ (∀ i : Nat, (i : Int) < 1600 * st 170 35 + st 170 34 ∨ 1600 * st 170 35 + 1600 ≤ (i : Int) → s_m264 188 i = st 188 i) ∧ (st 170 34 ≤ s_m264 170 34) ∧ (f = s_m264 170 42 - 1) ∧ (k = s_m264 192 (s_m264 170 42 - 1 : Int).toNat) ∧ (s_m264 170 46 = 1) ∧ (s_m264 170 8 = 0) ∧ (s_m264 170 45 = s_m264 196 (s_m264 170 42 - 1 : Int).toNat ∨ rkf (s_m264 197 (s_m264 170 45 - 1 : Int).toNat) < rkf op) ∧ (38 ≤ op ∧ op ≤ 40 ∧ 1 ≤ s_m264 170 3) → K (rx_find rx_m197 264) [(3, .inl t), (2, .inl k), (1, .inl f), (0, .inr (.inr (.inl 170)))] [.inl op, .inr (.inr (.inl 170))] s_m264 := by
  obtain ⟨hcl, hsl, hcm, hR, hQ⟩ := id hX
  obtain ⟨hG, lx, pf, f0⟩ := hR
  change st 170 4 ≤ st 170 5 ∧ st 170 5 ≤ st 170 2 ∧ (st 170 3 = 0 ∧ st 170 4 = st 170 2 ∨ 1 ≤ st 170 3 ∧ st 170 4 < st 170 5) at lx
  change PF st 1 (st 170 4) at pf
  change st 170 8 = 0 ∧ st 170 46 = 1 at f0
  intro op t k f s_m264 hi
  obtain ⟨gI_m264, fI_m264, lx_m264, sm_m264, pf_m264, o_m264, c_m264, f_m264, k_m264, oo_m264, z_m264, x_m264, op_m264⟩ := hi
  subst f_m264
  subst k_m264
  have g424 := g_signAt hG
  have g425 := g_signEnd hG
  have g426 := g_size hG
  have g427 := g_sign hG
  have g428 := g_faultKind hG
  have g429 := g_operand hG
  have PF1 := PF_f pf_m264
  have g430 := g_signAt gI_m264
  have g431 := g_signEnd gI_m264
  have e432 : s_m264 170 2 = st 170 2 := fI_m264 170 2 rfl rfl
  have g433 := g_sign gI_m264
  have g434 := g_in hG
  have g435 := g_codes hG
  have g436 := g_codes gI_m264
  have g437 := g_deep gI_m264
  have g438 := g_frame gI_m264 (s_m264 170 42 - 1 : Int).toNat
  have g439 := g_operand gI_m264
  have g440 := g_faultKind gI_m264
  have g441 := g_opMany gI_m264
  have g442 := g_base gI_m264 (s_m264 170 42 - 1 : Int).toNat
  have g443 := g_ops gI_m264 (s_m264 170 45 - 1 : Int).toNat
  have e444 : s_m264 170 35 = st 170 35 := fI_m264 170 35 rfl rfl
  have g445 := g_open gI_m264
  refine yr1_ok (Rt := Q) (wc := (wcL [(181, k_lex), (195, k_isTest), (183, k_isWord), (182, k_isSign), (178, k_blame), (192, k_holdsBack), (149, k_ahead), (189, k_add), (191, k_joins)])) (stp := [264, 285, 309, 356, 372, 400, 422, 452, 470, 518, 531, 546]) hcm hcl [] 400 ?_
  show (170 = 170 ∧ (rq_holdsBack op s_m264 ∧ (((0 ≤ (s_m264 170 42 - 1) ∧ (s_m264 170 42 - 1) < 20) ∧ (170 = 170 ∧ (rq_ahead  (zup (zup (zup s_m264 197 (s_m264 170 45 : Int).toNat op) 170 45 ((s_m264 170 45) + 1)) 193 ((s_m264 170 42 - 1) : Int).toNat 1) ∧ (∀ (s447 : zS), en_ahead  (zup (zup (zup s_m264 197 (s_m264 170 45 : Int).toNat op) 170 45 ((s_m264 170 45) + 1)) 193 ((s_m264 170 42 - 1) : Int).toNat 1) s447 → ((0 = (0 : Int) ∨ 0 = (1 : Int)) ∧ ((1 = (0 : Int) ∨ 1 = (1 : Int)) ∧ Q (some (.inl 1)) (zup s447 170 46 0))))))))))
  refine ⟨rfl, ⟨gI_m264, (show 0 ≤ s_m264 170 45 ∧ s_m264 170 45 ≤ 499 from by omega)⟩, ?_⟩
  refine ⟨by omega, ?_⟩
  refine ⟨rfl, ⟨(gInv_up (gInv_up (gInv_up gI_m264 (p_ops (by omega))) (p_opMany (by omega))) (p_phase (by omega))), (show s_m264 170 5 ≤ s_m264 170 2 from by omega)⟩, fun s447 q447 => ?_⟩
  obtain ⟨gs447, fs447, p447⟩ := q447
  change s447 170 4 ≤ s447 170 5 ∧ s447 170 5 ≤ s447 170 2 ∧ (s447 170 3 = 0 ∧ s447 170 4 = s447 170 2 ∨ 1 ≤ s447 170 3 ∧ s447 170 4 < s447 170 5) ∧ s_m264 170 5 ≤ s447 170 4 at p447
  have g448 := g_signAt gs447
  have g449 := g_signEnd gs447
  have e450 : s447 170 2 = s_m264 170 2 := fs447 170 2 rfl rfl
  have g451 := g_sign gs447
  refine ⟨by omega, ?_⟩
  refine ⟨by omega, ?_⟩
  have e452 : s447 170 8 = s_m264 170 8 := fs447 170 8 rfl rfl
  have e453 : s447 170 34 = s_m264 170 34 := fs447 170 34 rfl rfl
  exact hQ _ _ ⟨(gInv_up gs447 (p_operand (by omega))), (fr_f (fr_tr (fr_a (fr_f (fr_a fI_m264 rfl) rfl) rfl) fs447 rfl) rfl), (show s447 170 4 ≤ s447 170 5 ∧ s447 170 5 ≤ s447 170 2 ∧ (s447 170 3 = 0 ∧ s447 170 4 = s447 170 2 ∨ 1 ≤ s447 170 3 ∧ s447 170 4 < s447 170 5) ∧ st 170 4 ≤ s447 170 4 from by omega), (show ((1 : Int) = 0 ∨ (1 : Int) = 1) from by omega), (show s447 170 8 = 0 → ((1 : Int) = 1 → st 170 5 ≤ s447 170 4 ∧ 1 ≤ st 170 3 ∧ PF (zup s447 170 46 0) (0) (s447 170 4)) ∧ ((1 : Int) = 0 → PF (zup s447 170 46 0) 1 (s447 170 4)) from fun z => ⟨fun _ => ⟨by omega, by omega, PF_up rfl (PF_fr rfl fs447 (show PF (zup (zup (zup s_m264 197 (s_m264 170 45 : Int).toNat op) 170 45 ((s_m264 170 45) + 1)) 193 ((s_m264 170 42 - 1) : Int).toNat 1) 0 (s447 170 4) from ⟨show PI (s_m264 170 35) (s_m264 170 34) (((s_m264 170 45) + 1)) (s_m264 170 42) (s_m264 170 43) 0 (pa (s_m264 192 ((s_m264 170 42) - 1 : Int).toNat) (s_m264 195 ((s_m264 170 42) - 1 : Int).toNat)) (s447 170 4) (up1 (s_m264 197) (s_m264 170 45 : Int).toNat op) (s_m264 196) (s_m264 192) (s_m264 195) (s_m264 194) (s_m264 188) (f0s s_m264) from PI_hold pf_m264.1 x_m264 (by omega) (by omega) ⟨fun _ _ => rfl, fun z1 => absurd z1 (PF_nb pf_m264)⟩, pf_m264.2.1, show PH (s_m264 170 42) (((s_m264 170 45) + 1)) (up1 (s_m264 197) (s_m264 170 45 : Int).toNat op) (s_m264 196) (up1 (s_m264 193) ((s_m264 170 42 - 1) : Int).toNat 1) from PH_hold2 pf_m264 (fun g z1 => up1_n _ _ (by omega)) x_m264 (Or.inr (by rw [up1_t (by omega)]; omega)) (fun z1 => absurd z1 (by rw [up1_t (by omega)]; omega))⟩))⟩, fun z1 => absurd z1 (by omega)⟩), (show ∀ i : Nat, (i : Int) < 1600 * st 170 35 + st 170 34 ∨ 1600 * st 170 35 + 1600 ≤ (i : Int) → (zup s447 170 46 0) 188 i = st 188 i from (fun i hi => (fs447 188 i rfl rfl).trans (o_m264 i hi))), (show st 170 34 ≤ s447 170 34 from by omega)⟩
end R6b
