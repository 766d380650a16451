/-! printed by wip/p32/lib5.py -/
section R6b
variable {cl : Nat → zCall}
set_option maxHeartbeats 40000000 in
set_option maxRecDepth 100000 in
theorem goesOn_m174 {d : Nat} {st : zS} {Q : zQ} {K : zG} (hX : cx_goesOn cl d  st Q K) : ∀ (op : Int) (t : Int) (k : Int) (f : Int) (s_m174 : zS), gInv zgt s_m174 ∧ aFr m_goesOn st s_m174 ∧ (s_m174 170 4 ≤ s_m174 170 5 ∧ s_m174 170 5 ≤ s_m174 170 2 ∧ (s_m174 170 3 = 0 ∧ s_m174 170 4 = s_m174 170 2 ∨ 1 ≤ s_m174 170 3 ∧ s_m174 170 4 < s_m174 170 5)) ∧ (s_m174 170 4 = st 170 4 ∧ s_m174 170 5 = st 170 5 ∧ s_m174 170 3 = st 170 3) ∧ (PF s_m174 1 (st 170 4)) ∧ (∀ i : Nat, (i : Int) < 1600 * st 170 35 + st 170 34 ∨ 1600 * st 170 35 + 1600 ≤ (i : Int) → s_m174 188 i = st 188 i) ∧ (st 170 34 ≤ s_m174 170 34) ∧ (f = s_m174 170 42 - 1) ∧ (k = s_m174 192 (s_m174 170 42 - 1 : Int).toNat) ∧ (s_m174 170 46 = 1) ∧ (s_m174 170 8 = 0) ∧ (s_m174 170 45 = s_m174 196 (s_m174 170 42 - 1 : Int).toNat ∨ rkf (s_m174 197 (s_m174 170 45 - 1 : Int).toNat) < rkf op) ∧ (31 ≤ op ∧ op ≤ 35 ∧ 1 ≤ s_m174 170 3) → K (rx_find rx_m197 174) [(3, .inl t), (2, .inl k), (1, .inl f), (0, .inr (.inr (.inl 170)))] [.inl op, .inr (.inr (.inl 170))] s_m174 := by
  obtain ⟨hcl, hsl, hcm, hR, hQ⟩ := id hX
  obtain ⟨hG, lx, pf, f0⟩ := hR
  change st 170 4 ≤ st 170 5 ∧ st 170 5 ≤ st 170 2 ∧ (st 170 3 = 0 ∧ st 170 4 = st 170 2 ∨ 1 ≤ st 170 3 ∧ st 170 4 < st 170 5) at lx
  change PF st 1 (st 170 4) at pf
  change st 170 8 = 0 ∧ st 170 46 = 1 at f0
  intro op t k f s_m174 hi
  obtain ⟨gI_m174, fI_m174, lx_m174, sm_m174, pf_m174, o_m174, c_m174, f_m174, k_m174, oo_m174, z_m174, x_m174, op_m174⟩ := hi
  subst f_m174
  subst k_m174
  have g538 := g_signAt hG
  have g539 := g_signEnd hG
  have g540 := g_size hG
  have g541 := g_sign hG
  have g542 := g_faultKind hG
  have g543 := g_operand hG
  have PF1 := PF_f pf_m174
  have g544 := g_signAt gI_m174
  have g545 := g_signEnd gI_m174
  have e546 : s_m174 170 2 = st 170 2 := fI_m174 170 2 rfl rfl
  have g547 := g_sign gI_m174
  have g548 := g_in hG
  have g549 := g_codes hG
  have g550 := g_codes gI_m174
  have g551 := g_deep gI_m174
  have g552 := g_frame gI_m174 (s_m174 170 42 - 1 : Int).toNat
  have g553 := g_operand gI_m174
  have g554 := g_faultKind gI_m174
  have g555 := g_opMany gI_m174
  have g556 := g_base gI_m174 (s_m174 170 42 - 1 : Int).toNat
  have g557 := g_ops gI_m174 (s_m174 170 45 - 1 : Int).toNat
  have e558 : s_m174 170 35 = st 170 35 := fI_m174 170 35 rfl rfl
  have g559 := g_open gI_m174
  refine yr1_ok (Rt := Q) (wc := (wcL [(181, k_lex), (195, k_isTest), (183, k_isWord), (182, k_isSign), (178, k_blame), (192, k_holdsBack), (149, k_ahead), (189, k_add), (191, k_joins)])) (stp := [174, 188, 228, 264, 285, 309, 356, 372, 400, 422, 452, 470, 518, 531, 546]) hcm hcl [] 400 ?_
  show (170 = 170 ∧ (rq_holdsBack op s_m174 ∧ ((170 = 170 ∧ (rq_ahead  (zup (zup s_m174 197 (s_m174 170 45 : Int).toNat op) 170 45 ((s_m174 170 45) + 1)) ∧ (∀ (s561 : zS), en_ahead  (zup (zup s_m174 197 (s_m174 170 45 : Int).toNat op) 170 45 ((s_m174 170 45) + 1)) s561 → ((0 = (0 : Int) ∨ 0 = (1 : Int)) ∧ ((1 = (0 : Int) ∨ 1 = (1 : Int)) ∧ Q (some (.inl 1)) (zup s561 170 46 0)))))))))
  refine ⟨rfl, ⟨gI_m174, (show 0 ≤ s_m174 170 45 ∧ s_m174 170 45 ≤ 499 from by omega)⟩, ?_⟩
  refine ⟨rfl, ⟨(gInv_up (gInv_up gI_m174 (p_ops (by omega))) (p_opMany (by omega))), (show s_m174 170 5 ≤ s_m174 170 2 from by omega)⟩, fun s561 q561 => ?_⟩
  obtain ⟨gs561, fs561, p561⟩ := q561
  change s561 170 4 ≤ s561 170 5 ∧ s561 170 5 ≤ s561 170 2 ∧ (s561 170 3 = 0 ∧ s561 170 4 = s561 170 2 ∨ 1 ≤ s561 170 3 ∧ s561 170 4 < s561 170 5) ∧ s_m174 170 5 ≤ s561 170 4 at p561
  have g562 := g_signAt gs561
  have g563 := g_signEnd gs561
  have e564 : s561 170 2 = s_m174 170 2 := fs561 170 2 rfl rfl
  have g565 := g_sign gs561
  refine ⟨by omega, ?_⟩
  refine ⟨by omega, ?_⟩
  have e566 : s561 170 8 = s_m174 170 8 := fs561 170 8 rfl rfl
  have e567 : s561 170 34 = s_m174 170 34 := fs561 170 34 rfl rfl
  exact hQ _ _ ⟨(gInv_up gs561 (p_operand (by omega))), (fr_f (fr_tr (fr_f (fr_a fI_m174 rfl) rfl) fs561 rfl) rfl), (show s561 170 4 ≤ s561 170 5 ∧ s561 170 5 ≤ s561 170 2 ∧ (s561 170 3 = 0 ∧ s561 170 4 = s561 170 2 ∨ 1 ≤ s561 170 3 ∧ s561 170 4 < s561 170 5) ∧ st 170 4 ≤ s561 170 4 from by omega), (show ((1 : Int) = 0 ∨ (1 : Int) = 1) from by omega), (show s561 170 8 = 0 → ((1 : Int) = 1 → st 170 5 ≤ s561 170 4 ∧ 1 ≤ st 170 3 ∧ PF (zup s561 170 46 0) (0) (s561 170 4)) ∧ ((1 : Int) = 0 → PF (zup s561 170 46 0) 1 (s561 170 4)) from fun z => ⟨fun _ => ⟨by omega, by omega, PF_up rfl (PF_fr rfl fs561 (show PF (zup (zup s_m174 197 (s_m174 170 45 : Int).toNat op) 170 45 ((s_m174 170 45) + 1)) 0 (s561 170 4) from ⟨show PI (s_m174 170 35) (s_m174 170 34) (((s_m174 170 45) + 1)) (s_m174 170 42) (s_m174 170 43) 0 (pa (s_m174 192 ((s_m174 170 42) - 1 : Int).toNat) (s_m174 195 ((s_m174 170 42) - 1 : Int).toNat)) (s561 170 4) (up1 (s_m174 197) (s_m174 170 45 : Int).toNat op) (s_m174 196) (s_m174 192) (s_m174 195) (s_m174 194) (s_m174 188) (f0s s_m174) from PI_hold pf_m174.1 x_m174 (by omega) (by omega) ⟨fun _ _ => rfl, fun z1 => absurd z1 (PF_nb pf_m174)⟩, pf_m174.2.1, show PH (s_m174 170 42) (((s_m174 170 45) + 1)) (up1 (s_m174 197) (s_m174 170 45 : Int).toNat op) (s_m174 196) (s_m174 193) from PH_hold2 pf_m174 (fun _ _ => rfl) x_m174 (Or.inl (by omega)) (fun z1 => Or.inl z1)⟩))⟩, fun z1 => absurd z1 (by omega)⟩), (show ∀ i : Nat, (i : Int) < 1600 * st 170 35 + st 170 34 ∨ 1600 * st 170 35 + 1600 ≤ (i : Int) → (zup s561 170 46 0) 188 i = st 188 i from (fun i hi => (fs561 188 i rfl rfl).trans (o_m174 i hi))), (show st 170 34 ≤ s561 170 34 from by omega)⟩
end R6b
