/-! printed by wip/p32/lib5.py -/
section R6b
variable {cl : Nat → zCall}
set_option maxHeartbeats 40000000 in
set_option maxRecDepth 100000 in
theorem goesOn_m372 {d : Nat} {st : zS} {Q : zQ} {K : zG} (hX : cx_goesOn cl d  st Q K) : ∀ (op : Int) (a : Int) (t : Int) (k : Int) (f : Int) (s_m372 : zS), gInv zgt s_m372 ∧ aFr m_goesOn st s_m372 ∧ (s_m372 170 4 ≤ s_m372 170 5 ∧ s_m372 170 5 ≤ s_m372 170 2 ∧ (s_m372 170 3 = 0 ∧ s_m372 170 4 = s_m372 170 2 ∨ 1 ≤ s_m372 170 3 ∧ s_m372 170 4 < s_m372 170 5)) ∧ (s_m372 170 4 = st 170 4 ∧ s_m372 170 5 = st 170 5 ∧ s_m372 170 3 = st 170 3) ∧ (PF s_m372 1 (st 170 4)) ∧ (∀ i : Nat, (i : Int) < 1600 * st 170 35 + st 170 34 ∨ 1600 * st 170 35 + 1600 ≤ (i : Int) → s_m372 188 i = st 188 i) ∧ (st 170 34 ≤ s_m372 170 34) ∧ (f = s_m372 170 42 - 1) ∧ (k = s_m372 192 (s_m372 170 42 - 1 : Int).toNat) ∧ (s_m372 170 46 = 1) ∧ (s_m372 170 8 = 0) ∧ (s_m372 170 45 = s_m372 196 (s_m372 170 42 - 1 : Int).toNat ∨ rkf (s_m372 197 (s_m372 170 45 - 1 : Int).toNat) < rkf op) ∧ ((op = 41 ∨ op = 42) ∧ 1 ≤ s_m372 170 3) → K (rx_find rx_m197 372) [(4, .inl a), (3, .inl t), (2, .inl k), (1, .inl f), (0, .inr (.inr (.inl 170)))] [.inl op, .inr (.inr (.inl 170))] s_m372 := by
  obtain ⟨hcl, hsl, hcm, hR, hQ⟩ := id hX
  obtain ⟨hG, lx, pf, f0⟩ := hR
  change st 170 4 ≤ st 170 5 ∧ st 170 5 ≤ st 170 2 ∧ (st 170 3 = 0 ∧ st 170 4 = st 170 2 ∨ 1 ≤ st 170 3 ∧ st 170 4 < st 170 5) at lx
  change PF st 1 (st 170 4) at pf
  change st 170 8 = 0 ∧ st 170 46 = 1 at f0
  intro op a t k f s_m372 hi
  obtain ⟨gI_m372, fI_m372, lx_m372, sm_m372, pf_m372, o_m372, c_m372, f_m372, k_m372, oo_m372, z_m372, x_m372, op_m372⟩ := hi
  subst f_m372
  subst k_m372
  have g290 := g_signAt hG
  have g291 := g_signEnd hG
  have g292 := g_size hG
  have g293 := g_sign hG
  have g294 := g_faultKind hG
  have g295 := g_operand hG
  have PF1 := PF_f pf_m372
  have g296 := g_signAt gI_m372
  have g297 := g_signEnd gI_m372
  have e298 : s_m372 170 2 = st 170 2 := fI_m372 170 2 rfl rfl
  have g299 := g_sign gI_m372
  have g300 := g_in hG
  have g301 := g_codes hG
  have g302 := g_codes gI_m372
  have g303 := g_deep gI_m372
  have g304 := g_frame gI_m372 (s_m372 170 42 - 1 : Int).toNat
  have g305 := g_operand gI_m372
  have g306 := g_faultKind gI_m372
  have g307 := g_opMany gI_m372
  have g308 := g_base gI_m372 (s_m372 170 42 - 1 : Int).toNat
  have g309 := g_ops gI_m372 (s_m372 170 45 - 1 : Int).toNat
  have e310 : s_m372 170 35 = st 170 35 := fI_m372 170 35 rfl rfl
  have g311 := g_open gI_m372
  refine yr1_ok (Rt := Q) (wc := (wcL [(181, k_lex), (195, k_isTest), (183, k_isWord), (182, k_isSign), (178, k_blame), (192, k_holdsBack), (149, k_ahead), (189, k_add), (191, k_joins)])) (stp := [372, 400, 422, 452, 470, 518, 531, 546]) hcm hcl [] 400 ?_
  show (170 = 170 ∧ (rq_holdsBack op s_m372 ∧ (((0 ≤ (s_m372 170 42 - 1) ∧ (s_m372 170 42 - 1) < 20) ∧ ((0 ≤ (s_m372 170 42 - 1) ∧ (s_m372 170 42 - 1) < 20) ∧ ((1 = (0 : Int) ∨ 1 = (1 : Int)) ∧ (170 = 170 ∧ (rq_ahead  (zup (zup (zup (zup s_m372 197 (s_m372 170 45 : Int).toNat op) 170 45 ((s_m372 170 45) + 1)) 193 ((s_m372 170 42 - 1) : Int).toNat 0) 194 ((s_m372 170 42 - 1) : Int).toNat 1) ∧ (∀ (s313 : zS), en_ahead  (zup (zup (zup (zup s_m372 197 (s_m372 170 45 : Int).toNat op) 170 45 ((s_m372 170 45) + 1)) 193 ((s_m372 170 42 - 1) : Int).toNat 0) 194 ((s_m372 170 42 - 1) : Int).toNat 1) s313 → ((0 = (0 : Int) ∨ 0 = (1 : Int)) ∧ ((1 = (0 : Int) ∨ 1 = (1 : Int)) ∧ Q (some (.inl 1)) (zup s313 170 46 0))))))))))))
  refine ⟨rfl, ⟨gI_m372, (show 0 ≤ s_m372 170 45 ∧ s_m372 170 45 ≤ 499 from by omega)⟩, ?_⟩
  refine ⟨by omega, ?_⟩
  refine ⟨by omega, ?_⟩
  refine ⟨by omega, ?_⟩
  refine ⟨rfl, ⟨(gInv_up (gInv_up (gInv_up (gInv_up gI_m372 (p_ops (by omega))) (p_opMany (by omega))) (p_phase (by omega))) (p_begins (by omega))), (show s_m372 170 5 ≤ s_m372 170 2 from by omega)⟩, fun s313 q313 => ?_⟩
  obtain ⟨gs313, fs313, p313⟩ := q313
  change s313 170 4 ≤ s313 170 5 ∧ s313 170 5 ≤ s313 170 2 ∧ (s313 170 3 = 0 ∧ s313 170 4 = s313 170 2 ∨ 1 ≤ s313 170 3 ∧ s313 170 4 < s313 170 5) ∧ s_m372 170 5 ≤ s313 170 4 at p313
  have g314 := g_signAt gs313
  have g315 := g_signEnd gs313
  have e316 : s313 170 2 = s_m372 170 2 := fs313 170 2 rfl rfl
  have g317 := g_sign gs313
  refine ⟨by omega, ?_⟩
  refine ⟨by omega, ?_⟩
  have e318 : s313 170 8 = s_m372 170 8 := fs313 170 8 rfl rfl
  have e319 : s313 170 34 = s_m372 170 34 := fs313 170 34 rfl rfl
  exact hQ _ _ ⟨(gInv_up gs313 (p_operand (by omega))), (fr_f (fr_tr (fr_a (fr_a (fr_f (fr_a fI_m372 rfl) rfl) rfl) rfl) fs313 rfl) rfl), (show s313 170 4 ≤ s313 170 5 ∧ s313 170 5 ≤ s313 170 2 ∧ (s313 170 3 = 0 ∧ s313 170 4 = s313 170 2 ∨ 1 ≤ s313 170 3 ∧ s313 170 4 < s313 170 5) ∧ st 170 4 ≤ s313 170 4 from by omega), (show ((1 : Int) = 0 ∨ (1 : Int) = 1) from by omega), (show s313 170 8 = 0 → ((1 : Int) = 1 → st 170 5 ≤ s313 170 4 ∧ 1 ≤ st 170 3 ∧ PF (zup s313 170 46 0) (0) (s313 170 4)) ∧ ((1 : Int) = 0 → PF (zup s313 170 46 0) 1 (s313 170 4)) from fun z => ⟨fun _ => ⟨by omega, by omega, PF_up rfl (PF_fr rfl fs313 (show PF (zup (zup (zup (zup s_m372 197 (s_m372 170 45 : Int).toNat op) 170 45 ((s_m372 170 45) + 1)) 193 ((s_m372 170 42 - 1) : Int).toNat 0) 194 ((s_m372 170 42 - 1) : Int).toNat 1) 0 (s313 170 4) from ⟨show PI (s_m372 170 35) (s_m372 170 34) (((s_m372 170 45) + 1)) (s_m372 170 42) (s_m372 170 43) 0 (pa (s_m372 192 ((s_m372 170 42) - 1 : Int).toNat) (s_m372 195 ((s_m372 170 42) - 1 : Int).toNat)) (s313 170 4) (up1 (s_m372 197) (s_m372 170 45 : Int).toNat op) (s_m372 196) (s_m372 192) (s_m372 195) (up1 (s_m372 194) ((s_m372 170 42 - 1) : Int).toNat 1) (s_m372 188) (f0s s_m372) from PI_hold pf_m372.1 x_m372 (by omega) (by omega) ⟨fun g z1 => up1_n _ _ (by omega), fun _ => by omega⟩, pf_m372.2.1, show PH (s_m372 170 42) (((s_m372 170 45) + 1)) (up1 (s_m372 197) (s_m372 170 45 : Int).toNat op) (s_m372 196) (up1 (s_m372 193) ((s_m372 170 42 - 1) : Int).toNat 0) from PH_hold2 pf_m372 (fun g z1 => up1_n _ _ (by omega)) x_m372 (Or.inl (by omega)) (fun _ => Or.inr (by have e1 : rkf (41 : Int) = 2 := rfl; have e2 : rkf (42 : Int) = 1 := rfl; rcases op_m372.1 with e | e <;> rw [e] <;> omega))⟩))⟩, fun z1 => absurd z1 (by omega)⟩), (show ∀ i : Nat, (i : Int) < 1600 * st 170 35 + st 170 34 ∨ 1600 * st 170 35 + 1600 ≤ (i : Int) → (zup s313 170 46 0) 188 i = st 188 i from (fun i hi => (fs313 188 i rfl rfl).trans (o_m372 i hi))), (show st 170 34 ≤ s313 170 34 from by omega)⟩
end R6b
