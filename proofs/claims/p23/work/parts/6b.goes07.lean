/-! printed by wip/p32/lib5.py -/
section R6b
variable {cl : Nat → zCall}
set_option maxHeartbeats 40000000 in
set_option maxRecDepth 100000 in
theorem goesOn_m400 {d : Nat} {st : zS} {Q : zQ} {K : zG} (hX : cx_goesOn cl d  st Q K) : ∀ (t : Int) (k : Int) (f : Int) (s_m400 : zS), gInv zgt s_m400 ∧ aFr m_goesOn st s_m400 ∧ (s_m400 170 4 ≤ s_m400 170 5 ∧ s_m400 170 5 ≤ s_m400 170 2 ∧ (s_m400 170 3 = 0 ∧ s_m400 170 4 = s_m400 170 2 ∨ 1 ≤ s_m400 170 3 ∧ s_m400 170 4 < s_m400 170 5)) ∧ (s_m400 170 4 = st 170 4 ∧ s_m400 170 5 = st 170 5 ∧ s_m400 170 3 = st 170 3) ∧ (PF s_m400 1 (st 170 4)) ∧ (∀ i : Nat, (i : Int) < 1600 * st 170 35 + st 170 34 ∨ 1600 * st 170 35 + 1600 ≤ (i : Int) → s_m400 188 i = st 188 i) ∧ (st 170 34 ≤ s_m400 170 34) ∧ (f = s_m400 170 42 - 1) ∧ (k = s_m400 192 (s_m400 170 42 - 1 : Int).toNat) ∧ (s_m400 170 46 = 1) ∧ (s_m400 170 8 = 0) → K (rx_find rx_m197 400) [(3, .inl t), (2, .inl k), (1, .inl f), (0, .inr (.inr (.inl 170)))] [] s_m400 := by
  obtain ⟨hcl, hsl, hcm, hR, hQ⟩ := id hX
  obtain ⟨hG, lx, pf, f0⟩ := hR
  change st 170 4 ≤ st 170 5 ∧ st 170 5 ≤ st 170 2 ∧ (st 170 3 = 0 ∧ st 170 4 = st 170 2 ∨ 1 ≤ st 170 3 ∧ st 170 4 < st 170 5) at lx
  change PF st 1 (st 170 4) at pf
  change st 170 8 = 0 ∧ st 170 46 = 1 at f0
  intro t k f s_m400 hi
  obtain ⟨gI_m400, fI_m400, lx_m400, sm_m400, pf_m400, o_m400, c_m400, f_m400, k_m400, oo_m400, z_m400⟩ := hi
  subst f_m400
  subst k_m400
  have g257 := g_signAt hG
  have g258 := g_signEnd hG
  have g259 := g_size hG
  have g260 := g_sign hG
  have g261 := g_faultKind hG
  have g262 := g_operand hG
  have PF1 := PF_f pf_m400
  have g263 := g_signAt gI_m400
  have g264 := g_signEnd gI_m400
  have e265 : s_m400 170 2 = st 170 2 := fI_m400 170 2 rfl rfl
  have g266 := g_sign gI_m400
  have g267 := g_in hG
  have g268 := g_codes hG
  have g269 := g_codes gI_m400
  have g270 := g_deep gI_m400
  have g271 := g_frame gI_m400 (s_m400 170 42 - 1 : Int).toNat
  have g272 := g_operand gI_m400
  have g273 := g_faultKind gI_m400
  have e274 : s_m400 170 35 = st 170 35 := fI_m400 170 35 rfl rfl
  have g275 := g_open gI_m400
  have g276 := g_opMany gI_m400
  refine yr1_ok (Rt := Q) (wc := (wcL [(181, k_lex), (195, k_isTest), (183, k_isWord), (182, k_isSign), (178, k_blame), (192, k_holdsBack), (149, k_ahead), (189, k_add), (191, k_joins)])) (stp := [400, 422, 452, 470, 518, 531, 546]) hcm hcl [] 400 ?_
  show ((t = (0 : Int) → K (rx_find rx_m197 422) [(3, .inl t), (2, .inl (s_m400 192 (s_m400 170 42 - 1 : Int).toNat)), (1, .inl (s_m400 170 42 - 1)), (0, .inr (.inr (.inl 170)))] [] s_m400) ∧ (¬ (t = (0 : Int)) → ((0 ≤ (s_m400 170 42 - 1) ∧ (s_m400 170 42 - 1) < 20) ∧ ((¬ s_m400 193 ((s_m400 170 42 - 1) : Int).toNat = (0 : Int) → K (rx_find rx_m197 422) [(3, .inl t), (2, .inl (s_m400 192 (s_m400 170 42 - 1 : Int).toNat)), (1, .inl (s_m400 170 42 - 1)), (0, .inr (.inr (.inl 170)))] [] s_m400) ∧ (¬ (¬ s_m400 193 ((s_m400 170 42 - 1) : Int).toNat = (0 : Int)) → (170 = 170 ∧ (rq_blame (1) (s_m400 170 4) s_m400 ∧ (∀ (s277 : zS), en_blame (1) (s_m400 170 4) s_m400 s277 → K (rx_find rx_m197 422) [(3, .inl t), (2, .inl (s_m400 192 (s_m400 170 42 - 1 : Int).toNat)), (1, .inl (s_m400 170 42 - 1)), (0, .inr (.inr (.inl 170)))] [] s277))))))))
  refine ⟨fun h278 => ?_, fun h278 => ?_⟩
  · exact goesOn_m422 hX t (s_m400 192 (s_m400 170 42 - 1 : Int).toNat) (s_m400 170 42 - 1) s_m400 ⟨gI_m400, fI_m400, (show s_m400 170 4 ≤ s_m400 170 5 ∧ s_m400 170 5 ≤ s_m400 170 2 ∧ (s_m400 170 3 = 0 ∧ s_m400 170 4 = s_m400 170 2 ∨ 1 ≤ s_m400 170 3 ∧ s_m400 170 4 < s_m400 170 5) from by omega), (show s_m400 170 4 = st 170 4 ∧ s_m400 170 5 = st 170 5 ∧ s_m400 170 3 = st 170 3 from by omega), (show PF s_m400 1 (st 170 4) from pf_m400), (show ∀ i : Nat, (i : Int) < 1600 * st 170 35 + st 170 34 ∨ 1600 * st 170 35 + 1600 ≤ (i : Int) → s_m400 188 i = st 188 i from o_m400), (show st 170 34 ≤ s_m400 170 34 from by omega), (show (s_m400 170 42 - 1) = s_m400 170 42 - 1 from by omega), (show (s_m400 192 (s_m400 170 42 - 1 : Int).toNat) = s_m400 192 (s_m400 170 42 - 1 : Int).toNat from by omega), (show s_m400 170 46 = 1 from by omega)⟩
  · have g279 := g_phase gI_m400 ((s_m400 170 42 - 1) : Int).toNat
    refine ⟨by omega, ?_⟩
    refine ⟨fun h280 => ?_, fun h280 => ?_⟩
    · exact goesOn_m422 hX t (s_m400 192 (s_m400 170 42 - 1 : Int).toNat) (s_m400 170 42 - 1) s_m400 ⟨gI_m400, fI_m400, (show s_m400 170 4 ≤ s_m400 170 5 ∧ s_m400 170 5 ≤ s_m400 170 2 ∧ (s_m400 170 3 = 0 ∧ s_m400 170 4 = s_m400 170 2 ∨ 1 ≤ s_m400 170 3 ∧ s_m400 170 4 < s_m400 170 5) from by omega), (show s_m400 170 4 = st 170 4 ∧ s_m400 170 5 = st 170 5 ∧ s_m400 170 3 = st 170 3 from by omega), (show PF s_m400 1 (st 170 4) from pf_m400), (show ∀ i : Nat, (i : Int) < 1600 * st 170 35 + st 170 34 ∨ 1600 * st 170 35 + 1600 ≤ (i : Int) → s_m400 188 i = st 188 i from o_m400), (show st 170 34 ≤ s_m400 170 34 from by omega), (show (s_m400 170 42 - 1) = s_m400 170 42 - 1 from by omega), (show (s_m400 192 (s_m400 170 42 - 1 : Int).toNat) = s_m400 192 (s_m400 170 42 - 1 : Int).toNat from by omega), (show s_m400 170 46 = 1 from by omega)⟩
    · refine ⟨rfl, ⟨gI_m400, (show 1 ≤ (1) ∧ (1) ≤ 6 from by omega), (show -2147483648 ≤ (s_m400 170 4) ∧ (s_m400 170 4) ≤ 2147483647 from by omega)⟩, fun s277 q277 => ?_⟩
      obtain ⟨gs277, fs277, p277⟩ := q277
      change (s_m400 170 8 = 0 → s277 170 8 = (1)) ∧ (0 < s_m400 170 8 → s277 170 8 = s_m400 170 8) at p277
      have g281 := g_faultKind gs277
      have e282 : s277 170 4 = s_m400 170 4 := fs277 170 4 rfl rfl
      have e283 : s277 170 5 = s_m400 170 5 := fs277 170 5 rfl rfl
      have e284 : s277 170 2 = s_m400 170 2 := fs277 170 2 rfl rfl
      have e285 : s277 170 3 = s_m400 170 3 := fs277 170 3 rfl rfl
      have e286 : s277 170 34 = s_m400 170 34 := fs277 170 34 rfl rfl
      have e287 : s277 170 42 = s_m400 170 42 := fs277 170 42 rfl rfl
      have e288 : s277 192 (s277 170 42 - 1 : Int).toNat = s_m400 192 (s_m400 170 42 - 1 : Int).toNat := (fs277 192 (s277 170 42 - 1 : Int).toNat rfl rfl).trans (by rw [e287] <;> rfl)
      have e289 : s277 170 46 = s_m400 170 46 := fs277 170 46 rfl rfl
      exact goesOn_m422 hX t (s_m400 192 (s_m400 170 42 - 1 : Int).toNat) (s_m400 170 42 - 1) s277 ⟨gs277, (fr_tr fI_m400 fs277 rfl), (show s277 170 4 ≤ s277 170 5 ∧ s277 170 5 ≤ s277 170 2 ∧ (s277 170 3 = 0 ∧ s277 170 4 = s277 170 2 ∨ 1 ≤ s277 170 3 ∧ s277 170 4 < s277 170 5) from by omega), (show s277 170 4 = st 170 4 ∧ s277 170 5 = st 170 5 ∧ s277 170 3 = st 170 3 from by omega), (show PF s277 1 (st 170 4) from (PF_fr rfl fs277 pf_m400)), (show ∀ i : Nat, (i : Int) < 1600 * st 170 35 + st 170 34 ∨ 1600 * st 170 35 + 1600 ≤ (i : Int) → s277 188 i = st 188 i from (fun i hi => (fs277 188 i rfl rfl).trans (o_m400 i hi))), (show st 170 34 ≤ s277 170 34 from by omega), (show (s_m400 170 42 - 1) = s277 170 42 - 1 from by omega), (show (s_m400 192 (s_m400 170 42 - 1 : Int).toNat) = s277 192 (s277 170 42 - 1 : Int).toNat from by omega), (show s277 170 46 = 1 from by omega)⟩
end R6b
