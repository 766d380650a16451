/-! printed by wip/p32/lib5.py -/
section R6b
variable {cl : Nat → zCall}
set_option maxHeartbeats 40000000 in
set_option maxRecDepth 100000 in
theorem goesOn_m422 {d : Nat} {st : zS} {Q : zQ} {K : zG} (hX : cx_goesOn cl d  st Q K) : ∀ (t : Int) (k : Int) (f : Int) (s_m422 : zS), gInv zgt s_m422 ∧ aFr m_goesOn st s_m422 ∧ (s_m422 170 4 ≤ s_m422 170 5 ∧ s_m422 170 5 ≤ s_m422 170 2 ∧ (s_m422 170 3 = 0 ∧ s_m422 170 4 = s_m422 170 2 ∨ 1 ≤ s_m422 170 3 ∧ s_m422 170 4 < s_m422 170 5)) ∧ (s_m422 170 4 = st 170 4 ∧ s_m422 170 5 = st 170 5 ∧ s_m422 170 3 = st 170 3) ∧ (PF s_m422 1 (st 170 4)) ∧ (∀ i : Nat, (i : Int) < 1600 * st 170 35 + st 170 34 ∨ 1600 * st 170 35 + 1600 ≤ (i : Int) → s_m422 188 i = st 188 i) ∧ (st 170 34 ≤ s_m422 170 34) ∧ (f = s_m422 170 42 - 1) ∧ (k = s_m422 192 (s_m422 170 42 - 1 : Int).toNat) ∧ (s_m422 170 46 = 1) → K (rx_find rx_m197 422) [(3, .inl t), (2, .inl k), (1, .inl f), (0, .inr (.inr (.inl 170)))] [] s_m422 := by
  obtain ⟨hcl, hsl, hcm, hR, hQ⟩ := id hX
  obtain ⟨hG, lx, pf, f0⟩ := hR
  change st 170 4 ≤ st 170 5 ∧ st 170 5 ≤ st 170 2 ∧ (st 170 3 = 0 ∧ st 170 4 = st 170 2 ∨ 1 ≤ st 170 3 ∧ st 170 4 < st 170 5) at lx
  change PF st 1 (st 170 4) at pf
  change st 170 8 = 0 ∧ st 170 46 = 1 at f0
  intro t k f s_m422 hi
  obtain ⟨gI_m422, fI_m422, lx_m422, sm_m422, pf_m422, o_m422, c_m422, f_m422, k_m422, oo_m422⟩ := hi
  subst f_m422
  subst k_m422
  have g216 := g_signAt hG
  have g217 := g_signEnd hG
  have g218 := g_size hG
  have g219 := g_sign hG
  have g220 := g_faultKind hG
  have g221 := g_operand hG
  have PF1 := PF_f pf_m422
  have g222 := g_signAt gI_m422
  have g223 := g_signEnd gI_m422
  have e224 : s_m422 170 2 = st 170 2 := fI_m422 170 2 rfl rfl
  have g225 := g_sign gI_m422
  have g226 := g_in hG
  have g227 := g_codes hG
  have g228 := g_codes gI_m422
  have g229 := g_deep gI_m422
  have g230 := g_frame gI_m422 (s_m422 170 42 - 1 : Int).toNat
  have g231 := g_operand gI_m422
  have e232 : s_m422 170 35 = st 170 35 := fI_m422 170 35 rfl rfl
  have g233 := g_open gI_m422
  have g234 := g_opMany gI_m422
  have g235 := g_faultKind gI_m422
  refine yr1_ok (Rt := Q) (wc := (wcL [(181, k_lex), (195, k_isTest), (183, k_isWord), (182, k_isSign), (178, k_blame), (192, k_holdsBack), (149, k_ahead), (189, k_add), (191, k_joins)])) (stp := [422, 452, 470, 518, 531, 546]) hcm hcl [] 400 ?_
  show (((2 : Int) ≤ (s_m422 192 (s_m422 170 42 - 1 : Int).toNat) → (((s_m422 192 (s_m422 170 42 - 1 : Int).toNat) = (3 : Int) → K (rx_find rx_m197 452) [(3, .inl t), (2, .inl (s_m422 192 (s_m422 170 42 - 1 : Int).toNat)), (1, .inl (s_m422 170 42 - 1)), (0, .inr (.inr (.inl 170)))] [] s_m422) ∧ (¬ ((s_m422 192 (s_m422 170 42 - 1 : Int).toNat) = (3 : Int)) → ((¬ (s_m422 192 (s_m422 170 42 - 1 : Int).toNat) = (6 : Int) → K (rx_find rx_m197 518) [(3, .inl t), (2, .inl (s_m422 192 (s_m422 170 42 - 1 : Int).toNat)), (1, .inl (s_m422 170 42 - 1)), (0, .inr (.inr (.inl 170)))] [] s_m422) ∧ (¬ (¬ (s_m422 192 (s_m422 170 42 - 1 : Int).toNat) = (6 : Int)) → K (rx_find rx_m197 452) [(3, .inl t), (2, .inl (s_m422 192 (s_m422 170 42 - 1 : Int).toNat)), (1, .inl (s_m422 170 42 - 1)), (0, .inr (.inr (.inl 170)))] [] s_m422))))) ∧ (¬ ((2 : Int) ≤ (s_m422 192 (s_m422 170 42 - 1 : Int).toNat)) → ((¬ s_m422 170 8 = (0 : Int) → ((0 = (0 : Int) ∨ 0 = (1 : Int)) ∧ Q (some (.inl 0)) s_m422)) ∧ (¬ (¬ s_m422 170 8 = (0 : Int)) → (170 = 170 ∧ (rq_joins (1) s_m422 ∧ (∀ (s236 : zS), en_joins (1) s_m422 s236 → ((0 = (0 : Int) ∨ 0 = (1 : Int)) ∧ Q (some (.inl 0)) s236))))))))
  refine ⟨fun h237 => ?_, fun h237 => ?_⟩
  · refine ⟨fun h238 => ?_, fun h238 => ?_⟩
    · exact goesOn_m452 hX t (s_m422 192 (s_m422 170 42 - 1 : Int).toNat) (s_m422 170 42 - 1) s_m422 ⟨gI_m422, fI_m422, (show s_m422 170 4 ≤ s_m422 170 5 ∧ s_m422 170 5 ≤ s_m422 170 2 ∧ (s_m422 170 3 = 0 ∧ s_m422 170 4 = s_m422 170 2 ∨ 1 ≤ s_m422 170 3 ∧ s_m422 170 4 < s_m422 170 5) from by omega), (show s_m422 170 4 = st 170 4 ∧ s_m422 170 5 = st 170 5 ∧ s_m422 170 3 = st 170 3 from by omega), (show PF s_m422 1 (st 170 4) from pf_m422), (show ∀ i : Nat, (i : Int) < 1600 * st 170 35 + st 170 34 ∨ 1600 * st 170 35 + 1600 ≤ (i : Int) → s_m422 188 i = st 188 i from o_m422), (show st 170 34 ≤ s_m422 170 34 from by omega), (show (s_m422 170 42 - 1) = s_m422 170 42 - 1 from by omega), (show (s_m422 192 (s_m422 170 42 - 1 : Int).toNat) = s_m422 192 (s_m422 170 42 - 1 : Int).toNat from by omega), (show s_m422 170 46 = 1 from by omega), (show (s_m422 192 (s_m422 170 42 - 1 : Int).toNat) = 3 ∨ (s_m422 192 (s_m422 170 42 - 1 : Int).toNat) = 6 from by omega)⟩
    · refine ⟨fun h239 => ?_, fun h239 => ?_⟩
      · exact goesOn_m518 hX t (s_m422 192 (s_m422 170 42 - 1 : Int).toNat) (s_m422 170 42 - 1) s_m422 ⟨gI_m422, fI_m422, (show s_m422 170 4 ≤ s_m422 170 5 ∧ s_m422 170 5 ≤ s_m422 170 2 ∧ (s_m422 170 3 = 0 ∧ s_m422 170 4 = s_m422 170 2 ∨ 1 ≤ s_m422 170 3 ∧ s_m422 170 4 < s_m422 170 5) from by omega), (show s_m422 170 4 = st 170 4 ∧ s_m422 170 5 = st 170 5 ∧ s_m422 170 3 = st 170 3 from by omega), (show PF s_m422 1 (st 170 4) from pf_m422), (show ∀ i : Nat, (i : Int) < 1600 * st 170 35 + st 170 34 ∨ 1600 * st 170 35 + 1600 ≤ (i : Int) → s_m422 188 i = st 188 i from o_m422), (show st 170 34 ≤ s_m422 170 34 from by omega), (show (s_m422 170 42 - 1) = s_m422 170 42 - 1 from by omega), (show (s_m422 192 (s_m422 170 42 - 1 : Int).toNat) = s_m422 192 (s_m422 170 42 - 1 : Int).toNat from by omega), (show s_m422 170 46 = 1 from by omega), (show (s_m422 192 (s_m422 170 42 - 1 : Int).toNat) = 2 ∨ (s_m422 192 (s_m422 170 42 - 1 : Int).toNat) = 4 ∨ (s_m422 192 (s_m422 170 42 - 1 : Int).toNat) = 5 from by omega)⟩
      · exact goesOn_m452 hX t (s_m422 192 (s_m422 170 42 - 1 : Int).toNat) (s_m422 170 42 - 1) s_m422 ⟨gI_m422, fI_m422, (show s_m422 170 4 ≤ s_m422 170 5 ∧ s_m422 170 5 ≤ s_m422 170 2 ∧ (s_m422 170 3 = 0 ∧ s_m422 170 4 = s_m422 170 2 ∨ 1 ≤ s_m422 170 3 ∧ s_m422 170 4 < s_m422 170 5) from by omega), (show s_m422 170 4 = st 170 4 ∧ s_m422 170 5 = st 170 5 ∧ s_m422 170 3 = st 170 3 from by omega), (show PF s_m422 1 (st 170 4) from pf_m422), (show ∀ i : Nat, (i : Int) < 1600 * st 170 35 + st 170 34 ∨ 1600 * st 170 35 + 1600 ≤ (i : Int) → s_m422 188 i = st 188 i from o_m422), (show st 170 34 ≤ s_m422 170 34 from by omega), (show (s_m422 170 42 - 1) = s_m422 170 42 - 1 from by omega), (show (s_m422 192 (s_m422 170 42 - 1 : Int).toNat) = s_m422 192 (s_m422 170 42 - 1 : Int).toNat from by omega), (show s_m422 170 46 = 1 from by omega), (show (s_m422 192 (s_m422 170 42 - 1 : Int).toNat) = 3 ∨ (s_m422 192 (s_m422 170 42 - 1 : Int).toNat) = 6 from by omega)⟩
  · refine ⟨fun h240 => ?_, fun h240 => ?_⟩
    · refine ⟨by omega, ?_⟩
      exact hQ _ _ ⟨gI_m422, fI_m422, (show s_m422 170 4 ≤ s_m422 170 5 ∧ s_m422 170 5 ≤ s_m422 170 2 ∧ (s_m422 170 3 = 0 ∧ s_m422 170 4 = s_m422 170 2 ∨ 1 ≤ s_m422 170 3 ∧ s_m422 170 4 < s_m422 170 5) ∧ st 170 4 ≤ s_m422 170 4 from by omega), (show ((0 : Int) = 0 ∨ (0 : Int) = 1) from by omega), (show s_m422 170 8 = 0 → ((0 : Int) = 1 → st 170 5 ≤ s_m422 170 4 ∧ 1 ≤ st 170 3 ∧ PF s_m422 (s_m422 170 46) (s_m422 170 4)) ∧ ((0 : Int) = 0 → PF s_m422 1 (s_m422 170 4)) from fun z => absurd z (by omega)), (show ∀ i : Nat, (i : Int) < 1600 * st 170 35 + st 170 34 ∨ 1600 * st 170 35 + 1600 ≤ (i : Int) → s_m422 188 i = st 188 i from o_m422), (show st 170 34 ≤ s_m422 170 34 from by omega)⟩
    · refine ⟨rfl, ⟨gI_m422, (show PF s_m422 1 (s_m422 170 4) from PF_q pf_m422 (by omega) (by omega))⟩, fun s236 q236 => ?_⟩
      obtain ⟨gs236, fs236, pf236, x236, o236, c236⟩ := q236
      change PF s236 1 (s_m422 170 4) at pf236
      change s236 170 45 = s236 196 (s236 170 42 - 1 : Int).toNat ∨ rkf (s236 197 (s236 170 45 - 1 : Int).toNat) < (1) at x236
      have g241 := g_opMany gs236
      have e242 : s236 170 42 = s_m422 170 42 := fs236 170 42 rfl rfl
      have g244 := g_base gI_m422 (s_m422 170 42 - 1 : Int).toNat
      have e243 : s236 196 (s236 170 42 - 1 : Int).toNat = s_m422 196 (s_m422 170 42 - 1 : Int).toNat := (fs236 196 (s236 170 42 - 1 : Int).toNat rfl rfl).trans (by rw [e242] <;> rfl)
      have g246 := g_ops gI_m422 (s236 170 45 - 1 : Int).toNat
      have e245 : s236 197 (s236 170 45 - 1 : Int).toNat = s_m422 197 (s236 170 45 - 1 : Int).toNat := fs236 197 (s236 170 45 - 1 : Int).toNat rfl rfl
      change ∀ i : Nat, (i : Int) < 1600 * s_m422 170 35 + s_m422 170 34 ∨ 1600 * s_m422 170 35 + 1600 ≤ (i : Int) → s236 188 i = s_m422 188 i at o236
      change s_m422 170 34 ≤ s236 170 34 ∧ s236 170 34 + s236 170 45 = s_m422 170 34 + s_m422 170 45 at c236
      have g247 := g_codes gs236
      have PJ236 := PF_f pf236
      have e248 : s236 170 46 = s_m422 170 46 := fs236 170 46 rfl rfl
      have e249 : s236 192 (s236 170 42 - 1 : Int).toNat = s_m422 192 (s_m422 170 42 - 1 : Int).toNat := (fs236 192 (s236 170 42 - 1 : Int).toNat rfl rfl).trans (by rw [e242] <;> rfl)
      have g251 := g_phase gI_m422 (s_m422 170 42 - 1 : Int).toNat
      have e250 : s236 193 (s236 170 42 - 1 : Int).toNat = s_m422 193 (s_m422 170 42 - 1 : Int).toNat := (fs236 193 (s236 170 42 - 1 : Int).toNat rfl rfl).trans (by rw [e242] <;> rfl)
      refine ⟨by omega, ?_⟩
      have e252 : s236 170 4 = s_m422 170 4 := fs236 170 4 rfl rfl
      have e253 : s236 170 5 = s_m422 170 5 := fs236 170 5 rfl rfl
      have e254 : s236 170 2 = s_m422 170 2 := fs236 170 2 rfl rfl
      have e255 : s236 170 3 = s_m422 170 3 := fs236 170 3 rfl rfl
      have e256 : s236 170 8 = s_m422 170 8 := fs236 170 8 rfl rfl
      exact hQ _ _ ⟨gs236, (fr_tr fI_m422 fs236 rfl), (show s236 170 4 ≤ s236 170 5 ∧ s236 170 5 ≤ s236 170 2 ∧ (s236 170 3 = 0 ∧ s236 170 4 = s236 170 2 ∨ 1 ≤ s236 170 3 ∧ s236 170 4 < s236 170 5) ∧ st 170 4 ≤ s236 170 4 from by omega), (show ((0 : Int) = 0 ∨ (0 : Int) = 1) from by omega), (show s236 170 8 = 0 → ((0 : Int) = 1 → st 170 5 ≤ s236 170 4 ∧ 1 ≤ st 170 3 ∧ PF s236 (s236 170 46) (s236 170 4)) ∧ ((0 : Int) = 0 → PF s236 1 (s236 170 4)) from fun z => ⟨fun z1 => absurd z1 (by omega), fun _ => PF_q pf236 (by omega) (by omega)⟩), (show ∀ i : Nat, (i : Int) < 1600 * st 170 35 + st 170 34 ∨ 1600 * st 170 35 + 1600 ≤ (i : Int) → s236 188 i = st 188 i from (fun i hi => (o236 i (by omega)).trans (o_m422 i hi))), (show st 170 34 ≤ s236 170 34 from by omega)⟩
end R6b
