/-! printed by wip/p32/lib5.py -/
section R6b
variable {cl : Nat → zCall}
set_option maxHeartbeats 40000000 in
set_option maxRecDepth 100000 in
theorem goesOn_m531 {d : Nat} {st : zS} {Q : zQ} {K : zG} (hX : cx_goesOn cl d  st Q K) : ∀ (c : Int) (t : Int) (k : Int) (f : Int) (s_m531 : zS), gInv zgt s_m531 ∧ aFr m_goesOn st s_m531 ∧ (s_m531 170 4 ≤ s_m531 170 5 ∧ s_m531 170 5 ≤ s_m531 170 2 ∧ (s_m531 170 3 = 0 ∧ s_m531 170 4 = s_m531 170 2 ∨ 1 ≤ s_m531 170 3 ∧ s_m531 170 4 < s_m531 170 5)) ∧ (s_m531 170 4 = st 170 4 ∧ s_m531 170 5 = st 170 5 ∧ s_m531 170 3 = st 170 3) ∧ (PF s_m531 1 (st 170 4)) ∧ (∀ i : Nat, (i : Int) < 1600 * st 170 35 + st 170 34 ∨ 1600 * st 170 35 + 1600 ≤ (i : Int) → s_m531 188 i = st 188 i) ∧ (st 170 34 ≤ s_m531 170 34) ∧ (f = s_m531 170 42 - 1) ∧ (k = s_m531 192 (s_m531 170 42 - 1 : Int).toNat) ∧ (s_m531 170 46 = 1) ∧ (k = 2 ∨ k = 4 ∨ k = 5) → K (rx_find rx_m197 531) [(3, .inl t), (2, .inl k), (1, .inl f), (0, .inr (.inr (.inl 170)))] [.inl c, .inr (.inr (.inl 170))] s_m531 := by
  obtain ⟨hcl, hsl, hcm, hR, hQ⟩ := id hX
  obtain ⟨hG, lx, pf, f0⟩ := hR
  change st 170 4 ≤ st 170 5 ∧ st 170 5 ≤ st 170 2 ∧ (st 170 3 = 0 ∧ st 170 4 = st 170 2 ∨ 1 ≤ st 170 3 ∧ st 170 4 < st 170 5) at lx
  change PF st 1 (st 170 4) at pf
  change st 170 8 = 0 ∧ st 170 46 = 1 at f0
  intro c t k f s_m531 hi
  obtain ⟨gI_m531, fI_m531, lx_m531, sm_m531, pf_m531, o_m531, c_m531, f_m531, k_m531, oo_m531, kk_m531⟩ := hi
  subst f_m531
  subst k_m531
  have g75 := g_signAt hG
  have g76 := g_signEnd hG
  have g77 := g_size hG
  have g78 := g_sign hG
  have g79 := g_faultKind hG
  have g80 := g_operand hG
  have PF1 := PF_f pf_m531
  have g81 := g_signAt gI_m531
  have g82 := g_signEnd gI_m531
  have e83 : s_m531 170 2 = st 170 2 := fI_m531 170 2 rfl rfl
  have g84 := g_sign gI_m531
  have g85 := g_in hG
  have g86 := g_codes hG
  have g87 := g_codes gI_m531
  have g88 := g_deep gI_m531
  have g89 := g_frame gI_m531 (s_m531 170 42 - 1 : Int).toNat
  have g90 := g_operand gI_m531
  have e91 : s_m531 170 35 = st 170 35 := fI_m531 170 35 rfl rfl
  have g92 := g_open gI_m531
  have g93 := g_opMany gI_m531
  have g94 := g_faultKind gI_m531
  refine yr1_ok (Rt := Q) (wc := (wcL [(181, k_lex), (195, k_isTest), (183, k_isWord), (182, k_isSign), (178, k_blame), (192, k_holdsBack), (149, k_ahead), (189, k_add), (191, k_joins)])) (stp := [531, 546]) hcm hcl [] 400 ?_
  show (170 = 170 ∧ (∀ (r95 : Int), en_isSign c s_m531 r95 → ((¬ r95 = (0 : Int) → K (rx_find rx_m197 546) [(3, .inl t), (2, .inl (s_m531 192 (s_m531 170 42 - 1 : Int).toNat)), (1, .inl (s_m531 170 42 - 1)), (0, .inr (.inr (.inl 170)))] [] s_m531) ∧ (¬ (¬ r95 = (0 : Int)) → (170 = 170 ∧ (rq_blame (1) (s_m531 170 4) s_m531 ∧ (∀ (s96 : zS), en_blame (1) (s_m531 170 4) s_m531 s96 → K (rx_find rx_m197 546) [(3, .inl t), (2, .inl (s_m531 192 (s_m531 170 42 - 1 : Int).toNat)), (1, .inl (s_m531 170 42 - 1)), (0, .inr (.inr (.inl 170)))] [] s96)))))))
  refine ⟨rfl, fun r95 q95 => ?_⟩
  have b95 := q95
  change (r95 = 0 ∨ r95 = 1) ∧ (r95 = 1 ↔ s_m531 170 3 = 3 ∧ s_m531 170 6 = c) at b95
  have g97 := g_value gI_m531
  refine ⟨fun h98 => ?_, fun h98 => ?_⟩
  · have b95_ : r95 = 1 := by omega
    replace b95 := b95.2.mp b95_
    exact goesOn_m546 hX t (s_m531 192 (s_m531 170 42 - 1 : Int).toNat) (s_m531 170 42 - 1) s_m531 ⟨gI_m531, fI_m531, (show s_m531 170 4 ≤ s_m531 170 5 ∧ s_m531 170 5 ≤ s_m531 170 2 ∧ (s_m531 170 3 = 0 ∧ s_m531 170 4 = s_m531 170 2 ∨ 1 ≤ s_m531 170 3 ∧ s_m531 170 4 < s_m531 170 5) from by omega), (show s_m531 170 4 = st 170 4 ∧ s_m531 170 5 = st 170 5 ∧ s_m531 170 3 = st 170 3 from by omega), (show PF s_m531 1 (st 170 4) from pf_m531), (show ∀ i : Nat, (i : Int) < 1600 * st 170 35 + st 170 34 ∨ 1600 * st 170 35 + 1600 ≤ (i : Int) → s_m531 188 i = st 188 i from o_m531), (show st 170 34 ≤ s_m531 170 34 from by omega), (show (s_m531 170 42 - 1) = s_m531 170 42 - 1 from by omega), (show (s_m531 192 (s_m531 170 42 - 1 : Int).toNat) = s_m531 192 (s_m531 170 42 - 1 : Int).toNat from by omega), (show s_m531 170 46 = 1 from by omega), (show s_m531 170 8 = 0 → 1 ≤ s_m531 170 3 from by omega), (show (s_m531 192 (s_m531 170 42 - 1 : Int).toNat) = 2 ∨ (s_m531 192 (s_m531 170 42 - 1 : Int).toNat) = 4 ∨ (s_m531 192 (s_m531 170 42 - 1 : Int).toNat) = 5 from by omega)⟩
  · clear b95
    refine ⟨rfl, ⟨gI_m531, (show 1 ≤ (1) ∧ (1) ≤ 6 from by omega), (show -2147483648 ≤ (s_m531 170 4) ∧ (s_m531 170 4) ≤ 2147483647 from by omega)⟩, fun s96 q96 => ?_⟩
    obtain ⟨gs96, fs96, p96⟩ := q96
    change (s_m531 170 8 = 0 → s96 170 8 = (1)) ∧ (0 < s_m531 170 8 → s96 170 8 = s_m531 170 8) at p96
    have g99 := g_faultKind gs96
    have e100 : s96 170 4 = s_m531 170 4 := fs96 170 4 rfl rfl
    have e101 : s96 170 5 = s_m531 170 5 := fs96 170 5 rfl rfl
    have e102 : s96 170 2 = s_m531 170 2 := fs96 170 2 rfl rfl
    have e103 : s96 170 3 = s_m531 170 3 := fs96 170 3 rfl rfl
    have e104 : s96 170 34 = s_m531 170 34 := fs96 170 34 rfl rfl
    have e105 : s96 170 42 = s_m531 170 42 := fs96 170 42 rfl rfl
    have e106 : s96 192 (s96 170 42 - 1 : Int).toNat = s_m531 192 (s_m531 170 42 - 1 : Int).toNat := (fs96 192 (s96 170 42 - 1 : Int).toNat rfl rfl).trans (by rw [e105] <;> rfl)
    have e107 : s96 170 46 = s_m531 170 46 := fs96 170 46 rfl rfl
    exact goesOn_m546 hX t (s_m531 192 (s_m531 170 42 - 1 : Int).toNat) (s_m531 170 42 - 1) s96 ⟨gs96, (fr_tr fI_m531 fs96 rfl), (show s96 170 4 ≤ s96 170 5 ∧ s96 170 5 ≤ s96 170 2 ∧ (s96 170 3 = 0 ∧ s96 170 4 = s96 170 2 ∨ 1 ≤ s96 170 3 ∧ s96 170 4 < s96 170 5) from by omega), (show s96 170 4 = st 170 4 ∧ s96 170 5 = st 170 5 ∧ s96 170 3 = st 170 3 from by omega), (show PF s96 1 (st 170 4) from (PF_fr rfl fs96 pf_m531)), (show ∀ i : Nat, (i : Int) < 1600 * st 170 35 + st 170 34 ∨ 1600 * st 170 35 + 1600 ≤ (i : Int) → s96 188 i = st 188 i from (fun i hi => (fs96 188 i rfl rfl).trans (o_m531 i hi))), (show st 170 34 ≤ s96 170 34 from by omega), (show (s_m531 170 42 - 1) = s96 170 42 - 1 from by omega), (show (s_m531 192 (s_m531 170 42 - 1 : Int).toNat) = s96 192 (s96 170 42 - 1 : Int).toNat from by omega), (show s96 170 46 = 1 from by omega), (show s96 170 8 = 0 → 1 ≤ s96 170 3 from by omega), (show (s_m531 192 (s_m531 170 42 - 1 : Int).toNat) = 2 ∨ (s_m531 192 (s_m531 170 42 - 1 : Int).toNat) = 4 ∨ (s_m531 192 (s_m531 170 42 - 1 : Int).toNat) = 5 from by omega)⟩
end R6b
