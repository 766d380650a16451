/-! printed by wip/p32/lib5.py -/
section R6b
variable {cl : Nat → zCall}
set_option maxHeartbeats 40000000 in
set_option maxRecDepth 100000 in
theorem goesOn_m452 {d : Nat} {st : zS} {Q : zQ} {K : zG} (hX : cx_goesOn cl d  st Q K) : ∀ (t : Int) (k : Int) (f : Int) (s_m452 : zS), gInv zgt s_m452 ∧ aFr m_goesOn st s_m452 ∧ (s_m452 170 4 ≤ s_m452 170 5 ∧ s_m452 170 5 ≤ s_m452 170 2 ∧ (s_m452 170 3 = 0 ∧ s_m452 170 4 = s_m452 170 2 ∨ 1 ≤ s_m452 170 3 ∧ s_m452 170 4 < s_m452 170 5)) ∧ (s_m452 170 4 = st 170 4 ∧ s_m452 170 5 = st 170 5 ∧ s_m452 170 3 = st 170 3) ∧ (PF s_m452 1 (st 170 4)) ∧ (∀ i : Nat, (i : Int) < 1600 * st 170 35 + st 170 34 ∨ 1600 * st 170 35 + 1600 ≤ (i : Int) → s_m452 188 i = st 188 i) ∧ (st 170 34 ≤ s_m452 170 34) ∧ (f = s_m452 170 42 - 1) ∧ (k = s_m452 192 (s_m452 170 42 - 1 : Int).toNat) ∧ (s_m452 170 46 = 1) ∧ (k = 3 ∨ k = 6) → K (rx_find rx_m197 452) [(3, .inl t), (2, .inl k), (1, .inl f), (0, .inr (.inr (.inl 170)))] [] s_m452 := by
  obtain ⟨hcl, hsl, hcm, hR, hQ⟩ := id hX
  obtain ⟨hG, lx, pf, f0⟩ := hR
  change st 170 4 ≤ st 170 5 ∧ st 170 5 ≤ st 170 2 ∧ (st 170 3 = 0 ∧ st 170 4 = st 170 2 ∨ 1 ≤ st 170 3 ∧ st 170 4 < st 170 5) at lx
  change PF st 1 (st 170 4) at pf
  change st 170 8 = 0 ∧ st 170 46 = 1 at f0
  intro t k f s_m452 hi
  obtain ⟨gI_m452, fI_m452, lx_m452, sm_m452, pf_m452, o_m452, c_m452, f_m452, k_m452, oo_m452, kk_m452⟩ := hi
  subst f_m452
  subst k_m452
  have g183 := g_signAt hG
  have g184 := g_signEnd hG
  have g185 := g_size hG
  have g186 := g_sign hG
  have g187 := g_faultKind hG
  have g188 := g_operand hG
  have PF1 := PF_f pf_m452
  have g189 := g_signAt gI_m452
  have g190 := g_signEnd gI_m452
  have e191 : s_m452 170 2 = st 170 2 := fI_m452 170 2 rfl rfl
  have g192 := g_sign gI_m452
  have g193 := g_in hG
  have g194 := g_codes hG
  have g195 := g_codes gI_m452
  have g196 := g_deep gI_m452
  have g197 := g_frame gI_m452 (s_m452 170 42 - 1 : Int).toNat
  have g198 := g_operand gI_m452
  have e199 : s_m452 170 35 = st 170 35 := fI_m452 170 35 rfl rfl
  have g200 := g_open gI_m452
  have g201 := g_opMany gI_m452
  have g202 := g_faultKind gI_m452
  refine yr1_ok (Rt := Q) (wc := (wcL [(181, k_lex), (195, k_isTest), (183, k_isWord), (182, k_isSign), (178, k_blame), (192, k_holdsBack), (149, k_ahead), (189, k_add), (191, k_joins)])) (stp := [452, 470, 518, 531, 546]) hcm hcl [] 400 ?_
  show (170 = 170 ∧ (∀ (r203 : Int), en_isSign (44) s_m452 r203 → ((¬ r203 = (0 : Int) → K (rx_find rx_m197 470) [(3, .inl t), (2, .inl (s_m452 192 (s_m452 170 42 - 1 : Int).toNat)), (1, .inl (s_m452 170 42 - 1)), (0, .inr (.inr (.inl 170)))] [] s_m452) ∧ (¬ (¬ r203 = (0 : Int)) → (170 = 170 ∧ (rq_blame (1) (s_m452 170 4) s_m452 ∧ (∀ (s204 : zS), en_blame (1) (s_m452 170 4) s_m452 s204 → K (rx_find rx_m197 470) [(3, .inl t), (2, .inl (s_m452 192 (s_m452 170 42 - 1 : Int).toNat)), (1, .inl (s_m452 170 42 - 1)), (0, .inr (.inr (.inl 170)))] [] s204)))))))
  refine ⟨rfl, fun r203 q203 => ?_⟩
  have b203 := q203
  change (r203 = 0 ∨ r203 = 1) ∧ (r203 = 1 ↔ s_m452 170 3 = 3 ∧ s_m452 170 6 = (44)) at b203
  have g205 := g_value gI_m452
  refine ⟨fun h206 => ?_, fun h206 => ?_⟩
  · have b203_ : r203 = 1 := by omega
    replace b203 := b203.2.mp b203_
    exact goesOn_m470 hX t (s_m452 192 (s_m452 170 42 - 1 : Int).toNat) (s_m452 170 42 - 1) s_m452 ⟨gI_m452, fI_m452, (show s_m452 170 4 ≤ s_m452 170 5 ∧ s_m452 170 5 ≤ s_m452 170 2 ∧ (s_m452 170 3 = 0 ∧ s_m452 170 4 = s_m452 170 2 ∨ 1 ≤ s_m452 170 3 ∧ s_m452 170 4 < s_m452 170 5) from by omega), (show s_m452 170 4 = st 170 4 ∧ s_m452 170 5 = st 170 5 ∧ s_m452 170 3 = st 170 3 from by omega), (show PF s_m452 1 (st 170 4) from pf_m452), (show ∀ i : Nat, (i : Int) < 1600 * st 170 35 + st 170 34 ∨ 1600 * st 170 35 + 1600 ≤ (i : Int) → s_m452 188 i = st 188 i from o_m452), (show st 170 34 ≤ s_m452 170 34 from by omega), (show (s_m452 170 42 - 1) = s_m452 170 42 - 1 from by omega), (show (s_m452 192 (s_m452 170 42 - 1 : Int).toNat) = s_m452 192 (s_m452 170 42 - 1 : Int).toNat from by omega), (show s_m452 170 46 = 1 from by omega), (show s_m452 170 8 = 0 → 1 ≤ s_m452 170 3 from by omega), (show (s_m452 192 (s_m452 170 42 - 1 : Int).toNat) = 3 ∨ (s_m452 192 (s_m452 170 42 - 1 : Int).toNat) = 6 from by omega)⟩
  · clear b203
    refine ⟨rfl, ⟨gI_m452, (show 1 ≤ (1) ∧ (1) ≤ 6 from by omega), (show -2147483648 ≤ (s_m452 170 4) ∧ (s_m452 170 4) ≤ 2147483647 from by omega)⟩, fun s204 q204 => ?_⟩
    obtain ⟨gs204, fs204, p204⟩ := q204
    change (s_m452 170 8 = 0 → s204 170 8 = (1)) ∧ (0 < s_m452 170 8 → s204 170 8 = s_m452 170 8) at p204
    have g207 := g_faultKind gs204
    have e208 : s204 170 4 = s_m452 170 4 := fs204 170 4 rfl rfl
    have e209 : s204 170 5 = s_m452 170 5 := fs204 170 5 rfl rfl
    have e210 : s204 170 2 = s_m452 170 2 := fs204 170 2 rfl rfl
    have e211 : s204 170 3 = s_m452 170 3 := fs204 170 3 rfl rfl
    have e212 : s204 170 34 = s_m452 170 34 := fs204 170 34 rfl rfl
    have e213 : s204 170 42 = s_m452 170 42 := fs204 170 42 rfl rfl
    have e214 : s204 192 (s204 170 42 - 1 : Int).toNat = s_m452 192 (s_m452 170 42 - 1 : Int).toNat := (fs204 192 (s204 170 42 - 1 : Int).toNat rfl rfl).trans (by rw [e213] <;> rfl)
    have e215 : s204 170 46 = s_m452 170 46 := fs204 170 46 rfl rfl
    exact goesOn_m470 hX t (s_m452 192 (s_m452 170 42 - 1 : Int).toNat) (s_m452 170 42 - 1) s204 ⟨gs204, (fr_tr fI_m452 fs204 rfl), (show s204 170 4 ≤ s204 170 5 ∧ s204 170 5 ≤ s204 170 2 ∧ (s204 170 3 = 0 ∧ s204 170 4 = s204 170 2 ∨ 1 ≤ s204 170 3 ∧ s204 170 4 < s204 170 5) from by omega), (show s204 170 4 = st 170 4 ∧ s204 170 5 = st 170 5 ∧ s204 170 3 = st 170 3 from by omega), (show PF s204 1 (st 170 4) from (PF_fr rfl fs204 pf_m452)), (show ∀ i : Nat, (i : Int) < 1600 * st 170 35 + st 170 34 ∨ 1600 * st 170 35 + 1600 ≤ (i : Int) → s204 188 i = st 188 i from (fun i hi => (fs204 188 i rfl rfl).trans (o_m452 i hi))), (show st 170 34 ≤ s204 170 34 from by omega), (show (s_m452 170 42 - 1) = s204 170 42 - 1 from by omega), (show (s_m452 192 (s_m452 170 42 - 1 : Int).toNat) = s204 192 (s204 170 42 - 1 : Int).toNat from by omega), (show s204 170 46 = 1 from by omega), (show s204 170 8 = 0 → 1 ≤ s204 170 3 from by omega), (show (s_m452 192 (s_m452 170 42 - 1 : Int).toNat) = 3 ∨ (s_m452 192 (s_m452 170 42 - 1 : Int).toNat) = 6 from by omega)⟩
end R6b
