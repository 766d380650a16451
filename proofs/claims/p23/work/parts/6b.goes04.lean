/-! printed by wip/p32/lib5.py -/
section R6b
variable {cl : Nat → zCall}
set_option maxHeartbeats 40000000 in
set_option maxRecDepth 100000 in
theorem goesOn_m470 {d : Nat} {st : zS} {Q : zQ} {K : zG} (hX : cx_goesOn cl d  st Q K) : ∀ (t : Int) (k : Int) (f : Int) (s_m470 : zS), gInv zgt s_m470 ∧ aFr m_goesOn st s_m470 ∧ (s_m470 170 4 ≤ s_m470 170 5 ∧ s_m470 170 5 ≤ s_m470 170 2 ∧ (s_m470 170 3 = 0 ∧ s_m470 170 4 = s_m470 170 2 ∨ 1 ≤ s_m470 170 3 ∧ s_m470 170 4 < s_m470 170 5)) ∧ (s_m470 170 4 = st 170 4 ∧ s_m470 170 5 = st 170 5 ∧ s_m470 170 3 = st 170 3) ∧ (PF s_m470 1 (st 170 4)) ∧ (∀ i : Nat, (i : Int) < 1600 * st 170 35 + st 170 34 ∨ 1600 * st 170 35 + 1600 ≤ (i : Int) → s_m470 188 i = st 188 i) ∧ (st 170 34 ≤ s_m470 170 34) ∧ (f = s_m470 170 42 - 1) ∧ (k = s_m470 192 (s_m470 170 42 - 1 : Int).toNat) ∧ (s_m470 170 46 = 1) ∧ (s_m470 170 8 = 0 → 1 ≤ s_m470 170 3) ∧ (k = 3 ∨ k = 6) → K (rx_find rx_m197 470) [(3, .inl t), (2, .inl k), (1, .inl f), (0, .inr (.inr (.inl 170)))] [] s_m470 := by
  obtain ⟨hcl, hsl, hcm, hR, hQ⟩ := id hX
  obtain ⟨hG, lx, pf, f0⟩ := hR
  change st 170 4 ≤ st 170 5 ∧ st 170 5 ≤ st 170 2 ∧ (st 170 3 = 0 ∧ st 170 4 = st 170 2 ∨ 1 ≤ st 170 3 ∧ st 170 4 < st 170 5) at lx
  change PF st 1 (st 170 4) at pf
  change st 170 8 = 0 ∧ st 170 46 = 1 at f0
  intro t k f s_m470 hi
  obtain ⟨gI_m470, fI_m470, lx_m470, sm_m470, pf_m470, o_m470, c_m470, f_m470, k_m470, oo_m470, v_m470, kk_m470⟩ := hi
  subst f_m470
  subst k_m470
  have g129 := g_signAt hG
  have g130 := g_signEnd hG
  have g131 := g_size hG
  have g132 := g_sign hG
  have g133 := g_faultKind hG
  have g134 := g_operand hG
  have PF1 := PF_f pf_m470
  have g135 := g_signAt gI_m470
  have g136 := g_signEnd gI_m470
  have e137 : s_m470 170 2 = st 170 2 := fI_m470 170 2 rfl rfl
  have g138 := g_sign gI_m470
  have g139 := g_in hG
  have g140 := g_codes hG
  have g141 := g_codes gI_m470
  have g142 := g_deep gI_m470
  have g143 := g_frame gI_m470 (s_m470 170 42 - 1 : Int).toNat
  have g144 := g_operand gI_m470
  have g145 := g_faultKind gI_m470
  have e146 : s_m470 170 35 = st 170 35 := fI_m470 170 35 rfl rfl
  have g147 := g_open gI_m470
  have g148 := g_opMany gI_m470
  refine yr1_ok (Rt := Q) (wc := (wcL [(181, k_lex), (195, k_isTest), (183, k_isWord), (182, k_isSign), (178, k_blame), (192, k_holdsBack), (149, k_ahead), (189, k_add), (191, k_joins)])) (stp := [470, 518, 531, 546]) hcm hcl [] 400 ?_
  show ((s_m470 170 8 ≤ (0 : Int) → (170 = 170 ∧ (rq_joins (1) s_m470 ∧ (∀ (s149 : zS), en_joins (1) s_m470 s149 → ((¬ (s_m470 192 (s_m470 170 42 - 1 : Int).toNat) = (3 : Int) → ((0 ≤ (s_m470 170 42 - 1) ∧ (s_m470 170 42 - 1) < 20) ∧ ((0 ≤ (s_m470 170 42 - 1) ∧ (s_m470 170 42 - 1) < 20) ∧ (170 = 170 ∧ (rq_ahead  (zup (zup s149 192 ((s_m470 170 42 - 1) : Int).toNat 3) 193 ((s_m470 170 42 - 1) : Int).toNat 0) ∧ (∀ (s150 : zS), en_ahead  (zup (zup s149 192 ((s_m470 170 42 - 1) : Int).toNat 3) 193 ((s_m470 170 42 - 1) : Int).toNat 0) s150 → ((0 = (0 : Int) ∨ 0 = (1 : Int)) ∧ ((1 = (0 : Int) ∨ 1 = (1 : Int)) ∧ Q (some (.inl 1)) (zup s150 170 46 0))))))))) ∧ (¬ (¬ (s_m470 192 (s_m470 170 42 - 1 : Int).toNat) = (3 : Int)) → ((0 ≤ (s_m470 170 42 - 1) ∧ (s_m470 170 42 - 1) < 20) ∧ ((0 ≤ (s_m470 170 42 - 1) ∧ (s_m470 170 42 - 1) < 20) ∧ (170 = 170 ∧ (rq_ahead  (zup (zup s149 192 ((s_m470 170 42 - 1) : Int).toNat 4) 193 ((s_m470 170 42 - 1) : Int).toNat 0) ∧ (∀ (s151 : zS), en_ahead  (zup (zup s149 192 ((s_m470 170 42 - 1) : Int).toNat 4) 193 ((s_m470 170 42 - 1) : Int).toNat 0) s151 → ((0 = (0 : Int) ∨ 0 = (1 : Int)) ∧ ((1 = (0 : Int) ∨ 1 = (1 : Int)) ∧ Q (some (.inl 1)) (zup s151 170 46 0)))))))))))))) ∧ (¬ (s_m470 170 8 ≤ (0 : Int)) → ((0 = (0 : Int) ∨ 0 = (1 : Int)) ∧ Q (some (.inl 0)) s_m470)))
  refine ⟨fun h152 => ?_, fun h152 => ?_⟩
  · refine ⟨rfl, ⟨gI_m470, (show PF s_m470 1 (s_m470 170 4) from PF_q pf_m470 (by omega) (by omega))⟩, fun s149 q149 => ?_⟩
    obtain ⟨gs149, fs149, pf149, x149, o149, c149⟩ := q149
    change PF s149 1 (s_m470 170 4) at pf149
    change s149 170 45 = s149 196 (s149 170 42 - 1 : Int).toNat ∨ rkf (s149 197 (s149 170 45 - 1 : Int).toNat) < (1) at x149
    have g153 := g_opMany gs149
    have e154 : s149 170 42 = s_m470 170 42 := fs149 170 42 rfl rfl
    have g156 := g_base gI_m470 (s_m470 170 42 - 1 : Int).toNat
    have e155 : s149 196 (s149 170 42 - 1 : Int).toNat = s_m470 196 (s_m470 170 42 - 1 : Int).toNat := (fs149 196 (s149 170 42 - 1 : Int).toNat rfl rfl).trans (by rw [e154] <;> rfl)
    have g158 := g_ops gI_m470 (s149 170 45 - 1 : Int).toNat
    have e157 : s149 197 (s149 170 45 - 1 : Int).toNat = s_m470 197 (s149 170 45 - 1 : Int).toNat := fs149 197 (s149 170 45 - 1 : Int).toNat rfl rfl
    change ∀ i : Nat, (i : Int) < 1600 * s_m470 170 35 + s_m470 170 34 ∨ 1600 * s_m470 170 35 + 1600 ≤ (i : Int) → s149 188 i = s_m470 188 i at o149
    change s_m470 170 34 ≤ s149 170 34 ∧ s149 170 34 + s149 170 45 = s_m470 170 34 + s_m470 170 45 at c149
    have g159 := g_codes gs149
    have PJ149 := PF_f pf149
    have e160 : s149 170 46 = s_m470 170 46 := fs149 170 46 rfl rfl
    have e161 : s149 192 (s149 170 42 - 1 : Int).toNat = s_m470 192 (s_m470 170 42 - 1 : Int).toNat := (fs149 192 (s149 170 42 - 1 : Int).toNat rfl rfl).trans (by rw [e154] <;> rfl)
    have g163 := g_phase gI_m470 (s_m470 170 42 - 1 : Int).toNat
    have e162 : s149 193 (s149 170 42 - 1 : Int).toNat = s_m470 193 (s_m470 170 42 - 1 : Int).toNat := (fs149 193 (s149 170 42 - 1 : Int).toNat rfl rfl).trans (by rw [e154] <;> rfl)
    refine ⟨fun h164 => ?_, fun h164 => ?_⟩
    · refine ⟨by omega, ?_⟩
      refine ⟨by omega, ?_⟩
      have e165 : s149 170 5 = s_m470 170 5 := fs149 170 5 rfl rfl
      have e166 : s149 170 2 = s_m470 170 2 := fs149 170 2 rfl rfl
      refine ⟨rfl, ⟨(gInv_up (gInv_up gs149 (p_frame (by omega))) (p_phase (by omega))), (show s149 170 5 ≤ s149 170 2 from by omega)⟩, fun s150 q150 => ?_⟩
      obtain ⟨gs150, fs150, p150⟩ := q150
      change s150 170 4 ≤ s150 170 5 ∧ s150 170 5 ≤ s150 170 2 ∧ (s150 170 3 = 0 ∧ s150 170 4 = s150 170 2 ∨ 1 ≤ s150 170 3 ∧ s150 170 4 < s150 170 5) ∧ s149 170 5 ≤ s150 170 4 at p150
      have g167 := g_signAt gs150
      have g168 := g_signEnd gs150
      have e169 : s150 170 2 = s149 170 2 := fs150 170 2 rfl rfl
      have g170 := g_sign gs150
      refine ⟨by omega, ?_⟩
      refine ⟨by omega, ?_⟩
      have e172 : s149 170 8 = s_m470 170 8 := fs149 170 8 rfl rfl
      have e171 : s150 170 8 = s149 170 8 := fs150 170 8 rfl rfl
      have e173 : s150 170 34 = s149 170 34 := fs150 170 34 rfl rfl
      exact hQ _ _ ⟨(gInv_up gs150 (p_operand (by omega))), (fr_f (fr_tr (fr_a (fr_a (fr_tr fI_m470 fs149 rfl) rfl) rfl) fs150 rfl) rfl), (show s150 170 4 ≤ s150 170 5 ∧ s150 170 5 ≤ s150 170 2 ∧ (s150 170 3 = 0 ∧ s150 170 4 = s150 170 2 ∨ 1 ≤ s150 170 3 ∧ s150 170 4 < s150 170 5) ∧ st 170 4 ≤ s150 170 4 from by omega), (show ((1 : Int) = 0 ∨ (1 : Int) = 1) from by omega), (show s150 170 8 = 0 → ((1 : Int) = 1 → st 170 5 ≤ s150 170 4 ∧ 1 ≤ st 170 3 ∧ PF (zup s150 170 46 0) (0) (s150 170 4)) ∧ ((1 : Int) = 0 → PF (zup s150 170 46 0) 1 (s150 170 4)) from fun z => by
          refine ⟨fun _ => ⟨by omega, by omega, PF_up rfl (PF_fr rfl fs150 ?_)⟩, fun z1 => absurd z1 (by omega)⟩
          have F1 := PF_f pf149
          have x1 := PF_e pf149 x149
          have t1 := PF_t pf149
          have zf : ((s_m470 170 42 - 1) : Int).toNat = (s149 170 42 - 1 : Int).toNat := by omega
          have z5 : up1 (s149 192) (s149 170 42 - 1 : Int).toNat 3 (s149 170 42 - 1 : Int).toNat = 3 := up1_e _ _ _
          show PVF (zup (zup s149 192 ((s_m470 170 42 - 1) : Int).toNat 3) 193 ((s_m470 170 42 - 1) : Int).toNat 0) (s149 170 43) 0 (s150 170 4)
          rw [zf]
          refine ⟨?_, ?_, ?_⟩
          · show PI (s149 170 35) (s149 170 34) (s149 170 45) (s149 170 42) (s149 170 43) 0 (pa (up1 (s149 192) (s149 170 42 - 1 : Int).toNat 3 (s149 170 42 - 1 : Int).toNat) (s149 195 (s149 170 42 - 1 : Int).toNat)) (s150 170 4) (s149 197) (s149 196) (up1 (s149 192) (s149 170 42 - 1 : Int).toNat 3) (s149 195) (s149 194) (s149 188) (f0s s149)
            rw [z5]
            refine PI_comma pf149.1 ?_ (pa_b _ _).2 (by omega) (by omega) (by omega) (by have b1 := PF_nb pf149; have b2 := g_begins gs149 (s149 170 42 - 1 : Int).toNat; omega)
            rw [show s149 192 (s149 170 42 - 1 : Int).toNat = (s_m470 192 (s_m470 170 42 - 1 : Int).toNat) by omega]
            unfold prok at t1
            unfold pa
            repeat' split
            all_goals omega
          · show prok (up1 (s149 192) (s149 170 42 - 1 : Int).toNat 3 (s149 170 42 - 1 : Int).toNat) (s149 195 (s149 170 42 - 1 : Int).toNat)
            rw [z5]
            unfold prok at t1 ⊢
            omega
          · show PH (s149 170 42) (s149 170 45) (s149 197) (s149 196) (up1 (s149 193) (s149 170 42 - 1 : Int).toNat 0)
            exact PH_empty pf149.2.2 (by omega) x1), (show ∀ i : Nat, (i : Int) < 1600 * st 170 35 + st 170 34 ∨ 1600 * st 170 35 + 1600 ≤ (i : Int) → (zup s150 170 46 0) 188 i = st 188 i from (fun i hi => (fs150 188 i rfl rfl).trans ((fun i hi => (o149 i (by omega)).trans (o_m470 i hi)) i hi))), (show st 170 34 ≤ s150 170 34 from by omega)⟩
    · refine ⟨by omega, ?_⟩
      refine ⟨by omega, ?_⟩
      have e174 : s149 170 5 = s_m470 170 5 := fs149 170 5 rfl rfl
      have e175 : s149 170 2 = s_m470 170 2 := fs149 170 2 rfl rfl
      refine ⟨rfl, ⟨(gInv_up (gInv_up gs149 (p_frame (by omega))) (p_phase (by omega))), (show s149 170 5 ≤ s149 170 2 from by omega)⟩, fun s151 q151 => ?_⟩
      obtain ⟨gs151, fs151, p151⟩ := q151
      change s151 170 4 ≤ s151 170 5 ∧ s151 170 5 ≤ s151 170 2 ∧ (s151 170 3 = 0 ∧ s151 170 4 = s151 170 2 ∨ 1 ≤ s151 170 3 ∧ s151 170 4 < s151 170 5) ∧ s149 170 5 ≤ s151 170 4 at p151
      have g176 := g_signAt gs151
      have g177 := g_signEnd gs151
      have e178 : s151 170 2 = s149 170 2 := fs151 170 2 rfl rfl
      have g179 := g_sign gs151
      refine ⟨by omega, ?_⟩
      refine ⟨by omega, ?_⟩
      have e181 : s149 170 8 = s_m470 170 8 := fs149 170 8 rfl rfl
      have e180 : s151 170 8 = s149 170 8 := fs151 170 8 rfl rfl
      have e182 : s151 170 34 = s149 170 34 := fs151 170 34 rfl rfl
      exact hQ _ _ ⟨(gInv_up gs151 (p_operand (by omega))), (fr_f (fr_tr (fr_a (fr_a (fr_tr fI_m470 fs149 rfl) rfl) rfl) fs151 rfl) rfl), (show s151 170 4 ≤ s151 170 5 ∧ s151 170 5 ≤ s151 170 2 ∧ (s151 170 3 = 0 ∧ s151 170 4 = s151 170 2 ∨ 1 ≤ s151 170 3 ∧ s151 170 4 < s151 170 5) ∧ st 170 4 ≤ s151 170 4 from by omega), (show ((1 : Int) = 0 ∨ (1 : Int) = 1) from by omega), (show s151 170 8 = 0 → ((1 : Int) = 1 → st 170 5 ≤ s151 170 4 ∧ 1 ≤ st 170 3 ∧ PF (zup s151 170 46 0) (0) (s151 170 4)) ∧ ((1 : Int) = 0 → PF (zup s151 170 46 0) 1 (s151 170 4)) from fun z => by
          refine ⟨fun _ => ⟨by omega, by omega, PF_up rfl (PF_fr rfl fs151 ?_)⟩, fun z1 => absurd z1 (by omega)⟩
          have F1 := PF_f pf149
          have x1 := PF_e pf149 x149
          have t1 := PF_t pf149
          have zf : ((s_m470 170 42 - 1) : Int).toNat = (s149 170 42 - 1 : Int).toNat := by omega
          have z5 : up1 (s149 192) (s149 170 42 - 1 : Int).toNat 4 (s149 170 42 - 1 : Int).toNat = 4 := up1_e _ _ _
          show PVF (zup (zup s149 192 ((s_m470 170 42 - 1) : Int).toNat 4) 193 ((s_m470 170 42 - 1) : Int).toNat 0) (s149 170 43) 0 (s151 170 4)
          rw [zf]
          refine ⟨?_, ?_, ?_⟩
          · show PI (s149 170 35) (s149 170 34) (s149 170 45) (s149 170 42) (s149 170 43) 0 (pa (up1 (s149 192) (s149 170 42 - 1 : Int).toNat 4 (s149 170 42 - 1 : Int).toNat) (s149 195 (s149 170 42 - 1 : Int).toNat)) (s151 170 4) (s149 197) (s149 196) (up1 (s149 192) (s149 170 42 - 1 : Int).toNat 4) (s149 195) (s149 194) (s149 188) (f0s s149)
            rw [z5]
            refine PI_comma pf149.1 ?_ (pa_b _ _).2 (by omega) (by omega) (by omega) (by have b1 := PF_nb pf149; have b2 := g_begins gs149 (s149 170 42 - 1 : Int).toNat; omega)
            rw [show s149 192 (s149 170 42 - 1 : Int).toNat = (s_m470 192 (s_m470 170 42 - 1 : Int).toNat) by omega]
            unfold prok at t1
            unfold pa
            repeat' split
            all_goals omega
          · show prok (up1 (s149 192) (s149 170 42 - 1 : Int).toNat 4 (s149 170 42 - 1 : Int).toNat) (s149 195 (s149 170 42 - 1 : Int).toNat)
            rw [z5]
            unfold prok at t1 ⊢
            omega
          · show PH (s149 170 42) (s149 170 45) (s149 197) (s149 196) (up1 (s149 193) (s149 170 42 - 1 : Int).toNat 0)
            exact PH_empty pf149.2.2 (by omega) x1), (show ∀ i : Nat, (i : Int) < 1600 * st 170 35 + st 170 34 ∨ 1600 * st 170 35 + 1600 ≤ (i : Int) → (zup s151 170 46 0) 188 i = st 188 i from (fun i hi => (fs151 188 i rfl rfl).trans ((fun i hi => (o149 i (by omega)).trans (o_m470 i hi)) i hi))), (show st 170 34 ≤ s151 170 34 from by omega)⟩
  · refine ⟨by omega, ?_⟩
    exact hQ _ _ ⟨gI_m470, fI_m470, (show s_m470 170 4 ≤ s_m470 170 5 ∧ s_m470 170 5 ≤ s_m470 170 2 ∧ (s_m470 170 3 = 0 ∧ s_m470 170 4 = s_m470 170 2 ∨ 1 ≤ s_m470 170 3 ∧ s_m470 170 4 < s_m470 170 5) ∧ st 170 4 ≤ s_m470 170 4 from by omega), (show ((0 : Int) = 0 ∨ (0 : Int) = 1) from by omega), (show s_m470 170 8 = 0 → ((0 : Int) = 1 → st 170 5 ≤ s_m470 170 4 ∧ 1 ≤ st 170 3 ∧ PF s_m470 (s_m470 170 46) (s_m470 170 4)) ∧ ((0 : Int) = 0 → PF s_m470 1 (s_m470 170 4)) from fun z => absurd z (by omega)), (show ∀ i : Nat, (i : Int) < 1600 * st 170 35 + st 170 34 ∨ 1600 * st 170 35 + 1600 ≤ (i : Int) → s_m470 188 i = st 188 i from o_m470), (show st 170 34 ≤ s_m470 170 34 from by omega)⟩
end R6b
