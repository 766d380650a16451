/-! printed by wip/p32/lib5.py -/
section R6b
variable {cl : Nat → zCall}
set_option maxHeartbeats 40000000 in
set_option maxRecDepth 100000 in
theorem goesOn_m546 {d : Nat} {st : zS} {Q : zQ} {K : zG} (hX : cx_goesOn cl d  st Q K) : ∀ (t : Int) (k : Int) (f : Int) (s_m546 : zS), gInv zgt s_m546 ∧ aFr m_goesOn st s_m546 ∧ (s_m546 170 4 ≤ s_m546 170 5 ∧ s_m546 170 5 ≤ s_m546 170 2 ∧ (s_m546 170 3 = 0 ∧ s_m546 170 4 = s_m546 170 2 ∨ 1 ≤ s_m546 170 3 ∧ s_m546 170 4 < s_m546 170 5)) ∧ (s_m546 170 4 = st 170 4 ∧ s_m546 170 5 = st 170 5 ∧ s_m546 170 3 = st 170 3) ∧ (PF s_m546 1 (st 170 4)) ∧ (∀ i : Nat, (i : Int) < 1600 * st 170 35 + st 170 34 ∨ 1600 * st 170 35 + 1600 ≤ (i : Int) → s_m546 188 i = st 188 i) ∧ (st 170 34 ≤ s_m546 170 34) ∧ (f = s_m546 170 42 - 1) ∧ (k = s_m546 192 (s_m546 170 42 - 1 : Int).toNat) ∧ (s_m546 170 46 = 1) ∧ (s_m546 170 8 = 0 → 1 ≤ s_m546 170 3) ∧ (k = 2 ∨ k = 4 ∨ k = 5) → K (rx_find rx_m197 546) [(3, .inl t), (2, .inl k), (1, .inl f), (0, .inr (.inr (.inl 170)))] [] s_m546 := by
  obtain ⟨hcl, hsl, hcm, hR, hQ⟩ := id hX
  obtain ⟨hG, lx, pf, f0⟩ := hR
  change st 170 4 ≤ st 170 5 ∧ st 170 5 ≤ st 170 2 ∧ (st 170 3 = 0 ∧ st 170 4 = st 170 2 ∨ 1 ≤ st 170 3 ∧ st 170 4 < st 170 5) at lx
  change PF st 1 (st 170 4) at pf
  change st 170 8 = 0 ∧ st 170 46 = 1 at f0
  intro t k f s_m546 hi
  obtain ⟨gI_m546, fI_m546, lx_m546, sm_m546, pf_m546, o_m546, c_m546, f_m546, k_m546, oo_m546, v_m546, kk_m546⟩ := hi
  subst f_m546
  subst k_m546
  have g1 := g_signAt hG
  have g2 := g_signEnd hG
  have g3 := g_size hG
  have g4 := g_sign hG
  have g5 := g_faultKind hG
  have g6 := g_operand hG
  have PF1 := PF_f pf_m546
  have g7 := g_signAt gI_m546
  have g8 := g_signEnd gI_m546
  have e9 : s_m546 170 2 = st 170 2 := fI_m546 170 2 rfl rfl
  have g10 := g_sign gI_m546
  have g11 := g_in hG
  have g12 := g_codes hG
  have g13 := g_codes gI_m546
  have g14 := g_deep gI_m546
  have g15 := g_frame gI_m546 (s_m546 170 42 - 1 : Int).toNat
  have g16 := g_operand gI_m546
  have g17 := g_faultKind gI_m546
  have e18 : s_m546 170 35 = st 170 35 := fI_m546 170 35 rfl rfl
  have g19 := g_open gI_m546
  have g20 := g_opMany gI_m546
  refine yr1_ok (Rt := Q) (wc := (wcL [(181, k_lex), (195, k_isTest), (183, k_isWord), (182, k_isSign), (178, k_blame), (192, k_holdsBack), (149, k_ahead), (189, k_add), (191, k_joins)])) (stp := [546]) hcm hcl [] 400 ?_
  show ((s_m546 170 8 ≤ (0 : Int) → (170 = 170 ∧ (rq_joins (1) s_m546 ∧ (∀ (s21 : zS), en_joins (1) s_m546 s21 → ((-2147483648 ≤ (s21 170 42) - 1 ∧ (s21 170 42) - 1 ≤ 2147483647) ∧ ((-2147483648 ≤ (s21 170 43) - 1 ∧ (s21 170 43) - 1 ≤ 2147483647) ∧ ((¬ (s_m546 192 (s_m546 170 42 - 1 : Int).toNat) = (4 : Int) → ((¬ (s_m546 192 (s_m546 170 42 - 1 : Int).toNat) = (5 : Int) → (170 = 170 ∧ (rq_ahead  (zup (zup s21 170 42 ((s21 170 42) - 1)) 170 43 ((s21 170 43) - 1)) ∧ (∀ (s22 : zS), en_ahead  (zup (zup s21 170 42 ((s21 170 42) - 1)) 170 43 ((s21 170 43) - 1)) s22 → ((1 = (0 : Int) ∨ 1 = (1 : Int)) ∧ Q (some (.inl 1)) s22))))) ∧ (¬ (¬ (s_m546 192 (s_m546 170 42 - 1 : Int).toNat) = (5 : Int)) → ((-2147483648 ≤ ((s21 170 42) - 1) - 1 ∧ ((s21 170 42) - 1) - 1 ≤ 2147483647) ∧ ((0 ≤ ((s21 170 42) - 1) - 1 ∧ ((s21 170 42) - 1) - 1 < 20) ∧ (170 = 170 ∧ (rq_ahead  (zup (zup (zup s21 170 42 ((s21 170 42) - 1)) 170 43 ((s21 170 43) - 1)) 193 (((s21 170 42) - 1) - 1 : Int).toNat 2) ∧ (∀ (s23 : zS), en_ahead  (zup (zup (zup s21 170 42 ((s21 170 42) - 1)) 170 43 ((s21 170 43) - 1)) 193 (((s21 170 42) - 1) - 1 : Int).toNat 2) s23 → ((1 = (0 : Int) ∨ 1 = (1 : Int)) ∧ Q (some (.inl 1)) s23))))))))) ∧ (¬ (¬ (s_m546 192 (s_m546 170 42 - 1 : Int).toNat) = (4 : Int)) → ((0 ≤ (s_m546 170 42 - 1) ∧ (s_m546 170 42 - 1) < 20) ∧ (170 = 170 ∧ (rq_add (s21 195 ((s_m546 170 42 - 1) : Int).toNat) (0) (zup (zup s21 170 42 ((s21 170 42) - 1)) 170 43 ((s21 170 43) - 1)) ∧ (((¬ (s_m546 192 (s_m546 170 42 - 1 : Int).toNat) = (5 : Int) → (170 = 170 ∧ (rq_ahead  (zup (zup (zup (zup (zup s21 170 42 ((s21 170 42) - 1)) 170 43 ((s21 170 43) - 1)) 188 ((1600 : Int) * (s21 170 35) + (s21 170 34) : Int).toNat (s21 195 ((s_m546 170 42 - 1) : Int).toNat)) 189 ((1600 : Int) * (s21 170 35) + (s21 170 34) : Int).toNat (0)) 170 34 ((s21 170 34) + 1)) ∧ (∀ (s25 : zS), en_ahead  (zup (zup (zup (zup (zup s21 170 42 ((s21 170 42) - 1)) 170 43 ((s21 170 43) - 1)) 188 ((1600 : Int) * (s21 170 35) + (s21 170 34) : Int).toNat (s21 195 ((s_m546 170 42 - 1) : Int).toNat)) 189 ((1600 : Int) * (s21 170 35) + (s21 170 34) : Int).toNat (0)) 170 34 ((s21 170 34) + 1)) s25 → ((1 = (0 : Int) ∨ 1 = (1 : Int)) ∧ Q (some (.inl 1)) s25))))) ∧ (¬ (¬ (s_m546 192 (s_m546 170 42 - 1 : Int).toNat) = (5 : Int)) → _)))))))))))))) ∧ (¬ (s_m546 170 8 ≤ (0 : Int)) → ((0 = (0 : Int) ∨ 0 = (1 : Int)) ∧ Q (some (.inl 0)) s_m546)))
  refine ⟨fun h26 => ?_, fun h26 => ?_⟩
  · refine ⟨rfl, ⟨gI_m546, (show PF s_m546 1 (s_m546 170 4) from PF_q pf_m546 (by omega) (by omega))⟩, fun s21 q21 => ?_⟩
    obtain ⟨gs21, fs21, pf21, x21, o21, c21⟩ := q21
    change PF s21 1 (s_m546 170 4) at pf21
    change s21 170 45 = s21 196 (s21 170 42 - 1 : Int).toNat ∨ rkf (s21 197 (s21 170 45 - 1 : Int).toNat) < (1) at x21
    have g27 := g_opMany gs21
    have e28 : s21 170 42 = s_m546 170 42 := fs21 170 42 rfl rfl
    have g30 := g_base gI_m546 (s_m546 170 42 - 1 : Int).toNat
    have e29 : s21 196 (s21 170 42 - 1 : Int).toNat = s_m546 196 (s_m546 170 42 - 1 : Int).toNat := (fs21 196 (s21 170 42 - 1 : Int).toNat rfl rfl).trans (by rw [e28] <;> rfl)
    have g32 := g_ops gI_m546 (s21 170 45 - 1 : Int).toNat
    have e31 : s21 197 (s21 170 45 - 1 : Int).toNat = s_m546 197 (s21 170 45 - 1 : Int).toNat := fs21 197 (s21 170 45 - 1 : Int).toNat rfl rfl
    change ∀ i : Nat, (i : Int) < 1600 * s_m546 170 35 + s_m546 170 34 ∨ 1600 * s_m546 170 35 + 1600 ≤ (i : Int) → s21 188 i = s_m546 188 i at o21
    change s_m546 170 34 ≤ s21 170 34 ∧ s21 170 34 + s21 170 45 = s_m546 170 34 + s_m546 170 45 at c21
    have g33 := g_codes gs21
    have PJ21 := PF_f pf21
    have e34 : s21 170 46 = s_m546 170 46 := fs21 170 46 rfl rfl
    have e35 : s21 192 (s21 170 42 - 1 : Int).toNat = s_m546 192 (s_m546 170 42 - 1 : Int).toNat := (fs21 192 (s21 170 42 - 1 : Int).toNat rfl rfl).trans (by rw [e28] <;> rfl)
    have g37 := g_phase gI_m546 (s_m546 170 42 - 1 : Int).toNat
    have e36 : s21 193 (s21 170 42 - 1 : Int).toNat = s_m546 193 (s_m546 170 42 - 1 : Int).toNat := (fs21 193 (s21 170 42 - 1 : Int).toNat rfl rfl).trans (by rw [e28] <;> rfl)
    refine ⟨by omega, ?_⟩
    have g38 := g_open gs21
    refine ⟨by omega, ?_⟩
    refine ⟨fun h39 => ?_, fun h39 => ?_⟩
    · refine ⟨fun h40 => ?_, fun h40 => ?_⟩
      · have e41 : s21 170 5 = s_m546 170 5 := fs21 170 5 rfl rfl
        have e42 : s21 170 2 = s_m546 170 2 := fs21 170 2 rfl rfl
        refine ⟨rfl, ⟨(gInv_up (gInv_up gs21 (p_deep (by omega))) (p_open (by omega))), (show s21 170 5 ≤ s21 170 2 from by omega)⟩, fun s22 q22 => ?_⟩
        obtain ⟨gs22, fs22, p22⟩ := q22
        change s22 170 4 ≤ s22 170 5 ∧ s22 170 5 ≤ s22 170 2 ∧ (s22 170 3 = 0 ∧ s22 170 4 = s22 170 2 ∨ 1 ≤ s22 170 3 ∧ s22 170 4 < s22 170 5) ∧ s21 170 5 ≤ s22 170 4 at p22
        have g43 := g_signAt gs22
        have g44 := g_signEnd gs22
        have e45 : s22 170 2 = s21 170 2 := fs22 170 2 rfl rfl
        have g46 := g_sign gs22
        refine ⟨by omega, ?_⟩
        have e48 : s21 170 8 = s_m546 170 8 := fs21 170 8 rfl rfl
        have e47 : s22 170 8 = s21 170 8 := fs22 170 8 rfl rfl
        have e49 : s22 170 46 = s21 170 46 := fs22 170 46 rfl rfl
        have e50 : s22 170 34 = s21 170 34 := fs22 170 34 rfl rfl
        exact hQ _ _ ⟨gs22, (fr_tr (fr_f (fr_f (fr_tr fI_m546 fs21 rfl) rfl) rfl) fs22 rfl), (show s22 170 4 ≤ s22 170 5 ∧ s22 170 5 ≤ s22 170 2 ∧ (s22 170 3 = 0 ∧ s22 170 4 = s22 170 2 ∨ 1 ≤ s22 170 3 ∧ s22 170 4 < s22 170 5) ∧ st 170 4 ≤ s22 170 4 from by omega), (show ((1 : Int) = 0 ∨ (1 : Int) = 1) from by omega), (show s22 170 8 = 0 → ((1 : Int) = 1 → st 170 5 ≤ s22 170 4 ∧ 1 ≤ st 170 3 ∧ PF s22 (s22 170 46) (s22 170 4)) ∧ ((1 : Int) = 0 → PF s22 1 (s22 170 4)) from fun z => by
          refine ⟨fun _ => ⟨by omega, by omega, ?_⟩, fun z1 => absurd z1 (by omega)⟩
          have z7 : s22 170 46 = 1 := by omega
          rw [z7]
          refine PF_fr rfl fs22 ?_
          have F1 := PF_f pf21
          have x1 := PF_e pf21 x21
          have t1 := PF_t pf21
          have zk : s21 192 (s21 170 42 - 1 : Int).toNat = (s_m546 192 (s_m546 170 42 - 1 : Int).toNat) := by omega
          have z2 : 2 ≤ s21 170 42 := by omega
          have z9 := pf21.1
          have z0 : pa (s21 192 (s21 170 42 - 1 : Int).toNat) (s21 195 (s21 170 42 - 1 : Int).toNat) = 0 := by
            rw [zk]
            unfold pa
            repeat' split
            all_goals omega
          rw [z0] at z9
          have z4 := PI_leave2 z9 x1 z2 (q' := s22 170 4) (by omega)
          exact ⟨show PI (s21 170 35) (s21 170 34) (s21 170 45) (((s21 170 42) - 1)) (((s21 170 43) - 1)) 1 (pa (s21 192 ((((s21 170 42) - 1)) - 1 : Int).toNat) (s21 195 ((((s21 170 42) - 1)) - 1 : Int).toNat)) (s22 170 4) (s21 197) (s21 196) (s21 192) (s21 195) (s21 194) (s21 188) (f0s s21) from z4.1, z4.2, show PH (((s21 170 42) - 1)) (s21 170 45) (s21 197) (s21 196) (s21 193) from PH_leave pf21.2.2 z2 x1⟩), (show ∀ i : Nat, (i : Int) < 1600 * st 170 35 + st 170 34 ∨ 1600 * st 170 35 + 1600 ≤ (i : Int) → s22 188 i = st 188 i from (fun i hi => (fs22 188 i rfl rfl).trans ((fun i hi => (o21 i (by omega)).trans (o_m546 i hi)) i hi))), (show st 170 34 ≤ s22 170 34 from by omega)⟩
      · refine ⟨by omega, ?_⟩
        refine ⟨by omega, ?_⟩
        have e51 : s21 170 5 = s_m546 170 5 := fs21 170 5 rfl rfl
        have e52 : s21 170 2 = s_m546 170 2 := fs21 170 2 rfl rfl
        refine ⟨rfl, ⟨(gInv_up (gInv_up (gInv_up gs21 (p_deep (by omega))) (p_open (by omega))) (p_phase (by omega))), (show s21 170 5 ≤ s21 170 2 from by omega)⟩, fun s23 q23 => ?_⟩
        obtain ⟨gs23, fs23, p23⟩ := q23
        change s23 170 4 ≤ s23 170 5 ∧ s23 170 5 ≤ s23 170 2 ∧ (s23 170 3 = 0 ∧ s23 170 4 = s23 170 2 ∨ 1 ≤ s23 170 3 ∧ s23 170 4 < s23 170 5) ∧ s21 170 5 ≤ s23 170 4 at p23
        have g53 := g_signAt gs23
        have g54 := g_signEnd gs23
        have e55 : s23 170 2 = s21 170 2 := fs23 170 2 rfl rfl
        have g56 := g_sign gs23
        refine ⟨by omega, ?_⟩
        have e58 : s21 170 8 = s_m546 170 8 := fs21 170 8 rfl rfl
        have e57 : s23 170 8 = s21 170 8 := fs23 170 8 rfl rfl
        have e59 : s23 170 46 = s21 170 46 := fs23 170 46 rfl rfl
        have e60 : s23 170 34 = s21 170 34 := fs23 170 34 rfl rfl
        exact hQ _ _ ⟨gs23, (fr_tr (fr_a (fr_f (fr_f (fr_tr fI_m546 fs21 rfl) rfl) rfl) rfl) fs23 rfl), (show s23 170 4 ≤ s23 170 5 ∧ s23 170 5 ≤ s23 170 2 ∧ (s23 170 3 = 0 ∧ s23 170 4 = s23 170 2 ∨ 1 ≤ s23 170 3 ∧ s23 170 4 < s23 170 5) ∧ st 170 4 ≤ s23 170 4 from by omega), (show ((1 : Int) = 0 ∨ (1 : Int) = 1) from by omega), (show s23 170 8 = 0 → ((1 : Int) = 1 → st 170 5 ≤ s23 170 4 ∧ 1 ≤ st 170 3 ∧ PF s23 (s23 170 46) (s23 170 4)) ∧ ((1 : Int) = 0 → PF s23 1 (s23 170 4)) from fun z => by
          refine ⟨fun _ => ⟨by omega, by omega, ?_⟩, fun z1 => absurd z1 (by omega)⟩
          have z7 : s23 170 46 = 1 := by omega
          rw [z7]
          refine PF_fr rfl fs23 ?_
          have F1 := PF_f pf21
          have x1 := PF_e pf21 x21
          have t1 := PF_t pf21
          have zk : s21 192 (s21 170 42 - 1 : Int).toNat = (s_m546 192 (s_m546 170 42 - 1 : Int).toNat) := by omega
          have z2 : 2 ≤ s21 170 42 := by omega
          have z9 := pf21.1
          have z0 : pa (s21 192 (s21 170 42 - 1 : Int).toNat) (s21 195 (s21 170 42 - 1 : Int).toNat) = 0 := by
            rw [zk]
            unfold pa
            repeat' split
            all_goals omega
          rw [z0] at z9
          have z4 := PI_leave2 z9 x1 z2 (q' := s23 170 4) (by omega)
          exact ⟨show PI (s21 170 35) (s21 170 34) (s21 170 45) (((s21 170 42) - 1)) (((s21 170 43) - 1)) 1 (pa (s21 192 ((((s21 170 42) - 1)) - 1 : Int).toNat) (s21 195 ((((s21 170 42) - 1)) - 1 : Int).toNat)) (s23 170 4) (s21 197) (s21 196) (s21 192) (s21 195) (s21 194) (s21 188) (f0s s21) from z4.1, z4.2, show PH (((s21 170 42) - 1)) (s21 170 45) (s21 197) (s21 196) (up1 (s21 193) (((s21 170 42) - 1) - 1 : Int).toNat 2) from PH_ph (PH_leave pf21.2.2 z2 x1) (by omega)⟩), (show ∀ i : Nat, (i : Int) < 1600 * st 170 35 + st 170 34 ∨ 1600 * st 170 35 + 1600 ≤ (i : Int) → s23 188 i = st 188 i from (fun i hi => (fs23 188 i rfl rfl).trans ((fun i hi => (o21 i (by omega)).trans (o_m546 i hi)) i hi))), (show st 170 34 ≤ s23 170 34 from by omega)⟩
    · have g62 := g_pair gI_m546 ((s_m546 170 42 - 1) : Int).toNat
      have e61 : s21 195 ((s_m546 170 42 - 1) : Int).toNat = s_m546 195 ((s_m546 170 42 - 1) : Int).toNat := fs21 195 ((s_m546 170 42 - 1) : Int).toNat rfl rfl
      refine ⟨by omega, ?_⟩
      have e63 : s21 170 35 = s_m546 170 35 := fs21 170 35 rfl rfl
      refine ⟨rfl, ⟨(gInv_up (gInv_up gs21 (p_deep (by omega))) (p_open (by omega))), (show s21 170 34 ≤ 1599 from by omega)⟩, ?_⟩
      refine ⟨fun h64 => ?_, fun h64 => (by exfalso; omega)⟩
      have e65 : s21 170 5 = s_m546 170 5 := fs21 170 5 rfl rfl
      have e66 : s21 170 2 = s_m546 170 2 := fs21 170 2 rfl rfl
      refine ⟨rfl, ⟨(gInv_up (gInv_up (gInv_up (gInv_up (gInv_up gs21 (p_deep (by omega))) (p_open (by omega))) (p_codeSort (by omega))) (p_codeValue (by omega))) (p_codes (by omega))), (show s21 170 5 ≤ s21 170 2 from by omega)⟩, fun s25 q25 => ?_⟩
      obtain ⟨gs25, fs25, p25⟩ := q25
      change s25 170 4 ≤ s25 170 5 ∧ s25 170 5 ≤ s25 170 2 ∧ (s25 170 3 = 0 ∧ s25 170 4 = s25 170 2 ∨ 1 ≤ s25 170 3 ∧ s25 170 4 < s25 170 5) ∧ s21 170 5 ≤ s25 170 4 at p25
      have g67 := g_signAt gs25
      have g68 := g_signEnd gs25
      have e69 : s25 170 2 = s21 170 2 := fs25 170 2 rfl rfl
      have g70 := g_sign gs25
      refine ⟨by omega, ?_⟩
      have e72 : s21 170 8 = s_m546 170 8 := fs21 170 8 rfl rfl
      have e71 : s25 170 8 = s21 170 8 := fs25 170 8 rfl rfl
      have e73 : s25 170 46 = s21 170 46 := fs25 170 46 rfl rfl
      have e74 : s25 170 34 = ((s21 170 34) + 1) := fs25 170 34 rfl rfl
      exact hQ _ _ ⟨gs25, (fr_tr (fr_f (fr_a (fr_a (fr_f (fr_f (fr_tr fI_m546 fs21 rfl) rfl) rfl) rfl) rfl) rfl) fs25 rfl), (show s25 170 4 ≤ s25 170 5 ∧ s25 170 5 ≤ s25 170 2 ∧ (s25 170 3 = 0 ∧ s25 170 4 = s25 170 2 ∨ 1 ≤ s25 170 3 ∧ s25 170 4 < s25 170 5) ∧ st 170 4 ≤ s25 170 4 from by omega), (show ((1 : Int) = 0 ∨ (1 : Int) = 1) from by omega), (show s25 170 8 = 0 → ((1 : Int) = 1 → st 170 5 ≤ s25 170 4 ∧ 1 ≤ st 170 3 ∧ PF s25 (s25 170 46) (s25 170 4)) ∧ ((1 : Int) = 0 → PF s25 1 (s25 170 4)) from fun z => by
          refine ⟨fun _ => ⟨by omega, by omega, ?_⟩, fun z1 => absurd z1 (by omega)⟩
          have z7 : s25 170 46 = 1 := by omega
          rw [z7]
          refine PF_fr rfl fs25 ?_
          have F1 := PF_f pf21
          have x1 := PF_e pf21 x21
          have t1 := PF_t pf21
          have zk : s21 192 (s21 170 42 - 1 : Int).toNat = (s_m546 192 (s_m546 170 42 - 1 : Int).toNat) := by omega
          have z2 : 2 ≤ s21 170 42 := by omega
          have z9 := pf21.1
          rw [zk] at t1
          rw [zk] at z9
          have zp : (s21 195 ((s_m546 170 42 - 1) : Int).toNat) = s21 195 (s21 170 42 - 1 : Int).toNat := by
            rw [show (s_m546 170 42 - 1 : Int).toNat = (s21 170 42 - 1 : Int).toNat by omega]
          have z3 := PI_pair (z := (s21 195 ((s_m546 170 42 - 1) : Int).toNat)) z9 (by rw [zp]; unfold prok at t1; unfold pa; ((repeat' split) <;> omega)) (by omega)
          clear z9
          have z9 := z3
          have z4 := PI_leave2 z9 x1 z2 (q' := s25 170 4) (by omega)
          exact ⟨show PI (s21 170 35) (((s21 170 34) + 1)) (s21 170 45) (((s21 170 42) - 1)) (((s21 170 43) - 1)) 1 (pa (s21 192 ((((s21 170 42) - 1)) - 1 : Int).toNat) (s21 195 ((((s21 170 42) - 1)) - 1 : Int).toNat)) (s25 170 4) (s21 197) (s21 196) (s21 192) (s21 195) (s21 194) (up1 (s21 188) ((1600 : Int) * (s21 170 35) + (s21 170 34) : Int).toNat (s21 195 ((s_m546 170 42 - 1) : Int).toNat)) (f0s s21) from z4.1, z4.2, show PH (((s21 170 42) - 1)) (s21 170 45) (s21 197) (s21 196) (s21 193) from PH_leave pf21.2.2 z2 x1⟩), (show ∀ i : Nat, (i : Int) < 1600 * st 170 35 + st 170 34 ∨ 1600 * st 170 35 + 1600 ≤ (i : Int) → s25 188 i = st 188 i from (fun i hi => (fs25 188 i rfl rfl).trans ((fun i hi => (zup_ni _ _ (by omega)).trans ((fun i hi => (o21 i (by omega)).trans (o_m546 i hi)) i hi)) i hi))), (show st 170 34 ≤ s25 170 34 from by omega)⟩
  · refine ⟨by omega, ?_⟩
    exact hQ _ _ ⟨gI_m546, fI_m546, (show s_m546 170 4 ≤ s_m546 170 5 ∧ s_m546 170 5 ≤ s_m546 170 2 ∧ (s_m546 170 3 = 0 ∧ s_m546 170 4 = s_m546 170 2 ∨ 1 ≤ s_m546 170 3 ∧ s_m546 170 4 < s_m546 170 5) ∧ st 170 4 ≤ s_m546 170 4 from by omega), (show ((0 : Int) = 0 ∨ (0 : Int) = 1) from by omega), (show s_m546 170 8 = 0 → ((0 : Int) = 1 → st 170 5 ≤ s_m546 170 4 ∧ 1 ≤ st 170 3 ∧ PF s_m546 (s_m546 170 46) (s_m546 170 4)) ∧ ((0 : Int) = 0 → PF s_m546 1 (s_m546 170 4)) from fun z => absurd z (by omega)), (show ∀ i : Nat, (i : Int) < 1600 * st 170 35 + st 170 34 ∨ 1600 * st 170 35 + 1600 ≤ (i : Int) → s_m546 188 i = st 188 i from o_m546), (show st 170 34 ≤ s_m546 170 34 from by omega)⟩
end R6b
