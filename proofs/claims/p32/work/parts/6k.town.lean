/-! printed by wip/p32/libb.py: the reference's town -/
def rq_town  (st : zS) : Prop := gInv zgt st ∧ zJ st
def en_town  (st : zS) (r : Int) (s1 : zS) : Prop := gInv zgt s1 ∧ zJ s1
def ct_town  (st : zS) (Q : zQ) : Prop := rq_town  st ∧ (∀ (r : Int) (s1 : zS), en_town  st r s1 → Q (some (.inl r)) s1)
theorem ct_town_m {st : zS} {Q Q' : zQ} (hQ : ∀ r st', Q r st' → Q' r st') (h : ct_town  st Q) : ct_town  st Q' := ⟨h.1, fun x0 x1 x2 => hQ _ _ (h.2 x0 x1 x2)⟩
def k_town : zCall := fun _ as st Q => match as with
  | [.inr (.inr (.inl z_o))] => z_o = 170 ∧ ct_town  st Q
  | _ => False
theorem k_town_mon : zmon k_town := by
  intro nu as st Q Q' hQ h
  unfold k_town at h ⊢
  split at h
  · exact ⟨h.1, ct_town_m hQ h.2⟩
  · exact h.elim
section R6k
variable {cl : Nat → zCall}
def cx_town (cl : Nat → zCall) (d : Nat)  (st : zS) (Q : zQ) (K : zG) : Prop := zcl zSh rx_m148 2 1 (cl d) Q K ∧ zsl K ∧ zmo (wcL [(149, k_ahead), (210, k_statement), (211, k_finishes), (58, k_refuses), (150, k_begin)]) (cl d) ∧ rq_town  st ∧ (∀ (r : Int) (s1 : zS), en_town  st r s1 → Q (some (.inl r)) s1)
set_option maxHeartbeats 40000000 in
set_option maxRecDepth 100000 in
theorem town_m194 {d : Nat} {st : zS} {Q : zQ} {K : zG} (hX : cx_town cl d  st Q K) : ∀ (n : Int) (s_m194 : zS), gInv zgt s_m194 ∧ (jR st s_m194) ∧ (s_m194 170 4 ≤ s_m194 170 5 ∧ s_m194 170 5 ≤ s_m194 170 2 ∧ (s_m194 170 3 = 0 ∧ s_m194 170 4 = s_m194 170 2 ∨ 1 ≤ s_m194 170 3 ∧ s_m194 170 4 < s_m194 170 5)) ∧ (s_m194 170 35 = 1 - s_m194 170 13 ∧ s_m194 170 13 = st 170 13) ∧ (0 ≤ n ∧ n ≤ s_m194 170 4 + s_m194 170 8) ∧ (s_m194 170 8 = 0 → TS s_m194 ∧ s_m194 170 34 ≤ s_m194 170 4) → K (rx_find rx_m148 194) [(1, .inl n), (0, .inr (.inr (.inl 170)))] [] s_m194 := by
  obtain ⟨hcl, hsl, hcm, hR, hQ⟩ := id hX
  obtain ⟨hG, hJ⟩ := hR
  intro n s_m194 hi
  obtain ⟨gI_m194, R_m194, lx_m194, bk_m194, n_m194, e_m194⟩ := hi
  have g1 := g_signAt gI_m194
  have g2 := g_signEnd gI_m194
  have g3 := g_size gI_m194
  have g4 := g_sign gI_m194
  have g5 := g_in gI_m194
  have g6 := g_bank gI_m194
  have g7 := g_bank hG
  have g8 := g_faultKind gI_m194
  have g9 := g_codes gI_m194
  have g10 := g_faultPlace gI_m194
  refine yr1_ok (Rt := Q) (wc := (wcL [(149, k_ahead), (210, k_statement), (211, k_finishes), (58, k_refuses), (150, k_begin)])) (stp := [194]) hcm hcl [] 200 ?_
  show ((s_m194 170 8 ≤ (0 : Int) → (170 = 170 ∧ (rq_begin  (zup (zup (zup s_m194 170 10 (s_m194 170 8)) 170 11 (s_m194 170 9)) 170 13 (s_m194 170 35)) ∧ (∀ (s11 : zS), en_begin  (zup (zup (zup s_m194 170 10 (s_m194 170 8)) 170 11 (s_m194 170 9)) 170 13 (s_m194 170 35)) s11 → Q (some (.inl n)) s11)))) ∧ (¬ (s_m194 170 8 ≤ (0 : Int)) → (170 = 170 ∧ (rq_refuses (1) (zup (zup s_m194 170 10 (s_m194 170 8)) 170 11 (s_m194 170 9)) ∧ (∀ (r12 : Int) (s12 : zS), en_refuses (1) (zup (zup s_m194 170 10 (s_m194 170 8)) 170 11 (s_m194 170 9)) r12 s12 → Q (some (.inl r12)) s12)))))
  refine ⟨fun h13 => ?_, fun h13 => ?_⟩
  · have g14 := g_steps gI_m194 ((s_m194 170 35) : Int).toNat
    refine ⟨rfl, ⟨(gInv_up (gInv_up (gInv_up gI_m194 (p_toldKind (by omega))) (p_toldPlace (by omega))) (p_bank (by omega))), (show jS (zup (zup (zup s_m194 170 10 (s_m194 170 8)) 170 11 (s_m194 170 9)) 170 13 (s_m194 170 35)) from jS_e (TS_jS (e_m194 (by omega)).1) rfl (fun _ => rfl) (fun _ => rfl) (fun _ => rfl)), (show jC (zup (zup (zup s_m194 170 10 (s_m194 170 8)) 170 11 (s_m194 170 9)) 170 13 (s_m194 170 35)) from jC_e (TS_jC (e_m194 (by omega)).1) rfl (fun _ => rfl) (fun _ => rfl) (fun _ => rfl)), (show TS2 ((s_m194 170 35)) (s_m194 178 ((s_m194 170 35) : Int).toNat) ((zup (zup (zup s_m194 170 10 (s_m194 170 8)) 170 11 (s_m194 170 9)) 170 13 (s_m194 170 35)) 177) ((zup (zup (zup s_m194 170 10 (s_m194 170 8)) 170 11 (s_m194 170 9)) 170 13 (s_m194 170 35)) 179) from (e_m194 (by omega)).1.2.1)⟩, fun s11 q11 => ?_⟩
    obtain ⟨gs11, fs11, js11⟩ := q11
    exact hQ _ _ ⟨gs11, js11⟩
  · refine ⟨rfl, ⟨(gInv_up (gInv_up gI_m194 (p_toldKind (by omega))) (p_toldPlace (by omega))), (show 0 ≤ (1) ∧ (1) ≤ 5 from by omega)⟩, fun r12 s12 q12 => ?_⟩
    obtain ⟨gs12, fs12, e12⟩ := q12
    change r12 = -1 at e12
    exact hQ _ _ ⟨gs12, (zJ_fr rfl fs12 (zJ_up rfl (zJ_up rfl (zJ_R hG hJ R_m194))))⟩
set_option maxHeartbeats 40000000 in
set_option maxRecDepth 100000 in
theorem town_lm {d : Nat} {st : zS} {Q : zQ} {K : zG} (hX : cx_town cl d  st Q K) : ∀ (u : Nat) (n : Int) (s_lm : zS), gInv zgt s_lm ∧ (jR st s_lm) ∧ (s_lm 170 4 ≤ s_lm 170 5 ∧ s_lm 170 5 ≤ s_lm 170 2 ∧ (s_lm 170 3 = 0 ∧ s_lm 170 4 = s_lm 170 2 ∨ 1 ≤ s_lm 170 3 ∧ s_lm 170 4 < s_lm 170 5)) ∧ (s_lm 170 35 = 1 - s_lm 170 13 ∧ s_lm 170 13 = st 170 13) ∧ (0 ≤ n ∧ n ≤ s_lm 170 4 + s_lm 170 8) ∧ (s_lm 170 8 = 0 → TS s_lm ∧ s_lm 170 34 ≤ s_lm 170 4) → (12000 - 2000 * s_lm 170 8 + 1601 - s_lm 170 4).toNat = u → K (rx_find rx_m148 165) [(1, .inl n), (0, .inr (.inr (.inl 170)))] [] s_lm := by
  obtain ⟨hcl, hsl, hcm, hR, hQ⟩ := id hX
  obtain ⟨hG, hJ⟩ := hR
  intro u
  induction u using Nat.strongRecOn with
  | _ u ih =>
    intro n s_lm hi hu
    obtain ⟨gI_lm, R_lm, lx_lm, bk_lm, n_lm, e_lm⟩ := hi
    have g15 := g_signAt gI_lm
    have g16 := g_signEnd gI_lm
    have g17 := g_size gI_lm
    have g18 := g_sign gI_lm
    have g19 := g_in gI_lm
    have g20 := g_bank gI_lm
    have g21 := g_bank hG
    have g22 := g_faultKind gI_lm
    have g23 := g_codes gI_lm
    have g24 := g_faultPlace gI_lm
    refine yr1_ok (Rt := Q) (wc := (wcL [(149, k_ahead), (210, k_statement), (211, k_finishes), (58, k_refuses), (150, k_begin)])) (stp := [165, 194]) hcm hcl [] 200 ?_
    show ((¬ s_lm 170 8 = (0 : Int) → K (rx_find rx_m148 194) [(1, .inl n), (0, .inr (.inr (.inl 170)))] [] s_lm) ∧ (¬ (¬ s_lm 170 8 = (0 : Int)) → ((s_lm 170 3 = (0 : Int) → K (rx_find rx_m148 194) [(1, .inl n), (0, .inr (.inr (.inl 170)))] [] s_lm) ∧ (¬ (s_lm 170 3 = (0 : Int)) → (170 = 170 ∧ (rq_statement  s_lm ∧ (∀ (s25 : zS), en_statement  s_lm s25 → ((-2147483648 ≤ n + 1 ∧ n + 1 ≤ 2147483647) ∧ (170 = 170 ∧ (rq_finishes (n + 1) s25 ∧ (∀ (s26 : zS), en_finishes (n + 1) s25 s26 → K (rx_find rx_m148 165) [(1, .inl (n + 1)), (0, .inr (.inr (.inl 170)))] [] s26)))))))))))
    refine ⟨fun h27 => ?_, fun h27 => ?_⟩
    · exact town_m194 hX n s_lm ⟨gI_lm, (show jR st s_lm from R_lm), (show s_lm 170 4 ≤ s_lm 170 5 ∧ s_lm 170 5 ≤ s_lm 170 2 ∧ (s_lm 170 3 = 0 ∧ s_lm 170 4 = s_lm 170 2 ∨ 1 ≤ s_lm 170 3 ∧ s_lm 170 4 < s_lm 170 5) from by omega), (show s_lm 170 35 = 1 - s_lm 170 13 ∧ s_lm 170 13 = st 170 13 from by omega), (show 0 ≤ n ∧ n ≤ s_lm 170 4 + s_lm 170 8 from by omega), (show s_lm 170 8 = 0 → TS s_lm ∧ s_lm 170 34 ≤ s_lm 170 4 from by omega)⟩
    · refine ⟨fun h28 => ?_, fun h28 => ?_⟩
      · exact town_m194 hX n s_lm ⟨gI_lm, (show jR st s_lm from R_lm), (show s_lm 170 4 ≤ s_lm 170 5 ∧ s_lm 170 5 ≤ s_lm 170 2 ∧ (s_lm 170 3 = 0 ∧ s_lm 170 4 = s_lm 170 2 ∨ 1 ≤ s_lm 170 3 ∧ s_lm 170 4 < s_lm 170 5) from by omega), (show s_lm 170 35 = 1 - s_lm 170 13 ∧ s_lm 170 13 = st 170 13 from by omega), (show 0 ≤ n ∧ n ≤ s_lm 170 4 + s_lm 170 8 from by omega), (show s_lm 170 8 = 0 → TS s_lm ∧ s_lm 170 34 ≤ s_lm 170 4 from by omega)⟩
      · refine ⟨rfl, ⟨gI_lm, (show s_lm 170 4 ≤ s_lm 170 5 ∧ s_lm 170 5 ≤ s_lm 170 2 ∧ (s_lm 170 3 = 0 ∧ s_lm 170 4 = s_lm 170 2 ∨ 1 ≤ s_lm 170 3 ∧ s_lm 170 4 < s_lm 170 5) from by omega), (show TS s_lm from (e_lm (by omega)).1), (show s_lm 170 8 = 0 ∧ s_lm 170 34 ≤ s_lm 170 4 ∧ 1 ≤ s_lm 170 3 from by have z := (e_lm (by omega)).2; omega), (show s_lm 170 35 = 1 - s_lm 170 13 from by omega)⟩, fun s25 q25 => ?_⟩
        obtain ⟨gs25, fs25, p25, R25, e25⟩ := q25
        change s25 170 4 ≤ s25 170 5 ∧ s25 170 5 ≤ s25 170 2 ∧ (s25 170 3 = 0 ∧ s25 170 4 = s25 170 2 ∨ 1 ≤ s25 170 3 ∧ s25 170 4 < s25 170 5) ∧ s_lm 170 4 ≤ s25 170 4 at p25
        have g29 := g_signAt gs25
        have g30 := g_signEnd gs25
        have e31 : s25 170 2 = s_lm 170 2 := fs25 170 2 rfl rfl
        have g32 := g_sign gs25
        change jR s_lm s25 at R25
        change s25 170 8 = 0 → TS s25 ∧ s25 170 34 ≤ s25 170 4 at e25
        have g33 := g_faultKind gs25
        have g34 := g_codes gs25
        refine ⟨by omega, ?_⟩
        refine ⟨rfl, ⟨gs25, (show s25 170 4 ≤ s25 170 5 ∧ s25 170 5 ≤ s25 170 2 ∧ (s25 170 3 = 0 ∧ s25 170 4 = s25 170 2 ∨ 1 ≤ s25 170 3 ∧ s25 170 4 < s25 170 5) from by omega)⟩, fun s26 q26 => ?_⟩
        obtain ⟨gs26, fs26, p26⟩ := q26
        change s26 170 4 ≤ s26 170 5 ∧ s26 170 5 ≤ s26 170 2 ∧ (s26 170 3 = 0 ∧ s26 170 4 = s26 170 2 ∨ 1 ≤ s26 170 3 ∧ s26 170 4 < s26 170 5) ∧ s25 170 4 ≤ s26 170 4 ∧ (s26 170 8 = 0 → s25 170 8 = 0 ∧ s25 170 5 ≤ s26 170 4 ∧ 1 ≤ s25 170 3) at p26
        have g35 := g_signAt gs26
        have g36 := g_signEnd gs26
        have e37 : s26 170 2 = s25 170 2 := fs26 170 2 rfl rfl
        have g38 := g_sign gs26
        have g39 := g_faultKind gs26
        have e41 : s25 170 35 = s_lm 170 35 := fs25 170 35 rfl rfl
        have e40 : s26 170 35 = s25 170 35 := fs26 170 35 rfl rfl
        have e43 : s25 170 13 = s_lm 170 13 := fs25 170 13 rfl rfl
        have e42 : s26 170 13 = s25 170 13 := fs26 170 13 rfl rfl
        have e44 : s26 170 34 = s25 170 34 := fs26 170 34 rfl rfl
        exact ih _ (show (12000 - 2000 * s26 170 8 + 1601 - s26 170 4 : Int).toNat < u from by omega) (n + 1) s26 ⟨gs26, (show jR st s26 from (jR_tr (s1 := s25) (jR_tr (s1 := s_lm) R_lm R25) (jR_fr rfl fs26))), (show s26 170 4 ≤ s26 170 5 ∧ s26 170 5 ≤ s26 170 2 ∧ (s26 170 3 = 0 ∧ s26 170 4 = s26 170 2 ∨ 1 ≤ s26 170 3 ∧ s26 170 4 < s26 170 5) from by omega), (show s26 170 35 = 1 - s26 170 13 ∧ s26 170 13 = st 170 13 from by omega), (show 0 ≤ (n + 1) ∧ (n + 1) ≤ s26 170 4 + s26 170 8 from by omega), (show s26 170 8 = 0 → TS s26 ∧ s26 170 34 ≤ s26 170 4 from fun z => ⟨TS_fr rfl fs26 (e25 (by omega)).1, by have z1 := (e25 (by omega)).2; omega⟩)⟩ rfl
set_option maxHeartbeats 40000000 in
set_option maxRecDepth 100000 in
theorem town_lz {d : Nat} {st : zS} {Q : zQ} {K : zG} (hX : cx_town cl d  st Q K) : ∀ (u : Nat) (k : Int) (s_lz : zS), gInv zgt s_lz ∧ (jR st s_lz) ∧ (s_lz 170 35 = 1 - s_lz 170 13 ∧ s_lz 170 13 = st 170 13 ∧ s_lz 170 8 = 0 ∧ s_lz 170 5 = 0 ∧ 0 ≤ k ∧ k ≤ 64) ∧ (s_lz 172 (s_lz 170 35 : Int).toNat = 0 ∧ s_lz 173 (s_lz 170 35 : Int).toNat = 0 ∧ s_lz 178 (s_lz 170 35 : Int).toNat = 0 ∧ s_lz 186 (2 * s_lz 170 35 : Int).toNat = -1 ∧ s_lz 186 (2 * s_lz 170 35 + 1 : Int).toNat = -1) ∧ (∀ j : Int, 0 ≤ j → j < k → s_lz 177 (64 * s_lz 170 35 + j).toNat = 0) → (64 - k).toNat = u → K (rx_find rx_m148 127) [(1, .inl k), (0, .inr (.inr (.inl 170)))] [] s_lz := by
  obtain ⟨hcl, hsl, hcm, hR, hQ⟩ := id hX
  obtain ⟨hG, hJ⟩ := hR
  intro u
  induction u using Nat.strongRecOn with
  | _ u ih =>
    intro k s_lz hi hu
    obtain ⟨gI_lz, R_lz, d_lz, e_lz, z_lz⟩ := hi
    have g45 := g_in gI_lz
    have g46 := g_bank gI_lz
    have g47 := g_bank hG
    have g48 := g_faultKind gI_lz
    have g49 := g_signEnd gI_lz
    have g50 := g_places gI_lz (s_lz 170 35 : Int).toNat
    have g51 := g_streets gI_lz (s_lz 170 35 : Int).toNat
    have g52 := g_steps gI_lz (s_lz 170 35 : Int).toNat
    have g53 := g_sumFrom gI_lz (2 * s_lz 170 35 : Int).toNat
    have g54 := g_sumFrom gI_lz (2 * s_lz 170 35 + 1 : Int).toNat
    have g55 := g_codes gI_lz
    have g56 := g_signAt gI_lz
    have g57 := g_size gI_lz
    have g58 := g_sign gI_lz
    have g59 := g_faultPlace gI_lz
    refine yr1_ok (Rt := Q) (wc := (wcL [(149, k_ahead), (210, k_statement), (211, k_finishes), (58, k_refuses), (150, k_begin)])) (stp := [127, 165, 194]) hcm hcl [] 200 ?_
    show (((64 : Int) ≤ k → (170 = 170 ∧ (rq_ahead  (zup s_lz 170 34 0) ∧ (∀ (s60 : zS), en_ahead  (zup s_lz 170 34 0) s60 → K (rx_find rx_m148 165) [(1, .inl 0), (0, .inr (.inr (.inl 170)))] [] s60)))) ∧ (¬ ((64 : Int) ≤ k) → ((-2147483648 ≤ (64 : Int) * (s_lz 170 35) ∧ (64 : Int) * (s_lz 170 35) ≤ 2147483647) ∧ ((-2147483648 ≤ ((64 : Int) * (s_lz 170 35)) + k ∧ ((64 : Int) * (s_lz 170 35)) + k ≤ 2147483647) ∧ ((0 ≤ ((64 : Int) * (s_lz 170 35)) + k ∧ ((64 : Int) * (s_lz 170 35)) + k < 128) ∧ ((-2147483648 ≤ k + 1 ∧ k + 1 ≤ 2147483647) ∧ K (rx_find rx_m148 127) [(1, .inl (k + 1)), (0, .inr (.inr (.inl 170)))] [] (zup s_lz 177 (((64 : Int) * (s_lz 170 35)) + k : Int).toNat 0)))))))
    refine ⟨fun h61 => ?_, fun h61 => ?_⟩
    · refine ⟨rfl, ⟨(gInv_up gI_lz (p_codes (by omega))), (show s_lz 170 5 ≤ s_lz 170 2 from by omega)⟩, fun s60 q60 => ?_⟩
      obtain ⟨gs60, fs60, p60⟩ := q60
      change s60 170 4 ≤ s60 170 5 ∧ s60 170 5 ≤ s60 170 2 ∧ (s60 170 3 = 0 ∧ s60 170 4 = s60 170 2 ∨ 1 ≤ s60 170 3 ∧ s60 170 4 < s60 170 5) ∧ s_lz 170 5 ≤ s60 170 4 at p60
      have g62 := g_signAt gs60
      have g63 := g_signEnd gs60
      have e64 : s60 170 2 = s_lz 170 2 := fs60 170 2 rfl rfl
      have g65 := g_sign gs60
      have e66 : s60 170 35 = s_lz 170 35 := fs60 170 35 rfl rfl
      have e67 : s60 170 13 = s_lz 170 13 := fs60 170 13 rfl rfl
      have e68 : s60 170 8 = s_lz 170 8 := fs60 170 8 rfl rfl
      have e69 : s60 170 34 = 0 := fs60 170 34 rfl rfl
      exact town_lm hX _ 0 s60 ⟨gs60, (show jR st s60 from (jR_tr (s1 := (zup s_lz 170 34 0)) (jR_up R_lz (by unfold jrel; omega)) (jR_fr rfl fs60))), (show s60 170 4 ≤ s60 170 5 ∧ s60 170 5 ≤ s60 170 2 ∧ (s60 170 3 = 0 ∧ s60 170 4 = s60 170 2 ∨ 1 ≤ s60 170 3 ∧ s60 170 4 < s60 170 5) from by omega), (show s60 170 35 = 1 - s60 170 13 ∧ s60 170 13 = st 170 13 from by omega), (show 0 ≤ (0 : Int) ∧ (0 : Int) ≤ s60 170 4 + s60 170 8 from by omega), (show s60 170 8 = 0 → TS s60 ∧ s60 170 34 ≤ s60 170 4 from fun z => ⟨TS_fr rfl fs60 (show TS (zup s_lz 170 34 0) from TS_init (fun j z1 z2 => z_lz j z1 (by omega)) e_lz.2.2.1 e_lz.2.2.2.1 e_lz.2.2.2.2), by omega⟩)⟩ rfl
    · refine ⟨by omega, ?_⟩
      refine ⟨by omega, ?_⟩
      refine ⟨by omega, ?_⟩
      refine ⟨by omega, ?_⟩
      exact ih _ (show (64 - (k + 1) : Int).toNat < u from by omega) (k + 1) (zup s_lz 177 (((64 : Int) * (s_lz 170 35)) + k : Int).toNat 0) ⟨(gInv_up gI_lz (p_streetAt (by omega))), (show jR st (zup s_lz 177 (((64 : Int) * (s_lz 170 35)) + k : Int).toNat 0) from (jR_up R_lz (by unfold jrel; omega))), (show s_lz 170 35 = 1 - s_lz 170 13 ∧ s_lz 170 13 = st 170 13 ∧ s_lz 170 8 = 0 ∧ s_lz 170 5 = 0 ∧ 0 ≤ (k + 1) ∧ (k + 1) ≤ 64 from by omega), (show s_lz 172 (s_lz 170 35 : Int).toNat = 0 ∧ s_lz 173 (s_lz 170 35 : Int).toNat = 0 ∧ s_lz 178 (s_lz 170 35 : Int).toNat = 0 ∧ s_lz 186 (2 * s_lz 170 35 : Int).toNat = -1 ∧ s_lz 186 (2 * s_lz 170 35 + 1 : Int).toNat = -1 from by omega), (show ∀ j : Int, 0 ≤ j → j < (k + 1) → (zup s_lz 177 (((64 : Int) * (s_lz 170 35)) + k : Int).toNat 0) 177 (64 * s_lz 170 35 + j).toNat = 0 from fun j z1 z2 => by
            by_cases z3 : j = k
            · subst z3
              exact up1_e (s_lz 177) _ _
            · exact (up1_n (s_lz 177) _ (by omega)).trans (z_lz j z1 (by omega)))⟩ rfl
set_option maxHeartbeats 40000000 in
set_option maxRecDepth 100000 in
theorem c_town (hTb : aTb zSh rx_tb cl) {D : Nat} (hD : 8 ≤ D) {st : zS} {Q : zQ} (h : ct_town  st Q) : cl D 148 [.inr (.inr (.inl 170))] st Q := by
  obtain ⟨d, rfl⟩ : ∃ d, D = d + 1 := ⟨D - 1, by omega⟩
  refine hTb d 148 (rx_m148, 2, 0, 0, 1) rfl _ _ _ (Nat.le_of_ble_eq_true rfl) (fun K hcl hsf hsl => ?_)
  have hcm : zmo (wcL [(149, k_ahead), (210, k_statement), (211, k_finishes), (58, k_refuses), (150, k_begin)]) (cl d) := (wcL_m (wm_cons (k_ahead_m hTb (by omega)) (wm_cons (k_statement_m hTb (by omega)) (wm_cons (k_finishes_m hTb (by omega)) (wm_cons (k_refuses_m hTb (by omega)) (wm_cons (k_begin_m hTb (by omega)) wm_nil))))))
  obtain ⟨hR, hQ⟩ := h
  have hX : cx_town cl d  st Q K := ⟨hcl, hsl, hcm, hR, hQ⟩
  obtain ⟨hG, hJ⟩ := hR
  have g70 := g_taped hG
  have g71 := g_bank hG
  refine yr1_ok (Rt := Q) (wc := (wcL [(149, k_ahead), (210, k_statement), (211, k_finishes), (58, k_refuses), (150, k_begin)])) (stp := [127, 165, 194]) hcm hcl [] 200 ?_
  show ((-2147483648 ≤ (1 : Int) - (st 170 13) ∧ (1 : Int) - (st 170 13) ≤ 2147483647) ∧ ((0 ≤ ((1 : Int) - (st 170 13)) ∧ ((1 : Int) - (st 170 13)) < 2) ∧ ((0 ≤ ((1 : Int) - (st 170 13)) ∧ ((1 : Int) - (st 170 13)) < 2) ∧ ((0 ≤ ((1 : Int) - (st 170 13)) ∧ ((1 : Int) - (st 170 13)) < 2) ∧ ((0 ≤ ((1 : Int) - (st 170 13)) ∧ ((1 : Int) - (st 170 13)) < 2) ∧ ((0 ≤ ((1 : Int) - (st 170 13)) ∧ ((1 : Int) - (st 170 13)) < 2) ∧ ((0 ≤ ((1 : Int) - (st 170 13)) ∧ ((1 : Int) - (st 170 13)) < 2) ∧ ((-2147483648 ≤ (2 : Int) * ((1 : Int) - (st 170 13)) ∧ (2 : Int) * ((1 : Int) - (st 170 13)) ≤ 2147483647) ∧ ((0 ≤ (2 : Int) * ((1 : Int) - (st 170 13)) ∧ (2 : Int) * ((1 : Int) - (st 170 13)) < 4) ∧ ((-2147483648 ≤ (2 : Int) * ((1 : Int) - (st 170 13)) ∧ (2 : Int) * ((1 : Int) - (st 170 13)) ≤ 2147483647) ∧ ((-2147483648 ≤ ((2 : Int) * ((1 : Int) - (st 170 13))) + 1 ∧ ((2 : Int) * ((1 : Int) - (st 170 13))) + 1 ≤ 2147483647) ∧ ((0 ≤ ((2 : Int) * ((1 : Int) - (st 170 13))) + 1 ∧ ((2 : Int) * ((1 : Int) - (st 170 13))) + 1 < 4) ∧ K (rx_find rx_m148 127) [(1, .inl 0), (0, .inr (.inr (.inl 170)))] [] (zup (zup (zup (zup (zup (zup (zup (zup (zup (zup (zup (zup (zup (zup st 170 2 (st 170 1)) 170 1 0) 170 5 0) 170 8 0) 170 9 (-1)) 170 35 ((1 : Int) - (st 170 13))) 172 (((1 : Int) - (st 170 13)) : Int).toNat 0) 173 (((1 : Int) - (st 170 13)) : Int).toNat 0) 178 (((1 : Int) - (st 170 13)) : Int).toNat 0) 181 (((1 : Int) - (st 170 13)) : Int).toNat 0) 184 (((1 : Int) - (st 170 13)) : Int).toNat 20) 185 (((1 : Int) - (st 170 13)) : Int).toNat 0) 186 ((2 : Int) * ((1 : Int) - (st 170 13)) : Int).toNat (-1)) 186 (((2 : Int) * ((1 : Int) - (st 170 13))) + 1 : Int).toNat (-1))))))))))))))
  refine ⟨by omega, ?_⟩
  refine ⟨by omega, ?_⟩
  refine ⟨by omega, ?_⟩
  refine ⟨by omega, ?_⟩
  refine ⟨by omega, ?_⟩
  refine ⟨by omega, ?_⟩
  refine ⟨by omega, ?_⟩
  refine ⟨by omega, ?_⟩
  refine ⟨by omega, ?_⟩
  refine ⟨by omega, ?_⟩
  refine ⟨by omega, ?_⟩
  refine ⟨by omega, ?_⟩
  have u72 : (zup (zup (zup (zup (zup (zup (zup st 170 2 (st 170 1)) 170 1 0) 170 5 0) 170 8 0) 170 9 (-1)) 170 35 ((1 : Int) - (st 170 13))) 172 (((1 : Int) - (st 170 13)) : Int).toNat 0) 172 (((1 : Int) - (st 170 13)) : Int).toNat = 0 := zup_eq _ _ _ _
  have u73 : (zup (zup (zup (zup (zup (zup (zup (zup st 170 2 (st 170 1)) 170 1 0) 170 5 0) 170 8 0) 170 9 (-1)) 170 35 ((1 : Int) - (st 170 13))) 172 (((1 : Int) - (st 170 13)) : Int).toNat 0) 173 (((1 : Int) - (st 170 13)) : Int).toNat 0) 173 (((1 : Int) - (st 170 13)) : Int).toNat = 0 := zup_eq _ _ _ _
  have u74 : (zup (zup (zup (zup (zup (zup (zup (zup (zup st 170 2 (st 170 1)) 170 1 0) 170 5 0) 170 8 0) 170 9 (-1)) 170 35 ((1 : Int) - (st 170 13))) 172 (((1 : Int) - (st 170 13)) : Int).toNat 0) 173 (((1 : Int) - (st 170 13)) : Int).toNat 0) 178 (((1 : Int) - (st 170 13)) : Int).toNat 0) 178 (((1 : Int) - (st 170 13)) : Int).toNat = 0 := zup_eq _ _ _ _
  have g77 := g_sumFrom hG (2 * ((1 : Int) - (st 170 13)) : Int).toNat
  have u76 : ((2 * ((1 : Int) - (st 170 13)) : Int).toNat = ((2 : Int) * ((1 : Int) - (st 170 13)) : Int).toNat → (zup (zup (zup (zup (zup (zup (zup (zup (zup (zup (zup (zup (zup st 170 2 (st 170 1)) 170 1 0) 170 5 0) 170 8 0) 170 9 (-1)) 170 35 ((1 : Int) - (st 170 13))) 172 (((1 : Int) - (st 170 13)) : Int).toNat 0) 173 (((1 : Int) - (st 170 13)) : Int).toNat 0) 178 (((1 : Int) - (st 170 13)) : Int).toNat 0) 181 (((1 : Int) - (st 170 13)) : Int).toNat 0) 184 (((1 : Int) - (st 170 13)) : Int).toNat 20) 185 (((1 : Int) - (st 170 13)) : Int).toNat 0) 186 ((2 : Int) * ((1 : Int) - (st 170 13)) : Int).toNat (-1)) 186 (2 * ((1 : Int) - (st 170 13)) : Int).toNat = (-1)) ∧ (¬ (2 * ((1 : Int) - (st 170 13)) : Int).toNat = ((2 : Int) * ((1 : Int) - (st 170 13)) : Int).toNat → (zup (zup (zup (zup (zup (zup (zup (zup (zup (zup (zup (zup (zup st 170 2 (st 170 1)) 170 1 0) 170 5 0) 170 8 0) 170 9 (-1)) 170 35 ((1 : Int) - (st 170 13))) 172 (((1 : Int) - (st 170 13)) : Int).toNat 0) 173 (((1 : Int) - (st 170 13)) : Int).toNat 0) 178 (((1 : Int) - (st 170 13)) : Int).toNat 0) 181 (((1 : Int) - (st 170 13)) : Int).toNat 0) 184 (((1 : Int) - (st 170 13)) : Int).toNat 20) 185 (((1 : Int) - (st 170 13)) : Int).toNat 0) 186 ((2 : Int) * ((1 : Int) - (st 170 13)) : Int).toNat (-1)) 186 (2 * ((1 : Int) - (st 170 13)) : Int).toNat = st 186 (2 * ((1 : Int) - (st 170 13)) : Int).toNat) := zup_two _ _ _ _ _
  have u75 : ((2 * ((1 : Int) - (st 170 13)) : Int).toNat = (((2 : Int) * ((1 : Int) - (st 170 13))) + 1 : Int).toNat → (zup (zup (zup (zup (zup (zup (zup (zup (zup (zup (zup (zup (zup (zup st 170 2 (st 170 1)) 170 1 0) 170 5 0) 170 8 0) 170 9 (-1)) 170 35 ((1 : Int) - (st 170 13))) 172 (((1 : Int) - (st 170 13)) : Int).toNat 0) 173 (((1 : Int) - (st 170 13)) : Int).toNat 0) 178 (((1 : Int) - (st 170 13)) : Int).toNat 0) 181 (((1 : Int) - (st 170 13)) : Int).toNat 0) 184 (((1 : Int) - (st 170 13)) : Int).toNat 20) 185 (((1 : Int) - (st 170 13)) : Int).toNat 0) 186 ((2 : Int) * ((1 : Int) - (st 170 13)) : Int).toNat (-1)) 186 (((2 : Int) * ((1 : Int) - (st 170 13))) + 1 : Int).toNat (-1)) 186 (2 * ((1 : Int) - (st 170 13)) : Int).toNat = (-1)) ∧ (¬ (2 * ((1 : Int) - (st 170 13)) : Int).toNat = (((2 : Int) * ((1 : Int) - (st 170 13))) + 1 : Int).toNat → (zup (zup (zup (zup (zup (zup (zup (zup (zup (zup (zup (zup (zup (zup st 170 2 (st 170 1)) 170 1 0) 170 5 0) 170 8 0) 170 9 (-1)) 170 35 ((1 : Int) - (st 170 13))) 172 (((1 : Int) - (st 170 13)) : Int).toNat 0) 173 (((1 : Int) - (st 170 13)) : Int).toNat 0) 178 (((1 : Int) - (st 170 13)) : Int).toNat 0) 181 (((1 : Int) - (st 170 13)) : Int).toNat 0) 184 (((1 : Int) - (st 170 13)) : Int).toNat 20) 185 (((1 : Int) - (st 170 13)) : Int).toNat 0) 186 ((2 : Int) * ((1 : Int) - (st 170 13)) : Int).toNat (-1)) 186 (((2 : Int) * ((1 : Int) - (st 170 13))) + 1 : Int).toNat (-1)) 186 (2 * ((1 : Int) - (st 170 13)) : Int).toNat = (zup (zup (zup (zup (zup (zup (zup (zup (zup (zup (zup (zup (zup st 170 2 (st 170 1)) 170 1 0) 170 5 0) 170 8 0) 170 9 (-1)) 170 35 ((1 : Int) - (st 170 13))) 172 (((1 : Int) - (st 170 13)) : Int).toNat 0) 173 (((1 : Int) - (st 170 13)) : Int).toNat 0) 178 (((1 : Int) - (st 170 13)) : Int).toNat 0) 181 (((1 : Int) - (st 170 13)) : Int).toNat 0) 184 (((1 : Int) - (st 170 13)) : Int).toNat 20) 185 (((1 : Int) - (st 170 13)) : Int).toNat 0) 186 ((2 : Int) * ((1 : Int) - (st 170 13)) : Int).toNat (-1)) 186 (2 * ((1 : Int) - (st 170 13)) : Int).toNat) := zup_two _ _ _ _ _
  have g80 := g_sumFrom hG (2 * ((1 : Int) - (st 170 13)) + 1 : Int).toNat
  have u79 : ((2 * ((1 : Int) - (st 170 13)) + 1 : Int).toNat = ((2 : Int) * ((1 : Int) - (st 170 13)) : Int).toNat → (zup (zup (zup (zup (zup (zup (zup (zup (zup (zup (zup (zup (zup st 170 2 (st 170 1)) 170 1 0) 170 5 0) 170 8 0) 170 9 (-1)) 170 35 ((1 : Int) - (st 170 13))) 172 (((1 : Int) - (st 170 13)) : Int).toNat 0) 173 (((1 : Int) - (st 170 13)) : Int).toNat 0) 178 (((1 : Int) - (st 170 13)) : Int).toNat 0) 181 (((1 : Int) - (st 170 13)) : Int).toNat 0) 184 (((1 : Int) - (st 170 13)) : Int).toNat 20) 185 (((1 : Int) - (st 170 13)) : Int).toNat 0) 186 ((2 : Int) * ((1 : Int) - (st 170 13)) : Int).toNat (-1)) 186 (2 * ((1 : Int) - (st 170 13)) + 1 : Int).toNat = (-1)) ∧ (¬ (2 * ((1 : Int) - (st 170 13)) + 1 : Int).toNat = ((2 : Int) * ((1 : Int) - (st 170 13)) : Int).toNat → (zup (zup (zup (zup (zup (zup (zup (zup (zup (zup (zup (zup (zup st 170 2 (st 170 1)) 170 1 0) 170 5 0) 170 8 0) 170 9 (-1)) 170 35 ((1 : Int) - (st 170 13))) 172 (((1 : Int) - (st 170 13)) : Int).toNat 0) 173 (((1 : Int) - (st 170 13)) : Int).toNat 0) 178 (((1 : Int) - (st 170 13)) : Int).toNat 0) 181 (((1 : Int) - (st 170 13)) : Int).toNat 0) 184 (((1 : Int) - (st 170 13)) : Int).toNat 20) 185 (((1 : Int) - (st 170 13)) : Int).toNat 0) 186 ((2 : Int) * ((1 : Int) - (st 170 13)) : Int).toNat (-1)) 186 (2 * ((1 : Int) - (st 170 13)) + 1 : Int).toNat = st 186 (2 * ((1 : Int) - (st 170 13)) + 1 : Int).toNat) := zup_two _ _ _ _ _
  have u78 : ((2 * ((1 : Int) - (st 170 13)) + 1 : Int).toNat = (((2 : Int) * ((1 : Int) - (st 170 13))) + 1 : Int).toNat → (zup (zup (zup (zup (zup (zup (zup (zup (zup (zup (zup (zup (zup (zup st 170 2 (st 170 1)) 170 1 0) 170 5 0) 170 8 0) 170 9 (-1)) 170 35 ((1 : Int) - (st 170 13))) 172 (((1 : Int) - (st 170 13)) : Int).toNat 0) 173 (((1 : Int) - (st 170 13)) : Int).toNat 0) 178 (((1 : Int) - (st 170 13)) : Int).toNat 0) 181 (((1 : Int) - (st 170 13)) : Int).toNat 0) 184 (((1 : Int) - (st 170 13)) : Int).toNat 20) 185 (((1 : Int) - (st 170 13)) : Int).toNat 0) 186 ((2 : Int) * ((1 : Int) - (st 170 13)) : Int).toNat (-1)) 186 (((2 : Int) * ((1 : Int) - (st 170 13))) + 1 : Int).toNat (-1)) 186 (2 * ((1 : Int) - (st 170 13)) + 1 : Int).toNat = (-1)) ∧ (¬ (2 * ((1 : Int) - (st 170 13)) + 1 : Int).toNat = (((2 : Int) * ((1 : Int) - (st 170 13))) + 1 : Int).toNat → (zup (zup (zup (zup (zup (zup (zup (zup (zup (zup (zup (zup (zup (zup st 170 2 (st 170 1)) 170 1 0) 170 5 0) 170 8 0) 170 9 (-1)) 170 35 ((1 : Int) - (st 170 13))) 172 (((1 : Int) - (st 170 13)) : Int).toNat 0) 173 (((1 : Int) - (st 170 13)) : Int).toNat 0) 178 (((1 : Int) - (st 170 13)) : Int).toNat 0) 181 (((1 : Int) - (st 170 13)) : Int).toNat 0) 184 (((1 : Int) - (st 170 13)) : Int).toNat 20) 185 (((1 : Int) - (st 170 13)) : Int).toNat 0) 186 ((2 : Int) * ((1 : Int) - (st 170 13)) : Int).toNat (-1)) 186 (((2 : Int) * ((1 : Int) - (st 170 13))) + 1 : Int).toNat (-1)) 186 (2 * ((1 : Int) - (st 170 13)) + 1 : Int).toNat = (zup (zup (zup (zup (zup (zup (zup (zup (zup (zup (zup (zup (zup st 170 2 (st 170 1)) 170 1 0) 170 5 0) 170 8 0) 170 9 (-1)) 170 35 ((1 : Int) - (st 170 13))) 172 (((1 : Int) - (st 170 13)) : Int).toNat 0) 173 (((1 : Int) - (st 170 13)) : Int).toNat 0) 178 (((1 : Int) - (st 170 13)) : Int).toNat 0) 181 (((1 : Int) - (st 170 13)) : Int).toNat 0) 184 (((1 : Int) - (st 170 13)) : Int).toNat 20) 185 (((1 : Int) - (st 170 13)) : Int).toNat 0) 186 ((2 : Int) * ((1 : Int) - (st 170 13)) : Int).toNat (-1)) 186 (2 * ((1 : Int) - (st 170 13)) + 1 : Int).toNat) := zup_two _ _ _ _ _
  exact town_lz hX _ 0 (zup (zup (zup (zup (zup (zup (zup (zup (zup (zup (zup (zup (zup (zup st 170 2 (st 170 1)) 170 1 0) 170 5 0) 170 8 0) 170 9 (-1)) 170 35 ((1 : Int) - (st 170 13))) 172 (((1 : Int) - (st 170 13)) : Int).toNat 0) 173 (((1 : Int) - (st 170 13)) : Int).toNat 0) 178 (((1 : Int) - (st 170 13)) : Int).toNat 0) 181 (((1 : Int) - (st 170 13)) : Int).toNat 0) 184 (((1 : Int) - (st 170 13)) : Int).toNat 20) 185 (((1 : Int) - (st 170 13)) : Int).toNat 0) 186 ((2 : Int) * ((1 : Int) - (st 170 13)) : Int).toNat (-1)) 186 (((2 : Int) * ((1 : Int) - (st 170 13))) + 1 : Int).toNat (-1)) ⟨(gInv_up (gInv_up (gInv_up (gInv_up (gInv_up (gInv_up (gInv_up (gInv_up (gInv_up (gInv_up (gInv_up (gInv_up (gInv_up (gInv_up hG (p_size (by omega))) (p_taped (by omega))) (p_signEnd (by omega))) (p_faultKind (by omega))) (p_faultPlace (by omega))) (p_in (by omega))) (p_places (by omega))) (p_streets (by omega))) (p_steps (by omega))) (p_things (by omega))) (p_heatTold (by omega))) (p_hotTold (by omega))) (p_sumFrom (by omega))) (p_sumFrom (by omega))), (show jR st (zup (zup (zup (zup (zup (zup (zup (zup (zup (zup (zup (zup (zup (zup st 170 2 (st 170 1)) 170 1 0) 170 5 0) 170 8 0) 170 9 (-1)) 170 35 ((1 : Int) - (st 170 13))) 172 (((1 : Int) - (st 170 13)) : Int).toNat 0) 173 (((1 : Int) - (st 170 13)) : Int).toNat 0) 178 (((1 : Int) - (st 170 13)) : Int).toNat 0) 181 (((1 : Int) - (st 170 13)) : Int).toNat 0) 184 (((1 : Int) - (st 170 13)) : Int).toNat 20) 185 (((1 : Int) - (st 170 13)) : Int).toNat 0) 186 ((2 : Int) * ((1 : Int) - (st 170 13)) : Int).toNat (-1)) 186 (((2 : Int) * ((1 : Int) - (st 170 13))) + 1 : Int).toNat (-1)) from (jR_up (jR_up (jR_up (jR_up (jR_up (jR_up (jR_up (jR_up (jR_up (jR_up (jR_up (jR_up (jR_up (jR_up (jR_rf _) (by unfold jrel; omega)) (by unfold jrel; omega)) (by unfold jrel; omega)) (by unfold jrel; omega)) (by unfold jrel; omega)) (by unfold jrel; omega)) (by unfold jrel; omega)) (by unfold jrel; omega)) (by unfold jrel; omega)) (by unfold jrel; omega)) (by unfold jrel; omega)) (by unfold jrel; omega)) (by unfold jrel; omega)) (by unfold jrel; omega))), (show ((1 : Int) - (st 170 13)) = 1 - st 170 13 ∧ st 170 13 = st 170 13 ∧ 0 = 0 ∧ 0 = 0 ∧ 0 ≤ (0 : Int) ∧ (0 : Int) ≤ 64 from by omega), (show (zup (zup (zup (zup (zup (zup (zup st 170 2 (st 170 1)) 170 1 0) 170 5 0) 170 8 0) 170 9 (-1)) 170 35 ((1 : Int) - (st 170 13))) 172 (((1 : Int) - (st 170 13)) : Int).toNat 0) 172 (((1 : Int) - (st 170 13)) : Int).toNat = 0 ∧ (zup (zup (zup (zup (zup (zup (zup (zup st 170 2 (st 170 1)) 170 1 0) 170 5 0) 170 8 0) 170 9 (-1)) 170 35 ((1 : Int) - (st 170 13))) 172 (((1 : Int) - (st 170 13)) : Int).toNat 0) 173 (((1 : Int) - (st 170 13)) : Int).toNat 0) 173 (((1 : Int) - (st 170 13)) : Int).toNat = 0 ∧ (zup (zup (zup (zup (zup (zup (zup (zup (zup st 170 2 (st 170 1)) 170 1 0) 170 5 0) 170 8 0) 170 9 (-1)) 170 35 ((1 : Int) - (st 170 13))) 172 (((1 : Int) - (st 170 13)) : Int).toNat 0) 173 (((1 : Int) - (st 170 13)) : Int).toNat 0) 178 (((1 : Int) - (st 170 13)) : Int).toNat 0) 178 (((1 : Int) - (st 170 13)) : Int).toNat = 0 ∧ (zup (zup (zup (zup (zup (zup (zup (zup (zup (zup (zup (zup (zup (zup st 170 2 (st 170 1)) 170 1 0) 170 5 0) 170 8 0) 170 9 (-1)) 170 35 ((1 : Int) - (st 170 13))) 172 (((1 : Int) - (st 170 13)) : Int).toNat 0) 173 (((1 : Int) - (st 170 13)) : Int).toNat 0) 178 (((1 : Int) - (st 170 13)) : Int).toNat 0) 181 (((1 : Int) - (st 170 13)) : Int).toNat 0) 184 (((1 : Int) - (st 170 13)) : Int).toNat 20) 185 (((1 : Int) - (st 170 13)) : Int).toNat 0) 186 ((2 : Int) * ((1 : Int) - (st 170 13)) : Int).toNat (-1)) 186 (((2 : Int) * ((1 : Int) - (st 170 13))) + 1 : Int).toNat (-1)) 186 (2 * ((1 : Int) - (st 170 13)) : Int).toNat = -1 ∧ (zup (zup (zup (zup (zup (zup (zup (zup (zup (zup (zup (zup (zup (zup st 170 2 (st 170 1)) 170 1 0) 170 5 0) 170 8 0) 170 9 (-1)) 170 35 ((1 : Int) - (st 170 13))) 172 (((1 : Int) - (st 170 13)) : Int).toNat 0) 173 (((1 : Int) - (st 170 13)) : Int).toNat 0) 178 (((1 : Int) - (st 170 13)) : Int).toNat 0) 181 (((1 : Int) - (st 170 13)) : Int).toNat 0) 184 (((1 : Int) - (st 170 13)) : Int).toNat 20) 185 (((1 : Int) - (st 170 13)) : Int).toNat 0) 186 ((2 : Int) * ((1 : Int) - (st 170 13)) : Int).toNat (-1)) 186 (((2 : Int) * ((1 : Int) - (st 170 13))) + 1 : Int).toNat (-1)) 186 (2 * ((1 : Int) - (st 170 13)) + 1 : Int).toNat = -1 from by omega), (show ∀ j : Int, 0 ≤ j → j < (0 : Int) → (zup (zup (zup (zup (zup (zup (zup (zup (zup (zup (zup (zup (zup (zup st 170 2 (st 170 1)) 170 1 0) 170 5 0) 170 8 0) 170 9 (-1)) 170 35 ((1 : Int) - (st 170 13))) 172 (((1 : Int) - (st 170 13)) : Int).toNat 0) 173 (((1 : Int) - (st 170 13)) : Int).toNat 0) 178 (((1 : Int) - (st 170 13)) : Int).toNat 0) 181 (((1 : Int) - (st 170 13)) : Int).toNat 0) 184 (((1 : Int) - (st 170 13)) : Int).toNat 20) 185 (((1 : Int) - (st 170 13)) : Int).toNat 0) 186 ((2 : Int) * ((1 : Int) - (st 170 13)) : Int).toNat (-1)) 186 (((2 : Int) * ((1 : Int) - (st 170 13))) + 1 : Int).toNat (-1)) 177 (64 * ((1 : Int) - (st 170 13)) + j).toNat = 0 from fun j z1 z2 => by omega)⟩ rfl
theorem k_town_m (hTb : aTb zSh rx_tb cl) {D : Nat} (hD : 8 ≤ D) : ∀ as st (Q Q' : zQ), (∀ r st', Q r st' → Q' r st') → k_town 148 as st Q → cl D 148 as st Q' := by
  intro as st Q Q' hQ h
  unfold k_town at h
  split at h
  · obtain ⟨rfl, h⟩ := h
    exact c_town hTb hD (ct_town_m hQ h)
  · exact h.elim
end R6k
