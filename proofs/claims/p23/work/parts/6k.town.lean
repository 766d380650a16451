/-! printed by wip/p32/libb.py: the reference's town -/
def rq_town  (st : zS) : Prop := gInv zgt st ∧ zJ st
def en_town  (st : zS) (r : Int) (s1 : zS) : Prop := gInv zgt s1 ∧ zJ s1 ∧ zV1 st s1 ∧ (s1 170 1 = 0)
def ct_town  (st : zS) (Q : zQ) : Prop := rq_town  st ∧ (∀ (r : Int) (s1 : zS), en_town  st r s1 → Q (some (.inl r)) s1)
theorem ct_town_m {st : zS} {Q Q' : zQ} (hQ : ∀ r st', Q r st' → Q' r st') (h : ct_town  st Q) : ct_town  st Q' := ⟨h.1, fun x0 x1 x2 => hQ _ _ (h.2 x0 x1 x2)⟩
def k_town : zCall := fun _ as st Q => match as with
  | [.inr (.inr (.inl z_o))] => z_o = 170 ∧ ct_town  st Q
  | _ => False
theorem k_town_mon : zmon k_town := by
  intro nu as st Q Q' hQ h
  unfold k_town at h ⊢
  split at h
  · exact ⟨h.1, ct_town_m hQ h.2⟩
  · exact h.elim
section R6k
variable {cl : Nat → zCall}
def cx_town (cl : Nat → zCall) (d : Nat)  (st : zS) (Q : zQ) (K : zG) : Prop := zcl zSh rx_m148 2 1 (cl d) Q K ∧ zsl K ∧ zmo (wcL [(149, k_ahead), (210, k_statement), (211, k_finishes), (58, k_refuses), (150, k_begin)]) (cl d) ∧ rq_town  st ∧ (∀ (r : Int) (s1 : zS), en_town  st r s1 → Q (some (.inl r)) s1)
set_option maxHeartbeats 40000000 in
set_option maxRecDepth 100000 in
theorem town_m194 {d : Nat} {st : zS} {Q : zQ} {K : zG} (hX : cx_town cl d  st Q K) : ∀ (n : Int) (s_m194 : zS), gInv zgt s_m194 ∧ zV1 st s_m194 ∧ (s_m194 170 1 = 0) ∧ (jR st s_m194) ∧ (s_m194 170 4 ≤ s_m194 170 5 ∧ s_m194 170 5 ≤ s_m194 170 2 ∧ (s_m194 170 3 = 0 ∧ s_m194 170 4 = s_m194 170 2 ∨ 1 ≤ s_m194 170 3 ∧ s_m194 170 4 < s_m194 170 5)) ∧ (s_m194 170 35 = 1 - s_m194 170 13 ∧ s_m194 170 13 = st 170 13) ∧ (0 ≤ n ∧ n ≤ s_m194 170 4 + s_m194 170 8) ∧ (s_m194 170 8 = 0 → TS s_m194 ∧ s_m194 170 34 ≤ s_m194 170 4) → K (rx_find rx_m148 194) [(1, .inl n), (0, .inr (.inr (.inl 170)))] [] s_m194 := by
  obtain ⟨hcl, hsl, hcm, hR, hQ⟩ := id hX
  obtain ⟨hG, hJ⟩ := hR
  intro n s_m194 hi
  obtain ⟨gI_m194, vI_m194, tz_m194, R_m194, lx_m194, bk_m194, n_m194, e_m194⟩ := hi
  have g1 := g_taped gI_m194
  have g2 := g_signAt gI_m194
  have g3 := g_signEnd gI_m194
  have g4 := g_size gI_m194
  have g5 := g_sign gI_m194
  have g6 := g_in gI_m194
  have g7 := g_bank gI_m194
  have g8 := g_bank hG
  have g9 := g_faultKind gI_m194
  have g10 := g_codes gI_m194
  have g11 := g_faultPlace gI_m194
  refine yr1_ok (Rt := Q) (wc := (wcL [(149, k_ahead), (210, k_statement), (211, k_finishes), (58, k_refuses), (150, k_begin)])) (stp := [194]) hcm hcl [] 200 ?_
  show ((s_m194 170 8 ≤ (0 : Int) → (170 = 170 ∧ (rq_begin  (zup (zup (zup s_m194 170 10 (s_m194 170 8)) 170 11 (s_m194 170 9)) 170 13 (s_m194 170 35)) ∧ (∀ (s12 : zS), en_begin  (zup (zup (zup s_m194 170 10 (s_m194 170 8)) 170 11 (s_m194 170 9)) 170 13 (s_m194 170 35)) s12 → Q (some (.inl n)) s12)))) ∧ (¬ (s_m194 170 8 ≤ (0 : Int)) → (170 = 170 ∧ (rq_refuses (1) (zup (zup s_m194 170 10 (s_m194 170 8)) 170 11 (s_m194 170 9)) ∧ (∀ (r13 : Int) (s13 : zS), en_refuses (1) (zup (zup s_m194 170 10 (s_m194 170 8)) 170 11 (s_m194 170 9)) r13 s13 → Q (some (.inl r13)) s13)))))
  refine ⟨fun h14 => ?_, fun h14 => ?_⟩
  · have g15 := g_steps gI_m194 ((s_m194 170 35) : Int).toNat
    refine ⟨rfl, ⟨(gInv_up (gInv_up (gInv_up gI_m194 (p_toldKind (by omega))) (p_toldPlace (by omega))) (p_bank (by omega))), (show jS (zup (zup (zup s_m194 170 10 (s_m194 170 8)) 170 11 (s_m194 170 9)) 170 13 (s_m194 170 35)) from jS_e (TS_jS (e_m194 (by omega)).1) rfl (fun _ => rfl) (fun _ => rfl) (fun _ => rfl)), (show jC (zup (zup (zup s_m194 170 10 (s_m194 170 8)) 170 11 (s_m194 170 9)) 170 13 (s_m194 170 35)) from jC_e (TS_jC (e_m194 (by omega)).1) rfl (fun _ => rfl) (fun _ => rfl) (fun _ => rfl)), (show TS2 ((s_m194 170 35)) (s_m194 178 ((s_m194 170 35) : Int).toNat) ((zup (zup (zup s_m194 170 10 (s_m194 170 8)) 170 11 (s_m194 170 9)) 170 13 (s_m194 170 35)) 177) ((zup (zup (zup s_m194 170 10 (s_m194 170 8)) 170 11 (s_m194 170 9)) 170 13 (s_m194 170 35)) 179) from (e_m194 (by omega)).1.2.1)⟩, fun s12 q12 => ?_⟩
    obtain ⟨gs12, fs12, js12⟩ := q12
    have e16 : s12 170 1 = s_m194 170 1 := fs12 170 1 rfl rfl
    exact hQ _ _ ⟨gs12, js12, (zV1_tr (zV1_up (zV1_up (zV1_up vI_m194 (by decide)) (by decide)) (by decide)) (zV1_fr rfl fs12)), (show s12 170 1 = 0 from by omega)⟩
  · refine ⟨rfl, ⟨(gInv_up (gInv_up gI_m194 (p_toldKind (by omega))) (p_toldPlace (by omega))), (show 0 ≤ (1) ∧ (1) ≤ 5 from by omega)⟩, fun r13 s13 q13 => ?_⟩
    obtain ⟨gs13, fs13, e13⟩ := q13
    change r13 = -1 at e13
    have e17 : s13 170 1 = s_m194 170 1 := fs13 170 1 rfl rfl
    exact hQ _ _ ⟨gs13, (zJ_fr rfl fs13 (zJ_up rfl (zJ_up rfl (zJ_R hG hJ R_m194)))), (zV1_tr (zV1_up (zV1_up vI_m194 (by decide)) (by decide)) (zV1_fr rfl fs13)), (show s13 170 1 = 0 from by omega)⟩
set_option maxHeartbeats 40000000 in
set_option maxRecDepth 100000 in
theorem town_lm {d : Nat} {st : zS} {Q : zQ} {K : zG} (hX : cx_town cl d  st Q K) : ∀ (u : Nat) (n : Int) (s_lm : zS), gInv zgt s_lm ∧ zV1 st s_lm ∧ (s_lm 170 1 = 0) ∧ (jR st s_lm) ∧ (s_lm 170 4 ≤ s_lm 170 5 ∧ s_lm 170 5 ≤ s_lm 170 2 ∧ (s_lm 170 3 = 0 ∧ s_lm 170 4 = s_lm 170 2 ∨ 1 ≤ s_lm 170 3 ∧ s_lm 170 4 < s_lm 170 5)) ∧ (s_lm 170 35 = 1 - s_lm 170 13 ∧ s_lm 170 13 = st 170 13) ∧ (0 ≤ n ∧ n ≤ s_lm 170 4 + s_lm 170 8) ∧ (s_lm 170 8 = 0 → TS s_lm ∧ s_lm 170 34 ≤ s_lm 170 4) → (12000 - 2000 * s_lm 170 8 + 1601 - s_lm 170 4).toNat = u → K (rx_find rx_m148 165) [(1, .inl n), (0, .inr (.inr (.inl 170)))] [] s_lm := by
  obtain ⟨hcl, hsl, hcm, hR, hQ⟩ := id hX
  obtain ⟨hG, hJ⟩ := hR
  intro u
  induction u using Nat.strongRecOn with
  | _ u ih =>
    intro n s_lm hi hu
    obtain ⟨gI_lm, vI_lm, tz_lm, R_lm, lx_lm, bk_lm, n_lm, e_lm⟩ := hi
    have g18 := g_taped gI_lm
    have g19 := g_signAt gI_lm
    have g20 := g_signEnd gI_lm
    have g21 := g_size gI_lm
    have g22 := g_sign gI_lm
    have g23 := g_in gI_lm
    have g24 := g_bank gI_lm
    have g25 := g_bank hG
    have g26 := g_faultKind gI_lm
    have g27 := g_codes gI_lm
    have g28 := g_faultPlace gI_lm
    refine yr1_ok (Rt := Q) (wc := (wcL [(149, k_ahead), (210, k_statement), (211, k_finishes), (58, k_refuses), (150, k_begin)])) (stp := [165, 194]) hcm hcl [] 200 ?_
    show ((¬ s_lm 170 8 = (0 : Int) → K (rx_find rx_m148 194) [(1, .inl n), (0, .inr (.inr (.inl 170)))] [] s_lm) ∧ (¬ (¬ s_lm 170 8 = (0 : Int)) → ((s_lm 170 3 = (0 : Int) → K (rx_find rx_m148 194) [(1, .inl n), (0, .inr (.inr (.inl 170)))] [] s_lm) ∧ (¬ (s_lm 170 3 = (0 : Int)) → (170 = 170 ∧ (rq_statement  s_lm ∧ (∀ (s29 : zS), en_statement  s_lm s29 → ((-2147483648 ≤ n + 1 ∧ n + 1 ≤ 2147483647) ∧ (170 = 170 ∧ (rq_finishes (n + 1) s29 ∧ (∀ (s30 : zS), en_finishes (n + 1) s29 s30 → K (rx_find rx_m148 165) [(1, .inl (n + 1)), (0, .inr (.inr (.inl 170)))] [] s30)))))))))))
    refine ⟨fun h31 => ?_, fun h31 => ?_⟩
    · exact town_m194 hX n s_lm ⟨gI_lm, vI_lm, (show s_lm 170 1 = 0 from by omega), (show jR st s_lm from R_lm), (show s_lm 170 4 ≤ s_lm 170 5 ∧ s_lm 170 5 ≤ s_lm 170 2 ∧ (s_lm 170 3 = 0 ∧ s_lm 170 4 = s_lm 170 2 ∨ 1 ≤ s_lm 170 3 ∧ s_lm 170 4 < s_lm 170 5) from by omega), (show s_lm 170 35 = 1 - s_lm 170 13 ∧ s_lm 170 13 = st 170 13 from by omega), (show 0 ≤ n ∧ n ≤ s_lm 170 4 + s_lm 170 8 from by omega), (show s_lm 170 8 = 0 → TS s_lm ∧ s_lm 170 34 ≤ s_lm 170 4 from by omega)⟩
    · refine ⟨fun h32 => ?_, fun h32 => ?_⟩
      · exact town_m194 hX n s_lm ⟨gI_lm, vI_lm, (show s_lm 170 1 = 0 from by omega), (show jR st s_lm from R_lm), (show s_lm 170 4 ≤ s_lm 170 5 ∧ s_lm 170 5 ≤ s_lm 170 2 ∧ (s_lm 170 3 = 0 ∧ s_lm 170 4 = s_lm 170 2 ∨ 1 ≤ s_lm 170 3 ∧ s_lm 170 4 < s_lm 170 5) from by omega), (show s_lm 170 35 = 1 - s_lm 170 13 ∧ s_lm 170 13 = st 170 13 from by omega), (show 0 ≤ n ∧ n ≤ s_lm 170 4 + s_lm 170 8 from by omega), (show s_lm 170 8 = 0 → TS s_lm ∧ s_lm 170 34 ≤ s_lm 170 4 from by omega)⟩
      · refine ⟨rfl, ⟨gI_lm, (show s_lm 170 4 ≤ s_lm 170 5 ∧ s_lm 170 5 ≤ s_lm 170 2 ∧ (s_lm 170 3 = 0 ∧ s_lm 170 4 = s_lm 170 2 ∨ 1 ≤ s_lm 170 3 ∧ s_lm 170 4 < s_lm 170 5) from by omega), (show TS s_lm from (e_lm (by omega)).1), (show s_lm 170 8 = 0 ∧ s_lm 170 34 ≤ s_lm 170 4 ∧ 1 ≤ s_lm 170 3 from by have z := (e_lm (by omega)).2; omega), (show s_lm 170 35 = 1 - s_lm 170 13 from by omega)⟩, fun s29 q29 => ?_⟩
        obtain ⟨gs29, fs29, p29, R29, e29⟩ := q29
        change s29 170 4 ≤ s29 170 5 ∧ s29 170 5 ≤ s29 170 2 ∧ (s29 170 3 = 0 ∧ s29 170 4 = s29 170 2 ∨ 1 ≤ s29 170 3 ∧ s29 170 4 < s29 170 5) ∧ s_lm 170 4 ≤ s29 170 4 at p29
        have g33 := g_signAt gs29
        have g34 := g_signEnd gs29
        have e35 : s29 170 2 = s_lm 170 2 := fs29 170 2 rfl rfl
        have g36 := g_sign gs29
        change jR s_lm s29 at R29
        change s29 170 8 = 0 → TS s29 ∧ s29 170 34 ≤ s29 170 4 at e29
        have g37 := g_faultKind gs29
        have g38 := g_codes gs29
        refine ⟨by omega, ?_⟩
        refine ⟨rfl, ⟨gs29, (show s29 170 4 ≤ s29 170 5 ∧ s29 170 5 ≤ s29 170 2 ∧ (s29 170 3 = 0 ∧ s29 170 4 = s29 170 2 ∨ 1 ≤ s29 170 3 ∧ s29 170 4 < s29 170 5) from by omega)⟩, fun s30 q30 => ?_⟩
        obtain ⟨gs30, fs30, p30⟩ := q30
        change s30 170 4 ≤ s30 170 5 ∧ s30 170 5 ≤ s30 170 2 ∧ (s30 170 3 = 0 ∧ s30 170 4 = s30 170 2 ∨ 1 ≤ s30 170 3 ∧ s30 170 4 < s30 170 5) ∧ s29 170 4 ≤ s30 170 4 ∧ (s30 170 8 = 0 → s29 170 8 = 0 ∧ s29 170 5 ≤ s30 170 4 ∧ 1 ≤ s29 170 3) at p30
        have g39 := g_signAt gs30
        have g40 := g_signEnd gs30
        have e41 : s30 170 2 = s29 170 2 := fs30 170 2 rfl rfl
        have g42 := g_sign gs30
        have g43 := g_faultKind gs30
        have e45 : s29 170 1 = s_lm 170 1 := fs29 170 1 rfl rfl
        have e44 : s30 170 1 = s29 170 1 := fs30 170 1 rfl rfl
        have e47 : s29 170 35 = s_lm 170 35 := fs29 170 35 rfl rfl
        have e46 : s30 170 35 = s29 170 35 := fs30 170 35 rfl rfl
        have e49 : s29 170 13 = s_lm 170 13 := fs29 170 13 rfl rfl
        have e48 : s30 170 13 = s29 170 13 := fs30 170 13 rfl rfl
        have e50 : s30 170 34 = s29 170 34 := fs30 170 34 rfl rfl
        exact ih _ (show (12000 - 2000 * s30 170 8 + 1601 - s30 170 4 : Int).toNat < u from by omega) (n + 1) s30 ⟨gs30, (zV1_tr (zV1_tr vI_lm (zV1_fr rfl fs29)) (zV1_fr rfl fs30)), (show s30 170 1 = 0 from by omega), (show jR st s30 from (jR_tr (s1 := s29) (jR_tr (s1 := s_lm) R_lm R29) (jR_fr rfl fs30))), (show s30 170 4 ≤ s30 170 5 ∧ s30 170 5 ≤ s30 170 2 ∧ (s30 170 3 = 0 ∧ s30 170 4 = s30 170 2 ∨ 1 ≤ s30 170 3 ∧ s30 170 4 < s30 170 5) from by omega), (show s30 170 35 = 1 - s30 170 13 ∧ s30 170 13 = st 170 13 from by omega), (show 0 ≤ (n + 1) ∧ (n + 1) ≤ s30 170 4 + s30 170 8 from by omega), (show s30 170 8 = 0 → TS s30 ∧ s30 170 34 ≤ s30 170 4 from fun z => ⟨TS_fr rfl fs30 (e29 (by omega)).1, by have z1 := (e29 (by omega)).2; omega⟩)⟩ rfl
set_option maxHeartbeats 40000000 in
set_option maxRecDepth 100000 in
theorem town_lz {d : Nat} {st : zS} {Q : zQ} {K : zG} (hX : cx_town cl d  st Q K) : ∀ (u : Nat) (k : Int) (s_lz : zS), gInv zgt s_lz ∧ zV1 st s_lz ∧ (s_lz 170 1 = 0) ∧ (jR st s_lz) ∧ (s_lz 170 35 = 1 - s_lz 170 13 ∧ s_lz 170 13 = st 170 13 ∧ s_lz 170 8 = 0 ∧ s_lz 170 5 = 0 ∧ 0 ≤ k ∧ k ≤ 64) ∧ (s_lz 172 (s_lz 170 35 : Int).toNat = 0 ∧ s_lz 173 (s_lz 170 35 : Int).toNat = 0 ∧ s_lz 178 (s_lz 170 35 : Int).toNat = 0 ∧ s_lz 186 (2 * s_lz 170 35 : Int).toNat = -1 ∧ s_lz 186 (2 * s_lz 170 35 + 1 : Int).toNat = -1) ∧ (∀ j : Int, 0 ≤ j → j < k → s_lz 177 (64 * s_lz 170 35 + j).toNat = 0) → (64 - k).toNat = u → K (rx_find rx_m148 127) [(1, .inl k), (0, .inr (.inr (.inl 170)))] [] s_lz := by
  obtain ⟨hcl, hsl, hcm, hR, hQ⟩ := id hX
  obtain ⟨hG, hJ⟩ := hR
  intro u
  induction u using Nat.strongRecOn with
  | _ u ih =>
    intro k s_lz hi hu
    obtain ⟨gI_lz, vI_lz, tz_lz, R_lz, d_lz, e_lz, z_lz⟩ := hi
    have g51 := g_taped gI_lz
    have g52 := g_in gI_lz
    have g53 := g_bank gI_lz
    have g54 := g_bank hG
    have g55 := g_faultKind gI_lz
    have g56 := g_signEnd gI_lz
    have g57 := g_places gI_lz (s_lz 170 35 : Int).toNat
    have g58 := g_streets gI_lz (s_lz 170 35 : Int).toNat
    have g59 := g_steps gI_lz (s_lz 170 35 : Int).toNat
    have g60 := g_sumFrom gI_lz (2 * s_lz 170 35 : Int).toNat
    have g61 := g_sumFrom gI_lz (2 * s_lz 170 35 + 1 : Int).toNat
    have g62 := g_codes gI_lz
    have g63 := g_signAt gI_lz
    have g64 := g_size gI_lz
    have g65 := g_sign gI_lz
    have g66 := g_faultPlace gI_lz
    refine yr1_ok (Rt := Q) (wc := (wcL [(149, k_ahead), (210, k_statement), (211, k_finishes), (58, k_refuses), (150, k_begin)])) (stp := [127, 165, 194]) hcm hcl [] 200 ?_
    show (((64 : Int) ≤ k → (170 = 170 ∧ (rq_ahead  (zup s_lz 170 34 0) ∧ (∀ (s67 : zS), en_ahead  (zup s_lz 170 34 0) s67 → K (rx_find rx_m148 165) [(1, .inl 0), (0, .inr (.inr (.inl 170)))] [] s67)))) ∧ (¬ ((64 : Int) ≤ k) → ((-2147483648 ≤ (64 : Int) * (s_lz 170 35) ∧ (64 : Int) * (s_lz 170 35) ≤ 2147483647) ∧ ((-2147483648 ≤ ((64 : Int) * (s_lz 170 35)) + k ∧ ((64 : Int) * (s_lz 170 35)) + k ≤ 2147483647) ∧ ((0 ≤ ((64 : Int) * (s_lz 170 35)) + k ∧ ((64 : Int) * (s_lz 170 35)) + k < 128) ∧ ((-2147483648 ≤ k + 1 ∧ k + 1 ≤ 2147483647) ∧ K (rx_find rx_m148 127) [(1, .inl (k + 1)), (0, .inr (.inr (.inl 170)))] [] (zup s_lz 177 (((64 : Int) * (s_lz 170 35)) + k : Int).toNat 0)))))))
    refine ⟨fun h68 => ?_, fun h68 => ?_⟩
    · refine ⟨rfl, ⟨(gInv_up gI_lz (p_codes (by omega))), (show s_lz 170 5 ≤ s_lz 170 2 from by omega)⟩, fun s67 q67 => ?_⟩
      obtain ⟨gs67, fs67, p67⟩ := q67
      change s67 170 4 ≤ s67 170 5 ∧ s67 170 5 ≤ s67 170 2 ∧ (s67 170 3 = 0 ∧ s67 170 4 = s67 170 2 ∨ 1 ≤ s67 170 3 ∧ s67 170 4 < s67 170 5) ∧ s_lz 170 5 ≤ s67 170 4 at p67
      have g69 := g_signAt gs67
      have g70 := g_signEnd gs67
      have e71 : s67 170 2 = s_lz 170 2 := fs67 170 2 rfl rfl
      have g72 := g_sign gs67
      have e73 : s67 170 1 = s_lz 170 1 := fs67 170 1 rfl rfl
      have e74 : s67 170 35 = s_lz 170 35 := fs67 170 35 rfl rfl
      have e75 : s67 170 13 = s_lz 170 13 := fs67 170 13 rfl rfl
      have e76 : s67 170 8 = s_lz 170 8 := fs67 170 8 rfl rfl
      have e77 : s67 170 34 = 0 := fs67 170 34 rfl rfl
      exact town_lm hX _ 0 s67 ⟨gs67, (zV1_tr (zV1_up vI_lz (by decide)) (zV1_fr rfl fs67)), (show s67 170 1 = 0 from by omega), (show jR st s67 from (jR_tr (s1 := (zup s_lz 170 34 0)) (jR_up R_lz (by unfold jrel; omega)) (jR_fr rfl fs67))), (show s67 170 4 ≤ s67 170 5 ∧ s67 170 5 ≤ s67 170 2 ∧ (s67 170 3 = 0 ∧ s67 170 4 = s67 170 2 ∨ 1 ≤ s67 170 3 ∧ s67 170 4 < s67 170 5) from by omega), (show s67 170 35 = 1 - s67 170 13 ∧ s67 170 13 = st 170 13 from by omega), (show 0 ≤ (0 : Int) ∧ (0 : Int) ≤ s67 170 4 + s67 170 8 from by omega), (show s67 170 8 = 0 → TS s67 ∧ s67 170 34 ≤ s67 170 4 from fun z => ⟨TS_fr rfl fs67 (show TS (zup s_lz 170 34 0) from TS_init (fun j z1 z2 => z_lz j z1 (by omega)) e_lz.2.2.1 e_lz.2.2.2.1 e_lz.2.2.2.2), by omega⟩)⟩ rfl
    · refine ⟨by omega, ?_⟩
      refine ⟨by omega, ?_⟩
      refine ⟨by omega, ?_⟩
      refine ⟨by omega, ?_⟩
      exact ih _ (show (64 - (k + 1) : Int).toNat < u from by omega) (k + 1) (zup s_lz 177 (((64 : Int) * (s_lz 170 35)) + k : Int).toNat 0) ⟨(gInv_up gI_lz (p_streetAt (by omega))), (zV1_up vI_lz (by decide)), (show s_lz 170 1 = 0 from by omega), (show jR st (zup s_lz 177 (((64 : Int) * (s_lz 170 35)) + k : Int).toNat 0) from (jR_up R_lz (by unfold jrel; omega))), (show s_lz 170 35 = 1 - s_lz 170 13 ∧ s_lz 170 13 = st 170 13 ∧ s_lz 170 8 = 0 ∧ s_lz 170 5 = 0 ∧ 0 ≤ (k + 1) ∧ (k + 1) ≤ 64 from by omega), (show s_lz 172 (s_lz 170 35 : Int).toNat = 0 ∧ s_lz 173 (s_lz 170 35 : Int).toNat = 0 ∧ s_lz 178 (s_lz 170 35 : Int).toNat = 0 ∧ s_lz 186 (2 * s_lz 170 35 : Int).toNat = -1 ∧ s_lz 186 (2 * s_lz 170 35 + 1 : Int).toNat = -1 from by omega), (show ∀ j : Int, 0 ≤ j → j < (k + 1) → (zup s_lz 177 (((64 : Int) * (s_lz 170 35)) + k : Int).toNat 0) 177 (64 * s_lz 170 35 + j).toNat = 0 from fun j z1 z2 => by
            by_cases z3 : j = k
            · subst z3
              exact up1_e (s_lz 177) _ _
            · exact (up1_n (s_lz 177) _ (by omega)).trans (z_lz j z1 (by omega)))⟩ rfl
set_option maxHeartbeats 40000000 in
set_option maxRecDepth 100000 in
theorem c_town (hTb : aTb zSh rx_tb cl) {D : Nat} (hD : 8 ≤ D) {st : zS} {Q : zQ} (h : ct_town  st Q) : cl D 148 [.inr (.inr (.inl 170))] st Q := by
  obtain ⟨d, rfl⟩ : ∃ d, D = d + 1 := ⟨D - 1, by omega⟩
  refine hTb d 148 (rx_m148, 2, 0, 0, 1) rfl _ _ _ (Nat.le_of_ble_eq_true rfl) (fun K hcl hsf hsl => ?_)
  have hcm : zmo (wcL [(149, k_ahead), (210, k_statement), (211, k_finishes), (58, k_refuses), (150, k_begin)]) (cl d) := (wcL_m (wm_cons (k_ahead_m hTb (by omega)) (wm_cons (k_statement_m hTb (by omega)) (wm_cons (k_finishes_m hTb (by omega)) (wm_cons (k_refuses_m hTb (by omega)) (wm_cons (k_begin_m hTb (by omega)) wm_nil))))))
  obtain ⟨hR, hQ⟩ := h
  have hX : cx_town cl d  st Q K := ⟨hcl, hsl, hcm, hR, hQ⟩
  obtain ⟨hG, hJ⟩ := hR
  have g78 := g_taped hG
  have g79 := g_bank hG
  refine yr1_ok (Rt := Q) (wc := (wcL [(149, k_ahead), (210, k_statement), (211, k_finishes), (58, k_refuses), (150, k_begin)])) (stp := [127, 165, 194]) hcm hcl [] 200 ?_
  show ((-2147483648 ≤ (1 : Int) - (st 170 13) ∧ (1 : Int) - (st 170 13) ≤ 2147483647) ∧ ((0 ≤ ((1 : Int) - (st 170 13)) ∧ ((1 : Int) - (st 170 13)) < 2) ∧ ((0 ≤ ((1 : Int) - (st 170 13)) ∧ ((1 : Int) - (st 170 13)) < 2) ∧ ((0 ≤ ((1 : Int) - (st 170 13)) ∧ ((1 : Int) - (st 170 13)) < 2) ∧ ((0 ≤ ((1 : Int) - (st 170 13)) ∧ ((1 : Int) - (st 170 13)) < 2) ∧ ((0 ≤ ((1 : Int) - (st 170 13)) ∧ ((1 : Int) - (st 170 13)) < 2) ∧ ((0 ≤ ((1 : Int) - (st 170 13)) ∧ ((1 : Int) - (st 170 13)) < 2) ∧ ((-2147483648 ≤ (2 : Int) * ((1 : Int) - (st 170 13)) ∧ (2 : Int) * ((1 : Int) - (st 170 13)) ≤ 2147483647) ∧ ((0 ≤ (2 : Int) * ((1 : Int) - (st 170 13)) ∧ (2 : Int) * ((1 : Int) - (st 170 13)) < 4) ∧ ((-2147483648 ≤ (2 : Int) * ((1 : Int) - (st 170 13)) ∧ (2 : Int) * ((1 : Int) - (st 170 13)) ≤ 2147483647) ∧ ((-2147483648 ≤ ((2 : Int) * ((1 : Int) - (st 170 13))) + 1 ∧ ((2 : Int) * ((1 : Int) - (st 170 13))) + 1 ≤ 2147483647) ∧ ((0 ≤ ((2 : Int) * ((1 : Int) - (st 170 13))) + 1 ∧ ((2 : Int) * ((1 : Int) - (st 170 13))) + 1 < 4) ∧ K (rx_find rx_m148 127) [(1, .inl 0), (0, .inr (.inr (.inl 170)))] [] (zup (zup (zup (zup (zup (zup (zup (zup (zup (zup (zup (zup (zup (zup st 170 2 (st 170 1)) 170 1 0) 170 5 0) 170 8 0) 170 9 (-1)) 170 35 ((1 : Int) - (st 170 13))) 172 (((1 : Int) - (st 170 13)) : Int).toNat 0) 173 (((1 : Int) - (st 170 13)) : Int).toNat 0) 178 (((1 : Int) - (st 170 13)) : Int).toNat 0) 181 (((1 : Int) - (st 170 13)) : Int).toNat 0) 184 (((1 : Int) - (st 170 13)) : Int).toNat 20) 185 (((1 : Int) - (st 170 13)) : Int).toNat 0) 186 ((2 : Int) * ((1 : Int) - (st 170 13)) : Int).toNat (-1)) 186 (((2 : Int) * ((1 : Int) - (st 170 13))) + 1 : Int).toNat (-1))))))))))))))
  refine ⟨by omega, ?_⟩
  refine ⟨by omega, ?_⟩
  refine ⟨by omega, ?_⟩
  refine ⟨by omega, ?_⟩
  refine ⟨by omega, ?_⟩
  refine ⟨by omega, ?_⟩
  refine ⟨by omega, ?_⟩
  refine ⟨by omega, ?_⟩
  refine ⟨by omega, ?_⟩
  refine ⟨by omega, ?_⟩
  refine ⟨by omega, ?_⟩
  refine ⟨by omega, ?_⟩
  have u80 : (zup (zup (zup (zup (zup (zup (zup st 170 2 (st 170 1)) 170 1 0) 170 5 0) 170 8 0) 170 9 (-1)) 170 35 ((1 : Int) - (st 170 13))) 172 (((1 : Int) - (st 170 13)) : Int).toNat 0) 172 (((1 : Int) - (st 170 13)) : Int).toNat = 0 := zup_eq _ _ _ _
  have u81 : (zup (zup (zup (zup (zup (zup (zup (zup st 170 2 (st 170 1)) 170 1 0) 170 5 0) 170 8 0) 170 9 (-1)) 170 35 ((1 : Int) - (st 170 13))) 172 (((1 : Int) - (st 170 13)) : Int).toNat 0) 173 (((1 : Int) - (st 170 13)) : Int).toNat 0) 173 (((1 : Int) - (st 170 13)) : Int).toNat = 0 := zup_eq _ _ _ _
  have u82 : (zup (zup (zup (zup (zup (zup (zup (zup (zup st 170 2 (st 170 1)) 170 1 0) 170 5 0) 170 8 0) 170 9 (-1)) 170 35 ((1 : Int) - (st 170 13))) 172 (((1 : Int) - (st 170 13)) : Int).toNat 0) 173 (((1 : Int) - (st 170 13)) : Int).toNat 0) 178 (((1 : Int) - (st 170 13)) : Int).toNat 0) 178 (((1 : Int) - (st 170 13)) : Int).toNat = 0 := zup_eq _ _ _ _
  have g85 := g_sumFrom hG (2 * ((1 : Int) - (st 170 13)) : Int).toNat
  have u84 : ((2 * ((1 : Int) - (st 170 13)) : Int).toNat = ((2 : Int) * ((1 : Int) - (st 170 13)) : Int).toNat → (zup (zup (zup (zup (zup (zup (zup (zup (zup (zup (zup (zup (zup st 170 2 (st 170 1)) 170 1 0) 170 5 0) 170 8 0) 170 9 (-1)) 170 35 ((1 : Int) - (st 170 13))) 172 (((1 : Int) - (st 170 13)) : Int).toNat 0) 173 (((1 : Int) - (st 170 13)) : Int).toNat 0) 178 (((1 : Int) - (st 170 13)) : Int).toNat 0) 181 (((1 : Int) - (st 170 13)) : Int).toNat 0) 184 (((1 : Int) - (st 170 13)) : Int).toNat 20) 185 (((1 : Int) - (st 170 13)) : Int).toNat 0) 186 ((2 : Int) * ((1 : Int) - (st 170 13)) : Int).toNat (-1)) 186 (2 * ((1 : Int) - (st 170 13)) : Int).toNat = (-1)) ∧ (¬ (2 * ((1 : Int) - (st 170 13)) : Int).toNat = ((2 : Int) * ((1 : Int) - (st 170 13)) : Int).toNat → (zup (zup (zup (zup (zup (zup (zup (zup (zup (zup (zup (zup (zup st 170 2 (st 170 1)) 170 1 0) 170 5 0) 170 8 0) 170 9 (-1)) 170 35 ((1 : Int) - (st 170 13))) 172 (((1 : Int) - (st 170 13)) : Int).toNat 0) 173 (((1 : Int) - (st 170 13)) : Int).toNat 0) 178 (((1 : Int) - (st 170 13)) : Int).toNat 0) 181 (((1 : Int) - (st 170 13)) : Int).toNat 0) 184 (((1 : Int) - (st 170 13)) : Int).toNat 20) 185 (((1 : Int) - (st 170 13)) : Int).toNat 0) 186 ((2 : Int) * ((1 : Int) - (st 170 13)) : Int).toNat (-1)) 186 (2 * ((1 : Int) - (st 170 13)) : Int).toNat = st 186 (2 * ((1 : Int) - (st 170 13)) : Int).toNat) := zup_two _ _ _ _ _
  have u83 : ((2 * ((1 : Int) - (st 170 13)) : Int).toNat = (((2 : Int) * ((1 : Int) - (st 170 13))) + 1 : Int).toNat → (zup (zup (zup (zup (zup (zup (zup (zup (zup (zup (zup (zup (zup (zup st 170 2 (st 170 1)) 170 1 0) 170 5 0) 170 8 0) 170 9 (-1)) 170 35 ((1 : Int) - (st 170 13))) 172 (((1 : Int) - (st 170 13)) : Int).toNat 0) 173 (((1 : Int) - (st 170 13)) : Int).toNat 0) 178 (((1 : Int) - (st 170 13)) : Int).toNat 0) 181 (((1 : Int) - (st 170 13)) : Int).toNat 0) 184 (((1 : Int) - (st 170 13)) : Int).toNat 20) 185 (((1 : Int) - (st 170 13)) : Int).toNat 0) 186 ((2 : Int) * ((1 : Int) - (st 170 13)) : Int).toNat (-1)) 186 (((2 : Int) * ((1 : Int) - (st 170 13))) + 1 : Int).toNat (-1)) 186 (2 * ((1 : Int) - (st 170 13)) : Int).toNat = (-1)) ∧ (¬ (2 * ((1 : Int) - (st 170 13)) : Int).toNat = (((2 : Int) * ((1 : Int) - (st 170 13))) + 1 : Int).toNat → (zup (zup (zup (zup (zup (zup (zup (zup (zup (zup (zup (zup (zup (zup st 170 2 (st 170 1)) 170 1 0) 170 5 0) 170 8 0) 170 9 (-1)) 170 35 ((1 : Int) - (st 170 13))) 172 (((1 : Int) - (st 170 13)) : Int).toNat 0) 173 (((1 : Int) - (st 170 13)) : Int).toNat 0) 178 (((1 : Int) - (st 170 13)) : Int).toNat 0) 181 (((1 : Int) - (st 170 13)) : Int).toNat 0) 184 (((1 : Int) - (st 170 13)) : Int).toNat 20) 185 (((1 : Int) - (st 170 13)) : Int).toNat 0) 186 ((2 : Int) * ((1 : Int) - (st 170 13)) : Int).toNat (-1)) 186 (((2 : Int) * ((1 : Int) - (st 170 13))) + 1 : Int).toNat (-1)) 186 (2 * ((1 : Int) - (st 170 13)) : Int).toNat = (zup (zup (zup (zup (zup (zup (zup (zup (zup (zup (zup (zup (zup st 170 2 (st 170 1)) 170 1 0) 170 5 0) 170 8 0) 170 9 (-1)) 170 35 ((1 : Int) - (st 170 13))) 172 (((1 : Int) - (st 170 13)) : Int).toNat 0) 173 (((1 : Int) - (st 170 13)) : Int).toNat 0) 178 (((1 : Int) - (st 170 13)) : Int).toNat 0) 181 (((1 : Int) - (st 170 13)) : Int).toNat 0) 184 (((1 : Int) - (st 170 13)) : Int).toNat 20) 185 (((1 : Int) - (st 170 13)) : Int).toNat 0) 186 ((2 : Int) * ((1 : Int) - (st 170 13)) : Int).toNat (-1)) 186 (2 * ((1 : Int) - (st 170 13)) : Int).toNat) := zup_two _ _ _ _ _
  have g88 := g_sumFrom hG (2 * ((1 : Int) - (st 170 13)) + 1 : Int).toNat
  have u87 : ((2 * ((1 : Int) - (st 170 13)) + 1 : Int).toNat = ((2 : Int) * ((1 : Int) - (st 170 13)) : Int).toNat → (zup (zup (zup (zup (zup (zup (zup (zup (zup (zup (zup (zup (zup st 170 2 (st 170 1)) 170 1 0) 170 5 0) 170 8 0) 170 9 (-1)) 170 35 ((1 : Int) - (st 170 13))) 172 (((1 : Int) - (st 170 13)) : Int).toNat 0) 173 (((1 : Int) - (st 170 13)) : Int).toNat 0) 178 (((1 : Int) - (st 170 13)) : Int).toNat 0) 181 (((1 : Int) - (st 170 13)) : Int).toNat 0) 184 (((1 : Int) - (st 170 13)) : Int).toNat 20) 185 (((1 : Int) - (st 170 13)) : Int).toNat 0) 186 ((2 : Int) * ((1 : Int) - (st 170 13)) : Int).toNat (-1)) 186 (2 * ((1 : Int) - (st 170 13)) + 1 : Int).toNat = (-1)) ∧ (¬ (2 * ((1 : Int) - (st 170 13)) + 1 : Int).toNat = ((2 : Int) * ((1 : Int) - (st 170 13)) : Int).toNat → (zup (zup (zup (zup (zup (zup (zup (zup (zup (zup (zup (zup (zup st 170 2 (st 170 1)) 170 1 0) 170 5 0) 170 8 0) 170 9 (-1)) 170 35 ((1 : Int) - (st 170 13))) 172 (((1 : Int) - (st 170 13)) : Int).toNat 0) 173 (((1 : Int) - (st 170 13)) : Int).toNat 0) 178 (((1 : Int) - (st 170 13)) : Int).toNat 0) 181 (((1 : Int) - (st 170 13)) : Int).toNat 0) 184 (((1 : Int) - (st 170 13)) : Int).toNat 20) 185 (((1 : Int) - (st 170 13)) : Int).toNat 0) 186 ((2 : Int) * ((1 : Int) - (st 170 13)) : Int).toNat (-1)) 186 (2 * ((1 : Int) - (st 170 13)) + 1 : Int).toNat = st 186 (2 * ((1 : Int) - (st 170 13)) + 1 : Int).toNat) := zup_two _ _ _ _ _
  have u86 : ((2 * ((1 : Int) - (st 170 13)) + 1 : Int).toNat = (((2 : Int) * ((1 : Int) - (st 170 13))) + 1 : Int).toNat → (zup (zup (zup (zup (zup (zup (zup (zup (zup (zup (zup (zup (zup (zup st 170 2 (st 170 1)) 170 1 0) 170 5 0) 170 8 0) 170 9 (-1)) 170 35 ((1 : Int) - (st 170 13))) 172 (((1 : Int) - (st 170 13)) : Int).toNat 0) 173 (((1 : Int) - (st 170 13)) : Int).toNat 0) 178 (((1 : Int) - (st 170 13)) : Int).toNat 0) 181 (((1 : Int) - (st 170 13)) : Int).toNat 0) 184 (((1 : Int) - (st 170 13)) : Int).toNat 20) 185 (((1 : Int) - (st 170 13)) : Int).toNat 0) 186 ((2 : Int) * ((1 : Int) - (st 170 13)) : Int).toNat (-1)) 186 (((2 : Int) * ((1 : Int) - (st 170 13))) + 1 : Int).toNat (-1)) 186 (2 * ((1 : Int) - (st 170 13)) + 1 : Int).toNat = (-1)) ∧ (¬ (2 * ((1 : Int) - (st 170 13)) + 1 : Int).toNat = (((2 : Int) * ((1 : Int) - (st 170 13))) + 1 : Int).toNat → (zup (zup (zup (zup (zup (zup (zup (zup (zup (zup (zup (zup (zup (zup st 170 2 (st 170 1)) 170 1 0) 170 5 0) 170 8 0) 170 9 (-1)) 170 35 ((1 : Int) - (st 170 13))) 172 (((1 : Int) - (st 170 13)) : Int).toNat 0) 173 (((1 : Int) - (st 170 13)) : Int).toNat 0) 178 (((1 : Int) - (st 170 13)) : Int).toNat 0) 181 (((1 : Int) - (st 170 13)) : Int).toNat 0) 184 (((1 : Int) - (st 170 13)) : Int).toNat 20) 185 (((1 : Int) - (st 170 13)) : Int).toNat 0) 186 ((2 : Int) * ((1 : Int) - (st 170 13)) : Int).toNat (-1)) 186 (((2 : Int) * ((1 : Int) - (st 170 13))) + 1 : Int).toNat (-1)) 186 (2 * ((1 : Int) - (st 170 13)) + 1 : Int).toNat = (zup (zup (zup (zup (zup (zup (zup (zup (zup (zup (zup (zup (zup st 170 2 (st 170 1)) 170 1 0) 170 5 0) 170 8 0) 170 9 (-1)) 170 35 ((1 : Int) - (st 170 13))) 172 (((1 : Int) - (st 170 13)) : Int).toNat 0) 173 (((1 : Int) - (st 170 13)) : Int).toNat 0) 178 (((1 : Int) - (st 170 13)) : Int).toNat 0) 181 (((1 : Int) - (st 170 13)) : Int).toNat 0) 184 (((1 : Int) - (st 170 13)) : Int).toNat 20) 185 (((1 : Int) - (st 170 13)) : Int).toNat 0) 186 ((2 : Int) * ((1 : Int) - (st 170 13)) : Int).toNat (-1)) 186 (2 * ((1 : Int) - (st 170 13)) + 1 : Int).toNat) := zup_two _ _ _ _ _
  exact town_lz hX _ 0 (zup (zup (zup (zup (zup (zup (zup (zup (zup (zup (zup (zup (zup (zup st 170 2 (st 170 1)) 170 1 0) 170 5 0) 170 8 0) 170 9 (-1)) 170 35 ((1 : Int) - (st 170 13))) 172 (((1 : Int) - (st 170 13)) : Int).toNat 0) 173 (((1 : Int) - (st 170 13)) : Int).toNat 0) 178 (((1 : Int) - (st 170 13)) : Int).toNat 0) 181 (((1 : Int) - (st 170 13)) : Int).toNat 0) 184 (((1 : Int) - (st 170 13)) : Int).toNat 20) 185 (((1 : Int) - (st 170 13)) : Int).toNat 0) 186 ((2 : Int) * ((1 : Int) - (st 170 13)) : Int).toNat (-1)) 186 (((2 : Int) * ((1 : Int) - (st 170 13))) + 1 : Int).toNat (-1)) ⟨(gInv_up (gInv_up (gInv_up (gInv_up (gInv_up (gInv_up (gInv_up (gInv_up (gInv_up (gInv_up (gInv_up (gInv_up (gInv_up (gInv_up hG (p_size (by omega))) (p_taped (by omega))) (p_signEnd (by omega))) (p_faultKind (by omega))) (p_faultPlace (by omega))) (p_in (by omega))) (p_places (by omega))) (p_streets (by omega))) (p_steps (by omega))) (p_things (by omega))) (p_heatTold (by omega))) (p_hotTold (by omega))) (p_sumFrom (by omega))) (p_sumFrom (by omega))), (zV1_up (zV1_up (zV1_up (zV1_up (zV1_up (zV1_up (zV1_up (zV1_up (zV1_up (zV1_up (zV1_up (zV1_up (zV1_up (zV1_up (zV1_rf _) (by decide)) (by decide)) (by decide)) (by decide)) (by decide)) (by decide)) (by decide)) (by decide)) (by decide)) (by decide)) (by decide)) (by decide)) (by decide)) (by decide)), (show 0 = 0 from by omega), (show jR st (zup (zup (zup (zup (zup (zup (zup (zup (zup (zup (zup (zup (zup (zup st 170 2 (st 170 1)) 170 1 0) 170 5 0) 170 8 0) 170 9 (-1)) 170 35 ((1 : Int) - (st 170 13))) 172 (((1 : Int) - (st 170 13)) : Int).toNat 0) 173 (((1 : Int) - (st 170 13)) : Int).toNat 0) 178 (((1 : Int) - (st 170 13)) : Int).toNat 0) 181 (((1 : Int) - (st 170 13)) : Int).toNat 0) 184 (((1 : Int) - (st 170 13)) : Int).toNat 20) 185 (((1 : Int) - (st 170 13)) : Int).toNat 0) 186 ((2 : Int) * ((1 : Int) - (st 170 13)) : Int).toNat (-1)) 186 (((2 : Int) * ((1 : Int) - (st 170 13))) + 1 : Int).toNat (-1)) from (jR_up (jR_up (jR_up (jR_up (jR_up (jR_up (jR_up (jR_up (jR_up (jR_up (jR_up (jR_up (jR_up (jR_up (jR_rf _) (by unfold jrel; omega)) (by unfold jrel; omega)) (by unfold jrel; omega)) (by unfold jrel; omega)) (by unfold jrel; omega)) (by unfold jrel; omega)) (by unfold jrel; omega)) (by unfold jrel; omega)) (by unfold jrel; omega)) (by unfold jrel; omega)) (by unfold jrel; omega)) (by unfold jrel; omega)) (by unfold jrel; omega)) (by unfold jrel; omega))), (show ((1 : Int) - (st 170 13)) = 1 - st 170 13 ∧ st 170 13 = st 170 13 ∧ 0 = 0 ∧ 0 = 0 ∧ 0 ≤ (0 : Int) ∧ (0 : Int) ≤ 64 from by omega), (show (zup (zup (zup (zup (zup (zup (zup st 170 2 (st 170 1)) 170 1 0) 170 5 0) 170 8 0) 170 9 (-1)) 170 35 ((1 : Int) - (st 170 13))) 172 (((1 : Int) - (st 170 13)) : Int).toNat 0) 172 (((1 : Int) - (st 170 13)) : Int).toNat = 0 ∧ (zup (zup (zup (zup (zup (zup (zup (zup st 170 2 (st 170 1)) 170 1 0) 170 5 0) 170 8 0) 170 9 (-1)) 170 35 ((1 : Int) - (st 170 13))) 172 (((1 : Int) - (st 170 13)) : Int).toNat 0) 173 (((1 : Int) - (st 170 13)) : Int).toNat 0) 173 (((1 : Int) - (st 170 13)) : Int).toNat = 0 ∧ (zup (zup (zup (zup (zup (zup (zup (zup (zup st 170 2 (st 170 1)) 170 1 0) 170 5 0) 170 8 0) 170 9 (-1)) 170 35 ((1 : Int) - (st 170 13))) 172 (((1 : Int) - (st 170 13)) : Int).toNat 0) 173 (((1 : Int) - (st 170 13)) : Int).toNat 0) 178 (((1 : Int) - (st 170 13)) : Int).toNat 0) 178 (((1 : Int) - (st 170 13)) : Int).toNat = 0 ∧ (zup (zup (zup (zup (zup (zup (zup (zup (zup (zup (zup (zup (zup (zup st 170 2 (st 170 1)) 170 1 0) 170 5 0) 170 8 0) 170 9 (-1)) 170 35 ((1 : Int) - (st 170 13))) 172 (((1 : Int) - (st 170 13)) : Int).toNat 0) 173 (((1 : Int) - (st 170 13)) : Int).toNat 0) 178 (((1 : Int) - (st 170 13)) : Int).toNat 0) 181 (((1 : Int) - (st 170 13)) : Int).toNat 0) 184 (((1 : Int) - (st 170 13)) : Int).toNat 20) 185 (((1 : Int) - (st 170 13)) : Int).toNat 0) 186 ((2 : Int) * ((1 : Int) - (st 170 13)) : Int).toNat (-1)) 186 (((2 : Int) * ((1 : Int) - (st 170 13))) + 1 : Int).toNat (-1)) 186 (2 * ((1 : Int) - (st 170 13)) : Int).toNat = -1 ∧ (zup (zup (zup (zup (zup (zup (zup (zup (zup (zup (zup (zup (zup (zup st 170 2 (st 170 1)) 170 1 0) 170 5 0) 170 8 0) 170 9 (-1)) 170 35 ((1 : Int) - (st 170 13))) 172 (((1 : Int) - (st 170 13)) : Int).toNat 0) 173 (((1 : Int) - (st 170 13)) : Int).toNat 0) 178 (((1 : Int) - (st 170 13)) : Int).toNat 0) 181 (((1 : Int) - (st 170 13)) : Int).toNat 0) 184 (((1 : Int) - (st 170 13)) : Int).toNat 20) 185 (((1 : Int) - (st 170 13)) : Int).toNat 0) 186 ((2 : Int) * ((1 : Int) - (st 170 13)) : Int).toNat (-1)) 186 (((2 : Int) * ((1 : Int) - (st 170 13))) + 1 : Int).toNat (-1)) 186 (2 * ((1 : Int) - (st 170 13)) + 1 : Int).toNat = -1 from by omega), (show ∀ j : Int, 0 ≤ j → j < (0 : Int) → (zup (zup (zup (zup (zup (zup (zup (zup (zup (zup (zup (zup (zup (zup st 170 2 (st 170 1)) 170 1 0) 170 5 0) 170 8 0) 170 9 (-1)) 170 35 ((1 : Int) - (st 170 13))) 172 (((1 : Int) - (st 170 13)) : Int).toNat 0) 173 (((1 : Int) - (st 170 13)) : Int).toNat 0) 178 (((1 : Int) - (st 170 13)) : Int).toNat 0) 181 (((1 : Int) - (st 170 13)) : Int).toNat 0) 184 (((1 : Int) - (st 170 13)) : Int).toNat 20) 185 (((1 : Int) - (st 170 13)) : Int).toNat 0) 186 ((2 : Int) * ((1 : Int) - (st 170 13)) : Int).toNat (-1)) 186 (((2 : Int) * ((1 : Int) - (st 170 13))) + 1 : Int).toNat (-1)) 177 (64 * ((1 : Int) - (st 170 13)) + j).toNat = 0 from fun j z1 z2 => by omega)⟩ rfl
theorem k_town_m (hTb : aTb zSh rx_tb cl) {D : Nat} (hD : 8 ≤ D) : ∀ as st (Q Q' : zQ), (∀ r st', Q r st' → Q' r st') → k_town 148 as st Q → cl D 148 as st Q' := by
  intro as st Q Q' hQ h
  unfold k_town at h
  split at h
  · obtain ⟨rfl, h⟩ := h
    exact c_town hTb hD (ct_town_m hQ h)
  · exact h.elim
end R6k
