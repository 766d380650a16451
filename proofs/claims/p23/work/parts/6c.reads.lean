/-! printed by wip/p32/lib6.py: the reference reads a sum or a test -/
def m_reads : aM := ([(170, 3), (170, 4), (170, 5), (170, 6), (170, 7), (170, 8), (170, 9), (170, 12), (170, 34), (170, 42), (170, 43), (170, 45), (170, 46)], [188, 189, 192, 193, 194, 195, 196, 197])
def rq_reads (t : Int) (st : zS) : Prop := gInv zgt st ∧ (st 170 4 ≤ st 170 5 ∧ st 170 5 ≤ st 170 2 ∧ (st 170 3 = 0 ∧ st 170 4 = st 170 2 ∨ 1 ≤ st 170 3 ∧ st 170 4 < st 170 5)) ∧ (st 170 34 ≤ st 170 4 ∧ st 186 (2 * st 170 35 + st 170 36 : Int).toNat = st 170 34) ∧ (t = 0 ∨ t = 1)
def en_reads (t : Int) (st : zS) (s1 : zS) : Prop := gInv zgt s1 ∧ aFr m_reads st s1 ∧ (s1 170 4 ≤ s1 170 5 ∧ s1 170 5 ≤ s1 170 2 ∧ (s1 170 3 = 0 ∧ s1 170 4 = s1 170 2 ∨ 1 ≤ s1 170 3 ∧ s1 170 4 < s1 170 5) ∧ st 170 4 ≤ s1 170 4 ∧ (0 < st 170 8 → 0 < s1 170 8)) ∧ (s1 170 8 = 0 → cgd (s1 188) (1600 * st 170 35 + st 170 34) (1600 * st 170 35 + s1 170 34) ∧ s1 170 34 ≤ s1 170 4) ∧ (∀ i : Nat, (i : Int) < 1600 * st 170 35 + st 170 34 ∨ 1600 * st 170 35 + 1600 ≤ (i : Int) → s1 188 i = st 188 i) ∧ (st 170 34 ≤ s1 170 34)
def ct_reads (t : Int) (st : zS) (Q : zQ) : Prop := rq_reads t st ∧ (∀ (s1 : zS), en_reads t st s1 → Q none s1)
theorem ct_reads_m {t : Int} {st : zS} {Q Q' : zQ} (hQ : ∀ r st', Q r st' → Q' r st') (h : ct_reads t st Q) : ct_reads t st Q' := ⟨h.1, fun x0 x1 => hQ _ _ (h.2 x0 x1)⟩
def k_reads : zCall := fun _ as st Q => match as with
  | [.inr (.inr (.inl z_o)), .inl t] => z_o = 170 ∧ ct_reads t st Q
  | _ => False
theorem k_reads_mon : zmon k_reads := by
  intro nu as st Q Q' hQ h
  unfold k_reads at h ⊢
  split at h
  · exact ⟨h.1, ct_reads_m hQ h.2⟩
  · exact h.elim
theorem f0s_fr {m : aM} {st s : zS} (h : aFr m st s) (h1 : amf m 170 35 = false) (h2 : ama m 170 = false) (h3 : amf m 170 36 = false) (h5 : ∀ i, amf m 186 i = false) (h4 : ama m 186 = false) : f0s s = f0s st := by
  unfold f0s
  rw [h 170 35 h1 h2, h 170 36 h3 h2]
  exact h 186 _ (h5 _) h4
section R6c
variable {cl : Nat → zCall}
set_option maxHeartbeats 40000000 in
set_option maxRecDepth 100000 in
theorem c_reads (hTb : aTb zSh rx_tb cl) {D : Nat} (hD : 5 ≤ D) {t : Int} {st : zS} {Q : zQ} (h : ct_reads t st Q) : cl D 198 [.inr (.inr (.inl 170)), .inl t] st Q := by
  obtain ⟨d, rfl⟩ : ∃ d, D = d + 1 := ⟨D - 1, by omega⟩
  refine hTb d 198 (rx_m198, 3, 0, 0, 0) rfl _ _ _ (Nat.le_of_ble_eq_true rfl) (fun K hcl hsf hsl => ?_)
  have hcm : zmo (wcL [(193, k_pushes), (196, k_operand), (197, k_goesOn)]) (cl d) := (wcL_m (wm_cons (k_pushes_m hTb (by omega)) (wm_cons (k_operand_m hTb (by omega)) (wm_cons (k_goesOn_m hTb (by omega)) wm_nil))))
  obtain ⟨hR, hQ⟩ := h
  obtain ⟨hG, lx, q, tt⟩ := hR
  change st 170 4 ≤ st 170 5 ∧ st 170 5 ≤ st 170 2 ∧ (st 170 3 = 0 ∧ st 170 4 = st 170 2 ∨ 1 ≤ st 170 3 ∧ st 170 4 < st 170 5) at lx
  change st 170 34 ≤ st 170 4 ∧ st 186 (2 * st 170 35 + st 170 36 : Int).toNat = st 170 34 at q
  change t = 0 ∨ t = 1 at tt
  have lp : ∀ (u : Nat) (m : Int) (s_lp : zS), gInv zgt s_lp ∧ aFr m_reads st s_lp ∧ (s_lp 170 4 ≤ s_lp 170 5 ∧ s_lp 170 5 ≤ s_lp 170 2 ∧ (s_lp 170 3 = 0 ∧ s_lp 170 4 = s_lp 170 2 ∨ 1 ≤ s_lp 170 3 ∧ s_lp 170 4 < s_lp 170 5)) ∧ (st 170 4 ≤ s_lp 170 4 ∧ (m = 0 ∨ m = 1) ∧ st 170 8 = 0) ∧ (m = 1 → s_lp 170 8 = 0 ∧ PF s_lp (s_lp 170 46) (s_lp 170 4)) ∧ (m = 0 → s_lp 170 8 = 0 → PF s_lp 1 (s_lp 170 4)) ∧ (∀ i : Nat, (i : Int) < 1600 * st 170 35 + st 170 34 ∨ 1600 * st 170 35 + 1600 ≤ (i : Int) → s_lp 188 i = st 188 i) ∧ (st 170 34 ≤ s_lp 170 34) → (2000 * m + 1601 - s_lp 170 4).toNat = u → K (rx_find rx_m198 43) [(2, .inl m), (0, .inr (.inr (.inl 170))), (1, .inl t)] [] s_lp := by
    intro u
    induction u using Nat.strongRecOn with
    | _ u ih =>
      intro m s_lp hi hu
      obtain ⟨gI_lp, fI_lp, lx_lp, p_lp, e_lp, z_lp, o_lp, c_lp⟩ := hi
      have g1 := g_signAt gI_lp
      have g2 := g_signEnd gI_lp
      have g4 := g_size hG
      have e3 : s_lp 170 2 = st 170 2 := fI_lp 170 2 rfl rfl
      have g5 := g_sign gI_lp
      have g6 := g_signAt hG
      have g7 := g_faultKind hG
      have g8 := g_faultKind gI_lp
      have g9 := g_operand gI_lp
      have g10 := g_in hG
      have g11 := g_codes hG
      have g12 := g_codes gI_lp
      have e13 : s_lp 170 35 = st 170 35 := fI_lp 170 35 rfl rfl
      have g14 := g_deep gI_lp
      have m70 : ∀ (n : Int) (s_m70 : zS), gInv zgt s_m70 ∧ aFr m_reads st s_m70 ∧ (s_m70 170 4 ≤ s_m70 170 5 ∧ s_m70 170 5 ≤ s_m70 170 2 ∧ (s_m70 170 3 = 0 ∧ s_m70 170 4 = s_m70 170 2 ∨ 1 ≤ s_m70 170 3 ∧ s_m70 170 4 < s_m70 170 5)) ∧ (st 170 4 ≤ s_m70 170 4 ∧ (n = 0 ∨ n = 1) ∧ s_lp 170 4 ≤ s_m70 170 4 ∧ (n = 1 → s_m70 170 8 = 0 → s_lp 170 4 + 1 ≤ s_m70 170 4) ∧ (s_m70 170 46 = 0 ∨ s_m70 170 46 = 1) ∧ m = 1) ∧ (n = 1 → s_m70 170 8 = 0 → PF s_m70 (s_m70 170 46) (s_m70 170 4)) ∧ (n = 0 → s_m70 170 8 = 0 → PF s_m70 1 (s_m70 170 4)) ∧ (∀ i : Nat, (i : Int) < 1600 * st 170 35 + st 170 34 ∨ 1600 * st 170 35 + 1600 ≤ (i : Int) → s_m70 188 i = st 188 i) ∧ (st 170 34 ≤ s_m70 170 34) → K (rx_find rx_m198 70) [(2, .inl n), (0, .inr (.inr (.inl 170))), (1, .inl t)] [] s_m70 := by
        intro n s_m70 hi
        obtain ⟨gI_m70, fI_m70, lx_m70, p_m70, e_m70, z_m70, o_m70, c_m70⟩ := hi
        have g15 := g_signAt gI_m70
        have g16 := g_signEnd gI_m70
        have g18 := g_size hG
        have e17 : s_m70 170 2 = st 170 2 := fI_m70 170 2 rfl rfl
        have g19 := g_sign gI_m70
        have g20 := g_signAt hG
        have g21 := g_faultKind gI_m70
        have g22 := g_operand gI_m70
        have g23 := g_in hG
        have g24 := g_codes hG
        have g25 := g_codes gI_m70
        refine yr1_ok (Rt := Q) (wc := (wcL [(193, k_pushes), (196, k_operand), (197, k_goesOn)])) (stp := [43, 70]) hcm hcl [] 69 ?_
        show ((n = (0 : Int) → K (rx_find rx_m198 43) [(2, .inl 0), (0, .inr (.inr (.inl 170))), (1, .inl t)] [] s_m70) ∧ (¬ (n = (0 : Int)) → ((¬ s_m70 170 8 = (0 : Int) → K (rx_find rx_m198 43) [(2, .inl 0), (0, .inr (.inr (.inl 170))), (1, .inl t)] [] s_m70) ∧ (¬ (¬ s_m70 170 8 = (0 : Int)) → K (rx_find rx_m198 43) [(2, .inl 1), (0, .inr (.inr (.inl 170))), (1, .inl t)] [] s_m70))))
        refine ⟨fun h26 => ?_, fun h26 => ?_⟩
        · have g27 := g_faultKind hG
          exact ih _ (show (2000 * (0 : Int) + 1601 - s_m70 170 4 : Int).toNat < u from by omega) 0 s_m70 ⟨gI_m70, fI_m70, (show s_m70 170 4 ≤ s_m70 170 5 ∧ s_m70 170 5 ≤ s_m70 170 2 ∧ (s_m70 170 3 = 0 ∧ s_m70 170 4 = s_m70 170 2 ∨ 1 ≤ s_m70 170 3 ∧ s_m70 170 4 < s_m70 170 5) from by omega), (show st 170 4 ≤ s_m70 170 4 ∧ ((0 : Int) = 0 ∨ (0 : Int) = 1) ∧ st 170 8 = 0 from by omega), (show (0 : Int) = 1 → s_m70 170 8 = 0 ∧ PF s_m70 (s_m70 170 46) (s_m70 170 4) from fun z1 => absurd z1 (by omega)), (show (0 : Int) = 0 → s_m70 170 8 = 0 → PF s_m70 1 (s_m70 170 4) from fun _ z => z_m70 (by omega) z), (show ∀ i : Nat, (i : Int) < 1600 * st 170 35 + st 170 34 ∨ 1600 * st 170 35 + 1600 ≤ (i : Int) → s_m70 188 i = st 188 i from o_m70), (show st 170 34 ≤ s_m70 170 34 from by omega)⟩ rfl
        · refine ⟨fun h28 => ?_, fun h28 => ?_⟩
          · have g29 := g_faultKind hG
            exact ih _ (show (2000 * (0 : Int) + 1601 - s_m70 170 4 : Int).toNat < u from by omega) 0 s_m70 ⟨gI_m70, fI_m70, (show s_m70 170 4 ≤ s_m70 170 5 ∧ s_m70 170 5 ≤ s_m70 170 2 ∧ (s_m70 170 3 = 0 ∧ s_m70 170 4 = s_m70 170 2 ∨ 1 ≤ s_m70 170 3 ∧ s_m70 170 4 < s_m70 170 5) from by omega), (show st 170 4 ≤ s_m70 170 4 ∧ ((0 : Int) = 0 ∨ (0 : Int) = 1) ∧ st 170 8 = 0 from by omega), (show (0 : Int) = 1 → s_m70 170 8 = 0 ∧ PF s_m70 (s_m70 170 46) (s_m70 170 4) from fun z1 => absurd z1 (by omega)), (show (0 : Int) = 0 → s_m70 170 8 = 0 → PF s_m70 1 (s_m70 170 4) from fun _ z => z_m70 (by omega) z), (show ∀ i : Nat, (i : Int) < 1600 * st 170 35 + st 170 34 ∨ 1600 * st 170 35 + 1600 ≤ (i : Int) → s_m70 188 i = st 188 i from o_m70), (show st 170 34 ≤ s_m70 170 34 from by omega)⟩ rfl
          · have g30 := g_faultKind hG
            exact ih _ (show (2000 * (1 : Int) + 1601 - s_m70 170 4 : Int).toNat < u from by omega) 1 s_m70 ⟨gI_m70, fI_m70, (show s_m70 170 4 ≤ s_m70 170 5 ∧ s_m70 170 5 ≤ s_m70 170 2 ∧ (s_m70 170 3 = 0 ∧ s_m70 170 4 = s_m70 170 2 ∨ 1 ≤ s_m70 170 3 ∧ s_m70 170 4 < s_m70 170 5) from by omega), (show st 170 4 ≤ s_m70 170 4 ∧ ((1 : Int) = 0 ∨ (1 : Int) = 1) ∧ st 170 8 = 0 from by omega), (show (1 : Int) = 1 → s_m70 170 8 = 0 ∧ PF s_m70 (s_m70 170 46) (s_m70 170 4) from fun z1 => ⟨by omega, e_m70 (by omega) (by omega)⟩), (show (1 : Int) = 0 → s_m70 170 8 = 0 → PF s_m70 1 (s_m70 170 4) from fun z1 => absurd z1 (by omega)), (show ∀ i : Nat, (i : Int) < 1600 * st 170 35 + st 170 34 ∨ 1600 * st 170 35 + 1600 ≤ (i : Int) → s_m70 188 i = st 188 i from o_m70), (show st 170 34 ≤ s_m70 170 34 from by omega)⟩ rfl
      refine yr1_ok (Rt := Q) (wc := (wcL [(193, k_pushes), (196, k_operand), (197, k_goesOn)])) (stp := [43, 70]) hcm hcl [] 69 ?_
      show ((m = (0 : Int) → Q none s_lp) ∧ (¬ (m = (0 : Int)) → ((¬ s_lp 170 46 = (0 : Int) → (170 = 170 ∧ (rq_goesOn  s_lp ∧ (∀ (r31 : Int) (s31 : zS), en_goesOn  s_lp r31 s31 → K (rx_find rx_m198 70) [(2, .inl r31), (0, .inr (.inr (.inl 170))), (1, .inl t)] [] s31)))) ∧ (¬ (¬ s_lp 170 46 = (0 : Int)) → (170 = 170 ∧ (rq_operand  s_lp ∧ (∀ (r32 : Int) (s32 : zS), en_operand  s_lp r32 s32 → ((r32 = (0 : Int) ∨ r32 = (1 : Int)) ∧ K (rx_find rx_m198 70) [(2, .inl m), (0, .inr (.inr (.inl 170))), (1, .inl t)] [] (zup s32 170 46 r32)))))))))
      refine ⟨fun h33 => ?_, fun h33 => ?_⟩
      · exact hQ _ ⟨gI_lp, fI_lp, (show s_lp 170 4 ≤ s_lp 170 5 ∧ s_lp 170 5 ≤ s_lp 170 2 ∧ (s_lp 170 3 = 0 ∧ s_lp 170 4 = s_lp 170 2 ∨ 1 ≤ s_lp 170 3 ∧ s_lp 170 4 < s_lp 170 5) ∧ st 170 4 ≤ s_lp 170 4 ∧ (0 < st 170 8 → 0 < s_lp 170 8) from by omega), (show s_lp 170 8 = 0 → cgd (s_lp 188) (1600 * st 170 35 + st 170 34) (1600 * st 170 35 + s_lp 170 34) ∧ s_lp 170 34 ≤ s_lp 170 4 from fun z => by
          have z1 := z_lp (by omega) z
          have z2 := PF_c z1
          have z3 := PF_f z1
          have z4 : f0s s_lp = st 170 34 := (f0s_fr fI_lp rfl rfl rfl (fun _ => rfl) rfl).trans (by show st 186 (2 * st 170 35 + st 170 36 : Int).toNat = st 170 34; omega)
          rw [z4, show s_lp 170 35 = st 170 35 by omega] at z2
          exact ⟨z2, by omega⟩), (show ∀ i : Nat, (i : Int) < 1600 * st 170 35 + st 170 34 ∨ 1600 * st 170 35 + 1600 ≤ (i : Int) → s_lp 188 i = st 188 i from o_lp), (show st 170 34 ≤ s_lp 170 34 from by omega)⟩
      · refine ⟨fun h34 => ?_, fun h34 => ?_⟩
        · refine ⟨rfl, ⟨gI_lp, (show s_lp 170 4 ≤ s_lp 170 5 ∧ s_lp 170 5 ≤ s_lp 170 2 ∧ (s_lp 170 3 = 0 ∧ s_lp 170 4 = s_lp 170 2 ∨ 1 ≤ s_lp 170 3 ∧ s_lp 170 4 < s_lp 170 5) from by omega), (show PF s_lp 1 (s_lp 170 4) from by have z := (e_lp (by omega)).2; rw [show s_lp 170 46 = 1 by omega] at z; exact z), (show s_lp 170 8 = 0 ∧ s_lp 170 46 = 1 from ⟨(e_lp (by omega)).1, by omega⟩)⟩, fun r31 s31 q31 => ?_⟩
          obtain ⟨gs31, fs31, p31, b31, e31, o31, c31⟩ := q31
          change s31 170 4 ≤ s31 170 5 ∧ s31 170 5 ≤ s31 170 2 ∧ (s31 170 3 = 0 ∧ s31 170 4 = s31 170 2 ∨ 1 ≤ s31 170 3 ∧ s31 170 4 < s31 170 5) ∧ s_lp 170 4 ≤ s31 170 4 at p31
          have g35 := g_signAt gs31
          have g36 := g_signEnd gs31
          have e37 : s31 170 2 = s_lp 170 2 := fs31 170 2 rfl rfl
          have g38 := g_sign gs31
          change (r31 = 0 ∨ r31 = 1) at b31
          change s31 170 8 = 0 → (r31 = 1 → s_lp 170 5 ≤ s31 170 4 ∧ 1 ≤ s_lp 170 3 ∧ PF s31 (s31 170 46) (s31 170 4)) ∧ (r31 = 0 → PF s31 1 (s31 170 4)) at e31
          have g39 := g_faultKind gs31
          have g40 := g_operand gs31
          change ∀ i : Nat, (i : Int) < 1600 * s_lp 170 35 + s_lp 170 34 ∨ 1600 * s_lp 170 35 + 1600 ≤ (i : Int) → s31 188 i = s_lp 188 i at o31
          change s_lp 170 34 ≤ s31 170 34 at c31
          have g41 := g_codes gs31
          exact m70 r31 s31 ⟨gs31, (fr_tr fI_lp fs31 rfl), (show s31 170 4 ≤ s31 170 5 ∧ s31 170 5 ≤ s31 170 2 ∧ (s31 170 3 = 0 ∧ s31 170 4 = s31 170 2 ∨ 1 ≤ s31 170 3 ∧ s31 170 4 < s31 170 5) from by omega), (show st 170 4 ≤ s31 170 4 ∧ (r31 = 0 ∨ r31 = 1) ∧ s_lp 170 4 ≤ s31 170 4 ∧ (r31 = 1 → s31 170 8 = 0 → s_lp 170 4 + 1 ≤ s31 170 4) ∧ (s31 170 46 = 0 ∨ s31 170 46 = 1) ∧ m = 1 from by have z2 := b31; have z3 : s31 170 8 = 0 → r31 = 1 → s_lp 170 5 ≤ s31 170 4 ∧ 1 ≤ s_lp 170 3 := fun z z1 => ⟨((e31 z).1 z1).1, ((e31 z).1 z1).2.1⟩; omega), (show r31 = 1 → s31 170 8 = 0 → PF s31 (s31 170 46) (s31 170 4) from fun z1 z => ((e31 z).1 z1).2.2), (show r31 = 0 → s31 170 8 = 0 → PF s31 1 (s31 170 4) from fun z1 z => (e31 z).2 z1), (show ∀ i : Nat, (i : Int) < 1600 * st 170 35 + st 170 34 ∨ 1600 * st 170 35 + 1600 ≤ (i : Int) → s31 188 i = st 188 i from (fun i hi => (o31 i (by omega)).trans (o_lp i hi))), (show st 170 34 ≤ s31 170 34 from by omega)⟩
        · refine ⟨rfl, ⟨gI_lp, (show s_lp 170 4 ≤ s_lp 170 5 ∧ s_lp 170 5 ≤ s_lp 170 2 ∧ (s_lp 170 3 = 0 ∧ s_lp 170 4 = s_lp 170 2 ∨ 1 ≤ s_lp 170 3 ∧ s_lp 170 4 < s_lp 170 5) from by omega), (show PF s_lp 0 (s_lp 170 4) from by have z := (e_lp (by omega)).2; rw [show s_lp 170 46 = 0 by omega] at z; exact z), (show s_lp 170 8 = 0 from (e_lp (by omega)).1)⟩, fun r32 s32 q32 => ?_⟩
          obtain ⟨gs32, fs32, p32, b32, e32, o32, c32⟩ := q32
          change s32 170 4 ≤ s32 170 5 ∧ s32 170 5 ≤ s32 170 2 ∧ (s32 170 3 = 0 ∧ s32 170 4 = s32 170 2 ∨ 1 ≤ s32 170 3 ∧ s32 170 4 < s32 170 5) ∧ s_lp 170 4 ≤ s32 170 4 at p32
          have g42 := g_signAt gs32
          have g43 := g_signEnd gs32
          have e44 : s32 170 2 = s_lp 170 2 := fs32 170 2 rfl rfl
          have g45 := g_sign gs32
          change (r32 = 0 ∨ r32 = 1) at b32
          change s32 170 8 = 0 → s_lp 170 5 ≤ s32 170 4 ∧ 1 ≤ s_lp 170 3 ∧ PF s32 r32 (s32 170 4) at e32
          have g46 := g_faultKind gs32
          change ∀ i : Nat, (i : Int) < 1600 * s_lp 170 35 + s_lp 170 34 ∨ 1600 * s_lp 170 35 + 1600 ≤ (i : Int) → s32 188 i = s_lp 188 i at o32
          change s_lp 170 34 ≤ s32 170 34 at c32
          have g47 := g_codes gs32
          refine ⟨by omega, ?_⟩
          exact m70 m (zup s32 170 46 r32) ⟨(gInv_up gs32 (p_operand (by omega))), (fr_f (fr_tr fI_lp fs32 rfl) rfl), (show s32 170 4 ≤ s32 170 5 ∧ s32 170 5 ≤ s32 170 2 ∧ (s32 170 3 = 0 ∧ s32 170 4 = s32 170 2 ∨ 1 ≤ s32 170 3 ∧ s32 170 4 < s32 170 5) from by omega), (show st 170 4 ≤ s32 170 4 ∧ (m = 0 ∨ m = 1) ∧ s_lp 170 4 ≤ s32 170 4 ∧ (m = 1 → s32 170 8 = 0 → s_lp 170 4 + 1 ≤ s32 170 4) ∧ (r32 = 0 ∨ r32 = 1) ∧ m = 1 from by have z2 := b32; have z3 : s32 170 8 = 0 → s_lp 170 5 ≤ s32 170 4 ∧ 1 ≤ s_lp 170 3 := fun z => ⟨(e32 z).1, (e32 z).2.1⟩; omega), (show m = 1 → s32 170 8 = 0 → PF (zup s32 170 46 r32) (r32) (s32 170 4) from fun _ z => PF_up rfl (e32 z).2.2), (show m = 0 → s32 170 8 = 0 → PF (zup s32 170 46 r32) 1 (s32 170 4) from fun z1 => absurd z1 (by omega)), (show ∀ i : Nat, (i : Int) < 1600 * st 170 35 + st 170 34 ∨ 1600 * st 170 35 + 1600 ≤ (i : Int) → (zup s32 170 46 r32) 188 i = st 188 i from (fun i hi => (o32 i (by omega)).trans (o_lp i hi))), (show st 170 34 ≤ s32 170 34 from by omega)⟩
  have g48 := g_signAt hG
  have g49 := g_signEnd hG
  have g50 := g_size hG
  have g51 := g_sign hG
  have g52 := g_codes hG
  have g53 := g_in hG
  have g54 := g_isClever hG
  have g55 := g_sumFrom hG (2 * st 170 35 + st 170 36 : Int).toNat
  have g56 := g_deep hG
  have g57 := g_faultKind hG
  have g58 := g_operand hG
  refine yr1_ok (Rt := Q) (wc := (wcL [(193, k_pushes), (196, k_operand), (197, k_goesOn)])) (stp := [43, 70]) hcm hcl [] 69 ?_
  show ((st 170 8 ≤ (0 : Int) → ((0 = (0 : Int) ∨ 0 = (1 : Int)) ∧ ((t = (0 : Int) → (170 = 170 ∧ (rq_pushes (0) (zup (zup (zup (zup st 170 42 0) 170 43 0) 170 45 0) 170 46 0) ∧ (K (rx_find rx_m198 43) [(2, .inl 1), (0, .inr (.inr (.inl 170))), (1, .inl t)] [] (zup (zup (zup (zup (zup (zup (zup (zup (zup st 170 42 0) 170 43 0) 170 45 0) 170 46 0) 192 (0 : Int).toNat (0)) 193 (0 : Int).toNat 0) 194 (0 : Int).toNat 1) 196 (0 : Int).toNat 0) 170 42 (0 + 1)))))) ∧ (¬ (t = (0 : Int)) → (170 = 170 ∧ (rq_pushes (1) (zup (zup (zup (zup st 170 42 0) 170 43 0) 170 45 0) 170 46 0) ∧ (K (rx_find rx_m198 43) [(2, .inl 1), (0, .inr (.inr (.inl 170))), (1, .inl t)] [] (zup (zup (zup (zup (zup (zup (zup (zup (zup st 170 42 0) 170 43 0) 170 45 0) 170 46 0) 192 (0 : Int).toNat (1)) 193 (0 : Int).toNat 0) 194 (0 : Int).toNat 1) 196 (0 : Int).toNat 0) 170 42 (0 + 1))))))))) ∧ (¬ (st 170 8 ≤ (0 : Int)) → Q none st))
  refine ⟨fun h61 => ?_, fun h61 => ?_⟩
  · refine ⟨by omega, ?_⟩
    refine ⟨fun h62 => ?_, fun h62 => ?_⟩
    · refine ⟨rfl, ⟨(gInv_up (gInv_up (gInv_up (gInv_up hG (p_deep (by omega))) (p_open (by omega))) (p_opMany (by omega))) (p_operand (by omega))), (show 0 ≤ 0 ∧ 0 ≤ 19 from by omega)⟩, ?_⟩
      exact lp _ 1 (zup (zup (zup (zup (zup (zup (zup (zup (zup st 170 42 0) 170 43 0) 170 45 0) 170 46 0) 192 (0 : Int).toNat (0)) 193 (0 : Int).toNat 0) 194 (0 : Int).toNat 1) 196 (0 : Int).toNat 0) 170 42 (0 + 1)) ⟨(gInv_up (gInv_up (gInv_up (gInv_up (gInv_up (gInv_up (gInv_up (gInv_up (gInv_up hG (p_deep (by omega))) (p_open (by omega))) (p_opMany (by omega))) (p_operand (by omega))) (p_frame (by omega))) (p_phase (by omega))) (p_begins (by omega))) (p_base (by omega))) (p_deep (by omega))), (fr_f (fr_a (fr_a (fr_a (fr_a (fr_f (fr_f (fr_f (fr_f (fr_rf _ _) rfl) rfl) rfl) rfl) rfl) rfl) rfl) rfl) rfl), (show st 170 4 ≤ st 170 5 ∧ st 170 5 ≤ st 170 2 ∧ (st 170 3 = 0 ∧ st 170 4 = st 170 2 ∨ 1 ≤ st 170 3 ∧ st 170 4 < st 170 5) from by omega), (show st 170 4 ≤ st 170 4 ∧ ((1 : Int) = 0 ∨ (1 : Int) = 1) ∧ st 170 8 = 0 from by omega), (show (1 : Int) = 1 → st 170 8 = 0 ∧ PF (zup (zup (zup (zup (zup (zup (zup (zup (zup st 170 42 0) 170 43 0) 170 45 0) 170 46 0) 192 (0 : Int).toNat (0)) 193 (0 : Int).toNat 0) 194 (0 : Int).toNat 1) 196 (0 : Int).toNat 0) 170 42 (0 + 1)) (0) (st 170 4) from fun _ => by
          refine ⟨by omega, ?_, ?_, PH_start _ _ _⟩
          · have z1 : pa (up1 (st 192) (0 : Int).toNat (0) (0 + 1 - 1 : Int).toNat) (st 195 (0 + 1 - 1 : Int).toNat) = 0 := rfl
            show PI (st 170 35) (st 170 34) (0) ((0 + 1)) (0) 0 (pa (up1 (st 192) (0 : Int).toNat (0) (0 + 1 - 1 : Int).toNat) (st 195 (0 + 1 - 1 : Int).toNat)) (st 170 4) (st 197) (up1 (st 196) (0 : Int).toNat 0) (up1 (st 192) (0 : Int).toNat (0)) (st 195) (up1 (st 194) (0 : Int).toNat 1) (st 188) (f0s st)
            rw [z1]
            exact PI_start (by omega) ⟨by omega, by show f0s st = st 170 34; unfold f0s; omega⟩ (by omega) (by omega)
          · exact ⟨fun z1 => absurd z1 (by show ¬ (((0) : Int) = 3 ∨ ((0) : Int) = 4 ∨ ((0) : Int) = 6); omega), fun z1 => absurd z1 (by show ¬ ((0) : Int) = 6; omega)⟩), (show (1 : Int) = 0 → st 170 8 = 0 → PF (zup (zup (zup (zup (zup (zup (zup (zup (zup st 170 42 0) 170 43 0) 170 45 0) 170 46 0) 192 (0 : Int).toNat (0)) 193 (0 : Int).toNat 0) 194 (0 : Int).toNat 1) 196 (0 : Int).toNat 0) 170 42 (0 + 1)) 1 (st 170 4) from fun z1 => absurd z1 (by omega)), (show ∀ i : Nat, (i : Int) < 1600 * st 170 35 + st 170 34 ∨ 1600 * st 170 35 + 1600 ≤ (i : Int) → (zup (zup (zup (zup (zup (zup (zup (zup (zup st 170 42 0) 170 43 0) 170 45 0) 170 46 0) 192 (0 : Int).toNat (0)) 193 (0 : Int).toNat 0) 194 (0 : Int).toNat 1) 196 (0 : Int).toNat 0) 170 42 (0 + 1)) 188 i = st 188 i from (fun _ _ => rfl)), (show st 170 34 ≤ st 170 34 from by omega)⟩ rfl
    · refine ⟨rfl, ⟨(gInv_up (gInv_up (gInv_up (gInv_up hG (p_deep (by omega))) (p_open (by omega))) (p_opMany (by omega))) (p_operand (by omega))), (show 0 ≤ 0 ∧ 0 ≤ 19 from by omega)⟩, ?_⟩
      exact lp _ 1 (zup (zup (zup (zup (zup (zup (zup (zup (zup st 170 42 0) 170 43 0) 170 45 0) 170 46 0) 192 (0 : Int).toNat (1)) 193 (0 : Int).toNat 0) 194 (0 : Int).toNat 1) 196 (0 : Int).toNat 0) 170 42 (0 + 1)) ⟨(gInv_up (gInv_up (gInv_up (gInv_up (gInv_up (gInv_up (gInv_up (gInv_up (gInv_up hG (p_deep (by omega))) (p_open (by omega))) (p_opMany (by omega))) (p_operand (by omega))) (p_frame (by omega))) (p_phase (by omega))) (p_begins (by omega))) (p_base (by omega))) (p_deep (by omega))), (fr_f (fr_a (fr_a (fr_a (fr_a (fr_f (fr_f (fr_f (fr_f (fr_rf _ _) rfl) rfl) rfl) rfl) rfl) rfl) rfl) rfl) rfl), (show st 170 4 ≤ st 170 5 ∧ st 170 5 ≤ st 170 2 ∧ (st 170 3 = 0 ∧ st 170 4 = st 170 2 ∨ 1 ≤ st 170 3 ∧ st 170 4 < st 170 5) from by omega), (show st 170 4 ≤ st 170 4 ∧ ((1 : Int) = 0 ∨ (1 : Int) = 1) ∧ st 170 8 = 0 from by omega), (show (1 : Int) = 1 → st 170 8 = 0 ∧ PF (zup (zup (zup (zup (zup (zup (zup (zup (zup st 170 42 0) 170 43 0) 170 45 0) 170 46 0) 192 (0 : Int).toNat (1)) 193 (0 : Int).toNat 0) 194 (0 : Int).toNat 1) 196 (0 : Int).toNat 0) 170 42 (0 + 1)) (0) (st 170 4) from fun _ => by
          refine ⟨by omega, ?_, ?_, PH_start _ _ _⟩
          · have z1 : pa (up1 (st 192) (0 : Int).toNat (1) (0 + 1 - 1 : Int).toNat) (st 195 (0 + 1 - 1 : Int).toNat) = 0 := rfl
            show PI (st 170 35) (st 170 34) (0) ((0 + 1)) (0) 0 (pa (up1 (st 192) (0 : Int).toNat (1) (0 + 1 - 1 : Int).toNat) (st 195 (0 + 1 - 1 : Int).toNat)) (st 170 4) (st 197) (up1 (st 196) (0 : Int).toNat 0) (up1 (st 192) (0 : Int).toNat (1)) (st 195) (up1 (st 194) (0 : Int).toNat 1) (st 188) (f0s st)
            rw [z1]
            exact PI_start (by omega) ⟨by omega, by show f0s st = st 170 34; unfold f0s; omega⟩ (by omega) (by omega)
          · exact ⟨fun z1 => absurd z1 (by show ¬ (((1) : Int) = 3 ∨ ((1) : Int) = 4 ∨ ((1) : Int) = 6); omega), fun z1 => absurd z1 (by show ¬ ((1) : Int) = 6; omega)⟩), (show (1 : Int) = 0 → st 170 8 = 0 → PF (zup (zup (zup (zup (zup (zup (zup (zup (zup st 170 42 0) 170 43 0) 170 45 0) 170 46 0) 192 (0 : Int).toNat (1)) 193 (0 : Int).toNat 0) 194 (0 : Int).toNat 1) 196 (0 : Int).toNat 0) 170 42 (0 + 1)) 1 (st 170 4) from fun z1 => absurd z1 (by omega)), (show ∀ i : Nat, (i : Int) < 1600 * st 170 35 + st 170 34 ∨ 1600 * st 170 35 + 1600 ≤ (i : Int) → (zup (zup (zup (zup (zup (zup (zup (zup (zup st 170 42 0) 170 43 0) 170 45 0) 170 46 0) 192 (0 : Int).toNat (1)) 193 (0 : Int).toNat 0) 194 (0 : Int).toNat 1) 196 (0 : Int).toNat 0) 170 42 (0 + 1)) 188 i = st 188 i from (fun _ _ => rfl)), (show st 170 34 ≤ st 170 34 from by omega)⟩ rfl
  · exact hQ _ ⟨hG, (fr_rf _ _), (show st 170 4 ≤ st 170 5 ∧ st 170 5 ≤ st 170 2 ∧ (st 170 3 = 0 ∧ st 170 4 = st 170 2 ∨ 1 ≤ st 170 3 ∧ st 170 4 < st 170 5) ∧ st 170 4 ≤ st 170 4 ∧ (0 < st 170 8 → 0 < st 170 8) from by omega), (show st 170 8 = 0 → cgd (st 188) (1600 * st 170 35 + st 170 34) (1600 * st 170 35 + st 170 34) ∧ st 170 34 ≤ st 170 4 from fun z => absurd z (by omega)), (show ∀ i : Nat, (i : Int) < 1600 * st 170 35 + st 170 34 ∨ 1600 * st 170 35 + 1600 ≤ (i : Int) → st 188 i = st 188 i from (fun _ _ => rfl)), (show st 170 34 ≤ st 170 34 from by omega)⟩
theorem k_reads_m (hTb : aTb zSh rx_tb cl) {D : Nat} (hD : 5 ≤ D) : ∀ as st (Q Q' : zQ), (∀ r st', Q r st' → Q' r st') → k_reads 198 as st Q → cl D 198 as st Q' := by
  intro as st Q Q' hQ h
  unfold k_reads at h
  split at h
  · obtain ⟨rfl, h⟩ := h
    exact c_reads hTb hD (ct_reads_m hQ h)
  · exact h.elim
end R6c
