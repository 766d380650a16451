/-! printed by wip/p32/lib4.py: the reference's operands -/
def m_operand : aM := ([(170, 3), (170, 4), (170, 5), (170, 6), (170, 7), (170, 8), (170, 9), (170, 12), (170, 34), (170, 42), (170, 43), (170, 45)], [188, 189, 192, 193, 194, 195, 196, 197])
def rq_operand  (st : zS) : Prop := gInv zgt st ∧ (st 170 4 ≤ st 170 5 ∧ st 170 5 ≤ st 170 2 ∧ (st 170 3 = 0 ∧ st 170 4 = st 170 2 ∨ 1 ≤ st 170 3 ∧ st 170 4 < st 170 5)) ∧ (PF st 0 (st 170 4)) ∧ (st 170 8 = 0)
def en_operand  (st : zS) (r : Int) (s1 : zS) : Prop := gInv zgt s1 ∧ aFr m_operand st s1 ∧ (s1 170 4 ≤ s1 170 5 ∧ s1 170 5 ≤ s1 170 2 ∧ (s1 170 3 = 0 ∧ s1 170 4 = s1 170 2 ∨ 1 ≤ s1 170 3 ∧ s1 170 4 < s1 170 5) ∧ st 170 4 ≤ s1 170 4) ∧ ((r = 0 ∨ r = 1)) ∧ (s1 170 8 = 0 → st 170 5 ≤ s1 170 4 ∧ 1 ≤ st 170 3 ∧ PF s1 r (s1 170 4)) ∧ (∀ i : Nat, (i : Int) < 1600 * st 170 35 + st 170 34 ∨ 1600 * st 170 35 + 1600 ≤ (i : Int) → s1 188 i = st 188 i) ∧ (st 170 34 ≤ s1 170 34)
def ct_operand  (st : zS) (Q : zQ) : Prop := rq_operand  st ∧ (∀ (r : Int) (s1 : zS), en_operand  st r s1 → Q (some (.inl r)) s1)
theorem ct_operand_m {st : zS} {Q Q' : zQ} (hQ : ∀ r st', Q r st' → Q' r st') (h : ct_operand  st Q) : ct_operand  st Q' := ⟨h.1, fun x0 x1 x2 => hQ _ _ (h.2 x0 x1 x2)⟩
def k_operand : zCall := fun _ as st Q => match as with
  | [.inr (.inr (.inl z_o))] => z_o = 170 ∧ ct_operand  st Q
  | _ => False
theorem k_operand_mon : zmon k_operand := by
  intro nu as st Q Q' hQ h
  unfold k_operand at h ⊢
  split at h
  · exact ⟨h.1, ct_operand_m hQ h.2⟩
  · exact h.elim
section R69
variable {cl : Nat → zCall}
set_option maxRecDepth 100000 in
theorem c_opens (hTb : aTb zSh rx_tb cl) {D : Nat} (hD : 3 ≤ D) {k : Int} {st : zS} {Q : zQ} (h : ct_opens k st Q) : cl D 194 [.inr (.inr (.inl 170)), .inl k] st Q := by
  obtain ⟨d, rfl⟩ : ∃ d, D = d + 1 := ⟨D - 1, by omega⟩
  refine hTb d 194 (rx_m194, 2, 0, 0, 0) rfl _ _ _ (Nat.le_of_ble_eq_true rfl) (fun K hcl hsf hsl => ?_)
  have hcm : zmo (wcL [(178, k_blame), (149, k_ahead), (193, k_pushes)]) (cl d) := (wcL_m (wm_cons (k_blame_m hTb (by omega)) (wm_cons (k_ahead_m hTb (by omega)) (wm_cons (k_pushes_m hTb (by omega)) wm_nil))))
  obtain ⟨hR, hQ⟩ := h
  obtain ⟨hG, lx, pf, kk, bg⟩ := hR
  change st 170 4 ≤ st 170 5 ∧ st 170 5 ≤ st 170 2 ∧ (st 170 3 = 0 ∧ st 170 4 = st 170 2 ∨ 1 ≤ st 170 3 ∧ st 170 4 < st 170 5) at lx
  change st 170 8 = 0 → PF st 0 (st 170 4) ∧ 1 ≤ st 170 3 at pf
  change 2 ≤ k ∧ k ≤ 6 at kk
  change st 194 (st 170 42 - 1 : Int).toNat = 0 at bg
  have m18 : ∀ (s_m18 : zS), gInv zgt s_m18 ∧ aFr m_opens st s_m18 ∧ (s_m18 170 4 = st 170 4 ∧ s_m18 170 5 = st 170 5 ∧ s_m18 170 3 = st 170 3 ∧ s_m18 170 42 = st 170 42 ∧ s_m18 170 43 = st 170 43) ∧ (s_m18 170 8 = 0 → st 170 8 = 0 ∧ PF s_m18 0 (st 170 4) ∧ 1 ≤ s_m18 170 3 ∧ s_m18 170 43 ≤ 6) ∧ (s_m18 170 4 ≤ s_m18 170 5 ∧ s_m18 170 5 ≤ s_m18 170 2 ∧ (s_m18 170 3 = 0 ∧ s_m18 170 4 = s_m18 170 2 ∨ 1 ≤ s_m18 170 3 ∧ s_m18 170 4 < s_m18 170 5)) ∧ (s_m18 194 (s_m18 170 42 - 1 : Int).toNat = 0) → K (rx_find rx_m194 18) [(0, .inr (.inr (.inl 170))), (1, .inl k)] [] s_m18 := by
    intro  s_m18 hi
    obtain ⟨gI_m18, fI_m18, sm_m18, pf_m18, lx_m18, bg_m18⟩ := hi
    have PF1 : s_m18 170 8 = 0 → 1 ≤ s_m18 170 42 ∧ s_m18 170 42 ≤ 7 ∧ 0 ≤ s_m18 170 43 ∧ 1 ≤ s_m18 170 3 ∧ st 170 8 = 0 := fun z => by have PF0 := PF_f (pf_m18 z).2.1; have PF2 := pf_m18 z; omega
    have g1 := g_signAt gI_m18
    have g2 := g_signAt hG
    have g3 := g_signEnd gI_m18
    have g4 := g_signEnd hG
    have g5 := g_sign gI_m18
    have g6 := g_sign hG
    have g7 := g_deep gI_m18
    have g8 := g_deep hG
    have g9 := g_open gI_m18
    have g10 := g_open hG
    have g11 := g_faultKind gI_m18
    have g12 := g_faultKind hG
    have g14 := g_size hG
    have e13 : s_m18 170 2 = st 170 2 := fI_m18 170 2 rfl rfl
    have g15 := g_begins gI_m18 (s_m18 170 42 - 1 : Int).toNat
    refine yr1_ok (Rt := Q) (wc := (wcL [(178, k_blame), (149, k_ahead), (193, k_pushes)])) (stp := [18]) hcm hcl [] 45 ?_
    show ((s_m18 170 8 ≤ (0 : Int) → ((-2147483648 ≤ (s_m18 170 43) + 1 ∧ (s_m18 170 43) + 1 ≤ 2147483647) ∧ (170 = 170 ∧ (rq_ahead  (zup s_m18 170 43 ((s_m18 170 43) + 1)) ∧ (∀ (s16 : zS), en_ahead  (zup s_m18 170 43 ((s_m18 170 43) + 1)) s16 → (170 = 170 ∧ (rq_pushes k s16 ∧ (Q none (zup (zup (zup (zup (zup s16 192 (s16 170 42 : Int).toNat k) 193 (s16 170 42 : Int).toNat 0) 194 (s16 170 42 : Int).toNat 1) 196 (s16 170 42 : Int).toNat (s16 170 45)) 170 42 ((s16 170 42) + 1)))))))))) ∧ (¬ (s_m18 170 8 ≤ (0 : Int)) → Q none s_m18))
    refine ⟨fun h18 => ?_, fun h18 => ?_⟩
    · refine ⟨by omega, ?_⟩
      refine ⟨rfl, ⟨(gInv_up gI_m18 (p_open (by omega))), (show s_m18 170 5 ≤ s_m18 170 2 from by omega)⟩, fun s16 q16 => ?_⟩
      obtain ⟨gs16, fs16, p16⟩ := q16
      change s16 170 4 ≤ s16 170 5 ∧ s16 170 5 ≤ s16 170 2 ∧ (s16 170 3 = 0 ∧ s16 170 4 = s16 170 2 ∨ 1 ≤ s16 170 3 ∧ s16 170 4 < s16 170 5) ∧ s_m18 170 5 ≤ s16 170 4 at p16
      have g19 := g_signAt gs16
      have g20 := g_signEnd gs16
      have e21 : s16 170 2 = s_m18 170 2 := fs16 170 2 rfl rfl
      have g22 := g_sign gs16
      have e23 : s16 170 42 = s_m18 170 42 := fs16 170 42 rfl rfl
      have g26 := g_opMany hG
      have e25 : s_m18 170 45 = st 170 45 := fI_m18 170 45 rfl rfl
      have e24 : s16 170 45 = s_m18 170 45 := fs16 170 45 rfl rfl
      refine ⟨rfl, ⟨gs16, (show 0 ≤ s16 170 42 ∧ s16 170 42 ≤ 19 from by omega)⟩, ?_⟩
      have e27 : s16 170 8 = s_m18 170 8 := fs16 170 8 rfl rfl
      have g30 := g_frame gI_m18 (((s_m18 170 42) + 1) - 1 : Int).toNat
      have e29 : s16 192 (((s16 170 42) + 1) - 1 : Int).toNat = s_m18 192 (((s_m18 170 42) + 1) - 1 : Int).toNat := (fs16 192 (((s16 170 42) + 1) - 1 : Int).toNat rfl rfl).trans (by rw [e23] <;> rfl)
      have u28 : ((((s16 170 42) + 1) - 1 : Int).toNat = (s16 170 42 : Int).toNat → (zup s16 192 (s16 170 42 : Int).toNat k) 192 (((s16 170 42) + 1) - 1 : Int).toNat = k) ∧ (¬ (((s16 170 42) + 1) - 1 : Int).toNat = (s16 170 42 : Int).toNat → (zup s16 192 (s16 170 42 : Int).toNat k) 192 (((s16 170 42) + 1) - 1 : Int).toNat = s16 192 (((s16 170 42) + 1) - 1 : Int).toNat) := zup_two _ _ _ _ _
      have e31 : s16 170 43 = ((s_m18 170 43) + 1) := fs16 170 43 rfl rfl
      have e32 : s16 194 (s16 170 42 - 1 : Int).toNat = s_m18 194 (s_m18 170 42 - 1 : Int).toNat := (fs16 194 (s16 170 42 - 1 : Int).toNat rfl rfl).trans (by rw [e23] <;> rfl)
      exact hQ _ ⟨(gInv_up (gInv_up (gInv_up (gInv_up (gInv_up gs16 (p_frame (by omega))) (p_phase (by omega))) (p_begins (by omega))) (p_base (by omega))) (p_deep (by omega))), (fr_f (fr_a (fr_a (fr_a (fr_a (fr_tr (fr_f fI_m18 rfl) fs16 rfl) rfl) rfl) rfl) rfl) rfl), (show s16 170 4 ≤ s16 170 5 ∧ s16 170 5 ≤ s16 170 2 ∧ (s16 170 3 = 0 ∧ s16 170 4 = s16 170 2 ∨ 1 ≤ s16 170 3 ∧ s16 170 4 < s16 170 5) ∧ st 170 4 ≤ s16 170 4 ∧ (s16 170 8 = 0 → st 170 8 = 0 ∧ st 170 5 ≤ s16 170 4 ∧ 1 ≤ st 170 3) from by omega), (show s16 170 8 = 0 → PW (zup (zup (zup (zup (zup s16 192 (s16 170 42 : Int).toNat k) 193 (s16 170 42 : Int).toNat 0) 194 (s16 170 42 : Int).toNat 1) 196 (s16 170 42 : Int).toNat (s16 170 45)) 170 42 ((s16 170 42) + 1)) 0 0 (s16 170 4) ∧ (zup s16 192 (s16 170 42 : Int).toNat k) 192 (((s16 170 42) + 1) - 1 : Int).toNat = k ∧ PHS (zup (zup (zup (zup (zup s16 192 (s16 170 42 : Int).toNat k) 193 (s16 170 42 : Int).toNat 0) 194 (s16 170 42 : Int).toNat 1) 196 (s16 170 42 : Int).toNat (s16 170 45)) 170 42 ((s16 170 42) + 1)) from fun z => by
          have z0 := pf_m18 (by omega)
          have z1 : PVF s16 (s_m18 170 43) 0 (st 170 4) := PVF_fr rfl fs16 (show PVF (zup s_m18 170 43 (s_m18 170 43 + 1)) (s_m18 170 43) 0 (st 170 4) from z0.2.1)
          have z2 : s16 170 43 = s_m18 170 43 + 1 := by omega
          refine ⟨?_, ?_, ?_⟩
          · show PI (s16 170 35) (s16 170 34) (s16 170 45) (((s16 170 42) + 1)) (s16 170 43) 0 (0) (s16 170 4) (s16 197) (up1 (s16 196) (s16 170 42 : Int).toNat (s16 170 45)) (up1 (s16 192) (s16 170 42 : Int).toNat k) (s16 195) (up1 (s16 194) (s16 170 42 : Int).toNat 1) (s16 188) (f0s s16)
            rw [z2]
            exact PI_push z1.1 rfl z1.2.1 (by omega) (by omega) (by omega) (by omega)
          · show zup s16 192 (s16 170 42 : Int).toNat k 192 (((s16 170 42) + 1) - 1 : Int).toNat = k
            exact (zup_two _ _ _ _ _).1 (by omega)
          · exact PH_push z1.2.2 (by omega)), (show s16 170 8 = 0 → 2 ≤ ((s16 170 42) + 1) ∧ ((s16 170 42) + 1) ≤ 8 from by omega)⟩
    · have g33 := g_frame gI_m18 (s_m18 170 42 - 1 : Int).toNat
      exact hQ _ ⟨gI_m18, fI_m18, (show s_m18 170 4 ≤ s_m18 170 5 ∧ s_m18 170 5 ≤ s_m18 170 2 ∧ (s_m18 170 3 = 0 ∧ s_m18 170 4 = s_m18 170 2 ∨ 1 ≤ s_m18 170 3 ∧ s_m18 170 4 < s_m18 170 5) ∧ st 170 4 ≤ s_m18 170 4 ∧ (s_m18 170 8 = 0 → st 170 8 = 0 ∧ st 170 5 ≤ s_m18 170 4 ∧ 1 ≤ st 170 3) from by omega), (show s_m18 170 8 = 0 → PW s_m18 0 0 (s_m18 170 4) ∧ s_m18 192 (s_m18 170 42 - 1 : Int).toNat = k ∧ PHS s_m18 from fun z => absurd z (by omega)), (show s_m18 170 8 = 0 → 2 ≤ s_m18 170 42 ∧ s_m18 170 42 ≤ 8 from by omega)⟩
  have g34 := g_signAt hG
  have g35 := g_signEnd hG
  have g36 := g_size hG
  have g37 := g_sign hG
  have g38 := g_faultKind hG
  have g39 := g_deep hG
  have g40 := g_begins hG (st 170 42 - 1 : Int).toNat
  refine yr1_ok (Rt := Q) (wc := (wcL [(178, k_blame), (149, k_ahead), (193, k_pushes)])) (stp := [18]) hcm hcl [] 45 ?_
  show ((¬ st 170 43 = (7 : Int) → K (rx_find rx_m194 18) [(0, .inr (.inr (.inl 170))), (1, .inl k)] [] st) ∧ (¬ (¬ st 170 43 = (7 : Int)) → (170 = 170 ∧ (rq_blame (5) (st 170 4) st ∧ (∀ (s41 : zS), en_blame (5) (st 170 4) st s41 → K (rx_find rx_m194 18) [(0, .inr (.inr (.inl 170))), (1, .inl k)] [] s41)))))
  have g42 := g_open hG
  refine ⟨fun h43 => ?_, fun h43 => ?_⟩
  · exact m18 st ⟨hG, (fr_rf _ _), (show st 170 4 = st 170 4 ∧ st 170 5 = st 170 5 ∧ st 170 3 = st 170 3 ∧ st 170 42 = st 170 42 ∧ st 170 43 = st 170 43 from by omega), (show st 170 8 = 0 → st 170 8 = 0 ∧ PF st 0 (st 170 4) ∧ 1 ≤ st 170 3 ∧ st 170 43 ≤ 6 from fun z => ⟨z, (pf z).1, (pf z).2, (by have PF0 := PF_f (pf z).1; omega)⟩), (show st 170 4 ≤ st 170 5 ∧ st 170 5 ≤ st 170 2 ∧ (st 170 3 = 0 ∧ st 170 4 = st 170 2 ∨ 1 ≤ st 170 3 ∧ st 170 4 < st 170 5) from by omega), (show st 194 (st 170 42 - 1 : Int).toNat = 0 from by omega)⟩
  · refine ⟨rfl, ⟨hG, (show 1 ≤ (5) ∧ (5) ≤ 6 from by omega), (show -2147483648 ≤ (st 170 4) ∧ (st 170 4) ≤ 2147483647 from by omega)⟩, fun s41 q41 => ?_⟩
    obtain ⟨gs41, fs41, p41⟩ := q41
    change (st 170 8 = 0 → s41 170 8 = (5)) ∧ (0 < st 170 8 → s41 170 8 = st 170 8) at p41
    have g44 := g_faultKind gs41
    have e45 : s41 170 4 = st 170 4 := fs41 170 4 rfl rfl
    have e46 : s41 170 5 = st 170 5 := fs41 170 5 rfl rfl
    have e47 : s41 170 3 = st 170 3 := fs41 170 3 rfl rfl
    have e48 : s41 170 42 = st 170 42 := fs41 170 42 rfl rfl
    have e49 : s41 170 43 = st 170 43 := fs41 170 43 rfl rfl
    have e50 : s41 170 2 = st 170 2 := fs41 170 2 rfl rfl
    have e51 : s41 194 (s41 170 42 - 1 : Int).toNat = st 194 (st 170 42 - 1 : Int).toNat := (fs41 194 (s41 170 42 - 1 : Int).toNat rfl rfl).trans (by rw [e48] <;> rfl)
    exact m18 s41 ⟨gs41, (fr_tr (fr_rf _ _) fs41 rfl), (show s41 170 4 = st 170 4 ∧ s41 170 5 = st 170 5 ∧ s41 170 3 = st 170 3 ∧ s41 170 42 = st 170 42 ∧ s41 170 43 = st 170 43 from by omega), (show s41 170 8 = 0 → st 170 8 = 0 ∧ PF s41 0 (st 170 4) ∧ 1 ≤ s41 170 3 ∧ s41 170 43 ≤ 6 from fun z => absurd z (by omega)), (show s41 170 4 ≤ s41 170 5 ∧ s41 170 5 ≤ s41 170 2 ∧ (s41 170 3 = 0 ∧ s41 170 4 = s41 170 2 ∨ 1 ≤ s41 170 3 ∧ s41 170 4 < s41 170 5) from by omega), (show s41 194 (s41 170 42 - 1 : Int).toNat = 0 from by omega)⟩
theorem k_opens_m (hTb : aTb zSh rx_tb cl) {D : Nat} (hD : 3 ≤ D) : ∀ as st (Q Q' : zQ), (∀ r st', Q r st' → Q' r st') → k_opens 194 as st Q → cl D 194 as st Q' := by
  intro as st Q Q' hQ h
  unfold k_opens at h
  split at h
  · obtain ⟨rfl, h⟩ := h
    exact c_opens hTb hD (ct_opens_m hQ h)
  · exact h.elim
set_option maxRecDepth 100000 in
theorem c_operand (hTb : aTb zSh rx_tb cl) {D : Nat} (hD : 4 ≤ D) {st : zS} {Q : zQ} (h : ct_operand  st Q) : cl D 196 [.inr (.inr (.inl 170))] st Q := by
  obtain ⟨d, rfl⟩ : ∃ d, D = d + 1 := ⟨D - 1, by omega⟩
  refine hTb d 196 (rx_m196, 4, 0, 0, 2) rfl _ _ _ (Nat.le_of_ble_eq_true rfl) (fun K hcl hsf hsl => ?_)
  have hcm : zmo (wcL [(181, k_lex), (195, k_isTest), (183, k_isWord), (182, k_isSign), (178, k_blame), (192, k_holdsBack), (149, k_ahead), (189, k_add), (194, k_opens)]) (cl d) := (wcL_m (wm_cons (k_lex_m hTb (by omega)) (wm_cons (k_isTest_m hTb (by omega)) (wm_cons (k_isWord_m hTb (by omega)) (wm_cons (k_isSign_m hTb (by omega)) (wm_cons (k_blame_m hTb (by omega)) (wm_cons (k_holdsBack_m hTb (by omega)) (wm_cons (k_ahead_m hTb (by omega)) (wm_cons (k_add_m hTb (by omega)) (wm_cons (k_opens_m hTb (by omega)) wm_nil))))))))))
  obtain ⟨hR, hQ⟩ := h
  obtain ⟨hG, lx, pf, f0⟩ := hR
  change st 170 4 ≤ st 170 5 ∧ st 170 5 ≤ st 170 2 ∧ (st 170 3 = 0 ∧ st 170 4 = st 170 2 ∨ 1 ≤ st 170 3 ∧ st 170 4 < st 170 5) at lx
  change PF st 0 (st 170 4) at pf
  change st 170 8 = 0 at f0
  have m482 : ∀ (x : Int) (a : Int) (f : Int) (s_m482 : zS), gInv zgt s_m482 ∧ aFr m_operand st s_m482 ∧ (s_m482 170 4 ≤ s_m482 170 5 ∧ s_m482 170 5 ≤ s_m482 170 2 ∧ (s_m482 170 3 = 0 ∧ s_m482 170 4 = s_m482 170 2 ∨ 1 ≤ s_m482 170 3 ∧ s_m482 170 4 < s_m482 170 5)) ∧ (s_m482 170 4 = st 170 4 ∧ s_m482 170 5 = st 170 5 ∧ s_m482 170 3 = st 170 3) ∧ (PF s_m482 0 (st 170 4)) ∧ (∀ i : Nat, (i : Int) < 1600 * st 170 35 + st 170 34 ∨ 1600 * st 170 35 + 1600 ≤ (i : Int) → s_m482 188 i = st 188 i) ∧ (s_m482 170 34 = st 170 34) ∧ (f = s_m482 170 42 - 1 ∧ s_m482 170 8 = 0) ∧ (s_m482 194 (s_m482 170 42 - 1 : Int).toNat = 0) ∧ (-1 ≤ x ∧ x ≤ 9 ∧ (0 ≤ x → 1 ≤ s_m482 170 3)) → K (rx_find rx_m196 482) [(3, .inl x), (2, .inl a), (0, .inr (.inr (.inl 170))), (1, .inl f)] [] s_m482 := by
    intro x a f s_m482 hi
    obtain ⟨gI_m482, fI_m482, lx_m482, sm_m482, pf_m482, o_m482, c_m482, f_m482, bg_m482, x_m482⟩ := hi
    have PF1 := PF_f pf_m482
    have g1 := g_signAt gI_m482
    have g2 := g_signEnd gI_m482
    have g4 := g_size hG
    have e3 : s_m482 170 2 = st 170 2 := fI_m482 170 2 rfl rfl
    have g5 := g_sign gI_m482
    have g6 := g_signAt hG
    have g7 := g_signEnd hG
    have g8 := g_sign hG
    have g9 := g_in hG
    have g10 := g_codes hG
    have g11 := g_codes gI_m482
    have g12 := g_deep gI_m482
    have g13 := g_faultKind gI_m482
    have g14 := g_begins gI_m482 (s_m482 170 42 - 1 : Int).toNat
    have e15 : s_m482 170 35 = st 170 35 := fI_m482 170 35 rfl rfl
    have g16 := g_open gI_m482
    have g17 := g_opMany gI_m482
    refine yr1_ok (Rt := Q) (wc := (wcL [(181, k_lex), (195, k_isTest), (183, k_isWord), (182, k_isSign), (178, k_blame), (192, k_holdsBack), (149, k_ahead), (189, k_add), (194, k_opens)])) (stp := [482]) hcm hcl [] 400 ?_
    show ((¬ x = ((-1) : Int) → ((s_m482 170 8 ≤ (0 : Int) → (170 = 170 ∧ (rq_add x (s_m482 170 6) s_m482 ∧ ((170 = 170 ∧ (rq_ahead  (zup (zup (zup s_m482 188 ((1600 : Int) * (s_m482 170 35) + (s_m482 170 34) : Int).toNat x) 189 ((1600 : Int) * (s_m482 170 35) + (s_m482 170 34) : Int).toNat (s_m482 170 6)) 170 34 ((s_m482 170 34) + 1)) ∧ (∀ (s19 : zS), en_ahead  (zup (zup (zup s_m482 188 ((1600 : Int) * (s_m482 170 35) + (s_m482 170 34) : Int).toNat x) 189 ((1600 : Int) * (s_m482 170 35) + (s_m482 170 34) : Int).toNat (s_m482 170 6)) 170 34 ((s_m482 170 34) + 1)) s19 → ((1 = (0 : Int) ∨ 1 = (1 : Int)) ∧ Q (some (.inl 1)) s19)))))))) ∧ (¬ (s_m482 170 8 ≤ (0 : Int)) → _))) ∧ (¬ (¬ x = ((-1) : Int)) → (170 = 170 ∧ (rq_blame (1) (s_m482 170 4) s_m482 ∧ (∀ (s20 : zS), en_blame (1) (s_m482 170 4) s_m482 s20 → ((s20 170 8 ≤ (0 : Int) → _) ∧ (¬ (s20 170 8 ≤ (0 : Int)) → ((1 = (0 : Int) ∨ 1 = (1 : Int)) ∧ Q (some (.inl 1)) s20))))))))
    refine ⟨fun h21 => ?_, fun h21 => ?_⟩
    · refine ⟨fun h22 => ?_, fun h22 => (by exfalso; omega)⟩
      have g23 := g_value gI_m482
      refine ⟨rfl, ⟨gI_m482, (show s_m482 170 34 ≤ 1599 from by omega)⟩, ?_⟩
      refine ⟨rfl, ⟨(gInv_up (gInv_up (gInv_up gI_m482 (p_codeSort (by omega))) (p_codeValue (by omega))) (p_codes (by omega))), (show s_m482 170 5 ≤ s_m482 170 2 from by omega)⟩, fun s19 q19 => ?_⟩
      obtain ⟨gs19, fs19, p19⟩ := q19
      change s19 170 4 ≤ s19 170 5 ∧ s19 170 5 ≤ s19 170 2 ∧ (s19 170 3 = 0 ∧ s19 170 4 = s19 170 2 ∨ 1 ≤ s19 170 3 ∧ s19 170 4 < s19 170 5) ∧ s_m482 170 5 ≤ s19 170 4 at p19
      have g24 := g_signAt gs19
      have g25 := g_signEnd gs19
      have e26 : s19 170 2 = s_m482 170 2 := fs19 170 2 rfl rfl
      have g27 := g_sign gs19
      refine ⟨by omega, ?_⟩
      have e28 : s19 170 8 = s_m482 170 8 := fs19 170 8 rfl rfl
      have e29 : s19 170 34 = ((s_m482 170 34) + 1) := fs19 170 34 rfl rfl
      exact hQ _ _ ⟨gs19, (fr_tr (fr_f (fr_a (fr_a fI_m482 rfl) rfl) rfl) fs19 rfl), (show s19 170 4 ≤ s19 170 5 ∧ s19 170 5 ≤ s19 170 2 ∧ (s19 170 3 = 0 ∧ s19 170 4 = s19 170 2 ∨ 1 ≤ s19 170 3 ∧ s19 170 4 < s19 170 5) ∧ st 170 4 ≤ s19 170 4 from by omega), (show ((1 : Int) = 0 ∨ (1 : Int) = 1) from by omega), (show s19 170 8 = 0 → st 170 5 ≤ s19 170 4 ∧ 1 ≤ st 170 3 ∧ PF s19 (1 : Int) (s19 170 4) from fun z => ⟨by omega, by omega, PF_fr rfl fs19 (show PF (zup (zup (zup s_m482 188 ((1600 : Int) * (s_m482 170 35) + (s_m482 170 34) : Int).toNat x) 189 ((1600 : Int) * (s_m482 170 35) + (s_m482 170 34) : Int).toNat (s_m482 170 6)) 170 34 ((s_m482 170 34) + 1)) 1 (s19 170 4) from ⟨show PI (s_m482 170 35) (((s_m482 170 34) + 1)) (s_m482 170 45) (s_m482 170 42) (s_m482 170 43) 1 (pa (s_m482 192 ((s_m482 170 42) - 1 : Int).toNat) (s_m482 195 ((s_m482 170 42) - 1 : Int).toNat)) (s19 170 4) (s_m482 197) (s_m482 196) (s_m482 192) (s_m482 195) (s_m482 194) (up1 (s_m482 188) ((1600 : Int) * (s_m482 170 35) + (s_m482 170 34) : Int).toNat x) (f0s s_m482) from PI_code pf_m482.1 (by omega) (by omega) ⟨fun _ _ => rfl, bg_m482⟩, pf_m482.2.1, pf_m482.2.2⟩)⟩), (show ∀ i : Nat, (i : Int) < 1600 * st 170 35 + st 170 34 ∨ 1600 * st 170 35 + 1600 ≤ (i : Int) → s19 188 i = st 188 i from (fun i hi => (fs19 188 i rfl rfl).trans ((fun i hi => (zup_ni _ _ (by omega)).trans (o_m482 i hi)) i hi))), (show st 170 34 ≤ s19 170 34 from by omega)⟩
    · refine ⟨rfl, ⟨gI_m482, (show 1 ≤ (1) ∧ (1) ≤ 6 from by omega), (show -2147483648 ≤ (s_m482 170 4) ∧ (s_m482 170 4) ≤ 2147483647 from by omega)⟩, fun s20 q20 => ?_⟩
      obtain ⟨gs20, fs20, p20⟩ := q20
      change (s_m482 170 8 = 0 → s20 170 8 = (1)) ∧ (0 < s_m482 170 8 → s20 170 8 = s_m482 170 8) at p20
      have g30 := g_faultKind gs20
      refine ⟨fun h31 => (by exfalso; omega), fun h31 => ?_⟩
      refine ⟨by omega, ?_⟩
      have e32 : s20 170 4 = s_m482 170 4 := fs20 170 4 rfl rfl
      have e33 : s20 170 5 = s_m482 170 5 := fs20 170 5 rfl rfl
      have e34 : s20 170 2 = s_m482 170 2 := fs20 170 2 rfl rfl
      have e35 : s20 170 3 = s_m482 170 3 := fs20 170 3 rfl rfl
      have e36 : s20 170 34 = s_m482 170 34 := fs20 170 34 rfl rfl
      exact hQ _ _ ⟨gs20, (fr_tr fI_m482 fs20 rfl), (show s20 170 4 ≤ s20 170 5 ∧ s20 170 5 ≤ s20 170 2 ∧ (s20 170 3 = 0 ∧ s20 170 4 = s20 170 2 ∨ 1 ≤ s20 170 3 ∧ s20 170 4 < s20 170 5) ∧ st 170 4 ≤ s20 170 4 from by omega), (show ((1 : Int) = 0 ∨ (1 : Int) = 1) from by omega), (show s20 170 8 = 0 → st 170 5 ≤ s20 170 4 ∧ 1 ≤ st 170 3 ∧ PF s20 (1 : Int) (s20 170 4) from fun z => absurd z (by omega)), (show ∀ i : Nat, (i : Int) < 1600 * st 170 35 + st 170 34 ∨ 1600 * st 170 35 + 1600 ≤ (i : Int) → s20 188 i = st 188 i from (fun i hi => (fs20 188 i rfl rfl).trans (o_m482 i hi))), (show st 170 34 ≤ s20 170 34 from by omega)⟩
  have m456 : ∀ (x : Int) (a : Int) (f : Int) (s_m456 : zS), gInv zgt s_m456 ∧ aFr m_operand st s_m456 ∧ (s_m456 170 4 ≤ s_m456 170 5 ∧ s_m456 170 5 ≤ s_m456 170 2 ∧ (s_m456 170 3 = 0 ∧ s_m456 170 4 = s_m456 170 2 ∨ 1 ≤ s_m456 170 3 ∧ s_m456 170 4 < s_m456 170 5)) ∧ (s_m456 170 4 = st 170 4 ∧ s_m456 170 5 = st 170 5 ∧ s_m456 170 3 = st 170 3) ∧ (PF s_m456 0 (st 170 4)) ∧ (∀ i : Nat, (i : Int) < 1600 * st 170 35 + st 170 34 ∨ 1600 * st 170 35 + 1600 ≤ (i : Int) → s_m456 188 i = st 188 i) ∧ (s_m456 170 34 = st 170 34) ∧ (f = s_m456 170 42 - 1 ∧ s_m456 170 8 = 0) ∧ (s_m456 194 (s_m456 170 42 - 1 : Int).toNat = 0) ∧ (-1 ≤ x ∧ x ≤ 9 ∧ (0 ≤ x → 1 ≤ s_m456 170 3)) → K (rx_find rx_m196 456) [(2, .inl a), (0, .inr (.inr (.inl 170))), (1, .inl f)] [.inl x] s_m456 := by
    intro x a f s_m456 hi
    obtain ⟨gI_m456, fI_m456, lx_m456, sm_m456, pf_m456, o_m456, c_m456, f_m456, bg_m456, x_m456⟩ := hi
    have PF1 := PF_f pf_m456
    have g37 := g_signAt gI_m456
    have g38 := g_signEnd gI_m456
    have g40 := g_size hG
    have e39 : s_m456 170 2 = st 170 2 := fI_m456 170 2 rfl rfl
    have g41 := g_sign gI_m456
    have g42 := g_signAt hG
    have g43 := g_signEnd hG
    have g44 := g_sign hG
    have g45 := g_in hG
    have g46 := g_codes hG
    have g47 := g_codes gI_m456
    have g48 := g_deep gI_m456
    have g49 := g_faultKind gI_m456
    have g50 := g_begins gI_m456 (s_m456 170 42 - 1 : Int).toNat
    have e51 : s_m456 170 35 = st 170 35 := fI_m456 170 35 rfl rfl
    have g52 := g_open gI_m456
    have g53 := g_opMany gI_m456
    refine yr1_ok (Rt := Q) (wc := (wcL [(181, k_lex), (195, k_isTest), (183, k_isWord), (182, k_isSign), (178, k_blame), (192, k_holdsBack), (149, k_ahead), (189, k_add), (194, k_opens)])) (stp := [456, 482]) hcm hcl [] 400 ?_
    show ((x < (3 : Int) → K (rx_find rx_m196 482) [(3, .inl x), (2, .inl a), (0, .inr (.inr (.inl 170))), (1, .inl f)] [] s_m456) ∧ (¬ (x < (3 : Int)) → ((x ≤ (6 : Int) → (((0 : Int) = s_m456 170 36 → K (rx_find rx_m196 482) [(3, .inl x), (2, .inl a), (0, .inr (.inr (.inl 170))), (1, .inl f)] [] s_m456) ∧ (¬ ((0 : Int) = s_m456 170 36) → K (rx_find rx_m196 482) [(3, .inl (-1)), (2, .inl a), (0, .inr (.inr (.inl 170))), (1, .inl f)] [] s_m456))) ∧ (¬ (x ≤ (6 : Int)) → (((1 : Int) = s_m456 170 36 → K (rx_find rx_m196 482) [(3, .inl x), (2, .inl a), (0, .inr (.inr (.inl 170))), (1, .inl f)] [] s_m456) ∧ (¬ ((1 : Int) = s_m456 170 36) → K (rx_find rx_m196 482) [(3, .inl (-1)), (2, .inl a), (0, .inr (.inr (.inl 170))), (1, .inl f)] [] s_m456))))))
    refine ⟨fun h54 => ?_, fun h54 => ?_⟩
    · exact m482 x a f s_m456 ⟨gI_m456, fI_m456, (show s_m456 170 4 ≤ s_m456 170 5 ∧ s_m456 170 5 ≤ s_m456 170 2 ∧ (s_m456 170 3 = 0 ∧ s_m456 170 4 = s_m456 170 2 ∨ 1 ≤ s_m456 170 3 ∧ s_m456 170 4 < s_m456 170 5) from by omega), (show s_m456 170 4 = st 170 4 ∧ s_m456 170 5 = st 170 5 ∧ s_m456 170 3 = st 170 3 from by omega), (show PF s_m456 0 (st 170 4) from pf_m456), (show ∀ i : Nat, (i : Int) < 1600 * st 170 35 + st 170 34 ∨ 1600 * st 170 35 + 1600 ≤ (i : Int) → s_m456 188 i = st 188 i from o_m456), (show s_m456 170 34 = st 170 34 from by omega), (show f = s_m456 170 42 - 1 ∧ s_m456 170 8 = 0 from by omega), (show s_m456 194 (s_m456 170 42 - 1 : Int).toNat = 0 from by omega), (show -1 ≤ x ∧ x ≤ 9 ∧ (0 ≤ x → 1 ≤ s_m456 170 3) from by omega)⟩
    · refine ⟨fun h55 => ?_, fun h55 => ?_⟩
      · have g57 := g_isClever hG
        have e56 : s_m456 170 36 = st 170 36 := fI_m456 170 36 rfl rfl
        refine ⟨fun h58 => ?_, fun h58 => ?_⟩
        · exact m482 x a f s_m456 ⟨gI_m456, fI_m456, (show s_m456 170 4 ≤ s_m456 170 5 ∧ s_m456 170 5 ≤ s_m456 170 2 ∧ (s_m456 170 3 = 0 ∧ s_m456 170 4 = s_m456 170 2 ∨ 1 ≤ s_m456 170 3 ∧ s_m456 170 4 < s_m456 170 5) from by omega), (show s_m456 170 4 = st 170 4 ∧ s_m456 170 5 = st 170 5 ∧ s_m456 170 3 = st 170 3 from by omega), (show PF s_m456 0 (st 170 4) from pf_m456), (show ∀ i : Nat, (i : Int) < 1600 * st 170 35 + st 170 34 ∨ 1600 * st 170 35 + 1600 ≤ (i : Int) → s_m456 188 i = st 188 i from o_m456), (show s_m456 170 34 = st 170 34 from by omega), (show f = s_m456 170 42 - 1 ∧ s_m456 170 8 = 0 from by omega), (show s_m456 194 (s_m456 170 42 - 1 : Int).toNat = 0 from by omega), (show -1 ≤ x ∧ x ≤ 9 ∧ (0 ≤ x → 1 ≤ s_m456 170 3) from by omega)⟩
        · exact m482 (-1) a f s_m456 ⟨gI_m456, fI_m456, (show s_m456 170 4 ≤ s_m456 170 5 ∧ s_m456 170 5 ≤ s_m456 170 2 ∧ (s_m456 170 3 = 0 ∧ s_m456 170 4 = s_m456 170 2 ∨ 1 ≤ s_m456 170 3 ∧ s_m456 170 4 < s_m456 170 5) from by omega), (show s_m456 170 4 = st 170 4 ∧ s_m456 170 5 = st 170 5 ∧ s_m456 170 3 = st 170 3 from by omega), (show PF s_m456 0 (st 170 4) from pf_m456), (show ∀ i : Nat, (i : Int) < 1600 * st 170 35 + st 170 34 ∨ 1600 * st 170 35 + 1600 ≤ (i : Int) → s_m456 188 i = st 188 i from o_m456), (show s_m456 170 34 = st 170 34 from by omega), (show f = s_m456 170 42 - 1 ∧ s_m456 170 8 = 0 from by omega), (show s_m456 194 (s_m456 170 42 - 1 : Int).toNat = 0 from by omega), (show -1 ≤ ((-1) : Int) ∧ ((-1) : Int) ≤ 9 ∧ (0 ≤ ((-1) : Int) → 1 ≤ s_m456 170 3) from by omega)⟩
      · have g60 := g_isClever hG
        have e59 : s_m456 170 36 = st 170 36 := fI_m456 170 36 rfl rfl
        refine ⟨fun h61 => ?_, fun h61 => ?_⟩
        · exact m482 x a f s_m456 ⟨gI_m456, fI_m456, (show s_m456 170 4 ≤ s_m456 170 5 ∧ s_m456 170 5 ≤ s_m456 170 2 ∧ (s_m456 170 3 = 0 ∧ s_m456 170 4 = s_m456 170 2 ∨ 1 ≤ s_m456 170 3 ∧ s_m456 170 4 < s_m456 170 5) from by omega), (show s_m456 170 4 = st 170 4 ∧ s_m456 170 5 = st 170 5 ∧ s_m456 170 3 = st 170 3 from by omega), (show PF s_m456 0 (st 170 4) from pf_m456), (show ∀ i : Nat, (i : Int) < 1600 * st 170 35 + st 170 34 ∨ 1600 * st 170 35 + 1600 ≤ (i : Int) → s_m456 188 i = st 188 i from o_m456), (show s_m456 170 34 = st 170 34 from by omega), (show f = s_m456 170 42 - 1 ∧ s_m456 170 8 = 0 from by omega), (show s_m456 194 (s_m456 170 42 - 1 : Int).toNat = 0 from by omega), (show -1 ≤ x ∧ x ≤ 9 ∧ (0 ≤ x → 1 ≤ s_m456 170 3) from by omega)⟩
        · exact m482 (-1) a f s_m456 ⟨gI_m456, fI_m456, (show s_m456 170 4 ≤ s_m456 170 5 ∧ s_m456 170 5 ≤ s_m456 170 2 ∧ (s_m456 170 3 = 0 ∧ s_m456 170 4 = s_m456 170 2 ∨ 1 ≤ s_m456 170 3 ∧ s_m456 170 4 < s_m456 170 5) from by omega), (show s_m456 170 4 = st 170 4 ∧ s_m456 170 5 = st 170 5 ∧ s_m456 170 3 = st 170 3 from by omega), (show PF s_m456 0 (st 170 4) from pf_m456), (show ∀ i : Nat, (i : Int) < 1600 * st 170 35 + st 170 34 ∨ 1600 * st 170 35 + 1600 ≤ (i : Int) → s_m456 188 i = st 188 i from o_m456), (show s_m456 170 34 = st 170 34 from by omega), (show f = s_m456 170 42 - 1 ∧ s_m456 170 8 = 0 from by omega), (show s_m456 194 (s_m456 170 42 - 1 : Int).toNat = 0 from by omega), (show -1 ≤ ((-1) : Int) ∧ ((-1) : Int) ≤ 9 ∧ (0 ≤ ((-1) : Int) → 1 ≤ s_m456 170 3) from by omega)⟩
  have m289 : ∀ (k : Int) (x : Int) (a : Int) (f : Int) (s_m289 : zS), gInv zgt s_m289 ∧ aFr m_operand st s_m289 ∧ (s_m289 170 4 ≤ s_m289 170 5 ∧ s_m289 170 5 ≤ s_m289 170 2 ∧ (s_m289 170 3 = 0 ∧ s_m289 170 4 = s_m289 170 2 ∨ 1 ≤ s_m289 170 3 ∧ s_m289 170 4 < s_m289 170 5)) ∧ (st 170 5 ≤ s_m289 170 4 ∧ 1 ≤ st 170 3) ∧ (s_m289 170 8 = 0 → PF s_m289 0 (s_m289 170 4) ∧ 1 ≤ s_m289 170 3) ∧ (∀ i : Nat, (i : Int) < 1600 * st 170 35 + st 170 34 ∨ 1600 * st 170 35 + 1600 ≤ (i : Int) → s_m289 188 i = st 188 i) ∧ (s_m289 170 34 = st 170 34) ∧ (s_m289 194 (s_m289 170 42 - 1 : Int).toNat = 0) ∧ ((x = 36 ∨ x = 37 ∨ x = 44) ∧ (x = 44 → k = 6) ∧ (¬ x = 44 → k = 3)) → K (rx_find rx_m196 289) [(3, .inl x), (2, .inl a), (0, .inr (.inr (.inl 170))), (1, .inl f)] [.inl k, .inr (.inr (.inl 170))] s_m289 := by
    intro k x a f s_m289 hi
    obtain ⟨gI_m289, fI_m289, lx_m289, sm_m289, pf_m289, o_m289, c_m289, bg_m289, x_m289⟩ := hi
    have g62 := g_signAt gI_m289
    have g63 := g_signEnd gI_m289
    have g65 := g_size hG
    have e64 : s_m289 170 2 = st 170 2 := fI_m289 170 2 rfl rfl
    have g66 := g_sign gI_m289
    have g67 := g_signEnd hG
    have g68 := g_sign hG
    have g69 := g_faultKind gI_m289
    have g70 := g_in hG
    have g71 := g_codes hG
    have g72 := g_codes gI_m289
    have g73 := g_deep gI_m289
    have g74 := g_begins gI_m289 (s_m289 170 42 - 1 : Int).toNat
    refine yr1_ok (Rt := Q) (wc := (wcL [(181, k_lex), (195, k_isTest), (183, k_isWord), (182, k_isSign), (178, k_blame), (192, k_holdsBack), (149, k_ahead), (189, k_add), (194, k_opens)])) (stp := [289, 456, 482]) hcm hcl [] 400 ?_
    show (170 = 170 ∧ (rq_opens k s_m289 ∧ (∀ (s75 : zS), en_opens k s_m289 s75 → ((¬ s75 170 8 = (0 : Int) → ((0 = (0 : Int) ∨ 0 = (1 : Int)) ∧ Q (some (.inl 0)) s75)) ∧ (¬ (¬ s75 170 8 = (0 : Int)) → ((-2147483648 ≤ (s75 170 42) - 1 ∧ (s75 170 42) - 1 ≤ 2147483647) ∧ ((0 ≤ (s75 170 42) - 1 ∧ (s75 170 42) - 1 < 20) ∧ ((0 = (0 : Int) ∨ 0 = (1 : Int)) ∧ Q (some (.inl 0)) (zup s75 195 ((s75 170 42) - 1 : Int).toNat x)))))))))
    refine ⟨rfl, ⟨gI_m289, (show s_m289 170 4 ≤ s_m289 170 5 ∧ s_m289 170 5 ≤ s_m289 170 2 ∧ (s_m289 170 3 = 0 ∧ s_m289 170 4 = s_m289 170 2 ∨ 1 ≤ s_m289 170 3 ∧ s_m289 170 4 < s_m289 170 5) from by omega), (show s_m289 170 8 = 0 → PF s_m289 0 (s_m289 170 4) ∧ 1 ≤ s_m289 170 3 from pf_m289), (show 2 ≤ k ∧ k ≤ 6 from by omega), (show s_m289 194 (s_m289 170 42 - 1 : Int).toNat = 0 from by omega)⟩, fun s75 q75 => ?_⟩
    obtain ⟨gs75, fs75, p75, pw75, dd75⟩ := q75
    change s75 170 4 ≤ s75 170 5 ∧ s75 170 5 ≤ s75 170 2 ∧ (s75 170 3 = 0 ∧ s75 170 4 = s75 170 2 ∨ 1 ≤ s75 170 3 ∧ s75 170 4 < s75 170 5) ∧ s_m289 170 4 ≤ s75 170 4 ∧ (s75 170 8 = 0 → s_m289 170 8 = 0 ∧ s_m289 170 5 ≤ s75 170 4 ∧ 1 ≤ s_m289 170 3) at p75
    have g76 := g_signAt gs75
    have g77 := g_signEnd gs75
    have e78 : s75 170 2 = s_m289 170 2 := fs75 170 2 rfl rfl
    have g79 := g_sign gs75
    have g80 := g_faultKind gs75
    change s75 170 8 = 0 → PW s75 0 0 (s75 170 4) ∧ s75 192 (s75 170 42 - 1 : Int).toNat = k ∧ PHS s75 at pw75
    have g81 := g_deep gs75
    have g82 := g_frame gs75 (s75 170 42 - 1 : Int).toNat
    change s75 170 8 = 0 → 2 ≤ s75 170 42 ∧ s75 170 42 ≤ 8 at dd75
    refine ⟨fun h83 => ?_, fun h83 => ?_⟩
    · refine ⟨by omega, ?_⟩
      have g84 := g_signAt hG
      have e85 : s75 170 34 = s_m289 170 34 := fs75 170 34 rfl rfl
      exact hQ _ _ ⟨gs75, (fr_tr fI_m289 fs75 rfl), (show s75 170 4 ≤ s75 170 5 ∧ s75 170 5 ≤ s75 170 2 ∧ (s75 170 3 = 0 ∧ s75 170 4 = s75 170 2 ∨ 1 ≤ s75 170 3 ∧ s75 170 4 < s75 170 5) ∧ st 170 4 ≤ s75 170 4 from by omega), (show ((0 : Int) = 0 ∨ (0 : Int) = 1) from by omega), (show s75 170 8 = 0 → st 170 5 ≤ s75 170 4 ∧ 1 ≤ st 170 3 ∧ PF s75 (0 : Int) (s75 170 4) from fun z => absurd z (by omega)), (show ∀ i : Nat, (i : Int) < 1600 * st 170 35 + st 170 34 ∨ 1600 * st 170 35 + 1600 ≤ (i : Int) → s75 188 i = st 188 i from (fun i hi => (fs75 188 i rfl rfl).trans (o_m289 i hi))), (show st 170 34 ≤ s75 170 34 from by omega)⟩
    · refine ⟨by omega, ?_⟩
      refine ⟨by omega, ?_⟩
      refine ⟨by omega, ?_⟩
      have g86 := g_signAt hG
      have e87 : s75 170 34 = s_m289 170 34 := fs75 170 34 rfl rfl
      exact hQ _ _ ⟨(gInv_up gs75 (p_pair (by omega))), (fr_a (fr_tr fI_m289 fs75 rfl) rfl), (show s75 170 4 ≤ s75 170 5 ∧ s75 170 5 ≤ s75 170 2 ∧ (s75 170 3 = 0 ∧ s75 170 4 = s75 170 2 ∨ 1 ≤ s75 170 3 ∧ s75 170 4 < s75 170 5) ∧ st 170 4 ≤ s75 170 4 from by omega), (show ((0 : Int) = 0 ∨ (0 : Int) = 1) from by omega), (show s75 170 8 = 0 → st 170 5 ≤ s75 170 4 ∧ 1 ≤ st 170 3 ∧ PF (zup s75 195 ((s75 170 42) - 1 : Int).toNat x) (0 : Int) (s75 170 4) from fun z => by
          have z0 := pw75 z
          have z1 := p75
          refine ⟨by omega, by omega, ?_⟩
          have z3 : s75 192 (s75 170 42 - 1 : Int).toNat = k := z0.2.1
          have z5 : up1 (s75 195) (s75 170 42 - 1 : Int).toNat x (s75 170 42 - 1 : Int).toNat = x := up1_e _ _ _
          refine ⟨?_, ?_, z0.2.2⟩
          · show PI (s75 170 35) (s75 170 34) (s75 170 45) (s75 170 42) (s75 170 43) 0 (pa (s75 192 (s75 170 42 - 1 : Int).toNat) (up1 (s75 195) (s75 170 42 - 1 : Int).toNat x (s75 170 42 - 1 : Int).toNat)) (s75 170 4) (s75 197) (s75 196) (s75 192) (up1 (s75 195) ((s75 170 42) - 1 : Int).toNat x) (s75 194) (s75 188) (f0s s75)
            rw [z3, z5]
            have z6 : pa k x = 0 := by
              unfold pa
              repeat' split
              all_goals omega
            rw [z6]
            exact PI_pr z0.1
          · show prok (s75 192 (s75 170 42 - 1 : Int).toNat) (up1 (s75 195) (s75 170 42 - 1 : Int).toNat x (s75 170 42 - 1 : Int).toNat)
            rw [z3, z5]
            exact ⟨fun z4 => by omega, fun z4 => by omega⟩), (show ∀ i : Nat, (i : Int) < 1600 * st 170 35 + st 170 34 ∨ 1600 * st 170 35 + 1600 ≤ (i : Int) → (zup s75 195 ((s75 170 42) - 1 : Int).toNat x) 188 i = st 188 i from (fun i hi => (fs75 188 i rfl rfl).trans (o_m289 i hi))), (show st 170 34 ≤ s75 170 34 from by omega)⟩
  have m276 : ∀ (x : Int) (a : Int) (f : Int) (s_m276 : zS), gInv zgt s_m276 ∧ aFr m_operand st s_m276 ∧ (s_m276 170 4 ≤ s_m276 170 5 ∧ s_m276 170 5 ≤ s_m276 170 2 ∧ (s_m276 170 3 = 0 ∧ s_m276 170 4 = s_m276 170 2 ∨ 1 ≤ s_m276 170 3 ∧ s_m276 170 4 < s_m276 170 5)) ∧ (st 170 5 ≤ s_m276 170 4 ∧ 1 ≤ st 170 3) ∧ (s_m276 170 8 = 0 → PF s_m276 0 (s_m276 170 4) ∧ 1 ≤ s_m276 170 3) ∧ (∀ i : Nat, (i : Int) < 1600 * st 170 35 + st 170 34 ∨ 1600 * st 170 35 + 1600 ≤ (i : Int) → s_m276 188 i = st 188 i) ∧ (s_m276 170 34 = st 170 34) ∧ (s_m276 194 (s_m276 170 42 - 1 : Int).toNat = 0) ∧ (x = 36 ∨ x = 37 ∨ x = 44) → K (rx_find rx_m196 276) [(3, .inl x), (2, .inl a), (0, .inr (.inr (.inl 170))), (1, .inl f)] [] s_m276 := by
    intro x a f s_m276 hi
    obtain ⟨gI_m276, fI_m276, lx_m276, sm_m276, pf_m276, o_m276, c_m276, bg_m276, x_m276⟩ := hi
    have g88 := g_signAt gI_m276
    have g89 := g_signEnd gI_m276
    have g91 := g_size hG
    have e90 : s_m276 170 2 = st 170 2 := fI_m276 170 2 rfl rfl
    have g92 := g_sign gI_m276
    have g93 := g_signEnd hG
    have g94 := g_sign hG
    have g95 := g_faultKind gI_m276
    have g96 := g_in hG
    have g97 := g_codes hG
    have g98 := g_codes gI_m276
    have g99 := g_deep gI_m276
    have g100 := g_begins gI_m276 (s_m276 170 42 - 1 : Int).toNat
    refine yr1_ok (Rt := Q) (wc := (wcL [(181, k_lex), (195, k_isTest), (183, k_isWord), (182, k_isSign), (178, k_blame), (192, k_holdsBack), (149, k_ahead), (189, k_add), (194, k_opens)])) (stp := [276, 289, 456, 482]) hcm hcl [] 400 ?_
    show ((¬ x = (44 : Int) → K (rx_find rx_m196 289) [(3, .inl x), (2, .inl a), (0, .inr (.inr (.inl 170))), (1, .inl f)] [.inl 3, .inr (.inr (.inl 170))] s_m276) ∧ (¬ (¬ x = (44 : Int)) → K (rx_find rx_m196 289) [(3, .inl x), (2, .inl a), (0, .inr (.inr (.inl 170))), (1, .inl f)] [.inl 6, .inr (.inr (.inl 170))] s_m276))
    refine ⟨fun h101 => ?_, fun h101 => ?_⟩
    · exact m289 3 x a f s_m276 ⟨gI_m276, fI_m276, (show s_m276 170 4 ≤ s_m276 170 5 ∧ s_m276 170 5 ≤ s_m276 170 2 ∧ (s_m276 170 3 = 0 ∧ s_m276 170 4 = s_m276 170 2 ∨ 1 ≤ s_m276 170 3 ∧ s_m276 170 4 < s_m276 170 5) from by omega), (show st 170 5 ≤ s_m276 170 4 ∧ 1 ≤ st 170 3 from by omega), (show s_m276 170 8 = 0 → PF s_m276 0 (s_m276 170 4) ∧ 1 ≤ s_m276 170 3 from pf_m276), (show ∀ i : Nat, (i : Int) < 1600 * st 170 35 + st 170 34 ∨ 1600 * st 170 35 + 1600 ≤ (i : Int) → s_m276 188 i = st 188 i from o_m276), (show s_m276 170 34 = st 170 34 from by omega), (show s_m276 194 (s_m276 170 42 - 1 : Int).toNat = 0 from by omega), (show (x = 36 ∨ x = 37 ∨ x = 44) ∧ (x = 44 → (3 : Int) = 6) ∧ (¬ x = 44 → (3 : Int) = 3) from by omega)⟩
    · exact m289 6 x a f s_m276 ⟨gI_m276, fI_m276, (show s_m276 170 4 ≤ s_m276 170 5 ∧ s_m276 170 5 ≤ s_m276 170 2 ∧ (s_m276 170 3 = 0 ∧ s_m276 170 4 = s_m276 170 2 ∨ 1 ≤ s_m276 170 3 ∧ s_m276 170 4 < s_m276 170 5) from by omega), (show st 170 5 ≤ s_m276 170 4 ∧ 1 ≤ st 170 3 from by omega), (show s_m276 170 8 = 0 → PF s_m276 0 (s_m276 170 4) ∧ 1 ≤ s_m276 170 3 from pf_m276), (show ∀ i : Nat, (i : Int) < 1600 * st 170 35 + st 170 34 ∨ 1600 * st 170 35 + 1600 ≤ (i : Int) → s_m276 188 i = st 188 i from o_m276), (show s_m276 170 34 = st 170 34 from by omega), (show s_m276 194 (s_m276 170 42 - 1 : Int).toNat = 0 from by omega), (show (x = 36 ∨ x = 37 ∨ x = 44) ∧ (x = 44 → (6 : Int) = 6) ∧ (¬ x = 44 → (6 : Int) = 3) from by omega)⟩
  have m249 : ∀ (x : Int) (a : Int) (f : Int) (s_m249 : zS), gInv zgt s_m249 ∧ aFr m_operand st s_m249 ∧ (s_m249 170 4 ≤ s_m249 170 5 ∧ s_m249 170 5 ≤ s_m249 170 2 ∧ (s_m249 170 3 = 0 ∧ s_m249 170 4 = s_m249 170 2 ∨ 1 ≤ s_m249 170 3 ∧ s_m249 170 4 < s_m249 170 5)) ∧ (s_m249 170 4 = st 170 4 ∧ s_m249 170 5 = st 170 5 ∧ s_m249 170 3 = st 170 3) ∧ (PF s_m249 0 (st 170 4)) ∧ (∀ i : Nat, (i : Int) < 1600 * st 170 35 + st 170 34 ∨ 1600 * st 170 35 + 1600 ≤ (i : Int) → s_m249 188 i = st 188 i) ∧ (s_m249 170 34 = st 170 34) ∧ (f = s_m249 170 42 - 1 ∧ s_m249 170 8 = 0) ∧ (s_m249 194 (s_m249 170 42 - 1 : Int).toNat = 0) ∧ ((x = 36 ∨ x = 37 ∨ x = 44) ∧ 1 ≤ s_m249 170 3) → K (rx_find rx_m196 249) [(2, .inl a), (0, .inr (.inr (.inl 170))), (1, .inl f)] [.inl x] s_m249 := by
    intro x a f s_m249 hi
    obtain ⟨gI_m249, fI_m249, lx_m249, sm_m249, pf_m249, o_m249, c_m249, f_m249, bg_m249, x_m249⟩ := hi
    have PF1 := PF_f pf_m249
    have g102 := g_signAt gI_m249
    have g103 := g_signEnd gI_m249
    have g105 := g_size hG
    have e104 : s_m249 170 2 = st 170 2 := fI_m249 170 2 rfl rfl
    have g106 := g_sign gI_m249
    have g107 := g_signAt hG
    have g108 := g_signEnd hG
    have g109 := g_sign hG
    have g110 := g_in hG
    have g111 := g_codes hG
    have g112 := g_codes gI_m249
    have g113 := g_deep gI_m249
    have g114 := g_faultKind gI_m249
    have g115 := g_begins gI_m249 (s_m249 170 42 - 1 : Int).toNat
    have e116 : s_m249 170 35 = st 170 35 := fI_m249 170 35 rfl rfl
    have g117 := g_open gI_m249
    have g118 := g_opMany gI_m249
    refine yr1_ok (Rt := Q) (wc := (wcL [(181, k_lex), (195, k_isTest), (183, k_isWord), (182, k_isSign), (178, k_blame), (192, k_holdsBack), (149, k_ahead), (189, k_add), (194, k_opens)])) (stp := [249, 276, 289, 456, 482]) hcm hcl [] 400 ?_
    show (170 = 170 ∧ (rq_ahead  s_m249 ∧ (∀ (s119 : zS), en_ahead  s_m249 s119 → (170 = 170 ∧ (rq_lex  s119 ∧ (∀ (s120 : zS), en_lex  s119 s120 → (170 = 170 ∧ (∀ (r121 : Int), en_isSign (40) s120 r121 → ((¬ r121 = (0 : Int) → K (rx_find rx_m196 276) [(3, .inl x), (2, .inl a), (0, .inr (.inr (.inl 170))), (1, .inl f)] [] s120) ∧ (¬ (¬ r121 = (0 : Int)) → (170 = 170 ∧ (rq_blame (1) (s120 170 4) s120 ∧ (∀ (s122 : zS), en_blame (1) (s120 170 4) s120 s122 → K (rx_find rx_m196 276) [(3, .inl x), (2, .inl a), (0, .inr (.inr (.inl 170))), (1, .inl f)] [] s122)))))))))))))
    refine ⟨rfl, ⟨gI_m249, (show s_m249 170 5 ≤ s_m249 170 2 from by omega)⟩, fun s119 q119 => ?_⟩
    obtain ⟨gs119, fs119, p119⟩ := q119
    change s119 170 4 ≤ s119 170 5 ∧ s119 170 5 ≤ s119 170 2 ∧ (s119 170 3 = 0 ∧ s119 170 4 = s119 170 2 ∨ 1 ≤ s119 170 3 ∧ s119 170 4 < s119 170 5) ∧ s_m249 170 5 ≤ s119 170 4 at p119
    have g123 := g_signAt gs119
    have g124 := g_signEnd gs119
    have e125 : s119 170 2 = s_m249 170 2 := fs119 170 2 rfl rfl
    have g126 := g_sign gs119
    refine ⟨rfl, gs119, fun s120 q120 => ?_⟩
    obtain ⟨gs120, fs120, p120⟩ := q120
    change 0 < s119 170 8 → 0 < s120 170 8 at p120
    have e127 : s119 170 8 = s_m249 170 8 := fs119 170 8 rfl rfl
    have g128 := g_faultKind gs120
    refine ⟨rfl, fun r121 q121 => ?_⟩
    have b121 := q121
    change (r121 = 0 ∨ r121 = 1) ∧ (r121 = 1 ↔ s120 170 3 = 3 ∧ s120 170 6 = (40)) at b121
    have e129 : s120 170 3 = s119 170 3 := fs120 170 3 rfl rfl
    have g131 := g_value gs119
    have e130 : s120 170 6 = s119 170 6 := fs120 170 6 rfl rfl
    refine ⟨fun h132 => ?_, fun h132 => ?_⟩
    · have e133 : s120 170 4 = s119 170 4 := fs120 170 4 rfl rfl
      have e134 : s120 170 5 = s119 170 5 := fs120 170 5 rfl rfl
      have e135 : s120 170 2 = s119 170 2 := fs120 170 2 rfl rfl
      have e137 : s119 170 34 = s_m249 170 34 := fs119 170 34 rfl rfl
      have e136 : s120 170 34 = s119 170 34 := fs120 170 34 rfl rfl
      have e139 : s119 170 42 = s_m249 170 42 := fs119 170 42 rfl rfl
      have e138 : s120 170 42 = s119 170 42 := fs120 170 42 rfl rfl
      have e141 : s119 194 (s_m249 170 42 - 1 : Int).toNat = s_m249 194 (s_m249 170 42 - 1 : Int).toNat := fs119 194 (s_m249 170 42 - 1 : Int).toNat rfl rfl
      have e140 : s120 194 (s120 170 42 - 1 : Int).toNat = s119 194 (s_m249 170 42 - 1 : Int).toNat := (fs120 194 (s120 170 42 - 1 : Int).toNat rfl rfl).trans (by rw [e138, e139] <;> rfl)
      exact m276 x a f s120 ⟨gs120, (fr_tr (fr_tr fI_m249 fs119 rfl) fs120 rfl), (show s120 170 4 ≤ s120 170 5 ∧ s120 170 5 ≤ s120 170 2 ∧ (s120 170 3 = 0 ∧ s120 170 4 = s120 170 2 ∨ 1 ≤ s120 170 3 ∧ s120 170 4 < s120 170 5) from by omega), (show st 170 5 ≤ s120 170 4 ∧ 1 ≤ st 170 3 from by omega), (show s120 170 8 = 0 → PF s120 0 (s120 170 4) ∧ 1 ≤ s120 170 3 from fun z => ⟨PF_q (PF_fr rfl fs120 (PF_fr rfl fs119 pf_m249)) (by omega) (by omega), by omega⟩), (show ∀ i : Nat, (i : Int) < 1600 * st 170 35 + st 170 34 ∨ 1600 * st 170 35 + 1600 ≤ (i : Int) → s120 188 i = st 188 i from (fun i hi => (fs120 188 i rfl rfl).trans ((fun i hi => (fs119 188 i rfl rfl).trans (o_m249 i hi)) i hi))), (show s120 170 34 = st 170 34 from by omega), (show s120 194 (s120 170 42 - 1 : Int).toNat = 0 from by omega), (show x = 36 ∨ x = 37 ∨ x = 44 from by omega)⟩
    · have e142 : s120 170 4 = s119 170 4 := fs120 170 4 rfl rfl
      refine ⟨rfl, ⟨gs120, (show 1 ≤ (1) ∧ (1) ≤ 6 from by omega), (show -2147483648 ≤ (s120 170 4) ∧ (s120 170 4) ≤ 2147483647 from by omega)⟩, fun s122 q122 => ?_⟩
      obtain ⟨gs122, fs122, p122⟩ := q122
      change (s120 170 8 = 0 → s122 170 8 = (1)) ∧ (0 < s120 170 8 → s122 170 8 = s120 170 8) at p122
      have g143 := g_faultKind gs122
      have e144 : s122 170 4 = s120 170 4 := fs122 170 4 rfl rfl
      have e146 : s120 170 5 = s119 170 5 := fs120 170 5 rfl rfl
      have e145 : s122 170 5 = s120 170 5 := fs122 170 5 rfl rfl
      have e148 : s120 170 2 = s119 170 2 := fs120 170 2 rfl rfl
      have e147 : s122 170 2 = s120 170 2 := fs122 170 2 rfl rfl
      have e149 : s122 170 3 = s120 170 3 := fs122 170 3 rfl rfl
      have e152 : s119 170 34 = s_m249 170 34 := fs119 170 34 rfl rfl
      have e151 : s120 170 34 = s119 170 34 := fs120 170 34 rfl rfl
      have e150 : s122 170 34 = s120 170 34 := fs122 170 34 rfl rfl
      have e155 : s119 170 42 = s_m249 170 42 := fs119 170 42 rfl rfl
      have e154 : s120 170 42 = s119 170 42 := fs120 170 42 rfl rfl
      have e153 : s122 170 42 = s120 170 42 := fs122 170 42 rfl rfl
      have e158 : s119 194 (s_m249 170 42 - 1 : Int).toNat = s_m249 194 (s_m249 170 42 - 1 : Int).toNat := fs119 194 (s_m249 170 42 - 1 : Int).toNat rfl rfl
      have e157 : s120 194 (s_m249 170 42 - 1 : Int).toNat = s119 194 (s_m249 170 42 - 1 : Int).toNat := fs120 194 (s_m249 170 42 - 1 : Int).toNat rfl rfl
      have e156 : s122 194 (s122 170 42 - 1 : Int).toNat = s120 194 (s_m249 170 42 - 1 : Int).toNat := (fs122 194 (s122 170 42 - 1 : Int).toNat rfl rfl).trans (by rw [e153, e154, e155] <;> rfl)
      exact m276 x a f s122 ⟨gs122, (fr_tr (fr_tr (fr_tr fI_m249 fs119 rfl) fs120 rfl) fs122 rfl), (show s122 170 4 ≤ s122 170 5 ∧ s122 170 5 ≤ s122 170 2 ∧ (s122 170 3 = 0 ∧ s122 170 4 = s122 170 2 ∨ 1 ≤ s122 170 3 ∧ s122 170 4 < s122 170 5) from by omega), (show st 170 5 ≤ s122 170 4 ∧ 1 ≤ st 170 3 from by omega), (show s122 170 8 = 0 → PF s122 0 (s122 170 4) ∧ 1 ≤ s122 170 3 from fun z => absurd z (by omega)), (show ∀ i : Nat, (i : Int) < 1600 * st 170 35 + st 170 34 ∨ 1600 * st 170 35 + 1600 ≤ (i : Int) → s122 188 i = st 188 i from (fun i hi => (fs122 188 i rfl rfl).trans ((fun i hi => (fs120 188 i rfl rfl).trans ((fun i hi => (fs119 188 i rfl rfl).trans (o_m249 i hi)) i hi)) i hi))), (show s122 170 34 = st 170 34 from by omega), (show s122 194 (s122 170 42 - 1 : Int).toNat = 0 from by omega), (show x = 36 ∨ x = 37 ∨ x = 44 from by omega)⟩
  have m217 : ∀ (a : Int) (f : Int) (s_m217 : zS), gInv zgt s_m217 ∧ aFr m_operand st s_m217 ∧ (s_m217 170 4 ≤ s_m217 170 5 ∧ s_m217 170 5 ≤ s_m217 170 2 ∧ (s_m217 170 3 = 0 ∧ s_m217 170 4 = s_m217 170 2 ∨ 1 ≤ s_m217 170 3 ∧ s_m217 170 4 < s_m217 170 5)) ∧ (s_m217 170 4 = st 170 4 ∧ s_m217 170 5 = st 170 5 ∧ s_m217 170 3 = st 170 3) ∧ (PF s_m217 0 (st 170 4)) ∧ (∀ i : Nat, (i : Int) < 1600 * st 170 35 + st 170 34 ∨ 1600 * st 170 35 + 1600 ≤ (i : Int) → s_m217 188 i = st 188 i) ∧ (s_m217 170 34 = st 170 34) ∧ (f = s_m217 170 42 - 1 ∧ s_m217 170 8 = 0) ∧ (s_m217 194 (s_m217 170 42 - 1 : Int).toNat = 0) ∧ (1 ≤ s_m217 170 3) → K (rx_find rx_m196 217) [(2, .inl a), (0, .inr (.inr (.inl 170))), (1, .inl f)] [] s_m217 := by
    intro a f s_m217 hi
    obtain ⟨gI_m217, fI_m217, lx_m217, sm_m217, pf_m217, o_m217, c_m217, f_m217, bg_m217, x_m217⟩ := hi
    have PF1 := PF_f pf_m217
    have g159 := g_signAt gI_m217
    have g160 := g_signEnd gI_m217
    have g162 := g_size hG
    have e161 : s_m217 170 2 = st 170 2 := fI_m217 170 2 rfl rfl
    have g163 := g_sign gI_m217
    have g164 := g_signAt hG
    have g165 := g_signEnd hG
    have g166 := g_sign hG
    have g167 := g_in hG
    have g168 := g_codes hG
    have g169 := g_codes gI_m217
    have g170 := g_deep gI_m217
    have g171 := g_faultKind gI_m217
    have g172 := g_begins gI_m217 (s_m217 170 42 - 1 : Int).toNat
    have e173 : s_m217 170 35 = st 170 35 := fI_m217 170 35 rfl rfl
    have g174 := g_open gI_m217
    have g175 := g_opMany gI_m217
    refine yr1_ok (Rt := Q) (wc := (wcL [(181, k_lex), (195, k_isTest), (183, k_isWord), (182, k_isSign), (178, k_blame), (192, k_holdsBack), (149, k_ahead), (189, k_add), (194, k_opens)])) (stp := [217, 249, 276, 289, 456, 482]) hcm hcl [] 400 ?_
    show (170 = 170 ∧ (∀ (r176 : Int), en_isWord (7170414) s_m217 r176 → ((r176 = (0 : Int) → (170 = 170 ∧ (∀ (r177 : Int), en_isWord (7168376) s_m217 r177 → ((r177 = (0 : Int) → K (rx_find rx_m196 249) [(2, .inl a), (0, .inr (.inr (.inl 170))), (1, .inl f)] [.inl 44] s_m217) ∧ (¬ (r177 = (0 : Int)) → K (rx_find rx_m196 249) [(2, .inl a), (0, .inr (.inr (.inl 170))), (1, .inl f)] [.inl 37] s_m217))))) ∧ (¬ (r176 = (0 : Int)) → K (rx_find rx_m196 249) [(2, .inl a), (0, .inr (.inr (.inl 170))), (1, .inl f)] [.inl 36] s_m217))))
    refine ⟨rfl, fun r176 q176 => ?_⟩
    have b176 := q176
    change (r176 = 0 ∨ r176 = 1) ∧ (r176 = 1 ↔ s_m217 170 3 = 1 ∧ s_m217 170 7 = (7170414)) at b176
    have g178 := g_word gI_m217
    refine ⟨fun h179 => ?_, fun h179 => ?_⟩
    · refine ⟨rfl, fun r177 q177 => ?_⟩
      have b177 := q177
      change (r177 = 0 ∨ r177 = 1) ∧ (r177 = 1 ↔ s_m217 170 3 = 1 ∧ s_m217 170 7 = (7168376)) at b177
      refine ⟨fun h180 => ?_, fun h180 => ?_⟩
      · exact m249 44 a f s_m217 ⟨gI_m217, fI_m217, (show s_m217 170 4 ≤ s_m217 170 5 ∧ s_m217 170 5 ≤ s_m217 170 2 ∧ (s_m217 170 3 = 0 ∧ s_m217 170 4 = s_m217 170 2 ∨ 1 ≤ s_m217 170 3 ∧ s_m217 170 4 < s_m217 170 5) from by omega), (show s_m217 170 4 = st 170 4 ∧ s_m217 170 5 = st 170 5 ∧ s_m217 170 3 = st 170 3 from by omega), (show PF s_m217 0 (st 170 4) from pf_m217), (show ∀ i : Nat, (i : Int) < 1600 * st 170 35 + st 170 34 ∨ 1600 * st 170 35 + 1600 ≤ (i : Int) → s_m217 188 i = st 188 i from o_m217), (show s_m217 170 34 = st 170 34 from by omega), (show f = s_m217 170 42 - 1 ∧ s_m217 170 8 = 0 from by omega), (show s_m217 194 (s_m217 170 42 - 1 : Int).toNat = 0 from by omega), (show ((44 : Int) = 36 ∨ (44 : Int) = 37 ∨ (44 : Int) = 44) ∧ 1 ≤ s_m217 170 3 from by omega)⟩
      · exact m249 37 a f s_m217 ⟨gI_m217, fI_m217, (show s_m217 170 4 ≤ s_m217 170 5 ∧ s_m217 170 5 ≤ s_m217 170 2 ∧ (s_m217 170 3 = 0 ∧ s_m217 170 4 = s_m217 170 2 ∨ 1 ≤ s_m217 170 3 ∧ s_m217 170 4 < s_m217 170 5) from by omega), (show s_m217 170 4 = st 170 4 ∧ s_m217 170 5 = st 170 5 ∧ s_m217 170 3 = st 170 3 from by omega), (show PF s_m217 0 (st 170 4) from pf_m217), (show ∀ i : Nat, (i : Int) < 1600 * st 170 35 + st 170 34 ∨ 1600 * st 170 35 + 1600 ≤ (i : Int) → s_m217 188 i = st 188 i from o_m217), (show s_m217 170 34 = st 170 34 from by omega), (show f = s_m217 170 42 - 1 ∧ s_m217 170 8 = 0 from by omega), (show s_m217 194 (s_m217 170 42 - 1 : Int).toNat = 0 from by omega), (show ((37 : Int) = 36 ∨ (37 : Int) = 37 ∨ (37 : Int) = 44) ∧ 1 ≤ s_m217 170 3 from by omega)⟩
    · exact m249 36 a f s_m217 ⟨gI_m217, fI_m217, (show s_m217 170 4 ≤ s_m217 170 5 ∧ s_m217 170 5 ≤ s_m217 170 2 ∧ (s_m217 170 3 = 0 ∧ s_m217 170 4 = s_m217 170 2 ∨ 1 ≤ s_m217 170 3 ∧ s_m217 170 4 < s_m217 170 5) from by omega), (show s_m217 170 4 = st 170 4 ∧ s_m217 170 5 = st 170 5 ∧ s_m217 170 3 = st 170 3 from by omega), (show PF s_m217 0 (st 170 4) from pf_m217), (show ∀ i : Nat, (i : Int) < 1600 * st 170 35 + st 170 34 ∨ 1600 * st 170 35 + 1600 ≤ (i : Int) → s_m217 188 i = st 188 i from o_m217), (show s_m217 170 34 = st 170 34 from by omega), (show f = s_m217 170 42 - 1 ∧ s_m217 170 8 = 0 from by omega), (show s_m217 194 (s_m217 170 42 - 1 : Int).toNat = 0 from by omega), (show ((36 : Int) = 36 ∨ (36 : Int) = 37 ∨ (36 : Int) = 44) ∧ 1 ≤ s_m217 170 3 from by omega)⟩
  have m171 : ∀ (a : Int) (f : Int) (s_m171 : zS), gInv zgt s_m171 ∧ aFr m_operand st s_m171 ∧ (s_m171 170 4 ≤ s_m171 170 5 ∧ s_m171 170 5 ≤ s_m171 170 2 ∧ (s_m171 170 3 = 0 ∧ s_m171 170 4 = s_m171 170 2 ∨ 1 ≤ s_m171 170 3 ∧ s_m171 170 4 < s_m171 170 5)) ∧ (s_m171 170 4 = st 170 4 ∧ s_m171 170 5 = st 170 5 ∧ s_m171 170 3 = st 170 3) ∧ (PF s_m171 0 (st 170 4)) ∧ (∀ i : Nat, (i : Int) < 1600 * st 170 35 + st 170 34 ∨ 1600 * st 170 35 + 1600 ≤ (i : Int) → s_m171 188 i = st 188 i) ∧ (s_m171 170 34 = st 170 34) ∧ (f = s_m171 170 42 - 1 ∧ s_m171 170 8 = 0) ∧ (s_m171 194 (s_m171 170 42 - 1 : Int).toNat = 0) → K (rx_find rx_m196 171) [(2, .inl a), (0, .inr (.inr (.inl 170))), (1, .inl f)] [] s_m171 := by
    intro a f s_m171 hi
    obtain ⟨gI_m171, fI_m171, lx_m171, sm_m171, pf_m171, o_m171, c_m171, f_m171, bg_m171⟩ := hi
    have PF1 := PF_f pf_m171
    have g181 := g_signAt gI_m171
    have g182 := g_signEnd gI_m171
    have g184 := g_size hG
    have e183 : s_m171 170 2 = st 170 2 := fI_m171 170 2 rfl rfl
    have g185 := g_sign gI_m171
    have g186 := g_signAt hG
    have g187 := g_signEnd hG
    have g188 := g_sign hG
    have g189 := g_in hG
    have g190 := g_codes hG
    have g191 := g_codes gI_m171
    have g192 := g_deep gI_m171
    have g193 := g_faultKind gI_m171
    have g194 := g_begins gI_m171 (s_m171 170 42 - 1 : Int).toNat
    have e195 : s_m171 170 35 = st 170 35 := fI_m171 170 35 rfl rfl
    have g196 := g_open gI_m171
    have g197 := g_opMany gI_m171
    refine yr1_ok (Rt := Q) (wc := (wcL [(181, k_lex), (195, k_isTest), (183, k_isWord), (182, k_isSign), (178, k_blame), (192, k_holdsBack), (149, k_ahead), (189, k_add), (194, k_opens)])) (stp := [171, 217, 249, 276, 289, 456, 482]) hcm hcl [] 400 ?_
    show (170 = 170 ∧ (∀ (r198 : Int), en_isSign (40) s_m171 r198 → ((r198 = (0 : Int) → (170 = 170 ∧ (∀ (r199 : Int), en_isWord (7170414) s_m171 r199 → ((¬ r199 = (0 : Int) → K (rx_find rx_m196 217) [(2, .inl a), (0, .inr (.inr (.inl 170))), (1, .inl f)] [] s_m171) ∧ (¬ (¬ r199 = (0 : Int)) → (170 = 170 ∧ (∀ (r200 : Int), en_isWord (7168376) s_m171 r200 → ((¬ r200 = (0 : Int) → K (rx_find rx_m196 217) [(2, .inl a), (0, .inr (.inr (.inl 170))), (1, .inl f)] [] s_m171) ∧ (¬ (¬ r200 = (0 : Int)) → (170 = 170 ∧ (∀ (r201 : Int), en_isWord (26982) s_m171 r201 → ((r201 = (0 : Int) → ((¬ s_m171 170 3 = (2 : Int) → (170 = 170 ∧ (∀ (r202 : Int), en_isWord (1751474548) s_m171 r202 → ((r202 = (0 : Int) → (170 = 170 ∧ (∀ (r203 : Int), en_isWord (2036687218) s_m171 r203 → ((r203 = (0 : Int) → (170 = 170 ∧ (∀ (r204 : Int), en_isWord (1953459300) s_m171 r204 → ((r204 = (0 : Int) → (170 = 170 ∧ (∀ (r205 : Int), en_isWord (1886743660) s_m171 r205 → ((r205 = (0 : Int) → (170 = 170 ∧ (∀ (r206 : Int), en_isWord (1937007984) s_m171 r206 → ((r206 = (0 : Int) → (170 = 170 ∧ (∀ (r207 : Int), en_isWord (1650812270) s_m171 r207 → ((r207 = (0 : Int) → (170 = 170 ∧ (∀ (r208 : Int), en_isWord (495874044019) s_m171 r208 → ((r208 = (0 : Int) → (170 = 170 ∧ (∀ (r209 : Int), en_isWord (1953066341) s_m171 r209 → ((r209 = (0 : Int) → (170 = 170 ∧ (∀ (r210 : Int), en_isWord (465726042227) s_m171 r210 → ((r210 = (0 : Int) → K (rx_find rx_m196 456) [(2, .inl a), (0, .inr (.inr (.inl 170))), (1, .inl f)] [.inl (-1)] s_m171) ∧ (¬ (r210 = (0 : Int)) → K (rx_find rx_m196 456) [(2, .inl a), (0, .inr (.inr (.inl 170))), (1, .inl f)] [.inl 9] s_m171))))) ∧ (¬ (r209 = (0 : Int)) → K (rx_find rx_m196 456) [(2, .inl a), (0, .inr (.inr (.inl 170))), (1, .inl f)] [.inl 8] s_m171))))) ∧ (¬ (r208 = (0 : Int)) → K (rx_find rx_m196 456) [(2, .inl a), (0, .inr (.inr (.inl 170))), (1, .inl f)] [.inl 7] s_m171))))) ∧ (¬ (r207 = (0 : Int)) → K (rx_find rx_m196 456) [(2, .inl a), (0, .inr (.inr (.inl 170))), (1, .inl f)] [.inl 6] s_m171))))) ∧ (¬ (r206 = (0 : Int)) → K (rx_find rx_m196 456) [(2, .inl a), (0, .inr (.inr (.inl 170))), (1, .inl f)] [.inl 5] s_m171))))) ∧ (¬ (r205 = (0 : Int)) → K (rx_find rx_m196 456) [(2, .inl a), (0, .inr (.inr (.inl 170))), (1, .inl f)] [.inl 4] s_m171))))) ∧ (¬ (r204 = (0 : Int)) → K (rx_find rx_m196 456) [(2, .inl a), (0, .inr (.inr (.inl 170))), (1, .inl f)] [.inl 3] s_m171))))) ∧ (¬ (r203 = (0 : Int)) → K (rx_find rx_m196 456) [(2, .inl a), (0, .inr (.inr (.inl 170))), (1, .inl f)] [.inl 2] s_m171))))) ∧ (¬ (r202 = (0 : Int)) → K (rx_find rx_m196 456) [(2, .inl a), (0, .inr (.inr (.inl 170))), (1, .inl f)] [.inl 1] s_m171))))) ∧ (¬ (¬ s_m171 170 3 = (2 : Int)) → K (rx_find rx_m196 456) [(2, .inl a), (0, .inr (.inr (.inl 170))), (1, .inl f)] [.inl 0] s_m171))) ∧ (¬ (r201 = (0 : Int)) → K (rx_find rx_m196 217) [(2, .inl a), (0, .inr (.inr (.inl 170))), (1, .inl f)] [] s_m171))))))))))))) ∧ (¬ (r198 = (0 : Int)) → (170 = 170 ∧ (rq_opens (2) s_m171 ∧ (∀ (s211 : zS), en_opens (2) s_m171 s211 → ((0 = (0 : Int) ∨ 0 = (1 : Int)) ∧ Q (some (.inl 0)) s211))))))))
    refine ⟨rfl, fun r198 q198 => ?_⟩
    have b198 := q198
    change (r198 = 0 ∨ r198 = 1) ∧ (r198 = 1 ↔ s_m171 170 3 = 3 ∧ s_m171 170 6 = (40)) at b198
    have g212 := g_value gI_m171
    refine ⟨fun h213 => ?_, fun h213 => ?_⟩
    · refine ⟨rfl, fun r199 q199 => ?_⟩
      have b199 := q199
      change (r199 = 0 ∨ r199 = 1) ∧ (r199 = 1 ↔ s_m171 170 3 = 1 ∧ s_m171 170 7 = (7170414)) at b199
      have g214 := g_word gI_m171
      refine ⟨fun h215 => ?_, fun h215 => ?_⟩
      · exact m217 a f s_m171 ⟨gI_m171, fI_m171, (show s_m171 170 4 ≤ s_m171 170 5 ∧ s_m171 170 5 ≤ s_m171 170 2 ∧ (s_m171 170 3 = 0 ∧ s_m171 170 4 = s_m171 170 2 ∨ 1 ≤ s_m171 170 3 ∧ s_m171 170 4 < s_m171 170 5) from by omega), (show s_m171 170 4 = st 170 4 ∧ s_m171 170 5 = st 170 5 ∧ s_m171 170 3 = st 170 3 from by omega), (show PF s_m171 0 (st 170 4) from pf_m171), (show ∀ i : Nat, (i : Int) < 1600 * st 170 35 + st 170 34 ∨ 1600 * st 170 35 + 1600 ≤ (i : Int) → s_m171 188 i = st 188 i from o_m171), (show s_m171 170 34 = st 170 34 from by omega), (show f = s_m171 170 42 - 1 ∧ s_m171 170 8 = 0 from by omega), (show s_m171 194 (s_m171 170 42 - 1 : Int).toNat = 0 from by omega), (show 1 ≤ s_m171 170 3 from by omega)⟩
      · refine ⟨rfl, fun r200 q200 => ?_⟩
        have b200 := q200
        change (r200 = 0 ∨ r200 = 1) ∧ (r200 = 1 ↔ s_m171 170 3 = 1 ∧ s_m171 170 7 = (7168376)) at b200
        refine ⟨fun h216 => ?_, fun h216 => ?_⟩
        · exact m217 a f s_m171 ⟨gI_m171, fI_m171, (show s_m171 170 4 ≤ s_m171 170 5 ∧ s_m171 170 5 ≤ s_m171 170 2 ∧ (s_m171 170 3 = 0 ∧ s_m171 170 4 = s_m171 170 2 ∨ 1 ≤ s_m171 170 3 ∧ s_m171 170 4 < s_m171 170 5) from by omega), (show s_m171 170 4 = st 170 4 ∧ s_m171 170 5 = st 170 5 ∧ s_m171 170 3 = st 170 3 from by omega), (show PF s_m171 0 (st 170 4) from pf_m171), (show ∀ i : Nat, (i : Int) < 1600 * st 170 35 + st 170 34 ∨ 1600 * st 170 35 + 1600 ≤ (i : Int) → s_m171 188 i = st 188 i from o_m171), (show s_m171 170 34 = st 170 34 from by omega), (show f = s_m171 170 42 - 1 ∧ s_m171 170 8 = 0 from by omega), (show s_m171 194 (s_m171 170 42 - 1 : Int).toNat = 0 from by omega), (show 1 ≤ s_m171 170 3 from by omega)⟩
        · refine ⟨rfl, fun r201 q201 => ?_⟩
          have b201 := q201
          change (r201 = 0 ∨ r201 = 1) ∧ (r201 = 1 ↔ s_m171 170 3 = 1 ∧ s_m171 170 7 = (26982)) at b201
          refine ⟨fun h217 => ?_, fun h217 => ?_⟩
          · refine ⟨fun h218 => ?_, fun h218 => ?_⟩
            · refine ⟨rfl, fun r202 q202 => ?_⟩
              have b202 := q202
              change (r202 = 0 ∨ r202 = 1) ∧ (r202 = 1 ↔ s_m171 170 3 = 1 ∧ s_m171 170 7 = (1751474548)) at b202
              refine ⟨fun h219 => ?_, fun h219 => ?_⟩
              · refine ⟨rfl, fun r203 q203 => ?_⟩
                have b203 := q203
                change (r203 = 0 ∨ r203 = 1) ∧ (r203 = 1 ↔ s_m171 170 3 = 1 ∧ s_m171 170 7 = (2036687218)) at b203
                refine ⟨fun h220 => ?_, fun h220 => ?_⟩
                · refine ⟨rfl, fun r204 q204 => ?_⟩
                  have b204 := q204
                  change (r204 = 0 ∨ r204 = 1) ∧ (r204 = 1 ↔ s_m171 170 3 = 1 ∧ s_m171 170 7 = (1953459300)) at b204
                  refine ⟨fun h221 => ?_, fun h221 => ?_⟩
                  · refine ⟨rfl, fun r205 q205 => ?_⟩
                    have b205 := q205
                    change (r205 = 0 ∨ r205 = 1) ∧ (r205 = 1 ↔ s_m171 170 3 = 1 ∧ s_m171 170 7 = (1886743660)) at b205
                    refine ⟨fun h222 => ?_, fun h222 => ?_⟩
                    · refine ⟨rfl, fun r206 q206 => ?_⟩
                      have b206 := q206
                      change (r206 = 0 ∨ r206 = 1) ∧ (r206 = 1 ↔ s_m171 170 3 = 1 ∧ s_m171 170 7 = (1937007984)) at b206
                      refine ⟨fun h223 => ?_, fun h223 => ?_⟩
                      · refine ⟨rfl, fun r207 q207 => ?_⟩
                        have b207 := q207
                        change (r207 = 0 ∨ r207 = 1) ∧ (r207 = 1 ↔ s_m171 170 3 = 1 ∧ s_m171 170 7 = (1650812270)) at b207
                        refine ⟨fun h224 => ?_, fun h224 => ?_⟩
                        · refine ⟨rfl, fun r208 q208 => ?_⟩
                          have b208 := q208
                          change (r208 = 0 ∨ r208 = 1) ∧ (r208 = 1 ↔ s_m171 170 3 = 1 ∧ s_m171 170 7 = (495874044019)) at b208
                          refine ⟨fun h225 => ?_, fun h225 => ?_⟩
                          · refine ⟨rfl, fun r209 q209 => ?_⟩
                            have b209 := q209
                            change (r209 = 0 ∨ r209 = 1) ∧ (r209 = 1 ↔ s_m171 170 3 = 1 ∧ s_m171 170 7 = (1953066341)) at b209
                            refine ⟨fun h226 => ?_, fun h226 => ?_⟩
                            · refine ⟨rfl, fun r210 q210 => ?_⟩
                              have b210 := q210
                              change (r210 = 0 ∨ r210 = 1) ∧ (r210 = 1 ↔ s_m171 170 3 = 1 ∧ s_m171 170 7 = (465726042227)) at b210
                              refine ⟨fun h227 => ?_, fun h227 => ?_⟩
                              · exact m456 (-1) a f s_m171 ⟨gI_m171, fI_m171, (show s_m171 170 4 ≤ s_m171 170 5 ∧ s_m171 170 5 ≤ s_m171 170 2 ∧ (s_m171 170 3 = 0 ∧ s_m171 170 4 = s_m171 170 2 ∨ 1 ≤ s_m171 170 3 ∧ s_m171 170 4 < s_m171 170 5) from by omega), (show s_m171 170 4 = st 170 4 ∧ s_m171 170 5 = st 170 5 ∧ s_m171 170 3 = st 170 3 from by omega), (show PF s_m171 0 (st 170 4) from pf_m171), (show ∀ i : Nat, (i : Int) < 1600 * st 170 35 + st 170 34 ∨ 1600 * st 170 35 + 1600 ≤ (i : Int) → s_m171 188 i = st 188 i from o_m171), (show s_m171 170 34 = st 170 34 from by omega), (show f = s_m171 170 42 - 1 ∧ s_m171 170 8 = 0 from by omega), (show s_m171 194 (s_m171 170 42 - 1 : Int).toNat = 0 from by omega), (show -1 ≤ ((-1) : Int) ∧ ((-1) : Int) ≤ 9 ∧ (0 ≤ ((-1) : Int) → 1 ≤ s_m171 170 3) from by omega)⟩
                              · exact m456 9 a f s_m171 ⟨gI_m171, fI_m171, (show s_m171 170 4 ≤ s_m171 170 5 ∧ s_m171 170 5 ≤ s_m171 170 2 ∧ (s_m171 170 3 = 0 ∧ s_m171 170 4 = s_m171 170 2 ∨ 1 ≤ s_m171 170 3 ∧ s_m171 170 4 < s_m171 170 5) from by omega), (show s_m171 170 4 = st 170 4 ∧ s_m171 170 5 = st 170 5 ∧ s_m171 170 3 = st 170 3 from by omega), (show PF s_m171 0 (st 170 4) from pf_m171), (show ∀ i : Nat, (i : Int) < 1600 * st 170 35 + st 170 34 ∨ 1600 * st 170 35 + 1600 ≤ (i : Int) → s_m171 188 i = st 188 i from o_m171), (show s_m171 170 34 = st 170 34 from by omega), (show f = s_m171 170 42 - 1 ∧ s_m171 170 8 = 0 from by omega), (show s_m171 194 (s_m171 170 42 - 1 : Int).toNat = 0 from by omega), (show -1 ≤ (9 : Int) ∧ (9 : Int) ≤ 9 ∧ (0 ≤ (9 : Int) → 1 ≤ s_m171 170 3) from by omega)⟩
                            · exact m456 8 a f s_m171 ⟨gI_m171, fI_m171, (show s_m171 170 4 ≤ s_m171 170 5 ∧ s_m171 170 5 ≤ s_m171 170 2 ∧ (s_m171 170 3 = 0 ∧ s_m171 170 4 = s_m171 170 2 ∨ 1 ≤ s_m171 170 3 ∧ s_m171 170 4 < s_m171 170 5) from by omega), (show s_m171 170 4 = st 170 4 ∧ s_m171 170 5 = st 170 5 ∧ s_m171 170 3 = st 170 3 from by omega), (show PF s_m171 0 (st 170 4) from pf_m171), (show ∀ i : Nat, (i : Int) < 1600 * st 170 35 + st 170 34 ∨ 1600 * st 170 35 + 1600 ≤ (i : Int) → s_m171 188 i = st 188 i from o_m171), (show s_m171 170 34 = st 170 34 from by omega), (show f = s_m171 170 42 - 1 ∧ s_m171 170 8 = 0 from by omega), (show s_m171 194 (s_m171 170 42 - 1 : Int).toNat = 0 from by omega), (show -1 ≤ (8 : Int) ∧ (8 : Int) ≤ 9 ∧ (0 ≤ (8 : Int) → 1 ≤ s_m171 170 3) from by omega)⟩
                          · exact m456 7 a f s_m171 ⟨gI_m171, fI_m171, (show s_m171 170 4 ≤ s_m171 170 5 ∧ s_m171 170 5 ≤ s_m171 170 2 ∧ (s_m171 170 3 = 0 ∧ s_m171 170 4 = s_m171 170 2 ∨ 1 ≤ s_m171 170 3 ∧ s_m171 170 4 < s_m171 170 5) from by omega), (show s_m171 170 4 = st 170 4 ∧ s_m171 170 5 = st 170 5 ∧ s_m171 170 3 = st 170 3 from by omega), (show PF s_m171 0 (st 170 4) from pf_m171), (show ∀ i : Nat, (i : Int) < 1600 * st 170 35 + st 170 34 ∨ 1600 * st 170 35 + 1600 ≤ (i : Int) → s_m171 188 i = st 188 i from o_m171), (show s_m171 170 34 = st 170 34 from by omega), (show f = s_m171 170 42 - 1 ∧ s_m171 170 8 = 0 from by omega), (show s_m171 194 (s_m171 170 42 - 1 : Int).toNat = 0 from by omega), (show -1 ≤ (7 : Int) ∧ (7 : Int) ≤ 9 ∧ (0 ≤ (7 : Int) → 1 ≤ s_m171 170 3) from by omega)⟩
                        · exact m456 6 a f s_m171 ⟨gI_m171, fI_m171, (show s_m171 170 4 ≤ s_m171 170 5 ∧ s_m171 170 5 ≤ s_m171 170 2 ∧ (s_m171 170 3 = 0 ∧ s_m171 170 4 = s_m171 170 2 ∨ 1 ≤ s_m171 170 3 ∧ s_m171 170 4 < s_m171 170 5) from by omega), (show s_m171 170 4 = st 170 4 ∧ s_m171 170 5 = st 170 5 ∧ s_m171 170 3 = st 170 3 from by omega), (show PF s_m171 0 (st 170 4) from pf_m171), (show ∀ i : Nat, (i : Int) < 1600 * st 170 35 + st 170 34 ∨ 1600 * st 170 35 + 1600 ≤ (i : Int) → s_m171 188 i = st 188 i from o_m171), (show s_m171 170 34 = st 170 34 from by omega), (show f = s_m171 170 42 - 1 ∧ s_m171 170 8 = 0 from by omega), (show s_m171 194 (s_m171 170 42 - 1 : Int).toNat = 0 from by omega), (show -1 ≤ (6 : Int) ∧ (6 : Int) ≤ 9 ∧ (0 ≤ (6 : Int) → 1 ≤ s_m171 170 3) from by omega)⟩
                      · exact m456 5 a f s_m171 ⟨gI_m171, fI_m171, (show s_m171 170 4 ≤ s_m171 170 5 ∧ s_m171 170 5 ≤ s_m171 170 2 ∧ (s_m171 170 3 = 0 ∧ s_m171 170 4 = s_m171 170 2 ∨ 1 ≤ s_m171 170 3 ∧ s_m171 170 4 < s_m171 170 5) from by omega), (show s_m171 170 4 = st 170 4 ∧ s_m171 170 5 = st 170 5 ∧ s_m171 170 3 = st 170 3 from by omega), (show PF s_m171 0 (st 170 4) from pf_m171), (show ∀ i : Nat, (i : Int) < 1600 * st 170 35 + st 170 34 ∨ 1600 * st 170 35 + 1600 ≤ (i : Int) → s_m171 188 i = st 188 i from o_m171), (show s_m171 170 34 = st 170 34 from by omega), (show f = s_m171 170 42 - 1 ∧ s_m171 170 8 = 0 from by omega), (show s_m171 194 (s_m171 170 42 - 1 : Int).toNat = 0 from by omega), (show -1 ≤ (5 : Int) ∧ (5 : Int) ≤ 9 ∧ (0 ≤ (5 : Int) → 1 ≤ s_m171 170 3) from by omega)⟩
                    · exact m456 4 a f s_m171 ⟨gI_m171, fI_m171, (show s_m171 170 4 ≤ s_m171 170 5 ∧ s_m171 170 5 ≤ s_m171 170 2 ∧ (s_m171 170 3 = 0 ∧ s_m171 170 4 = s_m171 170 2 ∨ 1 ≤ s_m171 170 3 ∧ s_m171 170 4 < s_m171 170 5) from by omega), (show s_m171 170 4 = st 170 4 ∧ s_m171 170 5 = st 170 5 ∧ s_m171 170 3 = st 170 3 from by omega), (show PF s_m171 0 (st 170 4) from pf_m171), (show ∀ i : Nat, (i : Int) < 1600 * st 170 35 + st 170 34 ∨ 1600 * st 170 35 + 1600 ≤ (i : Int) → s_m171 188 i = st 188 i from o_m171), (show s_m171 170 34 = st 170 34 from by omega), (show f = s_m171 170 42 - 1 ∧ s_m171 170 8 = 0 from by omega), (show s_m171 194 (s_m171 170 42 - 1 : Int).toNat = 0 from by omega), (show -1 ≤ (4 : Int) ∧ (4 : Int) ≤ 9 ∧ (0 ≤ (4 : Int) → 1 ≤ s_m171 170 3) from by omega)⟩
                  · exact m456 3 a f s_m171 ⟨gI_m171, fI_m171, (show s_m171 170 4 ≤ s_m171 170 5 ∧ s_m171 170 5 ≤ s_m171 170 2 ∧ (s_m171 170 3 = 0 ∧ s_m171 170 4 = s_m171 170 2 ∨ 1 ≤ s_m171 170 3 ∧ s_m171 170 4 < s_m171 170 5) from by omega), (show s_m171 170 4 = st 170 4 ∧ s_m171 170 5 = st 170 5 ∧ s_m171 170 3 = st 170 3 from by omega), (show PF s_m171 0 (st 170 4) from pf_m171), (show ∀ i : Nat, (i : Int) < 1600 * st 170 35 + st 170 34 ∨ 1600 * st 170 35 + 1600 ≤ (i : Int) → s_m171 188 i = st 188 i from o_m171), (show s_m171 170 34 = st 170 34 from by omega), (show f = s_m171 170 42 - 1 ∧ s_m171 170 8 = 0 from by omega), (show s_m171 194 (s_m171 170 42 - 1 : Int).toNat = 0 from by omega), (show -1 ≤ (3 : Int) ∧ (3 : Int) ≤ 9 ∧ (0 ≤ (3 : Int) → 1 ≤ s_m171 170 3) from by omega)⟩
                · exact m456 2 a f s_m171 ⟨gI_m171, fI_m171, (show s_m171 170 4 ≤ s_m171 170 5 ∧ s_m171 170 5 ≤ s_m171 170 2 ∧ (s_m171 170 3 = 0 ∧ s_m171 170 4 = s_m171 170 2 ∨ 1 ≤ s_m171 170 3 ∧ s_m171 170 4 < s_m171 170 5) from by omega), (show s_m171 170 4 = st 170 4 ∧ s_m171 170 5 = st 170 5 ∧ s_m171 170 3 = st 170 3 from by omega), (show PF s_m171 0 (st 170 4) from pf_m171), (show ∀ i : Nat, (i : Int) < 1600 * st 170 35 + st 170 34 ∨ 1600 * st 170 35 + 1600 ≤ (i : Int) → s_m171 188 i = st 188 i from o_m171), (show s_m171 170 34 = st 170 34 from by omega), (show f = s_m171 170 42 - 1 ∧ s_m171 170 8 = 0 from by omega), (show s_m171 194 (s_m171 170 42 - 1 : Int).toNat = 0 from by omega), (show -1 ≤ (2 : Int) ∧ (2 : Int) ≤ 9 ∧ (0 ≤ (2 : Int) → 1 ≤ s_m171 170 3) from by omega)⟩
              · exact m456 1 a f s_m171 ⟨gI_m171, fI_m171, (show s_m171 170 4 ≤ s_m171 170 5 ∧ s_m171 170 5 ≤ s_m171 170 2 ∧ (s_m171 170 3 = 0 ∧ s_m171 170 4 = s_m171 170 2 ∨ 1 ≤ s_m171 170 3 ∧ s_m171 170 4 < s_m171 170 5) from by omega), (show s_m171 170 4 = st 170 4 ∧ s_m171 170 5 = st 170 5 ∧ s_m171 170 3 = st 170 3 from by omega), (show PF s_m171 0 (st 170 4) from pf_m171), (show ∀ i : Nat, (i : Int) < 1600 * st 170 35 + st 170 34 ∨ 1600 * st 170 35 + 1600 ≤ (i : Int) → s_m171 188 i = st 188 i from o_m171), (show s_m171 170 34 = st 170 34 from by omega), (show f = s_m171 170 42 - 1 ∧ s_m171 170 8 = 0 from by omega), (show s_m171 194 (s_m171 170 42 - 1 : Int).toNat = 0 from by omega), (show -1 ≤ (1 : Int) ∧ (1 : Int) ≤ 9 ∧ (0 ≤ (1 : Int) → 1 ≤ s_m171 170 3) from by omega)⟩
            · exact m456 0 a f s_m171 ⟨gI_m171, fI_m171, (show s_m171 170 4 ≤ s_m171 170 5 ∧ s_m171 170 5 ≤ s_m171 170 2 ∧ (s_m171 170 3 = 0 ∧ s_m171 170 4 = s_m171 170 2 ∨ 1 ≤ s_m171 170 3 ∧ s_m171 170 4 < s_m171 170 5) from by omega), (show s_m171 170 4 = st 170 4 ∧ s_m171 170 5 = st 170 5 ∧ s_m171 170 3 = st 170 3 from by omega), (show PF s_m171 0 (st 170 4) from pf_m171), (show ∀ i : Nat, (i : Int) < 1600 * st 170 35 + st 170 34 ∨ 1600 * st 170 35 + 1600 ≤ (i : Int) → s_m171 188 i = st 188 i from o_m171), (show s_m171 170 34 = st 170 34 from by omega), (show f = s_m171 170 42 - 1 ∧ s_m171 170 8 = 0 from by omega), (show s_m171 194 (s_m171 170 42 - 1 : Int).toNat = 0 from by omega), (show -1 ≤ (0 : Int) ∧ (0 : Int) ≤ 9 ∧ (0 ≤ (0 : Int) → 1 ≤ s_m171 170 3) from by omega)⟩
          · exact m217 a f s_m171 ⟨gI_m171, fI_m171, (show s_m171 170 4 ≤ s_m171 170 5 ∧ s_m171 170 5 ≤ s_m171 170 2 ∧ (s_m171 170 3 = 0 ∧ s_m171 170 4 = s_m171 170 2 ∨ 1 ≤ s_m171 170 3 ∧ s_m171 170 4 < s_m171 170 5) from by omega), (show s_m171 170 4 = st 170 4 ∧ s_m171 170 5 = st 170 5 ∧ s_m171 170 3 = st 170 3 from by omega), (show PF s_m171 0 (st 170 4) from pf_m171), (show ∀ i : Nat, (i : Int) < 1600 * st 170 35 + st 170 34 ∨ 1600 * st 170 35 + 1600 ≤ (i : Int) → s_m171 188 i = st 188 i from o_m171), (show s_m171 170 34 = st 170 34 from by omega), (show f = s_m171 170 42 - 1 ∧ s_m171 170 8 = 0 from by omega), (show s_m171 194 (s_m171 170 42 - 1 : Int).toNat = 0 from by omega), (show 1 ≤ s_m171 170 3 from by omega)⟩
    · refine ⟨rfl, ⟨gI_m171, (show s_m171 170 4 ≤ s_m171 170 5 ∧ s_m171 170 5 ≤ s_m171 170 2 ∧ (s_m171 170 3 = 0 ∧ s_m171 170 4 = s_m171 170 2 ∨ 1 ≤ s_m171 170 3 ∧ s_m171 170 4 < s_m171 170 5) from by omega), (show s_m171 170 8 = 0 → PF s_m171 0 (s_m171 170 4) ∧ 1 ≤ s_m171 170 3 from fun _ => ⟨PF_q pf_m171 (by omega) (by omega), by omega⟩), (show 2 ≤ (2) ∧ (2) ≤ 6 from by omega), (show s_m171 194 (s_m171 170 42 - 1 : Int).toNat = 0 from by omega)⟩, fun s211 q211 => ?_⟩
      obtain ⟨gs211, fs211, p211, pw211, dd211⟩ := q211
      change s211 170 4 ≤ s211 170 5 ∧ s211 170 5 ≤ s211 170 2 ∧ (s211 170 3 = 0 ∧ s211 170 4 = s211 170 2 ∨ 1 ≤ s211 170 3 ∧ s211 170 4 < s211 170 5) ∧ s_m171 170 4 ≤ s211 170 4 ∧ (s211 170 8 = 0 → s_m171 170 8 = 0 ∧ s_m171 170 5 ≤ s211 170 4 ∧ 1 ≤ s_m171 170 3) at p211
      have g228 := g_signAt gs211
      have g229 := g_signEnd gs211
      have e230 : s211 170 2 = s_m171 170 2 := fs211 170 2 rfl rfl
      have g231 := g_sign gs211
      have g232 := g_faultKind gs211
      change s211 170 8 = 0 → PW s211 0 0 (s211 170 4) ∧ s211 192 (s211 170 42 - 1 : Int).toNat = (2) ∧ PHS s211 at pw211
      have g233 := g_deep gs211
      have g234 := g_frame gs211 (s211 170 42 - 1 : Int).toNat
      change s211 170 8 = 0 → 2 ≤ s211 170 42 ∧ s211 170 42 ≤ 8 at dd211
      refine ⟨by omega, ?_⟩
      have e235 : s211 170 34 = s_m171 170 34 := fs211 170 34 rfl rfl
      exact hQ _ _ ⟨gs211, (fr_tr fI_m171 fs211 rfl), (show s211 170 4 ≤ s211 170 5 ∧ s211 170 5 ≤ s211 170 2 ∧ (s211 170 3 = 0 ∧ s211 170 4 = s211 170 2 ∨ 1 ≤ s211 170 3 ∧ s211 170 4 < s211 170 5) ∧ st 170 4 ≤ s211 170 4 from by omega), (show ((0 : Int) = 0 ∨ (0 : Int) = 1) from by omega), (show s211 170 8 = 0 → st 170 5 ≤ s211 170 4 ∧ 1 ≤ st 170 3 ∧ PF s211 (0 : Int) (s211 170 4) from fun z => by
          have z0 := pw211 z
          have z1 := p211
          refine ⟨by omega, by omega, ?_⟩
          have z3 : s211 192 (s211 170 42 - 1 : Int).toNat = 2 := z0.2.1
          refine ⟨?_, ?_, z0.2.2⟩
          · rw [z3]
            exact z0.1
          · rw [z3]
            exact ⟨fun z4 => by omega, fun z4 => by omega⟩), (show ∀ i : Nat, (i : Int) < 1600 * st 170 35 + st 170 34 ∨ 1600 * st 170 35 + 1600 ≤ (i : Int) → s211 188 i = st 188 i from (fun i hi => (fs211 188 i rfl rfl).trans (o_m171 i hi))), (show st 170 34 ≤ s211 170 34 from by omega)⟩
  have m137 : ∀ (a : Int) (f : Int) (s_m137 : zS), gInv zgt s_m137 ∧ aFr m_operand st s_m137 ∧ (s_m137 170 4 ≤ s_m137 170 5 ∧ s_m137 170 5 ≤ s_m137 170 2 ∧ (s_m137 170 3 = 0 ∧ s_m137 170 4 = s_m137 170 2 ∨ 1 ≤ s_m137 170 3 ∧ s_m137 170 4 < s_m137 170 5)) ∧ (s_m137 170 4 = st 170 4 ∧ s_m137 170 5 = st 170 5 ∧ s_m137 170 3 = st 170 3) ∧ (PF s_m137 0 (st 170 4)) ∧ (∀ i : Nat, (i : Int) < 1600 * st 170 35 + st 170 34 ∨ 1600 * st 170 35 + 1600 ≤ (i : Int) → s_m137 188 i = st 188 i) ∧ (s_m137 170 34 = st 170 34) ∧ (f = s_m137 170 42 - 1 ∧ s_m137 170 8 = 0) ∧ (s_m137 194 (s_m137 170 42 - 1 : Int).toNat = 0) ∧ (a = 0 ∨ a = 1) → K (rx_find rx_m196 137) [(2, .inl a), (0, .inr (.inr (.inl 170))), (1, .inl f)] [] s_m137 := by
    intro a f s_m137 hi
    obtain ⟨gI_m137, fI_m137, lx_m137, sm_m137, pf_m137, o_m137, c_m137, f_m137, bg_m137, a_m137⟩ := hi
    have PF1 := PF_f pf_m137
    have g236 := g_signAt gI_m137
    have g237 := g_signEnd gI_m137
    have g239 := g_size hG
    have e238 : s_m137 170 2 = st 170 2 := fI_m137 170 2 rfl rfl
    have g240 := g_sign gI_m137
    have g241 := g_signAt hG
    have g242 := g_signEnd hG
    have g243 := g_sign hG
    have g244 := g_in hG
    have g245 := g_codes hG
    have g246 := g_codes gI_m137
    have g247 := g_deep gI_m137
    have g248 := g_faultKind gI_m137
    have g249 := g_begins gI_m137 (s_m137 170 42 - 1 : Int).toNat
    have e250 : s_m137 170 35 = st 170 35 := fI_m137 170 35 rfl rfl
    have g251 := g_open gI_m137
    have g252 := g_opMany gI_m137
    refine yr1_ok (Rt := Q) (wc := (wcL [(181, k_lex), (195, k_isTest), (183, k_isWord), (182, k_isSign), (178, k_blame), (192, k_holdsBack), (149, k_ahead), (189, k_add), (194, k_opens)])) (stp := [137, 171, 217, 249, 276, 289, 456, 482]) hcm hcl [] 400 ?_
    show ((a = (0 : Int) → K (rx_find rx_m196 171) [(2, .inl a), (0, .inr (.inr (.inl 170))), (1, .inl f)] [] s_m137) ∧ (¬ (a = (0 : Int)) → (170 = 170 ∧ (∀ (r253 : Int), en_isWord (6384748) s_m137 r253 → ((r253 = (0 : Int) → K (rx_find rx_m196 171) [(2, .inl a), (0, .inr (.inr (.inl 170))), (1, .inl f)] [] s_m137) ∧ (¬ (r253 = (0 : Int)) → (170 = 170 ∧ (rq_add (30) (0) s_m137 ∧ (((0 ≤ f ∧ f < 20) ∧ (170 = 170 ∧ (rq_ahead  (zup (zup (zup (zup s_m137 188 ((1600 : Int) * (s_m137 170 35) + (s_m137 170 34) : Int).toNat (30)) 189 ((1600 : Int) * (s_m137 170 35) + (s_m137 170 34) : Int).toNat (0)) 170 34 ((s_m137 170 34) + 1)) 193 (f : Int).toNat 2) ∧ (∀ (s255 : zS), en_ahead  (zup (zup (zup (zup s_m137 188 ((1600 : Int) * (s_m137 170 35) + (s_m137 170 34) : Int).toNat (30)) 189 ((1600 : Int) * (s_m137 170 35) + (s_m137 170 34) : Int).toNat (0)) 170 34 ((s_m137 170 34) + 1)) 193 (f : Int).toNat 2) s255 → ((1 = (0 : Int) ∨ 1 = (1 : Int)) ∧ Q (some (.inl 1)) s255))))))))))))))
    refine ⟨fun h256 => ?_, fun h256 => ?_⟩
    · exact m171 a f s_m137 ⟨gI_m137, fI_m137, (show s_m137 170 4 ≤ s_m137 170 5 ∧ s_m137 170 5 ≤ s_m137 170 2 ∧ (s_m137 170 3 = 0 ∧ s_m137 170 4 = s_m137 170 2 ∨ 1 ≤ s_m137 170 3 ∧ s_m137 170 4 < s_m137 170 5) from by omega), (show s_m137 170 4 = st 170 4 ∧ s_m137 170 5 = st 170 5 ∧ s_m137 170 3 = st 170 3 from by omega), (show PF s_m137 0 (st 170 4) from pf_m137), (show ∀ i : Nat, (i : Int) < 1600 * st 170 35 + st 170 34 ∨ 1600 * st 170 35 + 1600 ≤ (i : Int) → s_m137 188 i = st 188 i from o_m137), (show s_m137 170 34 = st 170 34 from by omega), (show f = s_m137 170 42 - 1 ∧ s_m137 170 8 = 0 from by omega), (show s_m137 194 (s_m137 170 42 - 1 : Int).toNat = 0 from by omega)⟩
    · refine ⟨rfl, fun r253 q253 => ?_⟩
      have b253 := q253
      change (r253 = 0 ∨ r253 = 1) ∧ (r253 = 1 ↔ s_m137 170 3 = 1 ∧ s_m137 170 7 = (6384748)) at b253
      have g257 := g_word gI_m137
      refine ⟨fun h258 => ?_, fun h258 => ?_⟩
      · exact m171 a f s_m137 ⟨gI_m137, fI_m137, (show s_m137 170 4 ≤ s_m137 170 5 ∧ s_m137 170 5 ≤ s_m137 170 2 ∧ (s_m137 170 3 = 0 ∧ s_m137 170 4 = s_m137 170 2 ∨ 1 ≤ s_m137 170 3 ∧ s_m137 170 4 < s_m137 170 5) from by omega), (show s_m137 170 4 = st 170 4 ∧ s_m137 170 5 = st 170 5 ∧ s_m137 170 3 = st 170 3 from by omega), (show PF s_m137 0 (st 170 4) from pf_m137), (show ∀ i : Nat, (i : Int) < 1600 * st 170 35 + st 170 34 ∨ 1600 * st 170 35 + 1600 ≤ (i : Int) → s_m137 188 i = st 188 i from o_m137), (show s_m137 170 34 = st 170 34 from by omega), (show f = s_m137 170 42 - 1 ∧ s_m137 170 8 = 0 from by omega), (show s_m137 194 (s_m137 170 42 - 1 : Int).toNat = 0 from by omega)⟩
      · refine ⟨rfl, ⟨gI_m137, (show s_m137 170 34 ≤ 1599 from by omega)⟩, ?_⟩
        refine ⟨by omega, ?_⟩
        refine ⟨rfl, ⟨(gInv_up (gInv_up (gInv_up (gInv_up gI_m137 (p_codeSort (by omega))) (p_codeValue (by omega))) (p_codes (by omega))) (p_phase (by omega))), (show s_m137 170 5 ≤ s_m137 170 2 from by omega)⟩, fun s255 q255 => ?_⟩
        obtain ⟨gs255, fs255, p255⟩ := q255
        change s255 170 4 ≤ s255 170 5 ∧ s255 170 5 ≤ s255 170 2 ∧ (s255 170 3 = 0 ∧ s255 170 4 = s255 170 2 ∨ 1 ≤ s255 170 3 ∧ s255 170 4 < s255 170 5) ∧ s_m137 170 5 ≤ s255 170 4 at p255
        have g259 := g_signAt gs255
        have g260 := g_signEnd gs255
        have e261 : s255 170 2 = s_m137 170 2 := fs255 170 2 rfl rfl
        have g262 := g_sign gs255
        refine ⟨by omega, ?_⟩
        have e263 : s255 170 8 = s_m137 170 8 := fs255 170 8 rfl rfl
        have e264 : s255 170 34 = ((s_m137 170 34) + 1) := fs255 170 34 rfl rfl
        exact hQ _ _ ⟨gs255, (fr_tr (fr_a (fr_f (fr_a (fr_a fI_m137 rfl) rfl) rfl) rfl) fs255 rfl), (show s255 170 4 ≤ s255 170 5 ∧ s255 170 5 ≤ s255 170 2 ∧ (s255 170 3 = 0 ∧ s255 170 4 = s255 170 2 ∨ 1 ≤ s255 170 3 ∧ s255 170 4 < s255 170 5) ∧ st 170 4 ≤ s255 170 4 from by omega), (show ((1 : Int) = 0 ∨ (1 : Int) = 1) from by omega), (show s255 170 8 = 0 → st 170 5 ≤ s255 170 4 ∧ 1 ≤ st 170 3 ∧ PF s255 (1 : Int) (s255 170 4) from fun z => ⟨by omega, by omega, PF_fr rfl fs255 (show PF (zup (zup (zup (zup s_m137 188 ((1600 : Int) * (s_m137 170 35) + (s_m137 170 34) : Int).toNat (30)) 189 ((1600 : Int) * (s_m137 170 35) + (s_m137 170 34) : Int).toNat (0)) 170 34 ((s_m137 170 34) + 1)) 193 (f : Int).toNat 2) 1 (s255 170 4) from ⟨show PI (s_m137 170 35) (((s_m137 170 34) + 1)) (s_m137 170 45) (s_m137 170 42) (s_m137 170 43) 1 (pa (s_m137 192 ((s_m137 170 42) - 1 : Int).toNat) (s_m137 195 ((s_m137 170 42) - 1 : Int).toNat)) (s255 170 4) (s_m137 197) (s_m137 196) (s_m137 192) (s_m137 195) (s_m137 194) (up1 (s_m137 188) ((1600 : Int) * (s_m137 170 35) + (s_m137 170 34) : Int).toNat (30)) (f0s s_m137) from PI_code pf_m137.1 (by omega) (by omega) ⟨fun _ _ => rfl, bg_m137⟩, pf_m137.2.1, show PH (s_m137 170 42) (s_m137 170 45) (s_m137 197) (s_m137 196) (up1 (s_m137 193) (f : Int).toNat 2) from PH_ph pf_m137.2.2 (by omega)⟩)⟩), (show ∀ i : Nat, (i : Int) < 1600 * st 170 35 + st 170 34 ∨ 1600 * st 170 35 + 1600 ≤ (i : Int) → s255 188 i = st 188 i from (fun i hi => (fs255 188 i rfl rfl).trans ((fun i hi => (zup_ni _ _ (by omega)).trans (o_m137 i hi)) i hi))), (show st 170 34 ≤ s255 170 34 from by omega)⟩
  have m110 : ∀ (a : Int) (f : Int) (s_m110 : zS), gInv zgt s_m110 ∧ aFr m_operand st s_m110 ∧ (s_m110 170 4 ≤ s_m110 170 5 ∧ s_m110 170 5 ≤ s_m110 170 2 ∧ (s_m110 170 3 = 0 ∧ s_m110 170 4 = s_m110 170 2 ∨ 1 ≤ s_m110 170 3 ∧ s_m110 170 4 < s_m110 170 5)) ∧ (s_m110 170 4 = st 170 4 ∧ s_m110 170 5 = st 170 5 ∧ s_m110 170 3 = st 170 3) ∧ (PF s_m110 0 (st 170 4)) ∧ (∀ i : Nat, (i : Int) < 1600 * st 170 35 + st 170 34 ∨ 1600 * st 170 35 + 1600 ≤ (i : Int) → s_m110 188 i = st 188 i) ∧ (s_m110 170 34 = st 170 34) ∧ (f = s_m110 170 42 - 1 ∧ s_m110 170 8 = 0) ∧ (a = 0 ∨ a = 1) → K (rx_find rx_m196 110) [(2, .inl a), (0, .inr (.inr (.inl 170))), (1, .inl f)] [] s_m110 := by
    intro a f s_m110 hi
    obtain ⟨gI_m110, fI_m110, lx_m110, sm_m110, pf_m110, o_m110, c_m110, f_m110, a_m110⟩ := hi
    have PF1 := PF_f pf_m110
    have g265 := g_signAt gI_m110
    have g266 := g_signEnd gI_m110
    have g268 := g_size hG
    have e267 : s_m110 170 2 = st 170 2 := fI_m110 170 2 rfl rfl
    have g269 := g_sign gI_m110
    have g270 := g_signAt hG
    have g271 := g_signEnd hG
    have g272 := g_sign hG
    have g273 := g_in hG
    have g274 := g_codes hG
    have g275 := g_codes gI_m110
    have g276 := g_deep gI_m110
    have g277 := g_faultKind gI_m110
    have e278 : s_m110 170 35 = st 170 35 := fI_m110 170 35 rfl rfl
    have g279 := g_open gI_m110
    have g280 := g_opMany gI_m110
    refine yr1_ok (Rt := Q) (wc := (wcL [(181, k_lex), (195, k_isTest), (183, k_isWord), (182, k_isSign), (178, k_blame), (192, k_holdsBack), (149, k_ahead), (189, k_add), (194, k_opens)])) (stp := [110, 137, 171, 217, 249, 276, 289, 456, 482]) hcm hcl [] 400 ?_
    show ((0 ≤ f ∧ f < 20) ∧ ((0 = (0 : Int) ∨ 0 = (1 : Int)) ∧ ((a = (0 : Int) → K (rx_find rx_m196 137) [(2, .inl a), (0, .inr (.inr (.inl 170))), (1, .inl f)] [] (zup s_m110 194 (f : Int).toNat 0)) ∧ (¬ (a = (0 : Int)) → (170 = 170 ∧ (∀ (r281 : Int), en_isSign (91) (zup s_m110 194 (f : Int).toNat 0) r281 → ((r281 = (0 : Int) → K (rx_find rx_m196 137) [(2, .inl a), (0, .inr (.inr (.inl 170))), (1, .inl f)] [] (zup s_m110 194 (f : Int).toNat 0)) ∧ (¬ (r281 = (0 : Int)) → (170 = 170 ∧ (rq_opens (5) (zup s_m110 194 (f : Int).toNat 0) ∧ (∀ (s282 : zS), en_opens (5) (zup s_m110 194 (f : Int).toNat 0) s282 → ((0 = (0 : Int) ∨ 0 = (1 : Int)) ∧ Q (some (.inl 0)) s282))))))))))))
    refine ⟨by omega, ?_⟩
    refine ⟨by omega, ?_⟩
    refine ⟨fun h283 => ?_, fun h283 => ?_⟩
    · have g285 := g_begins gI_m110 (s_m110 170 42 - 1 : Int).toNat
      have u284 : ((s_m110 170 42 - 1 : Int).toNat = (f : Int).toNat → (zup s_m110 194 (f : Int).toNat 0) 194 (s_m110 170 42 - 1 : Int).toNat = 0) ∧ (¬ (s_m110 170 42 - 1 : Int).toNat = (f : Int).toNat → (zup s_m110 194 (f : Int).toNat 0) 194 (s_m110 170 42 - 1 : Int).toNat = s_m110 194 (s_m110 170 42 - 1 : Int).toNat) := zup_two _ _ _ _ _
      exact m137 a f (zup s_m110 194 (f : Int).toNat 0) ⟨(gInv_up gI_m110 (p_begins (by omega))), (fr_a fI_m110 rfl), (show s_m110 170 4 ≤ s_m110 170 5 ∧ s_m110 170 5 ≤ s_m110 170 2 ∧ (s_m110 170 3 = 0 ∧ s_m110 170 4 = s_m110 170 2 ∨ 1 ≤ s_m110 170 3 ∧ s_m110 170 4 < s_m110 170 5) from by omega), (show s_m110 170 4 = st 170 4 ∧ s_m110 170 5 = st 170 5 ∧ s_m110 170 3 = st 170 3 from by omega), (show PF (zup s_m110 194 (f : Int).toNat 0) 0 (st 170 4) from (PF_bg0 pf_m110 (by omega))), (show ∀ i : Nat, (i : Int) < 1600 * st 170 35 + st 170 34 ∨ 1600 * st 170 35 + 1600 ≤ (i : Int) → (zup s_m110 194 (f : Int).toNat 0) 188 i = st 188 i from o_m110), (show s_m110 170 34 = st 170 34 from by omega), (show f = s_m110 170 42 - 1 ∧ s_m110 170 8 = 0 from by omega), (show (zup s_m110 194 (f : Int).toNat 0) 194 (s_m110 170 42 - 1 : Int).toNat = 0 from by omega), (show a = 0 ∨ a = 1 from by omega)⟩
    · refine ⟨rfl, fun r281 q281 => ?_⟩
      have b281 := q281
      change (r281 = 0 ∨ r281 = 1) ∧ (r281 = 1 ↔ s_m110 170 3 = 3 ∧ s_m110 170 6 = (91)) at b281
      have g286 := g_value gI_m110
      refine ⟨fun h287 => ?_, fun h287 => ?_⟩
      · have g289 := g_begins gI_m110 (s_m110 170 42 - 1 : Int).toNat
        have u288 : ((s_m110 170 42 - 1 : Int).toNat = (f : Int).toNat → (zup s_m110 194 (f : Int).toNat 0) 194 (s_m110 170 42 - 1 : Int).toNat = 0) ∧ (¬ (s_m110 170 42 - 1 : Int).toNat = (f : Int).toNat → (zup s_m110 194 (f : Int).toNat 0) 194 (s_m110 170 42 - 1 : Int).toNat = s_m110 194 (s_m110 170 42 - 1 : Int).toNat) := zup_two _ _ _ _ _
        exact m137 a f (zup s_m110 194 (f : Int).toNat 0) ⟨(gInv_up gI_m110 (p_begins (by omega))), (fr_a fI_m110 rfl), (show s_m110 170 4 ≤ s_m110 170 5 ∧ s_m110 170 5 ≤ s_m110 170 2 ∧ (s_m110 170 3 = 0 ∧ s_m110 170 4 = s_m110 170 2 ∨ 1 ≤ s_m110 170 3 ∧ s_m110 170 4 < s_m110 170 5) from by omega), (show s_m110 170 4 = st 170 4 ∧ s_m110 170 5 = st 170 5 ∧ s_m110 170 3 = st 170 3 from by omega), (show PF (zup s_m110 194 (f : Int).toNat 0) 0 (st 170 4) from (PF_bg0 pf_m110 (by omega))), (show ∀ i : Nat, (i : Int) < 1600 * st 170 35 + st 170 34 ∨ 1600 * st 170 35 + 1600 ≤ (i : Int) → (zup s_m110 194 (f : Int).toNat 0) 188 i = st 188 i from o_m110), (show s_m110 170 34 = st 170 34 from by omega), (show f = s_m110 170 42 - 1 ∧ s_m110 170 8 = 0 from by omega), (show (zup s_m110 194 (f : Int).toNat 0) 194 (s_m110 170 42 - 1 : Int).toNat = 0 from by omega), (show a = 0 ∨ a = 1 from by omega)⟩
      · have g291 := g_begins gI_m110 (s_m110 170 42 - 1 : Int).toNat
        have u290 : ((s_m110 170 42 - 1 : Int).toNat = (f : Int).toNat → (zup s_m110 194 (f : Int).toNat 0) 194 (s_m110 170 42 - 1 : Int).toNat = 0) ∧ (¬ (s_m110 170 42 - 1 : Int).toNat = (f : Int).toNat → (zup s_m110 194 (f : Int).toNat 0) 194 (s_m110 170 42 - 1 : Int).toNat = s_m110 194 (s_m110 170 42 - 1 : Int).toNat) := zup_two _ _ _ _ _
        refine ⟨rfl, ⟨(gInv_up gI_m110 (p_begins (by omega))), (show s_m110 170 4 ≤ s_m110 170 5 ∧ s_m110 170 5 ≤ s_m110 170 2 ∧ (s_m110 170 3 = 0 ∧ s_m110 170 4 = s_m110 170 2 ∨ 1 ≤ s_m110 170 3 ∧ s_m110 170 4 < s_m110 170 5) from by omega), (show s_m110 170 8 = 0 → PF (zup s_m110 194 (f : Int).toNat 0) 0 (s_m110 170 4) ∧ 1 ≤ s_m110 170 3 from fun _ => ⟨PF_q (PF_bg0 pf_m110 (by omega)) (by omega) (by omega), by omega⟩), (show 2 ≤ (5) ∧ (5) ≤ 6 from by omega), (show (zup s_m110 194 (f : Int).toNat 0) 194 (s_m110 170 42 - 1 : Int).toNat = 0 from by omega)⟩, fun s282 q282 => ?_⟩
        obtain ⟨gs282, fs282, p282, pw282, dd282⟩ := q282
        change s282 170 4 ≤ s282 170 5 ∧ s282 170 5 ≤ s282 170 2 ∧ (s282 170 3 = 0 ∧ s282 170 4 = s282 170 2 ∨ 1 ≤ s282 170 3 ∧ s282 170 4 < s282 170 5) ∧ s_m110 170 4 ≤ s282 170 4 ∧ (s282 170 8 = 0 → s_m110 170 8 = 0 ∧ s_m110 170 5 ≤ s282 170 4 ∧ 1 ≤ s_m110 170 3) at p282
        have g292 := g_signAt gs282
        have g293 := g_signEnd gs282
        have e294 : s282 170 2 = s_m110 170 2 := fs282 170 2 rfl rfl
        have g295 := g_sign gs282
        have g296 := g_faultKind gs282
        change s282 170 8 = 0 → PW s282 0 0 (s282 170 4) ∧ s282 192 (s282 170 42 - 1 : Int).toNat = (5) ∧ PHS s282 at pw282
        have g297 := g_deep gs282
        have g298 := g_frame gs282 (s282 170 42 - 1 : Int).toNat
        change s282 170 8 = 0 → 2 ≤ s282 170 42 ∧ s282 170 42 ≤ 8 at dd282
        refine ⟨by omega, ?_⟩
        have e299 : s282 170 34 = s_m110 170 34 := fs282 170 34 rfl rfl
        exact hQ _ _ ⟨gs282, (fr_tr (fr_a fI_m110 rfl) fs282 rfl), (show s282 170 4 ≤ s282 170 5 ∧ s282 170 5 ≤ s282 170 2 ∧ (s282 170 3 = 0 ∧ s282 170 4 = s282 170 2 ∨ 1 ≤ s282 170 3 ∧ s282 170 4 < s282 170 5) ∧ st 170 4 ≤ s282 170 4 from by omega), (show ((0 : Int) = 0 ∨ (0 : Int) = 1) from by omega), (show s282 170 8 = 0 → st 170 5 ≤ s282 170 4 ∧ 1 ≤ st 170 3 ∧ PF s282 (0 : Int) (s282 170 4) from fun z => by
          have z0 := pw282 z
          have z1 := p282
          refine ⟨by omega, by omega, ?_⟩
          have z3 : s282 192 (s282 170 42 - 1 : Int).toNat = 5 := z0.2.1
          refine ⟨?_, ?_, z0.2.2⟩
          · rw [z3]
            exact z0.1
          · rw [z3]
            exact ⟨fun z4 => by omega, fun z4 => by omega⟩), (show ∀ i : Nat, (i : Int) < 1600 * st 170 35 + st 170 34 ∨ 1600 * st 170 35 + 1600 ≤ (i : Int) → s282 188 i = st 188 i from (fun i hi => (fs282 188 i rfl rfl).trans (o_m110 i hi))), (show st 170 34 ≤ s282 170 34 from by omega)⟩
  have m46 : ∀ (a : Int) (f : Int) (s_m46 : zS), gInv zgt s_m46 ∧ aFr m_operand st s_m46 ∧ (s_m46 170 4 ≤ s_m46 170 5 ∧ s_m46 170 5 ≤ s_m46 170 2 ∧ (s_m46 170 3 = 0 ∧ s_m46 170 4 = s_m46 170 2 ∨ 1 ≤ s_m46 170 3 ∧ s_m46 170 4 < s_m46 170 5)) ∧ (s_m46 170 4 = st 170 4 ∧ s_m46 170 5 = st 170 5 ∧ s_m46 170 3 = st 170 3) ∧ (PF s_m46 0 (st 170 4)) ∧ (∀ i : Nat, (i : Int) < 1600 * st 170 35 + st 170 34 ∨ 1600 * st 170 35 + 1600 ≤ (i : Int) → s_m46 188 i = st 188 i) ∧ (s_m46 170 34 = st 170 34) ∧ (f = s_m46 170 42 - 1 ∧ s_m46 170 8 = 0) ∧ ((a = 0 ∨ a = 1) ∧ (a = 1 → s_m46 194 (s_m46 170 42 - 1 : Int).toNat = 1)) → K (rx_find rx_m196 46) [(0, .inr (.inr (.inl 170))), (1, .inl f)] [.inl a] s_m46 := by
    intro a f s_m46 hi
    obtain ⟨gI_m46, fI_m46, lx_m46, sm_m46, pf_m46, o_m46, c_m46, f_m46, a_m46⟩ := hi
    have PF1 := PF_f pf_m46
    have g300 := g_signAt gI_m46
    have g301 := g_signEnd gI_m46
    have g303 := g_size hG
    have e302 : s_m46 170 2 = st 170 2 := fI_m46 170 2 rfl rfl
    have g304 := g_sign gI_m46
    have g305 := g_signAt hG
    have g306 := g_signEnd hG
    have g307 := g_sign hG
    have g308 := g_in hG
    have g309 := g_codes hG
    have g310 := g_codes gI_m46
    have g311 := g_deep gI_m46
    have g312 := g_faultKind gI_m46
    have g313 := g_begins gI_m46 (s_m46 170 42 - 1 : Int).toNat
    have e314 : s_m46 170 35 = st 170 35 := fI_m46 170 35 rfl rfl
    have g315 := g_open gI_m46
    have g316 := g_opMany gI_m46
    refine yr1_ok (Rt := Q) (wc := (wcL [(181, k_lex), (195, k_isTest), (183, k_isWord), (182, k_isSign), (178, k_blame), (192, k_holdsBack), (149, k_ahead), (189, k_add), (194, k_opens)])) (stp := [46, 110, 137, 171, 217, 249, 276, 289, 456, 482]) hcm hcl [] 400 ?_
    show ((a = (0 : Int) → K (rx_find rx_m196 110) [(2, .inl a), (0, .inr (.inr (.inl 170))), (1, .inl f)] [] s_m46) ∧ (¬ (a = (0 : Int)) → (170 = 170 ∧ (∀ (r317 : Int), en_isWord (7237492) s_m46 r317 → ((r317 = (0 : Int) → K (rx_find rx_m196 110) [(2, .inl a), (0, .inr (.inr (.inl 170))), (1, .inl f)] [] s_m46) ∧ (¬ (r317 = (0 : Int)) → ((¬ s_m46 170 43 = (7 : Int) → ((s_m46 170 8 ≤ (0 : Int) → ((-2147483648 ≤ (s_m46 170 43) + 1 ∧ (s_m46 170 43) + 1 ≤ 2147483647) ∧ (170 = 170 ∧ (rq_holdsBack (43) (zup s_m46 170 43 ((s_m46 170 43) + 1)) ∧ ((170 = 170 ∧ (rq_ahead  (zup (zup (zup s_m46 170 43 ((s_m46 170 43) + 1)) 197 (s_m46 170 45 : Int).toNat (43)) 170 45 ((s_m46 170 45) + 1)) ∧ (∀ (s319 : zS), en_ahead  (zup (zup (zup s_m46 170 43 ((s_m46 170 43) + 1)) 197 (s_m46 170 45 : Int).toNat (43)) 170 45 ((s_m46 170 45) + 1)) s319 → ((0 = (0 : Int) ∨ 0 = (1 : Int)) ∧ Q (some (.inl 0)) s319))))))))) ∧ (¬ (s_m46 170 8 ≤ (0 : Int)) → _))) ∧ (¬ (¬ s_m46 170 43 = (7 : Int)) → (170 = 170 ∧ (rq_blame (5) (s_m46 170 4) s_m46 ∧ (∀ (s320 : zS), en_blame (5) (s_m46 170 4) s_m46 s320 → ((s320 170 8 ≤ (0 : Int) → _) ∧ (¬ (s320 170 8 ≤ (0 : Int)) → ((1 = (0 : Int) ∨ 1 = (1 : Int)) ∧ Q (some (.inl 1)) s320))))))))))))))
    refine ⟨fun h321 => ?_, fun h321 => ?_⟩
    · exact m110 a f s_m46 ⟨gI_m46, fI_m46, (show s_m46 170 4 ≤ s_m46 170 5 ∧ s_m46 170 5 ≤ s_m46 170 2 ∧ (s_m46 170 3 = 0 ∧ s_m46 170 4 = s_m46 170 2 ∨ 1 ≤ s_m46 170 3 ∧ s_m46 170 4 < s_m46 170 5) from by omega), (show s_m46 170 4 = st 170 4 ∧ s_m46 170 5 = st 170 5 ∧ s_m46 170 3 = st 170 3 from by omega), (show PF s_m46 0 (st 170 4) from pf_m46), (show ∀ i : Nat, (i : Int) < 1600 * st 170 35 + st 170 34 ∨ 1600 * st 170 35 + 1600 ≤ (i : Int) → s_m46 188 i = st 188 i from o_m46), (show s_m46 170 34 = st 170 34 from by omega), (show f = s_m46 170 42 - 1 ∧ s_m46 170 8 = 0 from by omega), (show a = 0 ∨ a = 1 from by omega)⟩
    · refine ⟨rfl, fun r317 q317 => ?_⟩
      have b317 := q317
      change (r317 = 0 ∨ r317 = 1) ∧ (r317 = 1 ↔ s_m46 170 3 = 1 ∧ s_m46 170 7 = (7237492)) at b317
      have g322 := g_word gI_m46
      refine ⟨fun h323 => ?_, fun h323 => ?_⟩
      · exact m110 a f s_m46 ⟨gI_m46, fI_m46, (show s_m46 170 4 ≤ s_m46 170 5 ∧ s_m46 170 5 ≤ s_m46 170 2 ∧ (s_m46 170 3 = 0 ∧ s_m46 170 4 = s_m46 170 2 ∨ 1 ≤ s_m46 170 3 ∧ s_m46 170 4 < s_m46 170 5) from by omega), (show s_m46 170 4 = st 170 4 ∧ s_m46 170 5 = st 170 5 ∧ s_m46 170 3 = st 170 3 from by omega), (show PF s_m46 0 (st 170 4) from pf_m46), (show ∀ i : Nat, (i : Int) < 1600 * st 170 35 + st 170 34 ∨ 1600 * st 170 35 + 1600 ≤ (i : Int) → s_m46 188 i = st 188 i from o_m46), (show s_m46 170 34 = st 170 34 from by omega), (show f = s_m46 170 42 - 1 ∧ s_m46 170 8 = 0 from by omega), (show a = 0 ∨ a = 1 from by omega)⟩
      · refine ⟨fun h324 => ?_, fun h324 => ?_⟩
        · refine ⟨fun h325 => ?_, fun h325 => (by exfalso; omega)⟩
          refine ⟨by omega, ?_⟩
          refine ⟨rfl, ⟨(gInv_up gI_m46 (p_open (by omega))), (show 0 ≤ s_m46 170 45 ∧ s_m46 170 45 ≤ 499 from by omega)⟩, ?_⟩
          refine ⟨rfl, ⟨(gInv_up (gInv_up (gInv_up gI_m46 (p_open (by omega))) (p_ops (by omega))) (p_opMany (by omega))), (show s_m46 170 5 ≤ s_m46 170 2 from by omega)⟩, fun s319 q319 => ?_⟩
          obtain ⟨gs319, fs319, p319⟩ := q319
          change s319 170 4 ≤ s319 170 5 ∧ s319 170 5 ≤ s319 170 2 ∧ (s319 170 3 = 0 ∧ s319 170 4 = s319 170 2 ∨ 1 ≤ s319 170 3 ∧ s319 170 4 < s319 170 5) ∧ s_m46 170 5 ≤ s319 170 4 at p319
          have g326 := g_signAt gs319
          have g327 := g_signEnd gs319
          have e328 : s319 170 2 = s_m46 170 2 := fs319 170 2 rfl rfl
          have g329 := g_sign gs319
          refine ⟨by omega, ?_⟩
          have e330 : s319 170 8 = s_m46 170 8 := fs319 170 8 rfl rfl
          have e331 : s319 170 34 = s_m46 170 34 := fs319 170 34 rfl rfl
          exact hQ _ _ ⟨gs319, (fr_tr (fr_f (fr_a (fr_f fI_m46 rfl) rfl) rfl) fs319 rfl), (show s319 170 4 ≤ s319 170 5 ∧ s319 170 5 ≤ s319 170 2 ∧ (s319 170 3 = 0 ∧ s319 170 4 = s319 170 2 ∨ 1 ≤ s319 170 3 ∧ s319 170 4 < s319 170 5) ∧ st 170 4 ≤ s319 170 4 from by omega), (show ((0 : Int) = 0 ∨ (0 : Int) = 1) from by omega), (show s319 170 8 = 0 → st 170 5 ≤ s319 170 4 ∧ 1 ≤ st 170 3 ∧ PF s319 (0 : Int) (s319 170 4) from fun z => ⟨by omega, by omega, PF_fr rfl fs319 (show PF (zup (zup (zup s_m46 170 43 ((s_m46 170 43) + 1)) 197 (s_m46 170 45 : Int).toNat (43)) 170 45 ((s_m46 170 45) + 1)) 0 (s319 170 4) from ⟨show PI (s_m46 170 35) (s_m46 170 34) (((s_m46 170 45) + 1)) (s_m46 170 42) (((s_m46 170 43) + 1)) 0 (pa (s_m46 192 ((s_m46 170 42) - 1 : Int).toNat) (s_m46 195 ((s_m46 170 42) - 1 : Int).toNat)) (s319 170 4) (up1 (s_m46 197) (s_m46 170 45 : Int).toNat (43)) (s_m46 196) (s_m46 192) (s_m46 195) (s_m46 194) (s_m46 188) (f0s s_m46) from PI_not pf_m46.1 (by omega) (by omega) (by omega), pf_m46.2.1, show PH (s_m46 170 42) (((s_m46 170 45) + 1)) (up1 (s_m46 197) (s_m46 170 45 : Int).toNat (43)) (s_m46 196) (s_m46 193) from PH_hold pf_m46.2.2 (by omega) (by omega) (PF_b pf_m46).1 (PF_b pf_m46).2 (fun _ _ => rfl) (pnot pf_m46 (by omega)) (fun z1 => ⟨by omega, fun i z2 z3 => (pf_m46.2.2 _ i (by omega) z2 z3 (fun z4 => by omega)).1 z1⟩)⟩)⟩), (show ∀ i : Nat, (i : Int) < 1600 * st 170 35 + st 170 34 ∨ 1600 * st 170 35 + 1600 ≤ (i : Int) → s319 188 i = st 188 i from (fun i hi => (fs319 188 i rfl rfl).trans (o_m46 i hi))), (show st 170 34 ≤ s319 170 34 from by omega)⟩
        · refine ⟨rfl, ⟨gI_m46, (show 1 ≤ (5) ∧ (5) ≤ 6 from by omega), (show -2147483648 ≤ (s_m46 170 4) ∧ (s_m46 170 4) ≤ 2147483647 from by omega)⟩, fun s320 q320 => ?_⟩
          obtain ⟨gs320, fs320, p320⟩ := q320
          change (s_m46 170 8 = 0 → s320 170 8 = (5)) ∧ (0 < s_m46 170 8 → s320 170 8 = s_m46 170 8) at p320
          have g332 := g_faultKind gs320
          refine ⟨fun h333 => (by exfalso; omega), fun h333 => ?_⟩
          refine ⟨by omega, ?_⟩
          have e334 : s320 170 4 = s_m46 170 4 := fs320 170 4 rfl rfl
          have e335 : s320 170 5 = s_m46 170 5 := fs320 170 5 rfl rfl
          have e336 : s320 170 2 = s_m46 170 2 := fs320 170 2 rfl rfl
          have e337 : s320 170 3 = s_m46 170 3 := fs320 170 3 rfl rfl
          have e338 : s320 170 34 = s_m46 170 34 := fs320 170 34 rfl rfl
          exact hQ _ _ ⟨gs320, (fr_tr fI_m46 fs320 rfl), (show s320 170 4 ≤ s320 170 5 ∧ s320 170 5 ≤ s320 170 2 ∧ (s320 170 3 = 0 ∧ s320 170 4 = s320 170 2 ∨ 1 ≤ s320 170 3 ∧ s320 170 4 < s320 170 5) ∧ st 170 4 ≤ s320 170 4 from by omega), (show ((1 : Int) = 0 ∨ (1 : Int) = 1) from by omega), (show s320 170 8 = 0 → st 170 5 ≤ s320 170 4 ∧ 1 ≤ st 170 3 ∧ PF s320 (1 : Int) (s320 170 4) from fun z => absurd z (by omega)), (show ∀ i : Nat, (i : Int) < 1600 * st 170 35 + st 170 34 ∨ 1600 * st 170 35 + 1600 ≤ (i : Int) → s320 188 i = st 188 i from (fun i hi => (fs320 188 i rfl rfl).trans (o_m46 i hi))), (show st 170 34 ≤ s320 170 34 from by omega)⟩
  have g339 := g_signAt hG
  have g340 := g_signEnd hG
  have g341 := g_size hG
  have g342 := g_sign hG
  have g343 := g_faultKind hG
  have PF0 := PF_f pf
  have g344 := g_codes hG
  have g345 := g_in hG
  have g346 := g_deep hG
  have g347 := g_open hG
  have g348 := g_opMany hG
  refine yr1_ok (Rt := Q) (wc := (wcL [(181, k_lex), (195, k_isTest), (183, k_isWord), (182, k_isSign), (178, k_blame), (192, k_holdsBack), (149, k_ahead), (189, k_add), (194, k_opens)])) (stp := [46, 110, 137, 171, 217, 249, 276, 289, 456, 482]) hcm hcl [] 400 ?_
  show (170 = 170 ∧ (rq_lex  st ∧ (∀ (s349 : zS), en_lex  st s349 → ((s349 170 8 ≤ (0 : Int) → ((-2147483648 ≤ (s349 170 42) - 1 ∧ (s349 170 42) - 1 ≤ 2147483647) ∧ ((0 ≤ (s349 170 42) - 1 ∧ (s349 170 42) - 1 < 20) ∧ (∀ (r350 : Int), en_isTest (s349 192 ((s349 170 42) - 1 : Int).toNat) s349 r350 → ((r350 = (0 : Int) → K (rx_find rx_m196 46) [(1, .inl ((s349 170 42) - 1)), (0, .inr (.inr (.inl 170)))] [.inl 0] s349) ∧ (¬ (r350 = (0 : Int)) → ((0 ≤ (s349 170 42) - 1 ∧ (s349 170 42) - 1 < 20) ∧ ((s349 194 ((s349 170 42) - 1 : Int).toNat = (0 : Int) → K (rx_find rx_m196 46) [(1, .inl ((s349 170 42) - 1)), (0, .inr (.inr (.inl 170)))] [.inl 0] s349) ∧ (¬ (s349 194 ((s349 170 42) - 1 : Int).toNat = (0 : Int)) → K (rx_find rx_m196 46) [(1, .inl ((s349 170 42) - 1)), (0, .inr (.inr (.inl 170)))] [.inl 1] s349))))))))) ∧ (¬ (s349 170 8 ≤ (0 : Int)) → ((1 = (0 : Int) ∨ 1 = (1 : Int)) ∧ Q (some (.inl 1)) s349))))))
  refine ⟨rfl, hG, fun s349 q349 => ?_⟩
  obtain ⟨gs349, fs349, p349⟩ := q349
  change 0 < st 170 8 → 0 < s349 170 8 at p349
  have g351 := g_faultKind gs349
  refine ⟨fun h352 => ?_, fun h352 => ?_⟩
  · have e353 : s349 170 42 = st 170 42 := fs349 170 42 rfl rfl
    refine ⟨by omega, ?_⟩
    have g355 := g_frame hG ((st 170 42) - 1 : Int).toNat
    have e354 : s349 192 ((s349 170 42) - 1 : Int).toNat = st 192 ((st 170 42) - 1 : Int).toNat := (fs349 192 ((s349 170 42) - 1 : Int).toNat rfl rfl).trans (by rw [e353] <;> rfl)
    refine ⟨by omega, ?_⟩
    refine fun r350 q350 => ?_
    have b350 := q350
    change (r350 = 0 ∨ r350 = 1) ∧ (r350 = 1 ↔ (s349 192 ((s349 170 42) - 1 : Int).toNat) = 1 ∨ (s349 192 ((s349 170 42) - 1 : Int).toNat) = 5 ∨ (s349 192 ((s349 170 42) - 1 : Int).toNat) = 6) at b350
    refine ⟨fun h356 => ?_, fun h356 => ?_⟩
    · have e357 : s349 170 4 = st 170 4 := fs349 170 4 rfl rfl
      have e358 : s349 170 5 = st 170 5 := fs349 170 5 rfl rfl
      have e359 : s349 170 2 = st 170 2 := fs349 170 2 rfl rfl
      have e360 : s349 170 3 = st 170 3 := fs349 170 3 rfl rfl
      have e361 : s349 170 34 = st 170 34 := fs349 170 34 rfl rfl
      have g363 := g_begins hG (st 170 42 - 1 : Int).toNat
      have e362 : s349 194 (s349 170 42 - 1 : Int).toNat = st 194 (st 170 42 - 1 : Int).toNat := (fs349 194 (s349 170 42 - 1 : Int).toNat rfl rfl).trans (by rw [e353] <;> rfl)
      exact hsl _ _ _ _ _ (sb_cons (.tail _ (.head _)) (sb_cons (.head _) sb_nil)) (m46 0 ((s349 170 42) - 1) s349 ⟨gs349, (fr_tr (fr_rf _ _) fs349 rfl), (show s349 170 4 ≤ s349 170 5 ∧ s349 170 5 ≤ s349 170 2 ∧ (s349 170 3 = 0 ∧ s349 170 4 = s349 170 2 ∨ 1 ≤ s349 170 3 ∧ s349 170 4 < s349 170 5) from by omega), (show s349 170 4 = st 170 4 ∧ s349 170 5 = st 170 5 ∧ s349 170 3 = st 170 3 from by omega), (show PF s349 0 (st 170 4) from (PF_fr rfl fs349 pf)), (show ∀ i : Nat, (i : Int) < 1600 * st 170 35 + st 170 34 ∨ 1600 * st 170 35 + 1600 ≤ (i : Int) → s349 188 i = st 188 i from (fun i hi => (fs349 188 i rfl rfl).trans ((fun _ _ => rfl) i hi))), (show s349 170 34 = st 170 34 from by omega), (show ((s349 170 42) - 1) = s349 170 42 - 1 ∧ s349 170 8 = 0 from by omega), (show ((0 : Int) = 0 ∨ (0 : Int) = 1) ∧ ((0 : Int) = 1 → s349 194 (s349 170 42 - 1 : Int).toNat = 1) from by omega)⟩)
    · have g365 := g_begins hG ((st 170 42) - 1 : Int).toNat
      have e364 : s349 194 ((s349 170 42) - 1 : Int).toNat = st 194 ((st 170 42) - 1 : Int).toNat := (fs349 194 ((s349 170 42) - 1 : Int).toNat rfl rfl).trans (by rw [e353] <;> rfl)
      refine ⟨by omega, ?_⟩
      refine ⟨fun h366 => ?_, fun h366 => ?_⟩
      · have e367 : s349 170 4 = st 170 4 := fs349 170 4 rfl rfl
        have e368 : s349 170 5 = st 170 5 := fs349 170 5 rfl rfl
        have e369 : s349 170 2 = st 170 2 := fs349 170 2 rfl rfl
        have e370 : s349 170 3 = st 170 3 := fs349 170 3 rfl rfl
        have e371 : s349 170 34 = st 170 34 := fs349 170 34 rfl rfl
        have g373 := g_begins hG (st 170 42 - 1 : Int).toNat
        have e372 : s349 194 (s349 170 42 - 1 : Int).toNat = st 194 (st 170 42 - 1 : Int).toNat := (fs349 194 (s349 170 42 - 1 : Int).toNat rfl rfl).trans (by rw [e353] <;> rfl)
        exact hsl _ _ _ _ _ (sb_cons (.tail _ (.head _)) (sb_cons (.head _) sb_nil)) (m46 0 ((s349 170 42) - 1) s349 ⟨gs349, (fr_tr (fr_rf _ _) fs349 rfl), (show s349 170 4 ≤ s349 170 5 ∧ s349 170 5 ≤ s349 170 2 ∧ (s349 170 3 = 0 ∧ s349 170 4 = s349 170 2 ∨ 1 ≤ s349 170 3 ∧ s349 170 4 < s349 170 5) from by omega), (show s349 170 4 = st 170 4 ∧ s349 170 5 = st 170 5 ∧ s349 170 3 = st 170 3 from by omega), (show PF s349 0 (st 170 4) from (PF_fr rfl fs349 pf)), (show ∀ i : Nat, (i : Int) < 1600 * st 170 35 + st 170 34 ∨ 1600 * st 170 35 + 1600 ≤ (i : Int) → s349 188 i = st 188 i from (fun i hi => (fs349 188 i rfl rfl).trans ((fun _ _ => rfl) i hi))), (show s349 170 34 = st 170 34 from by omega), (show ((s349 170 42) - 1) = s349 170 42 - 1 ∧ s349 170 8 = 0 from by omega), (show ((0 : Int) = 0 ∨ (0 : Int) = 1) ∧ ((0 : Int) = 1 → s349 194 (s349 170 42 - 1 : Int).toNat = 1) from by omega)⟩)
      · have e374 : s349 170 4 = st 170 4 := fs349 170 4 rfl rfl
        have e375 : s349 170 5 = st 170 5 := fs349 170 5 rfl rfl
        have e376 : s349 170 2 = st 170 2 := fs349 170 2 rfl rfl
        have e377 : s349 170 3 = st 170 3 := fs349 170 3 rfl rfl
        have e378 : s349 170 34 = st 170 34 := fs349 170 34 rfl rfl
        have g380 := g_begins hG (st 170 42 - 1 : Int).toNat
        have e379 : s349 194 (s349 170 42 - 1 : Int).toNat = st 194 (st 170 42 - 1 : Int).toNat := (fs349 194 (s349 170 42 - 1 : Int).toNat rfl rfl).trans (by rw [e353] <;> rfl)
        exact hsl _ _ _ _ _ (sb_cons (.tail _ (.head _)) (sb_cons (.head _) sb_nil)) (m46 1 ((s349 170 42) - 1) s349 ⟨gs349, (fr_tr (fr_rf _ _) fs349 rfl), (show s349 170 4 ≤ s349 170 5 ∧ s349 170 5 ≤ s349 170 2 ∧ (s349 170 3 = 0 ∧ s349 170 4 = s349 170 2 ∨ 1 ≤ s349 170 3 ∧ s349 170 4 < s349 170 5) from by omega), (show s349 170 4 = st 170 4 ∧ s349 170 5 = st 170 5 ∧ s349 170 3 = st 170 3 from by omega), (show PF s349 0 (st 170 4) from (PF_fr rfl fs349 pf)), (show ∀ i : Nat, (i : Int) < 1600 * st 170 35 + st 170 34 ∨ 1600 * st 170 35 + 1600 ≤ (i : Int) → s349 188 i = st 188 i from (fun i hi => (fs349 188 i rfl rfl).trans ((fun _ _ => rfl) i hi))), (show s349 170 34 = st 170 34 from by omega), (show ((s349 170 42) - 1) = s349 170 42 - 1 ∧ s349 170 8 = 0 from by omega), (show ((1 : Int) = 0 ∨ (1 : Int) = 1) ∧ ((1 : Int) = 1 → s349 194 (s349 170 42 - 1 : Int).toNat = 1) from by omega)⟩)
  · refine ⟨by omega, ?_⟩
    have e381 : s349 170 4 = st 170 4 := fs349 170 4 rfl rfl
    have e382 : s349 170 5 = st 170 5 := fs349 170 5 rfl rfl
    have e383 : s349 170 2 = st 170 2 := fs349 170 2 rfl rfl
    have e384 : s349 170 3 = st 170 3 := fs349 170 3 rfl rfl
    have e385 : s349 170 34 = st 170 34 := fs349 170 34 rfl rfl
    exact hQ _ _ ⟨gs349, (fr_tr (fr_rf _ _) fs349 rfl), (show s349 170 4 ≤ s349 170 5 ∧ s349 170 5 ≤ s349 170 2 ∧ (s349 170 3 = 0 ∧ s349 170 4 = s349 170 2 ∨ 1 ≤ s349 170 3 ∧ s349 170 4 < s349 170 5) ∧ st 170 4 ≤ s349 170 4 from by omega), (show ((1 : Int) = 0 ∨ (1 : Int) = 1) from by omega), (show s349 170 8 = 0 → st 170 5 ≤ s349 170 4 ∧ 1 ≤ st 170 3 ∧ PF s349 (1 : Int) (s349 170 4) from fun z => absurd z (by omega)), (show ∀ i : Nat, (i : Int) < 1600 * st 170 35 + st 170 34 ∨ 1600 * st 170 35 + 1600 ≤ (i : Int) → s349 188 i = st 188 i from (fun i hi => (fs349 188 i rfl rfl).trans ((fun _ _ => rfl) i hi))), (show st 170 34 ≤ s349 170 34 from by omega)⟩
theorem k_operand_m (hTb : aTb zSh rx_tb cl) {D : Nat} (hD : 4 ≤ D) : ∀ as st (Q Q' : zQ), (∀ r st', Q r st' → Q' r st') → k_operand 196 as st Q → cl D 196 as st Q' := by
  intro as st Q Q' hQ h
  unfold k_operand at h
  split at h
  · obtain ⟨rfl, h⟩ := h
    exact c_operand hTb hD (ct_operand_m hQ h)
  · exact h.elim
end R69
