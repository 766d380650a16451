/-! printed by wip/p32/lib5.py -/
section R6b
variable {cl : Nat → zCall}
set_option maxHeartbeats 40000000 in
set_option maxRecDepth 100000 in
theorem c_goesOn (hTb : aTb zSh rx_tb cl) {D : Nat} (hD : 3 ≤ D) {st : zS} {Q : zQ} (h : ct_goesOn  st Q) : cl D 197 [.inr (.inr (.inl 170))] st Q := by
  obtain ⟨d, rfl⟩ : ∃ d, D = d + 1 := ⟨D - 1, by omega⟩
  refine hTb d 197 (rx_m197, 5, 0, 0, 2) rfl _ _ _ (Nat.le_of_ble_eq_true rfl) (fun K hcl hsf hsl => ?_)
  have hcm : zmo (wcL [(181, k_lex), (195, k_isTest), (183, k_isWord), (182, k_isSign), (178, k_blame), (192, k_holdsBack), (149, k_ahead), (189, k_add), (191, k_joins)]) (cl d) := (wcL_m (wm_cons (k_lex_m hTb (by omega)) (wm_cons (k_isTest_m hTb (by omega)) (wm_cons (k_isWord_m hTb (by omega)) (wm_cons (k_isSign_m hTb (by omega)) (wm_cons (k_blame_m hTb (by omega)) (wm_cons (k_holdsBack_m hTb (by omega)) (wm_cons (k_ahead_m hTb (by omega)) (wm_cons (k_add_m hTb (by omega)) (wm_cons (k_joins_m hTb (by omega)) wm_nil))))))))))
  obtain ⟨hR, hQ⟩ := h
  have hX : cx_goesOn cl d  st Q K := ⟨hcl, hsl, hcm, hR, hQ⟩
  obtain ⟨hG, lx, pf, f0⟩ := hR
  change st 170 4 ≤ st 170 5 ∧ st 170 5 ≤ st 170 2 ∧ (st 170 3 = 0 ∧ st 170 4 = st 170 2 ∨ 1 ≤ st 170 3 ∧ st 170 4 < st 170 5) at lx
  change PF st 1 (st 170 4) at pf
  change st 170 8 = 0 ∧ st 170 46 = 1 at f0
  have g656 := g_signAt hG
  have g657 := g_signEnd hG
  have g658 := g_size hG
  have g659 := g_sign hG
  have g660 := g_faultKind hG
  have g661 := g_operand hG
  have PF0 := PF_f pf
  have g662 := g_codes hG
  have g663 := g_in hG
  have g664 := g_deep hG
  have g665 := g_open hG
  have g666 := g_opMany hG
  refine yr1_ok (Rt := Q) (wc := (wcL [(181, k_lex), (195, k_isTest), (183, k_isWord), (182, k_isSign), (178, k_blame), (192, k_holdsBack), (149, k_ahead), (189, k_add), (191, k_joins)])) (stp := [87, 112, 174, 188, 228, 264, 285, 309, 356, 372, 400, 422, 452, 470, 518, 531, 546]) hcm hcl [] 400 ?_
  show (170 = 170 ∧ (rq_lex  st ∧ (∀ (s667 : zS), en_lex  st s667 → ((s667 170 8 ≤ (0 : Int) → ((-2147483648 ≤ (s667 170 42) - 1 ∧ (s667 170 42) - 1 ≤ 2147483647) ∧ ((0 ≤ (s667 170 42) - 1 ∧ (s667 170 42) - 1 < 20) ∧ (∀ (r668 : Int), en_isTest (s667 192 ((s667 170 42) - 1 : Int).toNat) s667 r668 → ((0 ≤ (s667 170 42) - 1 ∧ (s667 170 42) - 1 < 20) ∧ (((2 : Int) ≤ s667 193 ((s667 170 42) - 1 : Int).toNat → K (rx_find rx_m197 188) [(3, .inl r668), (2, .inl (s667 192 ((s667 170 42) - 1 : Int).toNat)), (1, .inl ((s667 170 42) - 1)), (0, .inr (.inr (.inl 170)))] [] s667) ∧ (¬ ((2 : Int) ≤ s667 193 ((s667 170 42) - 1 : Int).toNat) → (170 = 170 ∧ (∀ (r669 : Int), en_isSign (43) s667 r669 → ((¬ r669 = (0 : Int) → K (rx_find rx_m197 87) [(3, .inl r668), (2, .inl (s667 192 ((s667 170 42) - 1 : Int).toNat)), (1, .inl ((s667 170 42) - 1)), (0, .inr (.inr (.inl 170)))] [] s667) ∧ (¬ (¬ r669 = (0 : Int)) → (170 = 170 ∧ (∀ (r670 : Int), en_isSign (45) s667 r670 → ((¬ r670 = (0 : Int) → K (rx_find rx_m197 87) [(3, .inl r668), (2, .inl (s667 192 ((s667 170 42) - 1 : Int).toNat)), (1, .inl ((s667 170 42) - 1)), (0, .inr (.inr (.inl 170)))] [] s667) ∧ (¬ (¬ r670 = (0 : Int)) → (170 = 170 ∧ (∀ (r671 : Int), en_isSign (42) s667 r671 → ((¬ r671 = (0 : Int) → K (rx_find rx_m197 87) [(3, .inl r668), (2, .inl (s667 192 ((s667 170 42) - 1 : Int).toNat)), (1, .inl ((s667 170 42) - 1)), (0, .inr (.inr (.inl 170)))] [] s667) ∧ (¬ (¬ r671 = (0 : Int)) → (170 = 170 ∧ (∀ (r672 : Int), en_isSign (47) s667 r672 → ((¬ r672 = (0 : Int) → K (rx_find rx_m197 87) [(3, .inl r668), (2, .inl (s667 192 ((s667 170 42) - 1 : Int).toNat)), (1, .inl ((s667 170 42) - 1)), (0, .inr (.inr (.inl 170)))] [] s667) ∧ (¬ (¬ r672 = (0 : Int)) → (170 = 170 ∧ (∀ (r673 : Int), en_isSign (37) s667 r673 → ((r673 = (0 : Int) → K (rx_find rx_m197 188) [(3, .inl r668), (2, .inl (s667 192 ((s667 170 42) - 1 : Int).toNat)), (1, .inl ((s667 170 42) - 1)), (0, .inr (.inr (.inl 170)))] [] s667) ∧ (¬ (r673 = (0 : Int)) → K (rx_find rx_m197 87) [(3, .inl r668), (2, .inl (s667 192 ((s667 170 42) - 1 : Int).toNat)), (1, .inl ((s667 170 42) - 1)), (0, .inr (.inr (.inl 170)))] [] s667))))))))))))))))))))))))))) ∧ (¬ (s667 170 8 ≤ (0 : Int)) → ((0 = (0 : Int) ∨ 0 = (1 : Int)) ∧ Q (some (.inl 0)) s667))))))
  refine ⟨rfl, hG, fun s667 q667 => ?_⟩
  obtain ⟨gs667, fs667, p667⟩ := q667
  change 0 < st 170 8 → 0 < s667 170 8 at p667
  have g674 := g_faultKind gs667
  refine ⟨fun h675 => ?_, fun h675 => ?_⟩
  · have e676 : s667 170 42 = st 170 42 := fs667 170 42 rfl rfl
    refine ⟨by omega, ?_⟩
    have g678 := g_frame hG ((st 170 42) - 1 : Int).toNat
    have e677 : s667 192 ((s667 170 42) - 1 : Int).toNat = st 192 ((st 170 42) - 1 : Int).toNat := (fs667 192 ((s667 170 42) - 1 : Int).toNat rfl rfl).trans (by rw [e676] <;> rfl)
    refine ⟨by omega, ?_⟩
    refine fun r668 q668 => ?_
    have b668 := q668
    change (r668 = 0 ∨ r668 = 1) ∧ (r668 = 1 ↔ (s667 192 ((s667 170 42) - 1 : Int).toNat) = 1 ∨ (s667 192 ((s667 170 42) - 1 : Int).toNat) = 5 ∨ (s667 192 ((s667 170 42) - 1 : Int).toNat) = 6) at b668
    clear b668
    have g680 := g_phase hG ((st 170 42) - 1 : Int).toNat
    have e679 : s667 193 ((s667 170 42) - 1 : Int).toNat = st 193 ((st 170 42) - 1 : Int).toNat := (fs667 193 ((s667 170 42) - 1 : Int).toNat rfl rfl).trans (by rw [e676] <;> rfl)
    refine ⟨by omega, ?_⟩
    refine ⟨fun h681 => ?_, fun h681 => ?_⟩
    · have e682 : s667 170 4 = st 170 4 := fs667 170 4 rfl rfl
      have e683 : s667 170 5 = st 170 5 := fs667 170 5 rfl rfl
      have e684 : s667 170 2 = st 170 2 := fs667 170 2 rfl rfl
      have e685 : s667 170 3 = st 170 3 := fs667 170 3 rfl rfl
      have e686 : s667 170 34 = st 170 34 := fs667 170 34 rfl rfl
      have g688 := g_frame hG (st 170 42 - 1 : Int).toNat
      have e687 : s667 192 (s667 170 42 - 1 : Int).toNat = st 192 (st 170 42 - 1 : Int).toNat := (fs667 192 (s667 170 42 - 1 : Int).toNat rfl rfl).trans (by rw [e676] <;> rfl)
      have e689 : s667 170 46 = st 170 46 := fs667 170 46 rfl rfl
      exact goesOn_m188 hX r668 (s667 192 ((s667 170 42) - 1 : Int).toNat) ((s667 170 42) - 1) s667 ⟨gs667, (fr_tr (fr_rf _ _) fs667 rfl), (show s667 170 4 ≤ s667 170 5 ∧ s667 170 5 ≤ s667 170 2 ∧ (s667 170 3 = 0 ∧ s667 170 4 = s667 170 2 ∨ 1 ≤ s667 170 3 ∧ s667 170 4 < s667 170 5) from by omega), (show s667 170 4 = st 170 4 ∧ s667 170 5 = st 170 5 ∧ s667 170 3 = st 170 3 from by omega), (show PF s667 1 (st 170 4) from (PF_fr rfl fs667 pf)), (show ∀ i : Nat, (i : Int) < 1600 * st 170 35 + st 170 34 ∨ 1600 * st 170 35 + 1600 ≤ (i : Int) → s667 188 i = st 188 i from (fun i hi => (fs667 188 i rfl rfl).trans ((fun _ _ => rfl) i hi))), (show st 170 34 ≤ s667 170 34 from by omega), (show ((s667 170 42) - 1) = s667 170 42 - 1 from by omega), (show (s667 192 ((s667 170 42) - 1 : Int).toNat) = s667 192 (s667 170 42 - 1 : Int).toNat from by omega), (show s667 170 46 = 1 from by omega), (show s667 170 8 = 0 from by omega)⟩
    · refine ⟨rfl, fun r669 q669 => ?_⟩
      have b669 := q669
      change (r669 = 0 ∨ r669 = 1) ∧ (r669 = 1 ↔ s667 170 3 = 3 ∧ s667 170 6 = (43)) at b669
      have e690 : s667 170 3 = st 170 3 := fs667 170 3 rfl rfl
      have g692 := g_value hG
      have e691 : s667 170 6 = st 170 6 := fs667 170 6 rfl rfl
      refine ⟨fun h693 => ?_, fun h693 => ?_⟩
      · have b669_ : r669 = 1 := by omega
        replace b669 := b669.2.mp b669_
        have e694 : s667 170 4 = st 170 4 := fs667 170 4 rfl rfl
        have e695 : s667 170 5 = st 170 5 := fs667 170 5 rfl rfl
        have e696 : s667 170 2 = st 170 2 := fs667 170 2 rfl rfl
        have e697 : s667 170 34 = st 170 34 := fs667 170 34 rfl rfl
        have g699 := g_frame hG (st 170 42 - 1 : Int).toNat
        have e698 : s667 192 (s667 170 42 - 1 : Int).toNat = st 192 (st 170 42 - 1 : Int).toNat := (fs667 192 (s667 170 42 - 1 : Int).toNat rfl rfl).trans (by rw [e676] <;> rfl)
        have e700 : s667 170 46 = st 170 46 := fs667 170 46 rfl rfl
        exact goesOn_m87 hX r668 (s667 192 ((s667 170 42) - 1 : Int).toNat) ((s667 170 42) - 1) s667 ⟨gs667, (fr_tr (fr_rf _ _) fs667 rfl), (show s667 170 4 ≤ s667 170 5 ∧ s667 170 5 ≤ s667 170 2 ∧ (s667 170 3 = 0 ∧ s667 170 4 = s667 170 2 ∨ 1 ≤ s667 170 3 ∧ s667 170 4 < s667 170 5) from by omega), (show s667 170 4 = st 170 4 ∧ s667 170 5 = st 170 5 ∧ s667 170 3 = st 170 3 from by omega), (show PF s667 1 (st 170 4) from (PF_fr rfl fs667 pf)), (show ∀ i : Nat, (i : Int) < 1600 * st 170 35 + st 170 34 ∨ 1600 * st 170 35 + 1600 ≤ (i : Int) → s667 188 i = st 188 i from (fun i hi => (fs667 188 i rfl rfl).trans ((fun _ _ => rfl) i hi))), (show st 170 34 ≤ s667 170 34 from by omega), (show ((s667 170 42) - 1) = s667 170 42 - 1 from by omega), (show (s667 192 ((s667 170 42) - 1 : Int).toNat) = s667 192 (s667 170 42 - 1 : Int).toNat from by omega), (show s667 170 46 = 1 from by omega), (show s667 170 8 = 0 from by omega), (show s667 170 3 = 3 ∧ (s667 170 6 = 43 ∨ s667 170 6 = 45 ∨ s667 170 6 = 42 ∨ s667 170 6 = 47 ∨ s667 170 6 = 37) from by omega)⟩
      · clear b669
        refine ⟨rfl, fun r670 q670 => ?_⟩
        have b670 := q670
        change (r670 = 0 ∨ r670 = 1) ∧ (r670 = 1 ↔ s667 170 3 = 3 ∧ s667 170 6 = (45)) at b670
        refine ⟨fun h701 => ?_, fun h701 => ?_⟩
        · have b670_ : r670 = 1 := by omega
          replace b670 := b670.2.mp b670_
          have e702 : s667 170 4 = st 170 4 := fs667 170 4 rfl rfl
          have e703 : s667 170 5 = st 170 5 := fs667 170 5 rfl rfl
          have e704 : s667 170 2 = st 170 2 := fs667 170 2 rfl rfl
          have e705 : s667 170 34 = st 170 34 := fs667 170 34 rfl rfl
          have g707 := g_frame hG (st 170 42 - 1 : Int).toNat
          have e706 : s667 192 (s667 170 42 - 1 : Int).toNat = st 192 (st 170 42 - 1 : Int).toNat := (fs667 192 (s667 170 42 - 1 : Int).toNat rfl rfl).trans (by rw [e676] <;> rfl)
          have e708 : s667 170 46 = st 170 46 := fs667 170 46 rfl rfl
          exact goesOn_m87 hX r668 (s667 192 ((s667 170 42) - 1 : Int).toNat) ((s667 170 42) - 1) s667 ⟨gs667, (fr_tr (fr_rf _ _) fs667 rfl), (show s667 170 4 ≤ s667 170 5 ∧ s667 170 5 ≤ s667 170 2 ∧ (s667 170 3 = 0 ∧ s667 170 4 = s667 170 2 ∨ 1 ≤ s667 170 3 ∧ s667 170 4 < s667 170 5) from by omega), (show s667 170 4 = st 170 4 ∧ s667 170 5 = st 170 5 ∧ s667 170 3 = st 170 3 from by omega), (show PF s667 1 (st 170 4) from (PF_fr rfl fs667 pf)), (show ∀ i : Nat, (i : Int) < 1600 * st 170 35 + st 170 34 ∨ 1600 * st 170 35 + 1600 ≤ (i : Int) → s667 188 i = st 188 i from (fun i hi => (fs667 188 i rfl rfl).trans ((fun _ _ => rfl) i hi))), (show st 170 34 ≤ s667 170 34 from by omega), (show ((s667 170 42) - 1) = s667 170 42 - 1 from by omega), (show (s667 192 ((s667 170 42) - 1 : Int).toNat) = s667 192 (s667 170 42 - 1 : Int).toNat from by omega), (show s667 170 46 = 1 from by omega), (show s667 170 8 = 0 from by omega), (show s667 170 3 = 3 ∧ (s667 170 6 = 43 ∨ s667 170 6 = 45 ∨ s667 170 6 = 42 ∨ s667 170 6 = 47 ∨ s667 170 6 = 37) from by omega)⟩
        · clear b670
          refine ⟨rfl, fun r671 q671 => ?_⟩
          have b671 := q671
          change (r671 = 0 ∨ r671 = 1) ∧ (r671 = 1 ↔ s667 170 3 = 3 ∧ s667 170 6 = (42)) at b671
          refine ⟨fun h709 => ?_, fun h709 => ?_⟩
          · have b671_ : r671 = 1 := by omega
            replace b671 := b671.2.mp b671_
            have e710 : s667 170 4 = st 170 4 := fs667 170 4 rfl rfl
            have e711 : s667 170 5 = st 170 5 := fs667 170 5 rfl rfl
            have e712 : s667 170 2 = st 170 2 := fs667 170 2 rfl rfl
            have e713 : s667 170 34 = st 170 34 := fs667 170 34 rfl rfl
            have g715 := g_frame hG (st 170 42 - 1 : Int).toNat
            have e714 : s667 192 (s667 170 42 - 1 : Int).toNat = st 192 (st 170 42 - 1 : Int).toNat := (fs667 192 (s667 170 42 - 1 : Int).toNat rfl rfl).trans (by rw [e676] <;> rfl)
            have e716 : s667 170 46 = st 170 46 := fs667 170 46 rfl rfl
            exact goesOn_m87 hX r668 (s667 192 ((s667 170 42) - 1 : Int).toNat) ((s667 170 42) - 1) s667 ⟨gs667, (fr_tr (fr_rf _ _) fs667 rfl), (show s667 170 4 ≤ s667 170 5 ∧ s667 170 5 ≤ s667 170 2 ∧ (s667 170 3 = 0 ∧ s667 170 4 = s667 170 2 ∨ 1 ≤ s667 170 3 ∧ s667 170 4 < s667 170 5) from by omega), (show s667 170 4 = st 170 4 ∧ s667 170 5 = st 170 5 ∧ s667 170 3 = st 170 3 from by omega), (show PF s667 1 (st 170 4) from (PF_fr rfl fs667 pf)), (show ∀ i : Nat, (i : Int) < 1600 * st 170 35 + st 170 34 ∨ 1600 * st 170 35 + 1600 ≤ (i : Int) → s667 188 i = st 188 i from (fun i hi => (fs667 188 i rfl rfl).trans ((fun _ _ => rfl) i hi))), (show st 170 34 ≤ s667 170 34 from by omega), (show ((s667 170 42) - 1) = s667 170 42 - 1 from by omega), (show (s667 192 ((s667 170 42) - 1 : Int).toNat) = s667 192 (s667 170 42 - 1 : Int).toNat from by omega), (show s667 170 46 = 1 from by omega), (show s667 170 8 = 0 from by omega), (show s667 170 3 = 3 ∧ (s667 170 6 = 43 ∨ s667 170 6 = 45 ∨ s667 170 6 = 42 ∨ s667 170 6 = 47 ∨ s667 170 6 = 37) from by omega)⟩
          · clear b671
            refine ⟨rfl, fun r672 q672 => ?_⟩
            have b672 := q672
            change (r672 = 0 ∨ r672 = 1) ∧ (r672 = 1 ↔ s667 170 3 = 3 ∧ s667 170 6 = (47)) at b672
            refine ⟨fun h717 => ?_, fun h717 => ?_⟩
            · have b672_ : r672 = 1 := by omega
              replace b672 := b672.2.mp b672_
              have e718 : s667 170 4 = st 170 4 := fs667 170 4 rfl rfl
              have e719 : s667 170 5 = st 170 5 := fs667 170 5 rfl rfl
              have e720 : s667 170 2 = st 170 2 := fs667 170 2 rfl rfl
              have e721 : s667 170 34 = st 170 34 := fs667 170 34 rfl rfl
              have g723 := g_frame hG (st 170 42 - 1 : Int).toNat
              have e722 : s667 192 (s667 170 42 - 1 : Int).toNat = st 192 (st 170 42 - 1 : Int).toNat := (fs667 192 (s667 170 42 - 1 : Int).toNat rfl rfl).trans (by rw [e676] <;> rfl)
              have e724 : s667 170 46 = st 170 46 := fs667 170 46 rfl rfl
              exact goesOn_m87 hX r668 (s667 192 ((s667 170 42) - 1 : Int).toNat) ((s667 170 42) - 1) s667 ⟨gs667, (fr_tr (fr_rf _ _) fs667 rfl), (show s667 170 4 ≤ s667 170 5 ∧ s667 170 5 ≤ s667 170 2 ∧ (s667 170 3 = 0 ∧ s667 170 4 = s667 170 2 ∨ 1 ≤ s667 170 3 ∧ s667 170 4 < s667 170 5) from by omega), (show s667 170 4 = st 170 4 ∧ s667 170 5 = st 170 5 ∧ s667 170 3 = st 170 3 from by omega), (show PF s667 1 (st 170 4) from (PF_fr rfl fs667 pf)), (show ∀ i : Nat, (i : Int) < 1600 * st 170 35 + st 170 34 ∨ 1600 * st 170 35 + 1600 ≤ (i : Int) → s667 188 i = st 188 i from (fun i hi => (fs667 188 i rfl rfl).trans ((fun _ _ => rfl) i hi))), (show st 170 34 ≤ s667 170 34 from by omega), (show ((s667 170 42) - 1) = s667 170 42 - 1 from by omega), (show (s667 192 ((s667 170 42) - 1 : Int).toNat) = s667 192 (s667 170 42 - 1 : Int).toNat from by omega), (show s667 170 46 = 1 from by omega), (show s667 170 8 = 0 from by omega), (show s667 170 3 = 3 ∧ (s667 170 6 = 43 ∨ s667 170 6 = 45 ∨ s667 170 6 = 42 ∨ s667 170 6 = 47 ∨ s667 170 6 = 37) from by omega)⟩
            · clear b672
              refine ⟨rfl, fun r673 q673 => ?_⟩
              have b673 := q673
              change (r673 = 0 ∨ r673 = 1) ∧ (r673 = 1 ↔ s667 170 3 = 3 ∧ s667 170 6 = (37)) at b673
              refine ⟨fun h725 => ?_, fun h725 => ?_⟩
              · clear b673
                have e726 : s667 170 4 = st 170 4 := fs667 170 4 rfl rfl
                have e727 : s667 170 5 = st 170 5 := fs667 170 5 rfl rfl
                have e728 : s667 170 2 = st 170 2 := fs667 170 2 rfl rfl
                have e729 : s667 170 34 = st 170 34 := fs667 170 34 rfl rfl
                have g731 := g_frame hG (st 170 42 - 1 : Int).toNat
                have e730 : s667 192 (s667 170 42 - 1 : Int).toNat = st 192 (st 170 42 - 1 : Int).toNat := (fs667 192 (s667 170 42 - 1 : Int).toNat rfl rfl).trans (by rw [e676] <;> rfl)
                have e732 : s667 170 46 = st 170 46 := fs667 170 46 rfl rfl
                exact goesOn_m188 hX r668 (s667 192 ((s667 170 42) - 1 : Int).toNat) ((s667 170 42) - 1) s667 ⟨gs667, (fr_tr (fr_rf _ _) fs667 rfl), (show s667 170 4 ≤ s667 170 5 ∧ s667 170 5 ≤ s667 170 2 ∧ (s667 170 3 = 0 ∧ s667 170 4 = s667 170 2 ∨ 1 ≤ s667 170 3 ∧ s667 170 4 < s667 170 5) from by omega), (show s667 170 4 = st 170 4 ∧ s667 170 5 = st 170 5 ∧ s667 170 3 = st 170 3 from by omega), (show PF s667 1 (st 170 4) from (PF_fr rfl fs667 pf)), (show ∀ i : Nat, (i : Int) < 1600 * st 170 35 + st 170 34 ∨ 1600 * st 170 35 + 1600 ≤ (i : Int) → s667 188 i = st 188 i from (fun i hi => (fs667 188 i rfl rfl).trans ((fun _ _ => rfl) i hi))), (show st 170 34 ≤ s667 170 34 from by omega), (show ((s667 170 42) - 1) = s667 170 42 - 1 from by omega), (show (s667 192 ((s667 170 42) - 1 : Int).toNat) = s667 192 (s667 170 42 - 1 : Int).toNat from by omega), (show s667 170 46 = 1 from by omega), (show s667 170 8 = 0 from by omega)⟩
              · have b673_ : r673 = 1 := by omega
                replace b673 := b673.2.mp b673_
                have e733 : s667 170 4 = st 170 4 := fs667 170 4 rfl rfl
                have e734 : s667 170 5 = st 170 5 := fs667 170 5 rfl rfl
                have e735 : s667 170 2 = st 170 2 := fs667 170 2 rfl rfl
                have e736 : s667 170 34 = st 170 34 := fs667 170 34 rfl rfl
                have g738 := g_frame hG (st 170 42 - 1 : Int).toNat
                have e737 : s667 192 (s667 170 42 - 1 : Int).toNat = st 192 (st 170 42 - 1 : Int).toNat := (fs667 192 (s667 170 42 - 1 : Int).toNat rfl rfl).trans (by rw [e676] <;> rfl)
                have e739 : s667 170 46 = st 170 46 := fs667 170 46 rfl rfl
                exact goesOn_m87 hX r668 (s667 192 ((s667 170 42) - 1 : Int).toNat) ((s667 170 42) - 1) s667 ⟨gs667, (fr_tr (fr_rf _ _) fs667 rfl), (show s667 170 4 ≤ s667 170 5 ∧ s667 170 5 ≤ s667 170 2 ∧ (s667 170 3 = 0 ∧ s667 170 4 = s667 170 2 ∨ 1 ≤ s667 170 3 ∧ s667 170 4 < s667 170 5) from by omega), (show s667 170 4 = st 170 4 ∧ s667 170 5 = st 170 5 ∧ s667 170 3 = st 170 3 from by omega), (show PF s667 1 (st 170 4) from (PF_fr rfl fs667 pf)), (show ∀ i : Nat, (i : Int) < 1600 * st 170 35 + st 170 34 ∨ 1600 * st 170 35 + 1600 ≤ (i : Int) → s667 188 i = st 188 i from (fun i hi => (fs667 188 i rfl rfl).trans ((fun _ _ => rfl) i hi))), (show st 170 34 ≤ s667 170 34 from by omega), (show ((s667 170 42) - 1) = s667 170 42 - 1 from by omega), (show (s667 192 ((s667 170 42) - 1 : Int).toNat) = s667 192 (s667 170 42 - 1 : Int).toNat from by omega), (show s667 170 46 = 1 from by omega), (show s667 170 8 = 0 from by omega), (show s667 170 3 = 3 ∧ (s667 170 6 = 43 ∨ s667 170 6 = 45 ∨ s667 170 6 = 42 ∨ s667 170 6 = 47 ∨ s667 170 6 = 37) from by omega)⟩
  · refine ⟨by omega, ?_⟩
    have e740 : s667 170 4 = st 170 4 := fs667 170 4 rfl rfl
    have e741 : s667 170 5 = st 170 5 := fs667 170 5 rfl rfl
    have e742 : s667 170 2 = st 170 2 := fs667 170 2 rfl rfl
    have e743 : s667 170 3 = st 170 3 := fs667 170 3 rfl rfl
    have e744 : s667 170 46 = st 170 46 := fs667 170 46 rfl rfl
    have e745 : s667 170 34 = st 170 34 := fs667 170 34 rfl rfl
    exact hQ _ _ ⟨gs667, (fr_tr (fr_rf _ _) fs667 rfl), (show s667 170 4 ≤ s667 170 5 ∧ s667 170 5 ≤ s667 170 2 ∧ (s667 170 3 = 0 ∧ s667 170 4 = s667 170 2 ∨ 1 ≤ s667 170 3 ∧ s667 170 4 < s667 170 5) ∧ st 170 4 ≤ s667 170 4 from by omega), (show ((0 : Int) = 0 ∨ (0 : Int) = 1) from by omega), (show s667 170 8 = 0 → ((0 : Int) = 1 → st 170 5 ≤ s667 170 4 ∧ 1 ≤ st 170 3 ∧ PF s667 (s667 170 46) (s667 170 4)) ∧ ((0 : Int) = 0 → PF s667 1 (s667 170 4)) from fun z => absurd z (by omega)), (show ∀ i : Nat, (i : Int) < 1600 * st 170 35 + st 170 34 ∨ 1600 * st 170 35 + 1600 ≤ (i : Int) → s667 188 i = st 188 i from (fun i hi => (fs667 188 i rfl rfl).trans ((fun _ _ => rfl) i hi))), (show st 170 34 ≤ s667 170 34 from by omega)⟩
theorem k_goesOn_m (hTb : aTb zSh rx_tb cl) {D : Nat} (hD : 3 ≤ D) : ∀ as st (Q Q' : zQ), (∀ r st', Q r st' → Q' r st') → k_goesOn 197 as st Q → cl D 197 as st Q' := by
  intro as st Q Q' hQ h
  unfold k_goesOn at h
  split at h
  · obtain ⟨rfl, h⟩ := h
    exact c_goesOn hTb hD (ct_goesOn_m hQ h)
  · exact h.elim
end R6b
